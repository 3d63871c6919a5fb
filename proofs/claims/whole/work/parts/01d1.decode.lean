theorem dX4_shiftRow_41 : decode cX4_shiftRow 41 = .ok (.iinc 3 1, 3) := by decide +kernel
theorem dX4_shiftRow_44 : decode cX4_shiftRow 44 = .ok (.iinc 4 1, 3) := by decide +kernel
theorem dX4_shiftRow_47 : decode cX4_shiftRow 47 = .ok (.goto (-42), 3) := by decide +kernel
theorem dX4_shiftRow_50 : decode cX4_shiftRow 50 = .ok (.iload_n 3, 1) := by decide +kernel
theorem dX4_shiftRow_51 : decode cX4_shiftRow 51 = .ok (.ireturn, 1) := by decide +kernel
theorem dX4_canStretchColumn_0 : decode cX4_canStretchColumn 0 = .ok (.iconst 0, 1) := by decide +kernel
theorem dX4_canStretchColumn_1 : decode cX4_canStretchColumn 1 = .ok (.istore 4, 2) := by decide +kernel
theorem dX4_canStretchColumn_3 : decode cX4_canStretchColumn 3 = .ok (.iload 4, 2) := by decide +kernel
theorem dX4_canStretchColumn_5 : decode cX4_canStretchColumn 5 = .ok (.bipush 10, 2) := by decide +kernel
theorem dX4_canStretchColumn_7 : decode cX4_canStretchColumn 7 = .ok (.if_icmp .ge 43, 3) := by decide +kernel
theorem dX4_canStretchColumn_10 : decode cX4_canStretchColumn 10 = .ok (.aload_n 0, 1) := by decide +kernel
theorem dX4_canStretchColumn_11 : decode cX4_canStretchColumn 11 = .ok (.iload 4, 2) := by decide +kernel
theorem dX4_canStretchColumn_13 : decode cX4_canStretchColumn 13 = .ok (.iload_n 1, 1) := by decide +kernel
theorem dX4_canStretchColumn_14 : decode cX4_canStretchColumn 14 = .ok (.invokevirtual 42, 3) := by decide +kernel
theorem dX4_canStretchColumn_17 : decode cX4_canStretchColumn 17 = .ok (.istore 5, 2) := by decide +kernel
theorem dX4_canStretchColumn_19 : decode cX4_canStretchColumn 19 = .ok (.iload 5, 2) := by decide +kernel
theorem dX4_canStretchColumn_21 : decode cX4_canStretchColumn 21 = .ok (.sipush 20000, 3) := by decide +kernel
theorem dX4_canStretchColumn_24 : decode cX4_canStretchColumn 24 = .ok (.if_icmp .eq 20, 3) := by decide +kernel
theorem dX4_canStretchColumn_27 : decode cX4_canStretchColumn 27 = .ok (.iload 5, 2) := by decide +kernel
theorem dX4_canStretchColumn_29 : decode cX4_canStretchColumn 29 = .ok (.i2d, 1) := by decide +kernel
theorem dX4_canStretchColumn_30 : decode cX4_canStretchColumn 30 = .ok (.dload_n 2, 1) := by decide +kernel
theorem dX4_canStretchColumn_31 : decode cX4_canStretchColumn 31 = .ok (.dmul, 1) := by decide +kernel
theorem dX4_canStretchColumn_32 : decode cX4_canStretchColumn 32 = .ok (.invokestatic 53, 3) := by decide +kernel
theorem dX4_canStretchColumn_35 : decode cX4_canStretchColumn 35 = .ok (.i2l, 1) := by decide +kernel
theorem dX4_canStretchColumn_36 : decode cX4_canStretchColumn 36 = .ok (.invokestatic 49, 3) := by decide +kernel
theorem dX4_canStretchColumn_39 : decode cX4_canStretchColumn 39 = .ok (.ifCond .ne 5, 3) := by decide +kernel
theorem dX4_canStretchColumn_42 : decode cX4_canStretchColumn 42 = .ok (.iconst 0, 1) := by decide +kernel
theorem dX4_canStretchColumn_43 : decode cX4_canStretchColumn 43 = .ok (.ireturn, 1) := by decide +kernel
theorem dX4_canStretchColumn_44 : decode cX4_canStretchColumn 44 = .ok (.iinc 4 1, 3) := by decide +kernel
theorem dX4_canStretchColumn_47 : decode cX4_canStretchColumn 47 = .ok (.goto (-44), 3) := by decide +kernel
theorem dX4_canStretchColumn_50 : decode cX4_canStretchColumn 50 = .ok (.iconst 1, 1) := by decide +kernel
theorem dX4_canStretchColumn_51 : decode cX4_canStretchColumn 51 = .ok (.ireturn, 1) := by decide +kernel
theorem dX4_stretchColumn_0 : decode cX4_stretchColumn 0 = .ok (.iconst 0, 1) := by decide +kernel
theorem dX4_stretchColumn_1 : decode cX4_stretchColumn 1 = .ok (.istore 4, 2) := by decide +kernel
theorem dX4_stretchColumn_3 : decode cX4_stretchColumn 3 = .ok (.iconst 0, 1) := by decide +kernel
theorem dX4_stretchColumn_4 : decode cX4_stretchColumn 4 = .ok (.istore 5, 2) := by decide +kernel
theorem dX4_stretchColumn_6 : decode cX4_stretchColumn 6 = .ok (.iload 5, 2) := by decide +kernel
theorem dX4_stretchColumn_8 : decode cX4_stretchColumn 8 = .ok (.bipush 10, 2) := by decide +kernel
theorem dX4_stretchColumn_10 : decode cX4_stretchColumn 10 = .ok (.if_icmp .ge 62, 3) := by decide +kernel
theorem dX4_stretchColumn_13 : decode cX4_stretchColumn 13 = .ok (.aload_n 0, 1) := by decide +kernel
theorem dX4_stretchColumn_14 : decode cX4_stretchColumn 14 = .ok (.iload 5, 2) := by decide +kernel
theorem dX4_stretchColumn_16 : decode cX4_stretchColumn 16 = .ok (.iload_n 1, 1) := by decide +kernel
theorem dX4_stretchColumn_17 : decode cX4_stretchColumn 17 = .ok (.invokevirtual 42, 3) := by decide +kernel
theorem dX4_stretchColumn_20 : decode cX4_stretchColumn 20 = .ok (.istore 6, 2) := by decide +kernel
theorem dX4_stretchColumn_22 : decode cX4_stretchColumn 22 = .ok (.iload 6, 2) := by decide +kernel
theorem dX4_stretchColumn_24 : decode cX4_stretchColumn 24 = .ok (.sipush 20000, 3) := by decide +kernel
theorem dX4_stretchColumn_27 : decode cX4_stretchColumn 27 = .ok (.if_icmp .eq 39, 3) := by decide +kernel
theorem dX4_stretchColumn_30 : decode cX4_stretchColumn 30 = .ok (.iload 6, 2) := by decide +kernel
theorem dX4_stretchColumn_32 : decode cX4_stretchColumn 32 = .ok (.i2d, 1) := by decide +kernel
theorem dX4_stretchColumn_33 : decode cX4_stretchColumn 33 = .ok (.dload_n 2, 1) := by decide +kernel
theorem dX4_stretchColumn_34 : decode cX4_stretchColumn 34 = .ok (.dmul, 1) := by decide +kernel
theorem dX4_stretchColumn_35 : decode cX4_stretchColumn 35 = .ok (.invokestatic 53, 3) := by decide +kernel
theorem dX4_stretchColumn_38 : decode cX4_stretchColumn 38 = .ok (.iload 6, 2) := by decide +kernel
theorem dX4_stretchColumn_40 : decode cX4_stretchColumn 40 = .ok (.if_icmp .eq 26, 3) := by decide +kernel
theorem dX4_stretchColumn_43 : decode cX4_stretchColumn 43 = .ok (.aload_n 0, 1) := by decide +kernel
theorem dX4_stretchColumn_44 : decode cX4_stretchColumn 44 = .ok (.getfield 9, 3) := by decide +kernel
theorem dX4_stretchColumn_47 : decode cX4_stretchColumn 47 = .ok (.iload 5, 2) := by decide +kernel
theorem dX4_stretchColumn_49 : decode cX4_stretchColumn 49 = .ok (.bipush 10, 2) := by decide +kernel
theorem dX4_stretchColumn_51 : decode cX4_stretchColumn 51 = .ok (.imul, 1) := by decide +kernel
theorem dX4_stretchColumn_52 : decode cX4_stretchColumn 52 = .ok (.iload_n 1, 1) := by decide +kernel
theorem dX4_stretchColumn_53 : decode cX4_stretchColumn 53 = .ok (.iadd, 1) := by decide +kernel
theorem dX4_stretchColumn_54 : decode cX4_stretchColumn 54 = .ok (.iload 6, 2) := by decide +kernel
theorem dX4_stretchColumn_56 : decode cX4_stretchColumn 56 = .ok (.i2d, 1) := by decide +kernel
theorem dX4_stretchColumn_57 : decode cX4_stretchColumn 57 = .ok (.dload_n 2, 1) := by decide +kernel
theorem dX4_stretchColumn_58 : decode cX4_stretchColumn 58 = .ok (.dmul, 1) := by decide +kernel
theorem dX4_stretchColumn_59 : decode cX4_stretchColumn 59 = .ok (.invokestatic 53, 3) := by decide +kernel
theorem dX4_stretchColumn_62 : decode cX4_stretchColumn 62 = .ok (.iastore, 1) := by decide +kernel
theorem dX4_stretchColumn_63 : decode cX4_stretchColumn 63 = .ok (.iinc 4 1, 3) := by decide +kernel
theorem dX4_stretchColumn_66 : decode cX4_stretchColumn 66 = .ok (.iinc 5 1, 3) := by decide +kernel
theorem dX4_stretchColumn_69 : decode cX4_stretchColumn 69 = .ok (.goto (-63), 3) := by decide +kernel
theorem dX4_stretchColumn_72 : decode cX4_stretchColumn 72 = .ok (.iload 4, 2) := by decide +kernel
theorem dX4_stretchColumn_74 : decode cX4_stretchColumn 74 = .ok (.ireturn, 1) := by decide +kernel
theorem dX4_nearest_0 : decode cX4_nearest 0 = .ok (.dload_n 0, 1) := by decide +kernel
theorem dX4_nearest_1 : decode cX4_nearest 1 = .ok (.dconst 0, 1) := by decide +kernel
theorem dX4_nearest_2 : decode cX4_nearest 2 = .ok (.dcmp .g, 1) := by decide +kernel
theorem dX4_nearest_3 : decode cX4_nearest 3 = .ok (.ifCond .ge 8, 3) := by decide +kernel
theorem dX4_nearest_6 : decode cX4_nearest 6 = .ok (.dload_n 0, 1) := by decide +kernel
theorem dX4_nearest_7 : decode cX4_nearest 7 = .ok (.dneg, 1) := by decide +kernel
theorem dX4_nearest_8 : decode cX4_nearest 8 = .ok (.goto 4, 3) := by decide +kernel
theorem dX4_nearest_11 : decode cX4_nearest 11 = .ok (.dload_n 0, 1) := by decide +kernel
theorem dX4_nearest_12 : decode cX4_nearest 12 = .ok (.dstore_n 2, 1) := by decide +kernel
theorem dX4_nearest_13 : decode cX4_nearest 13 = .ok (.dload_n 2, 1) := by decide +kernel
theorem dX4_nearest_14 : decode cX4_nearest 14 = .ok (.d2i, 1) := by decide +kernel
theorem dX4_nearest_15 : decode cX4_nearest 15 = .ok (.istore 4, 2) := by decide +kernel
theorem dX4_nearest_17 : decode cX4_nearest 17 = .ok (.dload_n 2, 1) := by decide +kernel
theorem dX4_nearest_18 : decode cX4_nearest 18 = .ok (.iload 4, 2) := by decide +kernel
theorem dX4_nearest_20 : decode cX4_nearest 20 = .ok (.i2d, 1) := by decide +kernel
theorem dX4_nearest_21 : decode cX4_nearest 21 = .ok (.dsub, 1) := by decide +kernel
theorem dX4_nearest_22 : decode cX4_nearest 22 = .ok (.dstore 5, 2) := by decide +kernel
theorem dX4_nearest_24 : decode cX4_nearest 24 = .ok (.dload 5, 2) := by decide +kernel
theorem dX4_nearest_26 : decode cX4_nearest 26 = .ok (.ldc2_w 57, 3) := by decide +kernel
theorem dX4_nearest_29 : decode cX4_nearest 29 = .ok (.dcmp .l, 1) := by decide +kernel
theorem dX4_nearest_30 : decode cX4_nearest 30 = .ok (.ifCond .gt 19, 3) := by decide +kernel
theorem dX4_nearest_33 : decode cX4_nearest 33 = .ok (.dload 5, 2) := by decide +kernel
theorem dX4_nearest_35 : decode cX4_nearest 35 = .ok (.ldc2_w 57, 3) := by decide +kernel
theorem dX4_nearest_38 : decode cX4_nearest 38 = .ok (.dcmp .l, 1) := by decide +kernel
theorem dX4_nearest_39 : decode cX4_nearest 39 = .ok (.ifCond .ne 13, 3) := by decide +kernel
theorem dX4_nearest_42 : decode cX4_nearest 42 = .ok (.iload 4, 2) := by decide +kernel
theorem dX4_nearest_44 : decode cX4_nearest 44 = .ok (.iconst 1, 1) := by decide +kernel
theorem dX4_nearest_45 : decode cX4_nearest 45 = .ok (.iand, 1) := by decide +kernel
theorem dX4_nearest_46 : decode cX4_nearest 46 = .ok (.ifCond .eq 6, 3) := by decide +kernel
theorem dX4_nearest_49 : decode cX4_nearest 49 = .ok (.iinc 4 1, 3) := by decide +kernel
theorem dX4_nearest_52 : decode cX4_nearest 52 = .ok (.dload_n 0, 1) := by decide +kernel
theorem dX4_nearest_53 : decode cX4_nearest 53 = .ok (.dconst 0, 1) := by decide +kernel
theorem dX4_nearest_54 : decode cX4_nearest 54 = .ok (.dcmp .g, 1) := by decide +kernel
theorem dX4_nearest_55 : decode cX4_nearest 55 = .ok (.ifCond .ge 9, 3) := by decide +kernel
theorem dX4_nearest_58 : decode cX4_nearest 58 = .ok (.iload 4, 2) := by decide +kernel
theorem dX4_nearest_60 : decode cX4_nearest 60 = .ok (.ineg, 1) := by decide +kernel
theorem dX4_nearest_61 : decode cX4_nearest 61 = .ok (.goto 5, 3) := by decide +kernel
theorem dX4_nearest_64 : decode cX4_nearest 64 = .ok (.iload 4, 2) := by decide +kernel
theorem dX4_nearest_66 : decode cX4_nearest 66 = .ok (.ireturn, 1) := by decide +kernel
theorem dX4_addTo_0 : decode cX4_addTo 0 = .ok (.lload_n 1, 1) := by decide +kernel
theorem dX4_addTo_1 : decode cX4_addTo 1 = .ok (.lstore_n 3, 1) := by decide +kernel
theorem dX4_addTo_2 : decode cX4_addTo 2 = .ok (.iconst 0, 1) := by decide +kernel
theorem dX4_addTo_3 : decode cX4_addTo 3 = .ok (.istore 5, 2) := by decide +kernel
theorem dX4_addTo_5 : decode cX4_addTo 5 = .ok (.iload 5, 2) := by decide +kernel
theorem dX4_addTo_7 : decode cX4_addTo 7 = .ok (.aload_n 0, 1) := by decide +kernel
theorem dX4_addTo_8 : decode cX4_addTo 8 = .ok (.getfield 25, 3) := by decide +kernel
theorem dX4_addTo_11 : decode cX4_addTo 11 = .ok (.if_icmp .ge 26, 3) := by decide +kernel
theorem dX4_addTo_14 : decode cX4_addTo 14 = .ok (.lload_n 3, 1) := by decide +kernel
theorem dX4_addTo_15 : decode cX4_addTo 15 = .ok (.ldc2_w 59, 3) := by decide +kernel
theorem dX4_addTo_18 : decode cX4_addTo 18 = .ok (.lmul, 1) := by decide +kernel
theorem dX4_addTo_19 : decode cX4_addTo 19 = .ok (.aload_n 0, 1) := by decide +kernel
theorem dX4_addTo_20 : decode cX4_addTo 20 = .ok (.getfield 21, 3) := by decide +kernel
theorem dX4_addTo_23 : decode cX4_addTo 23 = .ok (.iload 5, 2) := by decide +kernel
theorem dX4_addTo_25 : decode cX4_addTo 25 = .ok (.ishr, 1) := by decide +kernel
theorem dX4_addTo_26 : decode cX4_addTo 26 = .ok (.iconst 1, 1) := by decide +kernel
theorem dX4_addTo_27 : decode cX4_addTo 27 = .ok (.iand, 1) := by decide +kernel
theorem dX4_addTo_28 : decode cX4_addTo 28 = .ok (.i2l, 1) := by decide +kernel
theorem dX4_addTo_29 : decode cX4_addTo 29 = .ok (.ladd, 1) := by decide +kernel
theorem dX4_addTo_30 : decode cX4_addTo 30 = .ok (.lstore_n 3, 1) := by decide +kernel
theorem dX4_addTo_31 : decode cX4_addTo 31 = .ok (.iinc 5 1, 3) := by decide +kernel
theorem dX4_addTo_34 : decode cX4_addTo 34 = .ok (.goto (-29), 3) := by decide +kernel
theorem dX4_addTo_37 : decode cX4_addTo 37 = .ok (.iconst 0, 1) := by decide +kernel
theorem dX4_addTo_38 : decode cX4_addTo 38 = .ok (.istore 5, 2) := by decide +kernel
theorem dX4_addTo_40 : decode cX4_addTo 40 = .ok (.iload 5, 2) := by decide +kernel
theorem dX4_addTo_42 : decode cX4_addTo 42 = .ok (.aload_n 0, 1) := by decide +kernel
theorem dX4_addTo_43 : decode cX4_addTo 43 = .ok (.getfield 35, 3) := by decide +kernel
theorem dX4_addTo_46 : decode cX4_addTo 46 = .ok (.if_icmp .ge 26, 3) := by decide +kernel
theorem dX4_addTo_49 : decode cX4_addTo 49 = .ok (.lload_n 3, 1) := by decide +kernel
theorem dX4_addTo_50 : decode cX4_addTo 50 = .ok (.ldc2_w 59, 3) := by decide +kernel
theorem dX4_addTo_53 : decode cX4_addTo 53 = .ok (.lmul, 1) := by decide +kernel
theorem dX4_addTo_54 : decode cX4_addTo 54 = .ok (.aload_n 0, 1) := by decide +kernel
theorem dX4_addTo_55 : decode cX4_addTo 55 = .ok (.getfield 32, 3) := by decide +kernel
theorem dX4_addTo_58 : decode cX4_addTo 58 = .ok (.iload 5, 2) := by decide +kernel
theorem dX4_addTo_60 : decode cX4_addTo 60 = .ok (.ishr, 1) := by decide +kernel
theorem dX4_addTo_61 : decode cX4_addTo 61 = .ok (.iconst 1, 1) := by decide +kernel
theorem dX4_addTo_62 : decode cX4_addTo 62 = .ok (.iand, 1) := by decide +kernel
theorem dX4_addTo_63 : decode cX4_addTo 63 = .ok (.i2l, 1) := by decide +kernel
theorem dX4_addTo_64 : decode cX4_addTo 64 = .ok (.ladd, 1) := by decide +kernel
theorem dX4_addTo_65 : decode cX4_addTo 65 = .ok (.lstore_n 3, 1) := by decide +kernel
theorem dX4_addTo_66 : decode cX4_addTo 66 = .ok (.iinc 5 1, 3) := by decide +kernel
theorem dX4_addTo_69 : decode cX4_addTo 69 = .ok (.goto (-29), 3) := by decide +kernel
theorem dX4_addTo_72 : decode cX4_addTo 72 = .ok (.iconst 0, 1) := by decide +kernel
theorem dX4_addTo_73 : decode cX4_addTo 73 = .ok (.istore 5, 2) := by decide +kernel
theorem dX4_addTo_75 : decode cX4_addTo 75 = .ok (.iload 5, 2) := by decide +kernel
theorem dX4_addTo_77 : decode cX4_addTo 77 = .ok (.aload_n 0, 1) := by decide +kernel
theorem dX4_addTo_78 : decode cX4_addTo 78 = .ok (.getfield 25, 3) := by decide +kernel
theorem dX4_addTo_81 : decode cX4_addTo 81 = .ok (.if_icmp .ge 43, 3) := by decide +kernel
theorem dX4_addTo_84 : decode cX4_addTo 84 = .ok (.iconst 0, 1) := by decide +kernel
theorem dX4_addTo_85 : decode cX4_addTo 85 = .ok (.istore 6, 2) := by decide +kernel
theorem dX4_addTo_87 : decode cX4_addTo 87 = .ok (.iload 6, 2) := by decide +kernel
theorem dX4_addTo_89 : decode cX4_addTo 89 = .ok (.aload_n 0, 1) := by decide +kernel
theorem dX4_addTo_90 : decode cX4_addTo 90 = .ok (.getfield 35, 3) := by decide +kernel
theorem dX4_addTo_93 : decode cX4_addTo 93 = .ok (.if_icmp .ge 25, 3) := by decide +kernel
theorem dX4_addTo_96 : decode cX4_addTo 96 = .ok (.lload_n 3, 1) := by decide +kernel
theorem dX4_addTo_97 : decode cX4_addTo 97 = .ok (.ldc2_w 59, 3) := by decide +kernel
theorem dX4_addTo_100 : decode cX4_addTo 100 = .ok (.lmul, 1) := by decide +kernel
theorem dX4_addTo_101 : decode cX4_addTo 101 = .ok (.aload_n 0, 1) := by decide +kernel
theorem dX4_addTo_102 : decode cX4_addTo 102 = .ok (.iload 5, 2) := by decide +kernel
theorem dX4_addTo_104 : decode cX4_addTo 104 = .ok (.iload 6, 2) := by decide +kernel
theorem dX4_addTo_106 : decode cX4_addTo 106 = .ok (.invokevirtual 42, 3) := by decide +kernel
theorem dX4_addTo_109 : decode cX4_addTo 109 = .ok (.i2l, 1) := by decide +kernel
theorem dX4_addTo_110 : decode cX4_addTo 110 = .ok (.ladd, 1) := by decide +kernel
theorem dX4_addTo_111 : decode cX4_addTo 111 = .ok (.lstore_n 3, 1) := by decide +kernel
theorem dX4_addTo_112 : decode cX4_addTo 112 = .ok (.iinc 6 1, 3) := by decide +kernel
theorem dX4_addTo_115 : decode cX4_addTo 115 = .ok (.goto (-28), 3) := by decide +kernel
theorem dX4_addTo_118 : decode cX4_addTo 118 = .ok (.iinc 5 1, 3) := by decide +kernel
theorem dX4_addTo_121 : decode cX4_addTo 121 = .ok (.goto (-46), 3) := by decide +kernel
theorem dX4_addTo_124 : decode cX4_addTo 124 = .ok (.lload_n 3, 1) := by decide +kernel
theorem dX4_addTo_125 : decode cX4_addTo 125 = .ok (.lreturn, 1) := by decide +kernel
theorem dX5_init_0 : decode cX5_init 0 = .ok (.aload_n 0, 1) := by decide +kernel
theorem dX5_init_1 : decode cX5_init 1 = .ok (.invokespecial 3, 3) := by decide +kernel
theorem dX5_init_4 : decode cX5_init 4 = .ok (.aload_n 0, 1) := by decide +kernel
theorem dX5_init_5 : decode cX5_init 5 = .ok (.new 9, 3) := by decide +kernel
theorem dX5_init_8 : decode cX5_init 8 = .ok (.dup, 1) := by decide +kernel
theorem dX5_init_9 : decode cX5_init 9 = .ok (.invokespecial 11, 3) := by decide +kernel
theorem dX5_init_12 : decode cX5_init 12 = .ok (.putfield 12, 3) := by decide +kernel
theorem dX5_init_15 : decode cX5_init 15 = .ok (.aload_n 0, 1) := by decide +kernel
theorem dX5_init_16 : decode cX5_init 16 = .ok (.new 16, 3) := by decide +kernel
theorem dX5_init_19 : decode cX5_init 19 = .ok (.dup, 1) := by decide +kernel
theorem dX5_init_20 : decode cX5_init 20 = .ok (.invokespecial 18, 3) := by decide +kernel
theorem dX5_init_23 : decode cX5_init 23 = .ok (.putfield 19, 3) := by decide +kernel
theorem dX5_init_26 : decode cX5_init 26 = .ok (.aload_n 0, 1) := by decide +kernel
theorem dX5_init_27 : decode cX5_init 27 = .ok (.new 23, 3) := by decide +kernel
theorem dX5_init_30 : decode cX5_init 30 = .ok (.dup, 1) := by decide +kernel
theorem dX5_init_31 : decode cX5_init 31 = .ok (.invokespecial 25, 3) := by decide +kernel
theorem dX5_init_34 : decode cX5_init 34 = .ok (.putfield 26, 3) := by decide +kernel
theorem dX5_init_37 : decode cX5_init 37 = .ok (.aload_n 0, 1) := by decide +kernel
theorem dX5_init_38 : decode cX5_init 38 = .ok (.new 30, 3) := by decide +kernel
theorem dX5_init_41 : decode cX5_init 41 = .ok (.dup, 1) := by decide +kernel
theorem dX5_init_42 : decode cX5_init 42 = .ok (.invokespecial 32, 3) := by decide +kernel
theorem dX5_init_45 : decode cX5_init 45 = .ok (.putfield 33, 3) := by decide +kernel
theorem dX5_init_48 : decode cX5_init 48 = .ok (.return_, 1) := by decide +kernel
theorem dX5_addRow_0 : decode cX5_addRow 0 = .ok (.aload_n 0, 1) := by decide +kernel
theorem dX5_addRow_1 : decode cX5_addRow 1 = .ok (.getfield 12, 3) := by decide +kernel
theorem dX5_addRow_4 : decode cX5_addRow 4 = .ok (.getfield 37, 3) := by decide +kernel
theorem dX5_addRow_7 : decode cX5_addRow 7 = .ok (.bipush 10, 2) := by decide +kernel
theorem dX5_addRow_9 : decode cX5_addRow 9 = .ok (.if_icmp .lt 13, 3) := by decide +kernel
theorem dX5_addRow_12 : decode cX5_addRow 12 = .ok (.new 41, 3) := by decide +kernel
theorem dX5_addRow_15 : decode cX5_addRow 15 = .ok (.dup, 1) := by decide +kernel
theorem dX5_addRow_16 : decode cX5_addRow 16 = .ok (.ldc 43, 2) := by decide +kernel
theorem dX5_addRow_18 : decode cX5_addRow 18 = .ok (.invokespecial 45, 3) := by decide +kernel
theorem dX5_addRow_21 : decode cX5_addRow 21 = .ok (.athrow, 1) := by decide +kernel
theorem dX5_addRow_22 : decode cX5_addRow 22 = .ok (.aload_n 0, 1) := by decide +kernel
theorem dX5_addRow_23 : decode cX5_addRow 23 = .ok (.iconst 0, 1) := by decide +kernel
theorem dX5_addRow_24 : decode cX5_addRow 24 = .ok (.putfield 48, 3) := by decide +kernel
theorem dX5_addRow_27 : decode cX5_addRow 27 = .ok (.aload_n 0, 1) := by decide +kernel
theorem dX5_addRow_28 : decode cX5_addRow 28 = .ok (.getfield 12, 3) := by decide +kernel
theorem dX5_addRow_31 : decode cX5_addRow 31 = .ok (.invokevirtual 52, 3) := by decide +kernel
theorem dX5_addRow_34 : decode cX5_addRow 34 = .ok (.ireturn, 1) := by decide +kernel
theorem dX5_addColumn_0 : decode cX5_addColumn 0 = .ok (.aload_n 0, 1) := by decide +kernel
theorem dX5_addColumn_1 : decode cX5_addColumn 1 = .ok (.getfield 12, 3) := by decide +kernel
theorem dX5_addColumn_4 : decode cX5_addColumn 4 = .ok (.getfield 56, 3) := by decide +kernel
theorem dX5_addColumn_7 : decode cX5_addColumn 7 = .ok (.bipush 10, 2) := by decide +kernel
theorem dX5_addColumn_9 : decode cX5_addColumn 9 = .ok (.if_icmp .lt 13, 3) := by decide +kernel
theorem dX5_addColumn_12 : decode cX5_addColumn 12 = .ok (.new 41, 3) := by decide +kernel
theorem dX5_addColumn_15 : decode cX5_addColumn 15 = .ok (.dup, 1) := by decide +kernel
theorem dX5_addColumn_16 : decode cX5_addColumn 16 = .ok (.ldc 59, 2) := by decide +kernel
theorem dX5_addColumn_18 : decode cX5_addColumn 18 = .ok (.invokespecial 45, 3) := by decide +kernel
theorem dX5_addColumn_21 : decode cX5_addColumn 21 = .ok (.athrow, 1) := by decide +kernel
theorem dX5_addColumn_22 : decode cX5_addColumn 22 = .ok (.aload_n 0, 1) := by decide +kernel
theorem dX5_addColumn_23 : decode cX5_addColumn 23 = .ok (.iconst 0, 1) := by decide +kernel
theorem dX5_addColumn_24 : decode cX5_addColumn 24 = .ok (.putfield 48, 3) := by decide +kernel
theorem dX5_addColumn_27 : decode cX5_addColumn 27 = .ok (.aload_n 0, 1) := by decide +kernel
theorem dX5_addColumn_28 : decode cX5_addColumn 28 = .ok (.getfield 12, 3) := by decide +kernel
theorem dX5_addColumn_31 : decode cX5_addColumn 31 = .ok (.invokevirtual 61, 3) := by decide +kernel
theorem dX5_addColumn_34 : decode cX5_addColumn 34 = .ok (.ireturn, 1) := by decide +kernel
theorem dX5_setRow_0 : decode cX5_setRow 0 = .ok (.aload_n 0, 1) := by decide +kernel
theorem dX5_setRow_1 : decode cX5_setRow 1 = .ok (.iload_n 1, 1) := by decide +kernel
theorem dX5_setRow_2 : decode cX5_setRow 2 = .ok (.invokevirtual 64, 3) := by decide +kernel
theorem dX5_setRow_5 : decode cX5_setRow 5 = .ok (.aload_n 0, 1) := by decide +kernel
theorem dX5_setRow_6 : decode cX5_setRow 6 = .ok (.getfield 12, 3) := by decide +kernel
theorem dX5_setRow_9 : decode cX5_setRow 9 = .ok (.getfield 68, 3) := by decide +kernel
theorem dX5_setRow_12 : decode cX5_setRow 12 = .ok (.iload_n 1, 1) := by decide +kernel
theorem dX5_setRow_13 : decode cX5_setRow 13 = .ok (.invokestatic 71, 3) := by decide +kernel
theorem dX5_setRow_16 : decode cX5_setRow 16 = .ok (.istore_n 3, 1) := by decide +kernel
theorem dX5_setRow_17 : decode cX5_setRow 17 = .ok (.aload_n 0, 1) := by decide +kernel
theorem dX5_setRow_18 : decode cX5_setRow 18 = .ok (.getfield 12, 3) := by decide +kernel
theorem dX5_setRow_21 : decode cX5_setRow 21 = .ok (.aload_n 0, 1) := by decide +kernel
theorem dX5_setRow_22 : decode cX5_setRow 22 = .ok (.getfield 12, 3) := by decide +kernel
theorem dX5_setRow_25 : decode cX5_setRow 25 = .ok (.getfield 68, 3) := by decide +kernel
theorem dX5_setRow_28 : decode cX5_setRow 28 = .ok (.iload_n 1, 1) := by decide +kernel
theorem dX5_setRow_29 : decode cX5_setRow 29 = .ok (.iload_n 2, 1) := by decide +kernel
theorem dX5_setRow_30 : decode cX5_setRow 30 = .ok (.invokestatic 75, 3) := by decide +kernel
theorem dX5_setRow_33 : decode cX5_setRow 33 = .ok (.putfield 68, 3) := by decide +kernel
theorem dX5_setRow_36 : decode cX5_setRow 36 = .ok (.aload_n 0, 1) := by decide +kernel
theorem dX5_setRow_37 : decode cX5_setRow 37 = .ok (.iconst 0, 1) := by decide +kernel
theorem dX5_setRow_38 : decode cX5_setRow 38 = .ok (.putfield 48, 3) := by decide +kernel
theorem dX5_setRow_41 : decode cX5_setRow 41 = .ok (.iload_n 3, 1) := by decide +kernel
theorem dX5_setRow_42 : decode cX5_setRow 42 = .ok (.ireturn, 1) := by decide +kernel
theorem dX5_setColumn_0 : decode cX5_setColumn 0 = .ok (.aload_n 0, 1) := by decide +kernel
theorem dX5_setColumn_1 : decode cX5_setColumn 1 = .ok (.iload_n 1, 1) := by decide +kernel
theorem dX5_setColumn_2 : decode cX5_setColumn 2 = .ok (.invokevirtual 79, 3) := by decide +kernel
theorem dX5_setColumn_5 : decode cX5_setColumn 5 = .ok (.aload_n 0, 1) := by decide +kernel
theorem dX5_setColumn_6 : decode cX5_setColumn 6 = .ok (.getfield 12, 3) := by decide +kernel
theorem dX5_setColumn_9 : decode cX5_setColumn 9 = .ok (.getfield 82, 3) := by decide +kernel
theorem dX5_setColumn_12 : decode cX5_setColumn 12 = .ok (.iload_n 1, 1) := by decide +kernel
theorem dX5_setColumn_13 : decode cX5_setColumn 13 = .ok (.invokestatic 71, 3) := by decide +kernel
theorem dX5_setColumn_16 : decode cX5_setColumn 16 = .ok (.istore_n 3, 1) := by decide +kernel
theorem dX5_setColumn_17 : decode cX5_setColumn 17 = .ok (.aload_n 0, 1) := by decide +kernel
theorem dX5_setColumn_18 : decode cX5_setColumn 18 = .ok (.getfield 12, 3) := by decide +kernel
theorem dX5_setColumn_21 : decode cX5_setColumn 21 = .ok (.aload_n 0, 1) := by decide +kernel
theorem dX5_setColumn_22 : decode cX5_setColumn 22 = .ok (.getfield 12, 3) := by decide +kernel
theorem dX5_setColumn_25 : decode cX5_setColumn 25 = .ok (.getfield 82, 3) := by decide +kernel
theorem dX5_setColumn_28 : decode cX5_setColumn 28 = .ok (.iload_n 1, 1) := by decide +kernel
theorem dX5_setColumn_29 : decode cX5_setColumn 29 = .ok (.iload_n 2, 1) := by decide +kernel
theorem dX5_setColumn_30 : decode cX5_setColumn 30 = .ok (.invokestatic 75, 3) := by decide +kernel
theorem dX5_setColumn_33 : decode cX5_setColumn 33 = .ok (.putfield 82, 3) := by decide +kernel
theorem dX5_setColumn_36 : decode cX5_setColumn 36 = .ok (.aload_n 0, 1) := by decide +kernel
theorem dX5_setColumn_37 : decode cX5_setColumn 37 = .ok (.iconst 0, 1) := by decide +kernel
theorem dX5_setColumn_38 : decode cX5_setColumn 38 = .ok (.putfield 48, 3) := by decide +kernel
theorem dX5_setColumn_41 : decode cX5_setColumn 41 = .ok (.iload_n 3, 1) := by decide +kernel
theorem dX5_setColumn_42 : decode cX5_setColumn 42 = .ok (.ireturn, 1) := by decide +kernel
theorem dX5_setCost_0 : decode cX5_setCost 0 = .ok (.aload_n 0, 1) := by decide +kernel
theorem dX5_setCost_1 : decode cX5_setCost 1 = .ok (.iload_n 1, 1) := by decide +kernel
theorem dX5_setCost_2 : decode cX5_setCost 2 = .ok (.iload_n 2, 1) := by decide +kernel
theorem dX5_setCost_3 : decode cX5_setCost 3 = .ok (.invokevirtual 85, 3) := by decide +kernel
theorem dX5_setCost_6 : decode cX5_setCost 6 = .ok (.iload_n 3, 1) := by decide +kernel
theorem dX5_setCost_7 : decode cX5_setCost 7 = .ok (.i2l, 1) := by decide +kernel
theorem dX5_setCost_8 : decode cX5_setCost 8 = .ok (.invokestatic 89, 3) := by decide +kernel
theorem dX5_setCost_11 : decode cX5_setCost 11 = .ok (.ifCond .ne 13, 3) := by decide +kernel
theorem dX5_setCost_14 : decode cX5_setCost 14 = .ok (.new 93, 3) := by decide +kernel
theorem dX5_setCost_17 : decode cX5_setCost 17 = .ok (.dup, 1) := by decide +kernel
theorem dX5_setCost_18 : decode cX5_setCost 18 = .ok (.ldc 95, 2) := by decide +kernel
theorem dX5_setCost_20 : decode cX5_setCost 20 = .ok (.invokespecial 97, 3) := by decide +kernel
theorem dX5_setCost_23 : decode cX5_setCost 23 = .ok (.athrow, 1) := by decide +kernel
theorem dX5_setCost_24 : decode cX5_setCost 24 = .ok (.aload_n 0, 1) := by decide +kernel
theorem dX5_setCost_25 : decode cX5_setCost 25 = .ok (.iload_n 1, 1) := by decide +kernel
theorem dX5_setCost_26 : decode cX5_setCost 26 = .ok (.iload_n 2, 1) := by decide +kernel
theorem dX5_setCost_27 : decode cX5_setCost 27 = .ok (.iload_n 3, 1) := by decide +kernel
theorem dX5_setCost_28 : decode cX5_setCost 28 = .ok (.invokevirtual 98, 3) := by decide +kernel
theorem dX5_setCost_31 : decode cX5_setCost 31 = .ok (.ireturn, 1) := by decide +kernel
theorem dX5_forbid_0 : decode cX5_forbid 0 = .ok (.aload_n 0, 1) := by decide +kernel
theorem dX5_forbid_1 : decode cX5_forbid 1 = .ok (.iload_n 1, 1) := by decide +kernel
theorem dX5_forbid_2 : decode cX5_forbid 2 = .ok (.iload_n 2, 1) := by decide +kernel
theorem dX5_forbid_3 : decode cX5_forbid 3 = .ok (.invokevirtual 85, 3) := by decide +kernel
theorem dX5_forbid_6 : decode cX5_forbid 6 = .ok (.aload_n 0, 1) := by decide +kernel
theorem dX5_forbid_7 : decode cX5_forbid 7 = .ok (.iload_n 1, 1) := by decide +kernel
theorem dX5_forbid_8 : decode cX5_forbid 8 = .ok (.iload_n 2, 1) := by decide +kernel
theorem dX5_forbid_9 : decode cX5_forbid 9 = .ok (.sipush 20000, 3) := by decide +kernel
theorem dX5_forbid_12 : decode cX5_forbid 12 = .ok (.invokevirtual 98, 3) := by decide +kernel
theorem dX5_forbid_15 : decode cX5_forbid 15 = .ok (.ireturn, 1) := by decide +kernel
theorem dX5_addToRow_0 : decode cX5_addToRow 0 = .ok (.aload_n 0, 1) := by decide +kernel
theorem dX5_addToRow_1 : decode cX5_addToRow 1 = .ok (.iload_n 1, 1) := by decide +kernel
theorem dX5_addToRow_2 : decode cX5_addToRow 2 = .ok (.invokevirtual 64, 3) := by decide +kernel
theorem dX5_addToRow_5 : decode cX5_addToRow 5 = .ok (.aload_n 0, 1) := by decide +kernel
theorem dX5_addToRow_6 : decode cX5_addToRow 6 = .ok (.getfield 12, 3) := by decide +kernel
theorem dX5_addToRow_9 : decode cX5_addToRow 9 = .ok (.iload_n 1, 1) := by decide +kernel
theorem dX5_addToRow_10 : decode cX5_addToRow 10 = .ok (.iload_n 2, 1) := by decide +kernel
theorem dX5_addToRow_11 : decode cX5_addToRow 11 = .ok (.invokevirtual 102, 3) := by decide +kernel
theorem dX5_addToRow_14 : decode cX5_addToRow 14 = .ok (.ifCond .ne 13, 3) := by decide +kernel
theorem dX5_addToRow_17 : decode cX5_addToRow 17 = .ok (.new 105, 3) := by decide +kernel
theorem dX5_addToRow_20 : decode cX5_addToRow 20 = .ok (.dup, 1) := by decide +kernel
theorem dX5_addToRow_21 : decode cX5_addToRow 21 = .ok (.ldc 107, 2) := by decide +kernel
theorem dX5_addToRow_23 : decode cX5_addToRow 23 = .ok (.invokespecial 109, 3) := by decide +kernel
theorem dX5_addToRow_26 : decode cX5_addToRow 26 = .ok (.athrow, 1) := by decide +kernel
theorem dX5_addToRow_27 : decode cX5_addToRow 27 = .ok (.aload_n 0, 1) := by decide +kernel
theorem dX5_addToRow_28 : decode cX5_addToRow 28 = .ok (.iconst 0, 1) := by decide +kernel
theorem dX5_addToRow_29 : decode cX5_addToRow 29 = .ok (.putfield 48, 3) := by decide +kernel
theorem dX5_addToRow_32 : decode cX5_addToRow 32 = .ok (.aload_n 0, 1) := by decide +kernel
theorem dX5_addToRow_33 : decode cX5_addToRow 33 = .ok (.getfield 12, 3) := by decide +kernel
theorem dX5_addToRow_36 : decode cX5_addToRow 36 = .ok (.iload_n 1, 1) := by decide +kernel
theorem dX5_addToRow_37 : decode cX5_addToRow 37 = .ok (.iload_n 2, 1) := by decide +kernel
theorem dX5_addToRow_38 : decode cX5_addToRow 38 = .ok (.invokevirtual 110, 3) := by decide +kernel
theorem dX5_addToRow_41 : decode cX5_addToRow 41 = .ok (.ireturn, 1) := by decide +kernel
theorem dX5_scaleColumn_0 : decode cX5_scaleColumn 0 = .ok (.aload_n 0, 1) := by decide +kernel
theorem dX5_scaleColumn_1 : decode cX5_scaleColumn 1 = .ok (.iload_n 1, 1) := by decide +kernel
theorem dX5_scaleColumn_2 : decode cX5_scaleColumn 2 = .ok (.invokevirtual 79, 3) := by decide +kernel
theorem dX5_scaleColumn_5 : decode cX5_scaleColumn 5 = .ok (.dload_n 2, 1) := by decide +kernel
theorem dX5_scaleColumn_6 : decode cX5_scaleColumn 6 = .ok (.ldc2_w 114, 3) := by decide +kernel
theorem dX5_scaleColumn_9 : decode cX5_scaleColumn 9 = .ok (.dcmp .l, 1) := by decide +kernel
theorem dX5_scaleColumn_10 : decode cX5_scaleColumn 10 = .ok (.ifCond .lt 11, 3) := by decide +kernel
theorem dX5_scaleColumn_13 : decode cX5_scaleColumn 13 = .ok (.dload_n 2, 1) := by decide +kernel
theorem dX5_scaleColumn_14 : decode cX5_scaleColumn 14 = .ok (.ldc2_w 116, 3) := by decide +kernel
theorem dX5_scaleColumn_17 : decode cX5_scaleColumn 17 = .ok (.dcmp .g, 1) := by decide +kernel
theorem dX5_scaleColumn_18 : decode cX5_scaleColumn 18 = .ok (.ifCond .le 13, 3) := by decide +kernel
theorem dX5_scaleColumn_21 : decode cX5_scaleColumn 21 = .ok (.new 93, 3) := by decide +kernel
theorem dX5_scaleColumn_24 : decode cX5_scaleColumn 24 = .ok (.dup, 1) := by decide +kernel
theorem dX5_scaleColumn_25 : decode cX5_scaleColumn 25 = .ok (.ldc 118, 2) := by decide +kernel
theorem dX5_scaleColumn_27 : decode cX5_scaleColumn 27 = .ok (.invokespecial 97, 3) := by decide +kernel
theorem dX5_scaleColumn_30 : decode cX5_scaleColumn 30 = .ok (.athrow, 1) := by decide +kernel
theorem dX5_scaleColumn_31 : decode cX5_scaleColumn 31 = .ok (.aload_n 0, 1) := by decide +kernel
theorem dX5_scaleColumn_32 : decode cX5_scaleColumn 32 = .ok (.getfield 12, 3) := by decide +kernel
theorem dX5_scaleColumn_35 : decode cX5_scaleColumn 35 = .ok (.iload_n 1, 1) := by decide +kernel
theorem dX5_scaleColumn_36 : decode cX5_scaleColumn 36 = .ok (.dload_n 2, 1) := by decide +kernel
theorem dX5_scaleColumn_37 : decode cX5_scaleColumn 37 = .ok (.invokevirtual 120, 3) := by decide +kernel
theorem dX5_scaleColumn_40 : decode cX5_scaleColumn 40 = .ok (.ifCond .ne 13, 3) := by decide +kernel
theorem dX5_scaleColumn_43 : decode cX5_scaleColumn 43 = .ok (.new 105, 3) := by decide +kernel
theorem dX5_scaleColumn_46 : decode cX5_scaleColumn 46 = .ok (.dup, 1) := by decide +kernel
theorem dX5_scaleColumn_47 : decode cX5_scaleColumn 47 = .ok (.ldc 107, 2) := by decide +kernel
theorem dX5_scaleColumn_49 : decode cX5_scaleColumn 49 = .ok (.invokespecial 109, 3) := by decide +kernel
theorem dX5_scaleColumn_52 : decode cX5_scaleColumn 52 = .ok (.athrow, 1) := by decide +kernel
theorem dX5_scaleColumn_53 : decode cX5_scaleColumn 53 = .ok (.aload_n 0, 1) := by decide +kernel
theorem dX5_scaleColumn_54 : decode cX5_scaleColumn 54 = .ok (.iconst 0, 1) := by decide +kernel
theorem dX5_scaleColumn_55 : decode cX5_scaleColumn 55 = .ok (.putfield 48, 3) := by decide +kernel
theorem dX5_scaleColumn_58 : decode cX5_scaleColumn 58 = .ok (.aload_n 0, 1) := by decide +kernel
theorem dX5_scaleColumn_59 : decode cX5_scaleColumn 59 = .ok (.getfield 12, 3) := by decide +kernel
theorem dX5_scaleColumn_62 : decode cX5_scaleColumn 62 = .ok (.iload_n 1, 1) := by decide +kernel
theorem dX5_scaleColumn_63 : decode cX5_scaleColumn 63 = .ok (.dload_n 2, 1) := by decide +kernel
theorem dX5_scaleColumn_64 : decode cX5_scaleColumn 64 = .ok (.invokevirtual 124, 3) := by decide +kernel
theorem dX5_scaleColumn_67 : decode cX5_scaleColumn 67 = .ok (.ireturn, 1) := by decide +kernel
theorem dX5_rowCount_0 : decode cX5_rowCount 0 = .ok (.aload_n 0, 1) := by decide +kernel
theorem dX5_rowCount_1 : decode cX5_rowCount 1 = .ok (.getfield 12, 3) := by decide +kernel
theorem dX5_rowCount_4 : decode cX5_rowCount 4 = .ok (.getfield 37, 3) := by decide +kernel
theorem dX5_rowCount_7 : decode cX5_rowCount 7 = .ok (.ireturn, 1) := by decide +kernel
theorem dX5_columnCount_0 : decode cX5_columnCount 0 = .ok (.aload_n 0, 1) := by decide +kernel
theorem dX5_columnCount_1 : decode cX5_columnCount 1 = .ok (.getfield 12, 3) := by decide +kernel
theorem dX5_columnCount_4 : decode cX5_columnCount 4 = .ok (.getfield 56, 3) := by decide +kernel
theorem dX5_columnCount_7 : decode cX5_columnCount 7 = .ok (.ireturn, 1) := by decide +kernel
theorem dX5_isAllowed_0 : decode cX5_isAllowed 0 = .ok (.aload_n 0, 1) := by decide +kernel
theorem dX5_isAllowed_1 : decode cX5_isAllowed 1 = .ok (.iload_n 1, 1) := by decide +kernel
theorem dX5_isAllowed_2 : decode cX5_isAllowed 2 = .ok (.iload_n 2, 1) := by decide +kernel
theorem dX5_isAllowed_3 : decode cX5_isAllowed 3 = .ok (.invokevirtual 85, 3) := by decide +kernel
theorem dX5_isAllowed_6 : decode cX5_isAllowed 6 = .ok (.aload_n 0, 1) := by decide +kernel
theorem dX5_isAllowed_7 : decode cX5_isAllowed 7 = .ok (.getfield 12, 3) := by decide +kernel
theorem dX5_isAllowed_10 : decode cX5_isAllowed 10 = .ok (.iload_n 1, 1) := by decide +kernel
theorem dX5_isAllowed_11 : decode cX5_isAllowed 11 = .ok (.iload_n 2, 1) := by decide +kernel
theorem dX5_isAllowed_12 : decode cX5_isAllowed 12 = .ok (.invokevirtual 128, 3) := by decide +kernel
theorem dX5_isAllowed_15 : decode cX5_isAllowed 15 = .ok (.sipush 20000, 3) := by decide +kernel
theorem dX5_isAllowed_18 : decode cX5_isAllowed 18 = .ok (.if_icmp .eq 7, 3) := by decide +kernel
theorem dX5_isAllowed_21 : decode cX5_isAllowed 21 = .ok (.iconst 1, 1) := by decide +kernel
theorem dX5_isAllowed_22 : decode cX5_isAllowed 22 = .ok (.goto 4, 3) := by decide +kernel
theorem dX5_isAllowed_25 : decode cX5_isAllowed 25 = .ok (.iconst 0, 1) := by decide +kernel
theorem dX5_isAllowed_26 : decode cX5_isAllowed 26 = .ok (.ireturn, 1) := by decide +kernel
theorem dX5_cost_0 : decode cX5_cost 0 = .ok (.aload_n 0, 1) := by decide +kernel
theorem dX5_cost_1 : decode cX5_cost 1 = .ok (.iload_n 1, 1) := by decide +kernel
theorem dX5_cost_2 : decode cX5_cost 2 = .ok (.iload_n 2, 1) := by decide +kernel
theorem dX5_cost_3 : decode cX5_cost 3 = .ok (.invokevirtual 85, 3) := by decide +kernel
theorem dX5_cost_6 : decode cX5_cost 6 = .ok (.aload_n 0, 1) := by decide +kernel
theorem dX5_cost_7 : decode cX5_cost 7 = .ok (.getfield 12, 3) := by decide +kernel
theorem dX5_cost_10 : decode cX5_cost 10 = .ok (.iload_n 1, 1) := by decide +kernel
theorem dX5_cost_11 : decode cX5_cost 11 = .ok (.iload_n 2, 1) := by decide +kernel
theorem dX5_cost_12 : decode cX5_cost 12 = .ok (.invokevirtual 128, 3) := by decide +kernel
theorem dX5_cost_15 : decode cX5_cost 15 = .ok (.istore_n 3, 1) := by decide +kernel
theorem dX5_cost_16 : decode cX5_cost 16 = .ok (.iload_n 3, 1) := by decide +kernel
theorem dX5_cost_17 : decode cX5_cost 17 = .ok (.sipush 20000, 3) := by decide +kernel
theorem dX5_cost_20 : decode cX5_cost 20 = .ok (.if_icmp .ne 13, 3) := by decide +kernel
theorem dX5_cost_23 : decode cX5_cost 23 = .ok (.new 131, 3) := by decide +kernel
theorem dX5_cost_26 : decode cX5_cost 26 = .ok (.dup, 1) := by decide +kernel
theorem dX5_cost_27 : decode cX5_cost 27 = .ok (.ldc 133, 2) := by decide +kernel
theorem dX5_cost_29 : decode cX5_cost 29 = .ok (.invokespecial 135, 3) := by decide +kernel
theorem dX5_cost_32 : decode cX5_cost 32 = .ok (.athrow, 1) := by decide +kernel
theorem dX5_cost_33 : decode cX5_cost 33 = .ok (.iload_n 3, 1) := by decide +kernel
theorem dX5_cost_34 : decode cX5_cost 34 = .ok (.ireturn, 1) := by decide +kernel
theorem dX5_size_0 : decode cX5_size 0 = .ok (.aload_n 0, 1) := by decide +kernel
theorem dX5_size_1 : decode cX5_size 1 = .ok (.invokevirtual 136, 3) := by decide +kernel
theorem dX5_size_4 : decode cX5_size 4 = .ok (.getfield 140, 3) := by decide +kernel
theorem dX5_size_7 : decode cX5_size 7 = .ok (.invokestatic 143, 3) := by decide +kernel
theorem dX5_size_10 : decode cX5_size 10 = .ok (.ireturn, 1) := by decide +kernel
theorem dX5_total_0 : decode cX5_total 0 = .ok (.aload_n 0, 1) := by decide +kernel
theorem dX5_total_1 : decode cX5_total 1 = .ok (.invokevirtual 136, 3) := by decide +kernel
theorem dX5_total_4 : decode cX5_total 4 = .ok (.getfield 140, 3) := by decide +kernel
theorem dX5_total_7 : decode cX5_total 7 = .ok (.invokestatic 147, 3) := by decide +kernel
theorem dX5_total_10 : decode cX5_total 10 = .ok (.ireturn, 1) := by decide +kernel
theorem dX5_meanCost_0 : decode cX5_meanCost 0 = .ok (.aload_n 0, 1) := by decide +kernel
theorem dX5_meanCost_1 : decode cX5_meanCost 1 = .ok (.invokevirtual 136, 3) := by decide +kernel
theorem dX5_meanCost_4 : decode cX5_meanCost 4 = .ok (.getfield 140, 3) := by decide +kernel
theorem dX5_meanCost_7 : decode cX5_meanCost 7 = .ok (.istore_n 1, 1) := by decide +kernel
theorem dX5_meanCost_8 : decode cX5_meanCost 8 = .ok (.iload_n 1, 1) := by decide +kernel
theorem dX5_meanCost_9 : decode cX5_meanCost 9 = .ok (.invokestatic 143, 3) := by decide +kernel
theorem dX5_meanCost_12 : decode cX5_meanCost 12 = .ok (.istore_n 2, 1) := by decide +kernel
theorem dX5_meanCost_13 : decode cX5_meanCost 13 = .ok (.iload_n 2, 1) := by decide +kernel
theorem dX5_meanCost_14 : decode cX5_meanCost 14 = .ok (.ifCond .ne 5, 3) := by decide +kernel
theorem dX5_meanCost_17 : decode cX5_meanCost 17 = .ok (.dconst 0, 1) := by decide +kernel
theorem dX5_meanCost_18 : decode cX5_meanCost 18 = .ok (.dreturn, 1) := by decide +kernel
theorem dX5_meanCost_19 : decode cX5_meanCost 19 = .ok (.iload_n 1, 1) := by decide +kernel
theorem dX5_meanCost_20 : decode cX5_meanCost 20 = .ok (.invokestatic 147, 3) := by decide +kernel
theorem dX5_meanCost_23 : decode cX5_meanCost 23 = .ok (.i2d, 1) := by decide +kernel
theorem dX5_meanCost_24 : decode cX5_meanCost 24 = .ok (.iload_n 2, 1) := by decide +kernel
theorem dX5_meanCost_25 : decode cX5_meanCost 25 = .ok (.i2d, 1) := by decide +kernel
theorem dX5_meanCost_26 : decode cX5_meanCost 26 = .ok (.ddiv, 1) := by decide +kernel
theorem dX5_meanCost_27 : decode cX5_meanCost 27 = .ok (.dreturn, 1) := by decide +kernel
theorem dX5_columnOf_0 : decode cX5_columnOf 0 = .ok (.aload_n 0, 1) := by decide +kernel
theorem dX5_columnOf_1 : decode cX5_columnOf 1 = .ok (.iload_n 1, 1) := by decide +kernel
theorem dX5_columnOf_2 : decode cX5_columnOf 2 = .ok (.invokevirtual 64, 3) := by decide +kernel
theorem dX5_columnOf_5 : decode cX5_columnOf 5 = .ok (.aload_n 0, 1) := by decide +kernel
theorem dX5_columnOf_6 : decode cX5_columnOf 6 = .ok (.invokevirtual 136, 3) := by decide +kernel
theorem dX5_columnOf_9 : decode cX5_columnOf 9 = .ok (.getfield 150, 3) := by decide +kernel
theorem dX5_columnOf_12 : decode cX5_columnOf 12 = .ok (.iload_n 1, 1) := by decide +kernel
theorem dX5_columnOf_13 : decode cX5_columnOf 13 = .ok (.iaload, 1) := by decide +kernel
theorem dX5_columnOf_14 : decode cX5_columnOf 14 = .ok (.ireturn, 1) := by decide +kernel
theorem dX5_rowOf_0 : decode cX5_rowOf 0 = .ok (.aload_n 0, 1) := by decide +kernel
theorem dX5_rowOf_1 : decode cX5_rowOf 1 = .ok (.iload_n 1, 1) := by decide +kernel
theorem dX5_rowOf_2 : decode cX5_rowOf 2 = .ok (.invokevirtual 79, 3) := by decide +kernel
theorem dX5_rowOf_5 : decode cX5_rowOf 5 = .ok (.aload_n 0, 1) := by decide +kernel
theorem dX5_rowOf_6 : decode cX5_rowOf 6 = .ok (.invokevirtual 136, 3) := by decide +kernel
theorem dX5_rowOf_9 : decode cX5_rowOf 9 = .ok (.getfield 150, 3) := by decide +kernel
theorem dX5_rowOf_12 : decode cX5_rowOf 12 = .ok (.astore_n 2, 1) := by decide +kernel
theorem dX5_rowOf_13 : decode cX5_rowOf 13 = .ok (.iconst 0, 1) := by decide +kernel
theorem dX5_rowOf_14 : decode cX5_rowOf 14 = .ok (.istore_n 3, 1) := by decide +kernel
theorem dX5_rowOf_15 : decode cX5_rowOf 15 = .ok (.iload_n 3, 1) := by decide +kernel
theorem dX5_rowOf_16 : decode cX5_rowOf 16 = .ok (.bipush 10, 2) := by decide +kernel
theorem dX5_rowOf_18 : decode cX5_rowOf 18 = .ok (.if_icmp .ge 18, 3) := by decide +kernel
theorem dX5_rowOf_21 : decode cX5_rowOf 21 = .ok (.aload_n 2, 1) := by decide +kernel
theorem dX5_rowOf_22 : decode cX5_rowOf 22 = .ok (.iload_n 3, 1) := by decide +kernel
theorem dX5_rowOf_23 : decode cX5_rowOf 23 = .ok (.iaload, 1) := by decide +kernel
theorem dX5_rowOf_24 : decode cX5_rowOf 24 = .ok (.iload_n 1, 1) := by decide +kernel
theorem dX5_rowOf_25 : decode cX5_rowOf 25 = .ok (.if_icmp .ne 5, 3) := by decide +kernel
theorem dX5_rowOf_28 : decode cX5_rowOf 28 = .ok (.iload_n 3, 1) := by decide +kernel
theorem dX5_rowOf_29 : decode cX5_rowOf 29 = .ok (.ireturn, 1) := by decide +kernel
theorem dX5_rowOf_30 : decode cX5_rowOf 30 = .ok (.iinc 3 1, 3) := by decide +kernel
theorem dX5_rowOf_33 : decode cX5_rowOf 33 = .ok (.goto (-18), 3) := by decide +kernel
theorem dX5_rowOf_36 : decode cX5_rowOf 36 = .ok (.iconst (-1), 1) := by decide +kernel
theorem dX5_rowOf_37 : decode cX5_rowOf 37 = .ok (.ireturn, 1) := by decide +kernel
theorem dX5_optimalCount_0 : decode cX5_optimalCount 0 = .ok (.aload_n 0, 1) := by decide +kernel
theorem dX5_optimalCount_1 : decode cX5_optimalCount 1 = .ok (.invokevirtual 136, 3) := by decide +kernel
theorem dX5_optimalCount_4 : decode cX5_optimalCount 4 = .ok (.invokevirtual 154, 3) := by decide +kernel
theorem dX5_optimalCount_7 : decode cX5_optimalCount 7 = .ok (.ireturn, 1) := by decide +kernel
theorem dX5_isPossible_0 : decode cX5_isPossible 0 = .ok (.aload_n 0, 1) := by decide +kernel
theorem dX5_isPossible_1 : decode cX5_isPossible 1 = .ok (.iload_n 1, 1) := by decide +kernel
theorem dX5_isPossible_2 : decode cX5_isPossible 2 = .ok (.iload_n 2, 1) := by decide +kernel
theorem dX5_isPossible_3 : decode cX5_isPossible 3 = .ok (.invokevirtual 85, 3) := by decide +kernel
theorem dX5_isPossible_6 : decode cX5_isPossible 6 = .ok (.aload_n 0, 1) := by decide +kernel
theorem dX5_isPossible_7 : decode cX5_isPossible 7 = .ok (.getfield 12, 3) := by decide +kernel
theorem dX5_isPossible_10 : decode cX5_isPossible 10 = .ok (.iload_n 1, 1) := by decide +kernel
theorem dX5_isPossible_11 : decode cX5_isPossible 11 = .ok (.iload_n 2, 1) := by decide +kernel
theorem dX5_isPossible_12 : decode cX5_isPossible 12 = .ok (.invokevirtual 157, 3) := by decide +kernel
theorem dX5_isPossible_15 : decode cX5_isPossible 15 = .ok (.ifCond .eq 19, 3) := by decide +kernel
theorem dX5_isPossible_18 : decode cX5_isPossible 18 = .ok (.aload_n 0, 1) := by decide +kernel
theorem dX5_isPossible_19 : decode cX5_isPossible 19 = .ok (.invokevirtual 136, 3) := by decide +kernel
theorem dX5_isPossible_22 : decode cX5_isPossible 22 = .ok (.iload_n 1, 1) := by decide +kernel
theorem dX5_isPossible_23 : decode cX5_isPossible 23 = .ok (.iload_n 2, 1) := by decide +kernel
theorem dX5_isPossible_24 : decode cX5_isPossible 24 = .ok (.invokevirtual 160, 3) := by decide +kernel
theorem dX5_isPossible_27 : decode cX5_isPossible 27 = .ok (.ifCond .ne 7, 3) := by decide +kernel
theorem dX5_isPossible_30 : decode cX5_isPossible 30 = .ok (.iconst 1, 1) := by decide +kernel
theorem dX5_isPossible_31 : decode cX5_isPossible 31 = .ok (.goto 4, 3) := by decide +kernel
theorem dX5_isPossible_34 : decode cX5_isPossible 34 = .ok (.iconst 0, 1) := by decide +kernel
theorem dX5_isPossible_35 : decode cX5_isPossible 35 = .ok (.ireturn, 1) := by decide +kernel
theorem dX5_isCertain_0 : decode cX5_isCertain 0 = .ok (.aload_n 0, 1) := by decide +kernel
theorem dX5_isCertain_1 : decode cX5_isCertain 1 = .ok (.iload_n 1, 1) := by decide +kernel
theorem dX5_isCertain_2 : decode cX5_isCertain 2 = .ok (.iload_n 2, 1) := by decide +kernel
theorem dX5_isCertain_3 : decode cX5_isCertain 3 = .ok (.invokevirtual 85, 3) := by decide +kernel
theorem dX5_isCertain_6 : decode cX5_isCertain 6 = .ok (.aload_n 0, 1) := by decide +kernel
theorem dX5_isCertain_7 : decode cX5_isCertain 7 = .ok (.invokevirtual 136, 3) := by decide +kernel
theorem dX5_isCertain_10 : decode cX5_isCertain 10 = .ok (.iload_n 1, 1) := by decide +kernel
theorem dX5_isCertain_11 : decode cX5_isCertain 11 = .ok (.iload_n 2, 1) := by decide +kernel
theorem dX5_isCertain_12 : decode cX5_isCertain 12 = .ok (.invokevirtual 163, 3) := by decide +kernel
theorem dX5_isCertain_15 : decode cX5_isCertain 15 = .ok (.ifCond .eq 7, 3) := by decide +kernel
theorem dX5_isCertain_18 : decode cX5_isCertain 18 = .ok (.iconst 1, 1) := by decide +kernel
theorem dX5_isCertain_19 : decode cX5_isCertain 19 = .ok (.goto 4, 3) := by decide +kernel
theorem dX5_isCertain_22 : decode cX5_isCertain 22 = .ok (.iconst 0, 1) := by decide +kernel
theorem dX5_isCertain_23 : decode cX5_isCertain 23 = .ok (.ireturn, 1) := by decide +kernel
theorem dX5_regret_0 : decode cX5_regret 0 = .ok (.aload_n 0, 1) := by decide +kernel
theorem dX5_regret_1 : decode cX5_regret 1 = .ok (.iload_n 1, 1) := by decide +kernel
theorem dX5_regret_2 : decode cX5_regret 2 = .ok (.iload_n 2, 1) := by decide +kernel
theorem dX5_regret_3 : decode cX5_regret 3 = .ok (.invokevirtual 166, 3) := by decide +kernel
theorem dX5_regret_6 : decode cX5_regret 6 = .ok (.aload_n 0, 1) := by decide +kernel
theorem dX5_regret_7 : decode cX5_regret 7 = .ok (.invokevirtual 136, 3) := by decide +kernel
theorem dX5_regret_10 : decode cX5_regret 10 = .ok (.iload_n 1, 1) := by decide +kernel
theorem dX5_regret_11 : decode cX5_regret 11 = .ok (.iload_n 2, 1) := by decide +kernel
theorem dX5_regret_12 : decode cX5_regret 12 = .ok (.invokevirtual 160, 3) := by decide +kernel
theorem dX5_regret_15 : decode cX5_regret 15 = .ok (.ireturn, 1) := by decide +kernel
theorem dX5_loss_0 : decode cX5_loss 0 = .ok (.aload_n 0, 1) := by decide +kernel
theorem dX5_loss_1 : decode cX5_loss 1 = .ok (.iload_n 1, 1) := by decide +kernel
theorem dX5_loss_2 : decode cX5_loss 2 = .ok (.iload_n 2, 1) := by decide +kernel
theorem dX5_loss_3 : decode cX5_loss 3 = .ok (.invokevirtual 85, 3) := by decide +kernel
theorem dX5_loss_6 : decode cX5_loss 6 = .ok (.aload_n 0, 1) := by decide +kernel
theorem dX5_loss_7 : decode cX5_loss 7 = .ok (.invokevirtual 136, 3) := by decide +kernel
theorem dX5_loss_10 : decode cX5_loss 10 = .ok (.iload_n 1, 1) := by decide +kernel
theorem dX5_loss_11 : decode cX5_loss 11 = .ok (.iload_n 2, 1) := by decide +kernel
theorem dX5_loss_12 : decode cX5_loss 12 = .ok (.invokevirtual 163, 3) := by decide +kernel
theorem dX5_loss_15 : decode cX5_loss 15 = .ok (.ireturn, 1) := by decide +kernel
theorem dX5_greatestCost_0 : decode cX5_greatestCost 0 = .ok (.aload_n 0, 1) := by decide +kernel
theorem dX5_greatestCost_1 : decode cX5_greatestCost 1 = .ok (.iload_n 1, 1) := by decide +kernel
theorem dX5_greatestCost_2 : decode cX5_greatestCost 2 = .ok (.iload_n 2, 1) := by decide +kernel
theorem dX5_greatestCost_3 : decode cX5_greatestCost 3 = .ok (.invokevirtual 166, 3) := by decide +kernel
theorem dX5_greatestCost_6 : decode cX5_greatestCost 6 = .ok (.aload_n 0, 1) := by decide +kernel
theorem dX5_greatestCost_7 : decode cX5_greatestCost 7 = .ok (.invokevirtual 136, 3) := by decide +kernel
theorem dX5_greatestCost_10 : decode cX5_greatestCost 10 = .ok (.iload_n 1, 1) := by decide +kernel
theorem dX5_greatestCost_11 : decode cX5_greatestCost 11 = .ok (.iload_n 2, 1) := by decide +kernel
theorem dX5_greatestCost_12 : decode cX5_greatestCost 12 = .ok (.invokevirtual 160, 3) := by decide +kernel
theorem dX5_greatestCost_15 : decode cX5_greatestCost 15 = .ok (.istore_n 3, 1) := by decide +kernel
theorem dX5_greatestCost_16 : decode cX5_greatestCost 16 = .ok (.iload_n 3, 1) := by decide +kernel
theorem dX5_greatestCost_17 : decode cX5_greatestCost 17 = .ok (.iconst (-1), 1) := by decide +kernel
theorem dX5_greatestCost_18 : decode cX5_greatestCost 18 = .ok (.if_icmp .ne 7, 3) := by decide +kernel
theorem dX5_greatestCost_21 : decode cX5_greatestCost 21 = .ok (.sipush (-20000), 3) := by decide +kernel
theorem dX5_greatestCost_24 : decode cX5_greatestCost 24 = .ok (.ireturn, 1) := by decide +kernel
theorem dX5_greatestCost_25 : decode cX5_greatestCost 25 = .ok (.aload_n 0, 1) := by decide +kernel
theorem dX5_greatestCost_26 : decode cX5_greatestCost 26 = .ok (.invokevirtual 136, 3) := by decide +kernel
theorem dX5_greatestCost_29 : decode cX5_greatestCost 29 = .ok (.iload_n 1, 1) := by decide +kernel
theorem dX5_greatestCost_30 : decode cX5_greatestCost 30 = .ok (.iload_n 2, 1) := by decide +kernel
theorem dX5_greatestCost_31 : decode cX5_greatestCost 31 = .ok (.invokevirtual 163, 3) := by decide +kernel
theorem dX5_greatestCost_34 : decode cX5_greatestCost 34 = .ok (.istore 4, 2) := by decide +kernel
theorem dX5_greatestCost_36 : decode cX5_greatestCost 36 = .ok (.iload 4, 2) := by decide +kernel
theorem dX5_greatestCost_38 : decode cX5_greatestCost 38 = .ok (.iconst (-1), 1) := by decide +kernel
theorem dX5_greatestCost_39 : decode cX5_greatestCost 39 = .ok (.if_icmp .ne 7, 3) := by decide +kernel
theorem dX5_greatestCost_42 : decode cX5_greatestCost 42 = .ok (.sipush 10000, 3) := by decide +kernel
theorem dX5_greatestCost_45 : decode cX5_greatestCost 45 = .ok (.ireturn, 1) := by decide +kernel
theorem dX5_greatestCost_46 : decode cX5_greatestCost 46 = .ok (.aload_n 0, 1) := by decide +kernel
theorem dX5_greatestCost_47 : decode cX5_greatestCost 47 = .ok (.getfield 12, 3) := by decide +kernel
theorem dX5_greatestCost_50 : decode cX5_greatestCost 50 = .ok (.iload_n 1, 1) := by decide +kernel
theorem dX5_greatestCost_51 : decode cX5_greatestCost 51 = .ok (.iload_n 2, 1) := by decide +kernel
theorem dX5_greatestCost_52 : decode cX5_greatestCost 52 = .ok (.invokevirtual 128, 3) := by decide +kernel
theorem dX5_greatestCost_55 : decode cX5_greatestCost 55 = .ok (.iload 4, 2) := by decide +kernel
theorem dX5_greatestCost_57 : decode cX5_greatestCost 57 = .ok (.iadd, 1) := by decide +kernel
theorem dX5_greatestCost_58 : decode cX5_greatestCost 58 = .ok (.iload_n 3, 1) := by decide +kernel
theorem dX5_greatestCost_59 : decode cX5_greatestCost 59 = .ok (.isub, 1) := by decide +kernel
theorem dX5_greatestCost_60 : decode cX5_greatestCost 60 = .ok (.istore 5, 2) := by decide +kernel
theorem dX5_greatestCost_62 : decode cX5_greatestCost 62 = .ok (.iload 5, 2) := by decide +kernel
theorem dX5_greatestCost_64 : decode cX5_greatestCost 64 = .ok (.sipush (-10000), 3) := by decide +kernel
theorem dX5_greatestCost_67 : decode cX5_greatestCost 67 = .ok (.if_icmp .ge 9, 3) := by decide +kernel
theorem dX5_greatestCost_70 : decode cX5_greatestCost 70 = .ok (.sipush (-20000), 3) := by decide +kernel
theorem dX5_greatestCost_73 : decode cX5_greatestCost 73 = .ok (.goto 11, 3) := by decide +kernel
theorem dX5_greatestCost_76 : decode cX5_greatestCost 76 = .ok (.iload 5, 2) := by decide +kernel
theorem dX5_greatestCost_78 : decode cX5_greatestCost 78 = .ok (.sipush 10000, 3) := by decide +kernel
theorem dX5_greatestCost_81 : decode cX5_greatestCost 81 = .ok (.invokestatic 169, 3) := by decide +kernel
theorem dX5_greatestCost_84 : decode cX5_greatestCost 84 = .ok (.ireturn, 1) := by decide +kernel
theorem dX5_rank_0 : decode cX5_rank 0 = .ok (.iload_n 1, 1) := by decide +kernel
theorem dX5_rank_1 : decode cX5_rank 1 = .ok (.iconst 1, 1) := by decide +kernel
theorem dX5_rank_2 : decode cX5_rank 2 = .ok (.if_icmp .lt 9, 3) := by decide +kernel
theorem dX5_rank_5 : decode cX5_rank 5 = .ok (.iload_n 1, 1) := by decide +kernel
theorem dX5_rank_6 : decode cX5_rank 6 = .ok (.bipush 30, 2) := by decide +kernel
theorem dX5_rank_8 : decode cX5_rank 8 = .ok (.if_icmp .le 13, 3) := by decide +kernel
theorem dX5_rank_11 : decode cX5_rank 11 = .ok (.new 93, 3) := by decide +kernel
theorem dX5_rank_14 : decode cX5_rank 14 = .ok (.dup, 1) := by decide +kernel
theorem dX5_rank_15 : decode cX5_rank 15 = .ok (.ldc 174, 2) := by decide +kernel
theorem dX5_rank_17 : decode cX5_rank 17 = .ok (.invokespecial 97, 3) := by decide +kernel
theorem dX5_rank_20 : decode cX5_rank 20 = .ok (.athrow, 1) := by decide +kernel
theorem dX5_rank_21 : decode cX5_rank 21 = .ok (.aload_n 0, 1) := by decide +kernel
theorem dX5_rank_22 : decode cX5_rank 22 = .ok (.getfield 33, 3) := by decide +kernel
theorem dX5_rank_25 : decode cX5_rank 25 = .ok (.aload_n 0, 1) := by decide +kernel
theorem dX5_rank_26 : decode cX5_rank 26 = .ok (.invokevirtual 136, 3) := by decide +kernel
theorem dX5_rank_29 : decode cX5_rank 29 = .ok (.iload_n 1, 1) := by decide +kernel
theorem dX5_rank_30 : decode cX5_rank 30 = .ok (.invokevirtual 176, 3) := by decide +kernel
theorem dX5_rank_33 : decode cX5_rank 33 = .ok (.aload_n 0, 1) := by decide +kernel
theorem dX5_rank_34 : decode cX5_rank 34 = .ok (.getfield 33, 3) := by decide +kernel
theorem dX5_rank_37 : decode cX5_rank 37 = .ok (.getfield 180, 3) := by decide +kernel
theorem dX5_rank_40 : decode cX5_rank 40 = .ok (.getfield 184, 3) := by decide +kernel
theorem dX5_rank_43 : decode cX5_rank 43 = .ok (.ireturn, 1) := by decide +kernel
theorem dX5_rankedCost_0 : decode cX5_rankedCost 0 = .ok (.aload_n 0, 1) := by decide +kernel
theorem dX5_rankedCost_1 : decode cX5_rankedCost 1 = .ok (.iload_n 1, 1) := by decide +kernel
theorem dX5_rankedCost_2 : decode cX5_rankedCost 2 = .ok (.invokevirtual 189, 3) := by decide +kernel
theorem dX5_rankedCost_5 : decode cX5_rankedCost 5 = .ok (.aload_n 0, 1) := by decide +kernel
theorem dX5_rankedCost_6 : decode cX5_rankedCost 6 = .ok (.getfield 33, 3) := by decide +kernel
theorem dX5_rankedCost_9 : decode cX5_rankedCost 9 = .ok (.getfield 180, 3) := by decide +kernel
theorem dX5_rankedCost_12 : decode cX5_rankedCost 12 = .ok (.getfield 192, 3) := by decide +kernel
theorem dX5_rankedCost_15 : decode cX5_rankedCost 15 = .ok (.iload_n 1, 1) := by decide +kernel
theorem dX5_rankedCost_16 : decode cX5_rankedCost 16 = .ok (.iaload, 1) := by decide +kernel
theorem dX5_rankedCost_17 : decode cX5_rankedCost 17 = .ok (.invokestatic 147, 3) := by decide +kernel
theorem dX5_rankedCost_20 : decode cX5_rankedCost 20 = .ok (.ireturn, 1) := by decide +kernel
theorem dX5_rankedColumn_0 : decode cX5_rankedColumn 0 = .ok (.aload_n 0, 1) := by decide +kernel
theorem dX5_rankedColumn_1 : decode cX5_rankedColumn 1 = .ok (.iload_n 1, 1) := by decide +kernel
theorem dX5_rankedColumn_2 : decode cX5_rankedColumn 2 = .ok (.invokevirtual 189, 3) := by decide +kernel
theorem dX5_rankedColumn_5 : decode cX5_rankedColumn 5 = .ok (.aload_n 0, 1) := by decide +kernel
theorem dX5_rankedColumn_6 : decode cX5_rankedColumn 6 = .ok (.iload_n 2, 1) := by decide +kernel
theorem dX5_rankedColumn_7 : decode cX5_rankedColumn 7 = .ok (.invokevirtual 64, 3) := by decide +kernel
theorem dX5_rankedColumn_10 : decode cX5_rankedColumn 10 = .ok (.aload_n 0, 1) := by decide +kernel
theorem dX5_rankedColumn_11 : decode cX5_rankedColumn 11 = .ok (.getfield 33, 3) := by decide +kernel
theorem dX5_rankedColumn_14 : decode cX5_rankedColumn 14 = .ok (.getfield 180, 3) := by decide +kernel
theorem dX5_rankedColumn_17 : decode cX5_rankedColumn 17 = .ok (.getfield 195, 3) := by decide +kernel
theorem dX5_rankedColumn_20 : decode cX5_rankedColumn 20 = .ok (.iload_n 1, 1) := by decide +kernel
theorem dX5_rankedColumn_21 : decode cX5_rankedColumn 21 = .ok (.laload, 1) := by decide +kernel
theorem dX5_rankedColumn_22 : decode cX5_rankedColumn 22 = .ok (.iload_n 2, 1) := by decide +kernel
theorem dX5_rankedColumn_23 : decode cX5_rankedColumn 23 = .ok (.invokestatic 199, 3) := by decide +kernel
theorem dX5_rankedColumn_26 : decode cX5_rankedColumn 26 = .ok (.ireturn, 1) := by decide +kernel
theorem dX5_push_0 : decode cX5_push 0 = .ok (.aload_n 0, 1) := by decide +kernel
theorem dX5_push_1 : decode cX5_push 1 = .ok (.getfield 19, 3) := by decide +kernel
theorem dX5_push_4 : decode cX5_push 4 = .ok (.getfield 203, 3) := by decide +kernel
theorem dX5_push_7 : decode cX5_push 7 = .ok (.bipush 8, 2) := by decide +kernel
theorem dX5_push_9 : decode cX5_push 9 = .ok (.if_icmp .lt 13, 3) := by decide +kernel
theorem dX5_push_12 : decode cX5_push 12 = .ok (.new 41, 3) := by decide +kernel
theorem dX5_push_15 : decode cX5_push 15 = .ok (.dup, 1) := by decide +kernel
theorem dX5_push_16 : decode cX5_push 16 = .ok (.ldc 204, 2) := by decide +kernel
theorem dX5_push_18 : decode cX5_push 18 = .ok (.invokespecial 45, 3) := by decide +kernel
theorem dX5_push_21 : decode cX5_push 21 = .ok (.athrow, 1) := by decide +kernel
theorem dX5_push_22 : decode cX5_push 22 = .ok (.aload_n 0, 1) := by decide +kernel
theorem dX5_push_23 : decode cX5_push 23 = .ok (.getfield 19, 3) := by decide +kernel
theorem dX5_push_26 : decode cX5_push 26 = .ok (.aload_n 0, 1) := by decide +kernel
theorem dX5_push_27 : decode cX5_push 27 = .ok (.getfield 12, 3) := by decide +kernel
theorem dX5_push_30 : decode cX5_push 30 = .ok (.invokevirtual 206, 3) := by decide +kernel
theorem dX5_push_33 : decode cX5_push 33 = .ok (.aload_n 0, 1) := by decide +kernel
theorem dX5_push_34 : decode cX5_push 34 = .ok (.getfield 19, 3) := by decide +kernel
theorem dX5_push_37 : decode cX5_push 37 = .ok (.getfield 203, 3) := by decide +kernel
theorem dX5_push_40 : decode cX5_push 40 = .ok (.ireturn, 1) := by decide +kernel
theorem dX5_pop_0 : decode cX5_pop 0 = .ok (.aload_n 0, 1) := by decide +kernel
theorem dX5_pop_1 : decode cX5_pop 1 = .ok (.getfield 19, 3) := by decide +kernel
theorem dX5_pop_4 : decode cX5_pop 4 = .ok (.getfield 203, 3) := by decide +kernel
theorem dX5_pop_7 : decode cX5_pop 7 = .ok (.ifCond .gt 13, 3) := by decide +kernel
theorem dX5_pop_10 : decode cX5_pop 10 = .ok (.new 41, 3) := by decide +kernel
theorem dX5_pop_13 : decode cX5_pop 13 = .ok (.dup, 1) := by decide +kernel
theorem dX5_pop_14 : decode cX5_pop 14 = .ok (.ldc 210, 2) := by decide +kernel
theorem dX5_pop_16 : decode cX5_pop 16 = .ok (.invokespecial 45, 3) := by decide +kernel
theorem dX5_pop_19 : decode cX5_pop 19 = .ok (.athrow, 1) := by decide +kernel
theorem dX5_pop_20 : decode cX5_pop 20 = .ok (.aload_n 0, 1) := by decide +kernel
theorem dX5_pop_21 : decode cX5_pop 21 = .ok (.getfield 19, 3) := by decide +kernel
theorem dX5_pop_24 : decode cX5_pop 24 = .ok (.aload_n 0, 1) := by decide +kernel
theorem dX5_pop_25 : decode cX5_pop 25 = .ok (.getfield 12, 3) := by decide +kernel
theorem dX5_pop_28 : decode cX5_pop 28 = .ok (.invokevirtual 212, 3) := by decide +kernel
theorem dX5_pop_31 : decode cX5_pop 31 = .ok (.aload_n 0, 1) := by decide +kernel
theorem dX5_pop_32 : decode cX5_pop 32 = .ok (.iconst 0, 1) := by decide +kernel
theorem dX5_pop_33 : decode cX5_pop 33 = .ok (.putfield 48, 3) := by decide +kernel
theorem dX5_pop_36 : decode cX5_pop 36 = .ok (.aload_n 0, 1) := by decide +kernel
theorem dX5_pop_37 : decode cX5_pop 37 = .ok (.getfield 19, 3) := by decide +kernel
theorem dX5_pop_40 : decode cX5_pop 40 = .ok (.getfield 203, 3) := by decide +kernel
theorem dX5_pop_43 : decode cX5_pop 43 = .ok (.ireturn, 1) := by decide +kernel
theorem dX5_digest_0 : decode cX5_digest 0 = .ok (.ldc2_w 215, 3) := by decide +kernel
theorem dX5_digest_3 : decode cX5_digest 3 = .ok (.lstore_n 1, 1) := by decide +kernel
theorem dX5_digest_4 : decode cX5_digest 4 = .ok (.lload_n 1, 1) := by decide +kernel
theorem dX5_digest_5 : decode cX5_digest 5 = .ok (.ldc2_w 217, 3) := by decide +kernel
theorem dX5_digest_8 : decode cX5_digest 8 = .ok (.lmul, 1) := by decide +kernel
theorem dX5_digest_9 : decode cX5_digest 9 = .ok (.aload_n 0, 1) := by decide +kernel
theorem dX5_digest_10 : decode cX5_digest 10 = .ok (.getfield 12, 3) := by decide +kernel
theorem dX5_digest_13 : decode cX5_digest 13 = .ok (.getfield 37, 3) := by decide +kernel
theorem dX5_digest_16 : decode cX5_digest 16 = .ok (.i2l, 1) := by decide +kernel
theorem dX5_digest_17 : decode cX5_digest 17 = .ok (.ladd, 1) := by decide +kernel
theorem dX5_digest_18 : decode cX5_digest 18 = .ok (.lstore_n 1, 1) := by decide +kernel
theorem dX5_digest_19 : decode cX5_digest 19 = .ok (.lload_n 1, 1) := by decide +kernel
theorem dX5_digest_20 : decode cX5_digest 20 = .ok (.ldc2_w 217, 3) := by decide +kernel
theorem dX5_digest_23 : decode cX5_digest 23 = .ok (.lmul, 1) := by decide +kernel
theorem dX5_digest_24 : decode cX5_digest 24 = .ok (.aload_n 0, 1) := by decide +kernel
theorem dX5_digest_25 : decode cX5_digest 25 = .ok (.getfield 12, 3) := by decide +kernel
theorem dX5_digest_28 : decode cX5_digest 28 = .ok (.getfield 56, 3) := by decide +kernel
theorem dX5_digest_31 : decode cX5_digest 31 = .ok (.i2l, 1) := by decide +kernel
theorem dX5_digest_32 : decode cX5_digest 32 = .ok (.ladd, 1) := by decide +kernel
theorem dX5_digest_33 : decode cX5_digest 33 = .ok (.lstore_n 1, 1) := by decide +kernel
theorem dX5_digest_34 : decode cX5_digest 34 = .ok (.lload_n 1, 1) := by decide +kernel
theorem dX5_digest_35 : decode cX5_digest 35 = .ok (.ldc2_w 217, 3) := by decide +kernel
theorem dX5_digest_38 : decode cX5_digest 38 = .ok (.lmul, 1) := by decide +kernel
theorem dX5_digest_39 : decode cX5_digest 39 = .ok (.aload_n 0, 1) := by decide +kernel
theorem dX5_digest_40 : decode cX5_digest 40 = .ok (.getfield 19, 3) := by decide +kernel
theorem dX5_digest_43 : decode cX5_digest 43 = .ok (.getfield 203, 3) := by decide +kernel
theorem dX5_digest_46 : decode cX5_digest 46 = .ok (.i2l, 1) := by decide +kernel
theorem dX5_digest_47 : decode cX5_digest 47 = .ok (.ladd, 1) := by decide +kernel
theorem dX5_digest_48 : decode cX5_digest 48 = .ok (.lstore_n 1, 1) := by decide +kernel
theorem dX5_digest_49 : decode cX5_digest 49 = .ok (.aload_n 0, 1) := by decide +kernel
theorem dX5_digest_50 : decode cX5_digest 50 = .ok (.getfield 12, 3) := by decide +kernel
theorem dX5_digest_53 : decode cX5_digest 53 = .ok (.lload_n 1, 1) := by decide +kernel
theorem dX5_digest_54 : decode cX5_digest 54 = .ok (.invokevirtual 219, 3) := by decide +kernel
theorem dX5_digest_57 : decode cX5_digest 57 = .ok (.lstore_n 1, 1) := by decide +kernel
theorem dX5_digest_58 : decode cX5_digest 58 = .ok (.aload_n 0, 1) := by decide +kernel
theorem dX5_digest_59 : decode cX5_digest 59 = .ok (.invokevirtual 136, 3) := by decide +kernel
theorem dX5_digest_62 : decode cX5_digest 62 = .ok (.lload_n 1, 1) := by decide +kernel
theorem dX5_digest_63 : decode cX5_digest 63 = .ok (.aload_n 0, 1) := by decide +kernel
theorem dX5_digest_64 : decode cX5_digest 64 = .ok (.getfield 12, 3) := by decide +kernel
theorem dX5_digest_67 : decode cX5_digest 67 = .ok (.getfield 37, 3) := by decide +kernel
theorem dX5_digest_70 : decode cX5_digest 70 = .ok (.invokevirtual 223, 3) := by decide +kernel
theorem dX5_digest_73 : decode cX5_digest 73 = .ok (.lreturn, 1) := by decide +kernel
theorem dX5_requireRow_0 : decode cX5_requireRow 0 = .ok (.iload_n 1, 1) := by decide +kernel
theorem dX5_requireRow_1 : decode cX5_requireRow 1 = .ok (.ifCond .lt 14, 3) := by decide +kernel
theorem dX5_requireRow_4 : decode cX5_requireRow 4 = .ok (.iload_n 1, 1) := by decide +kernel
theorem dX5_requireRow_5 : decode cX5_requireRow 5 = .ok (.aload_n 0, 1) := by decide +kernel
theorem dX5_requireRow_6 : decode cX5_requireRow 6 = .ok (.getfield 12, 3) := by decide +kernel
theorem dX5_requireRow_9 : decode cX5_requireRow 9 = .ok (.getfield 37, 3) := by decide +kernel
theorem dX5_requireRow_12 : decode cX5_requireRow 12 = .ok (.if_icmp .lt 13, 3) := by decide +kernel
theorem dX5_requireRow_15 : decode cX5_requireRow 15 = .ok (.new 226, 3) := by decide +kernel
theorem dX5_requireRow_18 : decode cX5_requireRow 18 = .ok (.dup, 1) := by decide +kernel
theorem dX5_requireRow_19 : decode cX5_requireRow 19 = .ok (.ldc 228, 2) := by decide +kernel
theorem dX5_requireRow_21 : decode cX5_requireRow 21 = .ok (.invokespecial 230, 3) := by decide +kernel
theorem dX5_requireRow_24 : decode cX5_requireRow 24 = .ok (.athrow, 1) := by decide +kernel
theorem dX5_requireRow_25 : decode cX5_requireRow 25 = .ok (.return_, 1) := by decide +kernel
theorem dX5_requireColumn_0 : decode cX5_requireColumn 0 = .ok (.iload_n 1, 1) := by decide +kernel
theorem dX5_requireColumn_1 : decode cX5_requireColumn 1 = .ok (.ifCond .lt 14, 3) := by decide +kernel
theorem dX5_requireColumn_4 : decode cX5_requireColumn 4 = .ok (.iload_n 1, 1) := by decide +kernel
theorem dX5_requireColumn_5 : decode cX5_requireColumn 5 = .ok (.aload_n 0, 1) := by decide +kernel
theorem dX5_requireColumn_6 : decode cX5_requireColumn 6 = .ok (.getfield 12, 3) := by decide +kernel
theorem dX5_requireColumn_9 : decode cX5_requireColumn 9 = .ok (.getfield 56, 3) := by decide +kernel
theorem dX5_requireColumn_12 : decode cX5_requireColumn 12 = .ok (.if_icmp .lt 13, 3) := by decide +kernel
theorem dX5_requireColumn_15 : decode cX5_requireColumn 15 = .ok (.new 226, 3) := by decide +kernel
theorem dX5_requireColumn_18 : decode cX5_requireColumn 18 = .ok (.dup, 1) := by decide +kernel
theorem dX5_requireColumn_19 : decode cX5_requireColumn 19 = .ok (.ldc 231, 2) := by decide +kernel
theorem dX5_requireColumn_21 : decode cX5_requireColumn 21 = .ok (.invokespecial 230, 3) := by decide +kernel
theorem dX5_requireColumn_24 : decode cX5_requireColumn 24 = .ok (.athrow, 1) := by decide +kernel
theorem dX5_requireColumn_25 : decode cX5_requireColumn 25 = .ok (.return_, 1) := by decide +kernel
theorem dX5_requirePair_0 : decode cX5_requirePair 0 = .ok (.aload_n 0, 1) := by decide +kernel
theorem dX5_requirePair_1 : decode cX5_requirePair 1 = .ok (.iload_n 1, 1) := by decide +kernel
theorem dX5_requirePair_2 : decode cX5_requirePair 2 = .ok (.invokevirtual 64, 3) := by decide +kernel
theorem dX5_requirePair_5 : decode cX5_requirePair 5 = .ok (.aload_n 0, 1) := by decide +kernel
theorem dX5_requirePair_6 : decode cX5_requirePair 6 = .ok (.iload_n 2, 1) := by decide +kernel
theorem dX5_requirePair_7 : decode cX5_requirePair 7 = .ok (.invokevirtual 79, 3) := by decide +kernel
theorem dX5_requirePair_10 : decode cX5_requirePair 10 = .ok (.return_, 1) := by decide +kernel
theorem dX5_requireUsable_0 : decode cX5_requireUsable 0 = .ok (.aload_n 0, 1) := by decide +kernel
theorem dX5_requireUsable_1 : decode cX5_requireUsable 1 = .ok (.iload_n 1, 1) := by decide +kernel
theorem dX5_requireUsable_2 : decode cX5_requireUsable 2 = .ok (.iload_n 2, 1) := by decide +kernel
theorem dX5_requireUsable_3 : decode cX5_requireUsable 3 = .ok (.invokevirtual 85, 3) := by decide +kernel
theorem dX5_requireUsable_6 : decode cX5_requireUsable 6 = .ok (.aload_n 0, 1) := by decide +kernel
theorem dX5_requireUsable_7 : decode cX5_requireUsable 7 = .ok (.getfield 12, 3) := by decide +kernel
theorem dX5_requireUsable_10 : decode cX5_requireUsable 10 = .ok (.iload_n 1, 1) := by decide +kernel
theorem dX5_requireUsable_11 : decode cX5_requireUsable 11 = .ok (.iload_n 2, 1) := by decide +kernel
theorem dX5_requireUsable_12 : decode cX5_requireUsable 12 = .ok (.invokevirtual 157, 3) := by decide +kernel
theorem dX5_requireUsable_15 : decode cX5_requireUsable 15 = .ok (.ifCond .ne 13, 3) := by decide +kernel
theorem dX5_requireUsable_18 : decode cX5_requireUsable 18 = .ok (.new 131, 3) := by decide +kernel
theorem dX5_requireUsable_21 : decode cX5_requireUsable 21 = .ok (.dup, 1) := by decide +kernel
theorem dX5_requireUsable_22 : decode cX5_requireUsable 22 = .ok (.ldc 233, 2) := by decide +kernel
theorem dX5_requireUsable_24 : decode cX5_requireUsable 24 = .ok (.invokespecial 135, 3) := by decide +kernel
theorem dX5_requireUsable_27 : decode cX5_requireUsable 27 = .ok (.athrow, 1) := by decide +kernel
theorem dX5_requireUsable_28 : decode cX5_requireUsable 28 = .ok (.return_, 1) := by decide +kernel
theorem dX5_requireRanked_0 : decode cX5_requireRanked 0 = .ok (.iload_n 1, 1) := by decide +kernel
theorem dX5_requireRanked_1 : decode cX5_requireRanked 1 = .ok (.ifCond .lt 17, 3) := by decide +kernel
theorem dX5_requireRanked_4 : decode cX5_requireRanked 4 = .ok (.iload_n 1, 1) := by decide +kernel
theorem dX5_requireRanked_5 : decode cX5_requireRanked 5 = .ok (.aload_n 0, 1) := by decide +kernel
theorem dX5_requireRanked_6 : decode cX5_requireRanked 6 = .ok (.getfield 33, 3) := by decide +kernel
theorem dX5_requireRanked_9 : decode cX5_requireRanked 9 = .ok (.getfield 180, 3) := by decide +kernel
theorem dX5_requireRanked_12 : decode cX5_requireRanked 12 = .ok (.getfield 184, 3) := by decide +kernel
theorem dX5_requireRanked_15 : decode cX5_requireRanked 15 = .ok (.if_icmp .lt 13, 3) := by decide +kernel
theorem dX5_requireRanked_18 : decode cX5_requireRanked 18 = .ok (.new 226, 3) := by decide +kernel
theorem dX5_requireRanked_21 : decode cX5_requireRanked 21 = .ok (.dup, 1) := by decide +kernel
theorem dX5_requireRanked_22 : decode cX5_requireRanked 22 = .ok (.ldc 235, 2) := by decide +kernel
theorem dX5_requireRanked_24 : decode cX5_requireRanked 24 = .ok (.invokespecial 230, 3) := by decide +kernel
theorem dX5_requireRanked_27 : decode cX5_requireRanked 27 = .ok (.athrow, 1) := by decide +kernel
theorem dX5_requireRanked_28 : decode cX5_requireRanked 28 = .ok (.return_, 1) := by decide +kernel
theorem dX5_replaceCell_0 : decode cX5_replaceCell 0 = .ok (.aload_n 0, 1) := by decide +kernel
theorem dX5_replaceCell_1 : decode cX5_replaceCell 1 = .ok (.getfield 12, 3) := by decide +kernel
theorem dX5_replaceCell_4 : decode cX5_replaceCell 4 = .ok (.iload_n 1, 1) := by decide +kernel
theorem dX5_replaceCell_5 : decode cX5_replaceCell 5 = .ok (.iload_n 2, 1) := by decide +kernel
theorem dX5_replaceCell_6 : decode cX5_replaceCell 6 = .ok (.invokevirtual 128, 3) := by decide +kernel
theorem dX5_replaceCell_9 : decode cX5_replaceCell 9 = .ok (.sipush 20000, 3) := by decide +kernel
theorem dX5_replaceCell_12 : decode cX5_replaceCell 12 = .ok (.if_icmp .eq 7, 3) := by decide +kernel
theorem dX5_replaceCell_15 : decode cX5_replaceCell 15 = .ok (.iconst 1, 1) := by decide +kernel
theorem dX5_replaceCell_16 : decode cX5_replaceCell 16 = .ok (.goto 4, 3) := by decide +kernel
theorem dX5_replaceCell_19 : decode cX5_replaceCell 19 = .ok (.iconst 0, 1) := by decide +kernel
theorem dX5_replaceCell_20 : decode cX5_replaceCell 20 = .ok (.istore 4, 2) := by decide +kernel
theorem dX5_replaceCell_22 : decode cX5_replaceCell 22 = .ok (.aload_n 0, 1) := by decide +kernel
theorem dX5_replaceCell_23 : decode cX5_replaceCell 23 = .ok (.getfield 12, 3) := by decide +kernel
theorem dX5_replaceCell_26 : decode cX5_replaceCell 26 = .ok (.getfield 237, 3) := by decide +kernel
theorem dX5_replaceCell_29 : decode cX5_replaceCell 29 = .ok (.iload_n 1, 1) := by decide +kernel
theorem dX5_replaceCell_30 : decode cX5_replaceCell 30 = .ok (.bipush 10, 2) := by decide +kernel
theorem dX5_replaceCell_32 : decode cX5_replaceCell 32 = .ok (.imul, 1) := by decide +kernel
theorem dX5_replaceCell_33 : decode cX5_replaceCell 33 = .ok (.iload_n 2, 1) := by decide +kernel
theorem dX5_replaceCell_34 : decode cX5_replaceCell 34 = .ok (.iadd, 1) := by decide +kernel
theorem dX5_replaceCell_35 : decode cX5_replaceCell 35 = .ok (.iload_n 3, 1) := by decide +kernel
theorem dX5_replaceCell_36 : decode cX5_replaceCell 36 = .ok (.iastore, 1) := by decide +kernel
theorem dX5_replaceCell_37 : decode cX5_replaceCell 37 = .ok (.aload_n 0, 1) := by decide +kernel
theorem dX5_replaceCell_38 : decode cX5_replaceCell 38 = .ok (.iconst 0, 1) := by decide +kernel
theorem dX5_replaceCell_39 : decode cX5_replaceCell 39 = .ok (.putfield 48, 3) := by decide +kernel
theorem dX5_replaceCell_42 : decode cX5_replaceCell 42 = .ok (.iload 4, 2) := by decide +kernel
theorem dX5_replaceCell_44 : decode cX5_replaceCell 44 = .ok (.ireturn, 1) := by decide +kernel
theorem dX5_solved_0 : decode cX5_solved 0 = .ok (.aload_n 0, 1) := by decide +kernel
theorem dX5_solved_1 : decode cX5_solved 1 = .ok (.getfield 48, 3) := by decide +kernel
theorem dX5_solved_4 : decode cX5_solved 4 = .ok (.ifCond .ne 19, 3) := by decide +kernel
theorem dX5_solved_7 : decode cX5_solved 7 = .ok (.aload_n 0, 1) := by decide +kernel
theorem dX5_solved_8 : decode cX5_solved 8 = .ok (.getfield 26, 3) := by decide +kernel
theorem dX5_solved_11 : decode cX5_solved 11 = .ok (.aload_n 0, 1) := by decide +kernel
theorem dX5_solved_12 : decode cX5_solved 12 = .ok (.getfield 12, 3) := by decide +kernel
theorem dX5_solved_15 : decode cX5_solved 15 = .ok (.invokevirtual 240, 3) := by decide +kernel
theorem dX5_solved_18 : decode cX5_solved 18 = .ok (.aload_n 0, 1) := by decide +kernel
theorem dX5_solved_19 : decode cX5_solved 19 = .ok (.iconst 1, 1) := by decide +kernel
theorem dX5_solved_20 : decode cX5_solved 20 = .ok (.putfield 48, 3) := by decide +kernel
theorem dX5_solved_23 : decode cX5_solved 23 = .ok (.aload_n 0, 1) := by decide +kernel
theorem dX5_solved_24 : decode cX5_solved 24 = .ok (.getfield 26, 3) := by decide +kernel
theorem dX5_solved_27 : decode cX5_solved 27 = .ok (.areturn, 1) := by decide +kernel
theorem dX5_isCost_0 : decode cX5_isCost 0 = .ok (.lload_n 0, 1) := by decide +kernel
theorem dX5_isCost_1 : decode cX5_isCost 1 = .ok (.ldc2_w 243, 3) := by decide +kernel
theorem dX5_isCost_4 : decode cX5_isCost 4 = .ok (.lcmp, 1) := by decide +kernel
theorem dX5_isCost_5 : decode cX5_isCost 5 = .ok (.ifCond .lt 15, 3) := by decide +kernel
theorem dX5_isCost_8 : decode cX5_isCost 8 = .ok (.lload_n 0, 1) := by decide +kernel
theorem dX5_isCost_9 : decode cX5_isCost 9 = .ok (.ldc2_w 245, 3) := by decide +kernel
theorem dX5_isCost_12 : decode cX5_isCost 12 = .ok (.lcmp, 1) := by decide +kernel
theorem dX5_isCost_13 : decode cX5_isCost 13 = .ok (.ifCond .gt 7, 3) := by decide +kernel
theorem dX5_isCost_16 : decode cX5_isCost 16 = .ok (.iconst 1, 1) := by decide +kernel
theorem dX5_isCost_17 : decode cX5_isCost 17 = .ok (.goto 4, 3) := by decide +kernel
theorem dX5_isCost_20 : decode cX5_isCost 20 = .ok (.iconst 0, 1) := by decide +kernel
theorem dX5_isCost_21 : decode cX5_isCost 21 = .ok (.ireturn, 1) := by decide +kernel
theorem dX5_hasBit_0 : decode cX5_hasBit 0 = .ok (.iload_n 0, 1) := by decide +kernel
theorem dX5_hasBit_1 : decode cX5_hasBit 1 = .ok (.iload_n 1, 1) := by decide +kernel
theorem dX5_hasBit_2 : decode cX5_hasBit 2 = .ok (.ishr, 1) := by decide +kernel
theorem dX5_hasBit_3 : decode cX5_hasBit 3 = .ok (.iconst 1, 1) := by decide +kernel
theorem dX5_hasBit_4 : decode cX5_hasBit 4 = .ok (.iand, 1) := by decide +kernel
theorem dX5_hasBit_5 : decode cX5_hasBit 5 = .ok (.ifCond .eq 7, 3) := by decide +kernel
theorem dX5_hasBit_8 : decode cX5_hasBit 8 = .ok (.iconst 1, 1) := by decide +kernel
theorem dX5_hasBit_9 : decode cX5_hasBit 9 = .ok (.goto 4, 3) := by decide +kernel
theorem dX5_hasBit_12 : decode cX5_hasBit 12 = .ok (.iconst 0, 1) := by decide +kernel
theorem dX5_hasBit_13 : decode cX5_hasBit 13 = .ok (.ireturn, 1) := by decide +kernel
theorem dX5_withBit_0 : decode cX5_withBit 0 = .ok (.iload_n 2, 1) := by decide +kernel
theorem dX5_withBit_1 : decode cX5_withBit 1 = .ok (.ifCond .eq 11, 3) := by decide +kernel
theorem dX5_withBit_4 : decode cX5_withBit 4 = .ok (.iload_n 0, 1) := by decide +kernel
theorem dX5_withBit_5 : decode cX5_withBit 5 = .ok (.iconst 1, 1) := by decide +kernel
theorem dX5_withBit_6 : decode cX5_withBit 6 = .ok (.iload_n 1, 1) := by decide +kernel
theorem dX5_withBit_7 : decode cX5_withBit 7 = .ok (.ishl, 1) := by decide +kernel
theorem dX5_withBit_8 : decode cX5_withBit 8 = .ok (.ior, 1) := by decide +kernel
theorem dX5_withBit_9 : decode cX5_withBit 9 = .ok (.goto 10, 3) := by decide +kernel
theorem dX5_withBit_12 : decode cX5_withBit 12 = .ok (.iload_n 0, 1) := by decide +kernel
theorem dX5_withBit_13 : decode cX5_withBit 13 = .ok (.iconst 1, 1) := by decide +kernel
theorem dX5_withBit_14 : decode cX5_withBit 14 = .ok (.iload_n 1, 1) := by decide +kernel
theorem dX5_withBit_15 : decode cX5_withBit 15 = .ok (.ishl, 1) := by decide +kernel
theorem dX5_withBit_16 : decode cX5_withBit 16 = .ok (.iconst (-1), 1) := by decide +kernel
theorem dX5_withBit_17 : decode cX5_withBit 17 = .ok (.ixor, 1) := by decide +kernel
theorem dX5_withBit_18 : decode cX5_withBit 18 = .ok (.iand, 1) := by decide +kernel
theorem dX5_withBit_19 : decode cX5_withBit 19 = .ok (.ireturn, 1) := by decide +kernel
theorem dX6_init_0 : decode cX6_init 0 = .ok (.aload_n 0, 1) := by decide +kernel
theorem dX6_init_1 : decode cX6_init 1 = .ok (.invokespecial 3, 3) := by decide +kernel
theorem dX6_init_4 : decode cX6_init 4 = .ok (.aload_n 0, 1) := by decide +kernel
theorem dX6_init_5 : decode cX6_init 5 = .ok (.bipush 10, 2) := by decide +kernel
theorem dX6_init_7 : decode cX6_init 7 = .ok (.newarray .boolean, 2) := by decide +kernel
theorem dX6_init_9 : decode cX6_init 9 = .ok (.putfield 9, 3) := by decide +kernel
theorem dX6_init_12 : decode cX6_init 12 = .ok (.aload_n 0, 1) := by decide +kernel
theorem dX6_init_13 : decode cX6_init 13 = .ok (.bipush 10, 2) := by decide +kernel
theorem dX6_init_15 : decode cX6_init 15 = .ok (.newarray .boolean, 2) := by decide +kernel
theorem dX6_init_17 : decode cX6_init 17 = .ok (.putfield 13, 3) := by decide +kernel
theorem dX6_init_20 : decode cX6_init 20 = .ok (.aload_n 0, 1) := by decide +kernel
theorem dX6_init_21 : decode cX6_init 21 = .ok (.bipush 100, 2) := by decide +kernel
theorem dX6_init_23 : decode cX6_init 23 = .ok (.newarray .boolean, 2) := by decide +kernel
theorem dX6_init_25 : decode cX6_init 25 = .ok (.putfield 16, 3) := by decide +kernel
theorem dX6_init_28 : decode cX6_init 28 = .ok (.aload_n 0, 1) := by decide +kernel
theorem dX6_init_29 : decode cX6_init 29 = .ok (.bipush 100, 2) := by decide +kernel
theorem dX6_init_31 : decode cX6_init 31 = .ok (.newarray .int, 2) := by decide +kernel
theorem dX6_init_33 : decode cX6_init 33 = .ok (.putfield 19, 3) := by decide +kernel
theorem dX6_init_36 : decode cX6_init 36 = .ok (.aload_n 0, 1) := by decide +kernel
theorem dX6_init_37 : decode cX6_init 37 = .ok (.bipush 8, 2) := by decide +kernel
theorem dX6_init_39 : decode cX6_init 39 = .ok (.newarray .int, 2) := by decide +kernel
theorem dX6_init_41 : decode cX6_init 41 = .ok (.putfield 23, 3) := by decide +kernel
theorem dX6_init_44 : decode cX6_init 44 = .ok (.aload_n 0, 1) := by decide +kernel
theorem dX6_init_45 : decode cX6_init 45 = .ok (.bipush 8, 2) := by decide +kernel
theorem dX6_init_47 : decode cX6_init 47 = .ok (.newarray .int, 2) := by decide +kernel
theorem dX6_init_49 : decode cX6_init 49 = .ok (.putfield 26, 3) := by decide +kernel
theorem dX6_init_52 : decode cX6_init 52 = .ok (.aload_n 0, 1) := by decide +kernel
theorem dX6_init_53 : decode cX6_init 53 = .ok (.bipush 80, 2) := by decide +kernel
theorem dX6_init_55 : decode cX6_init 55 = .ok (.newarray .boolean, 2) := by decide +kernel
theorem dX6_init_57 : decode cX6_init 57 = .ok (.putfield 29, 3) := by decide +kernel
theorem dX6_init_60 : decode cX6_init 60 = .ok (.aload_n 0, 1) := by decide +kernel
theorem dX6_init_61 : decode cX6_init 61 = .ok (.bipush 80, 2) := by decide +kernel
theorem dX6_init_63 : decode cX6_init 63 = .ok (.newarray .boolean, 2) := by decide +kernel
theorem dX6_init_65 : decode cX6_init 65 = .ok (.putfield 32, 3) := by decide +kernel
theorem dX6_init_68 : decode cX6_init 68 = .ok (.aload_n 0, 1) := by decide +kernel
theorem dX6_init_69 : decode cX6_init 69 = .ok (.sipush 800, 3) := by decide +kernel
theorem dX6_init_72 : decode cX6_init 72 = .ok (.newarray .boolean, 2) := by decide +kernel
theorem dX6_init_74 : decode cX6_init 74 = .ok (.putfield 35, 3) := by decide +kernel
theorem dX6_init_77 : decode cX6_init 77 = .ok (.aload_n 0, 1) := by decide +kernel
theorem dX6_init_78 : decode cX6_init 78 = .ok (.sipush 800, 3) := by decide +kernel
theorem dX6_init_81 : decode cX6_init 81 = .ok (.newarray .int, 2) := by decide +kernel
theorem dX6_init_83 : decode cX6_init 83 = .ok (.putfield 38, 3) := by decide +kernel
theorem dX6_init_86 : decode cX6_init 86 = .ok (.aload_n 0, 1) := by decide +kernel
theorem dX6_init_87 : decode cX6_init 87 = .ok (.sipush 11264, 3) := by decide +kernel
theorem dX6_init_90 : decode cX6_init 90 = .ok (.newarray .int, 2) := by decide +kernel
theorem dX6_init_92 : decode cX6_init 92 = .ok (.putfield 41, 3) := by decide +kernel
theorem dX6_init_95 : decode cX6_init 95 = .ok (.aload_n 0, 1) := by decide +kernel
theorem dX6_init_96 : decode cX6_init 96 = .ok (.sipush 11264, 3) := by decide +kernel
theorem dX6_init_99 : decode cX6_init 99 = .ok (.newarray .int, 2) := by decide +kernel
theorem dX6_init_101 : decode cX6_init 101 = .ok (.putfield 44, 3) := by decide +kernel
theorem dX6_init_104 : decode cX6_init 104 = .ok (.aload_n 0, 1) := by decide +kernel
theorem dX6_init_105 : decode cX6_init 105 = .ok (.sipush 11264, 3) := by decide +kernel
theorem dX6_init_108 : decode cX6_init 108 = .ok (.newarray .int, 2) := by decide +kernel
theorem dX6_init_110 : decode cX6_init 110 = .ok (.putfield 47, 3) := by decide +kernel
theorem dX6_init_113 : decode cX6_init 113 = .ok (.aload_n 0, 1) := by decide +kernel
theorem dX6_init_114 : decode cX6_init 114 = .ok (.bipush 10, 2) := by decide +kernel
theorem dX6_init_116 : decode cX6_init 116 = .ok (.newarray .int, 2) := by decide +kernel
theorem dX6_init_118 : decode cX6_init 118 = .ok (.putfield 50, 3) := by decide +kernel
theorem dX6_init_121 : decode cX6_init 121 = .ok (.aload_n 0, 1) := by decide +kernel
theorem dX6_init_122 : decode cX6_init 122 = .ok (.bipush 10, 2) := by decide +kernel
theorem dX6_init_124 : decode cX6_init 124 = .ok (.newarray .int, 2) := by decide +kernel
theorem dX6_init_126 : decode cX6_init 126 = .ok (.putfield 53, 3) := by decide +kernel
theorem dX6_init_129 : decode cX6_init 129 = .ok (.aload_n 0, 1) := by decide +kernel
theorem dX6_init_130 : decode cX6_init 130 = .ok (.bipush 30, 2) := by decide +kernel
theorem dX6_init_132 : decode cX6_init 132 = .ok (.newarray .int, 2) := by decide +kernel
theorem dX6_init_134 : decode cX6_init 134 = .ok (.putfield 56, 3) := by decide +kernel
theorem dX6_init_137 : decode cX6_init 137 = .ok (.aload_n 0, 1) := by decide +kernel
theorem dX6_init_138 : decode cX6_init 138 = .ok (.sipush 300, 3) := by decide +kernel
theorem dX6_init_141 : decode cX6_init 141 = .ok (.newarray .int, 2) := by decide +kernel
theorem dX6_init_143 : decode cX6_init 143 = .ok (.putfield 59, 3) := by decide +kernel
theorem dX6_init_146 : decode cX6_init 146 = .ok (.aload_n 0, 1) := by decide +kernel
theorem dX6_init_147 : decode cX6_init 147 = .ok (.sipush 320, 3) := by decide +kernel
theorem dX6_init_150 : decode cX6_init 150 = .ok (.newarray .int, 2) := by decide +kernel
theorem dX6_init_152 : decode cX6_init 152 = .ok (.putfield 62, 3) := by decide +kernel
theorem dX6_init_155 : decode cX6_init 155 = .ok (.aload_n 0, 1) := by decide +kernel
theorem dX6_init_156 : decode cX6_init 156 = .ok (.sipush 3200, 3) := by decide +kernel
theorem dX6_init_159 : decode cX6_init 159 = .ok (.newarray .int, 2) := by decide +kernel
theorem dX6_init_161 : decode cX6_init 161 = .ok (.putfield 65, 3) := by decide +kernel
theorem dX6_init_164 : decode cX6_init 164 = .ok (.aload_n 0, 1) := by decide +kernel
theorem dX6_init_165 : decode cX6_init 165 = .ok (.sipush 320, 3) := by decide +kernel
theorem dX6_init_168 : decode cX6_init 168 = .ok (.newarray .int, 2) := by decide +kernel
theorem dX6_init_170 : decode cX6_init 170 = .ok (.putfield 68, 3) := by decide +kernel
theorem dX6_init_173 : decode cX6_init 173 = .ok (.aload_n 0, 1) := by decide +kernel
theorem dX6_init_174 : decode cX6_init 174 = .ok (.sipush 320, 3) := by decide +kernel
theorem dX6_init_177 : decode cX6_init 177 = .ok (.newarray .int, 2) := by decide +kernel
theorem dX6_init_179 : decode cX6_init 179 = .ok (.putfield 71, 3) := by decide +kernel
theorem dX6_init_182 : decode cX6_init 182 = .ok (.aload_n 0, 1) := by decide +kernel
theorem dX6_init_183 : decode cX6_init 183 = .ok (.bipush 10, 2) := by decide +kernel
theorem dX6_init_185 : decode cX6_init 185 = .ok (.newarray .int, 2) := by decide +kernel
theorem dX6_init_187 : decode cX6_init 187 = .ok (.putfield 74, 3) := by decide +kernel
theorem dX6_init_190 : decode cX6_init 190 = .ok (.return_, 1) := by decide +kernel
theorem dX6_thrown_0 : decode cX6_thrown 0 = .ok (.aload_n 0, 1) := by decide +kernel
theorem dX6_thrown_1 : decode cX6_thrown 1 = .ok (.getfield 77, 3) := by decide +kernel
theorem dX6_thrown_4 : decode cX6_thrown 4 = .ok (.ireturn, 1) := by decide +kernel
theorem dX6_fail_0 : decode cX6_fail 0 = .ok (.aload_n 0, 1) := by decide +kernel
theorem dX6_fail_1 : decode cX6_fail 1 = .ok (.iload_n 1, 1) := by decide +kernel
theorem dX6_fail_2 : decode cX6_fail 2 = .ok (.putfield 77, 3) := by decide +kernel
theorem dX6_fail_5 : decode cX6_fail 5 = .ok (.iconst 0, 1) := by decide +kernel
theorem dX6_fail_6 : decode cX6_fail 6 = .ok (.ireturn, 1) := by decide +kernel
theorem dX6_failed_0 : decode cX6_failed 0 = .ok (.aload_n 0, 1) := by decide +kernel
theorem dX6_failed_1 : decode cX6_failed 1 = .ok (.iload_n 1, 1) := by decide +kernel
theorem dX6_failed_2 : decode cX6_failed 2 = .ok (.putfield 77, 3) := by decide +kernel
theorem dX6_failed_5 : decode cX6_failed 5 = .ok (.iconst 0, 1) := by decide +kernel
theorem dX6_failed_6 : decode cX6_failed 6 = .ok (.ireturn, 1) := by decide +kernel
theorem dX6_isRow_0 : decode cX6_isRow 0 = .ok (.iload_n 1, 1) := by decide +kernel
theorem dX6_isRow_1 : decode cX6_isRow 1 = .ok (.ifCond .lt 15, 3) := by decide +kernel
theorem dX6_isRow_4 : decode cX6_isRow 4 = .ok (.iload_n 1, 1) := by decide +kernel
theorem dX6_isRow_5 : decode cX6_isRow 5 = .ok (.aload_n 0, 1) := by decide +kernel
theorem dX6_isRow_6 : decode cX6_isRow 6 = .ok (.getfield 81, 3) := by decide +kernel
theorem dX6_isRow_9 : decode cX6_isRow 9 = .ok (.if_icmp .ge 7, 3) := by decide +kernel
theorem dX6_isRow_12 : decode cX6_isRow 12 = .ok (.iconst 1, 1) := by decide +kernel
theorem dX6_isRow_13 : decode cX6_isRow 13 = .ok (.goto 4, 3) := by decide +kernel
theorem dX6_isRow_16 : decode cX6_isRow 16 = .ok (.iconst 0, 1) := by decide +kernel
theorem dX6_isRow_17 : decode cX6_isRow 17 = .ok (.ireturn, 1) := by decide +kernel
theorem dX6_isColumn_0 : decode cX6_isColumn 0 = .ok (.iload_n 1, 1) := by decide +kernel
theorem dX6_isColumn_1 : decode cX6_isColumn 1 = .ok (.ifCond .lt 15, 3) := by decide +kernel
theorem dX6_isColumn_4 : decode cX6_isColumn 4 = .ok (.iload_n 1, 1) := by decide +kernel
theorem dX6_isColumn_5 : decode cX6_isColumn 5 = .ok (.aload_n 0, 1) := by decide +kernel
theorem dX6_isColumn_6 : decode cX6_isColumn 6 = .ok (.getfield 84, 3) := by decide +kernel
theorem dX6_isColumn_9 : decode cX6_isColumn 9 = .ok (.if_icmp .ge 7, 3) := by decide +kernel
theorem dX6_isColumn_12 : decode cX6_isColumn 12 = .ok (.iconst 1, 1) := by decide +kernel
theorem dX6_isColumn_13 : decode cX6_isColumn 13 = .ok (.goto 4, 3) := by decide +kernel
theorem dX6_isColumn_16 : decode cX6_isColumn 16 = .ok (.iconst 0, 1) := by decide +kernel
theorem dX6_isColumn_17 : decode cX6_isColumn 17 = .ok (.ireturn, 1) := by decide +kernel
theorem dX6_isPair_0 : decode cX6_isPair 0 = .ok (.aload_n 0, 1) := by decide +kernel
theorem dX6_isPair_1 : decode cX6_isPair 1 = .ok (.iload_n 1, 1) := by decide +kernel
theorem dX6_isPair_2 : decode cX6_isPair 2 = .ok (.invokevirtual 87, 3) := by decide +kernel
theorem dX6_isPair_5 : decode cX6_isPair 5 = .ok (.ifCond .eq 15, 3) := by decide +kernel
theorem dX6_isPair_8 : decode cX6_isPair 8 = .ok (.aload_n 0, 1) := by decide +kernel
theorem dX6_isPair_9 : decode cX6_isPair 9 = .ok (.iload_n 2, 1) := by decide +kernel
theorem dX6_isPair_10 : decode cX6_isPair 10 = .ok (.invokevirtual 91, 3) := by decide +kernel
theorem dX6_isPair_13 : decode cX6_isPair 13 = .ok (.ifCond .eq 7, 3) := by decide +kernel
theorem dX6_isPair_16 : decode cX6_isPair 16 = .ok (.iconst 1, 1) := by decide +kernel
theorem dX6_isPair_17 : decode cX6_isPair 17 = .ok (.goto 4, 3) := by decide +kernel
theorem dX6_isPair_20 : decode cX6_isPair 20 = .ok (.iconst 0, 1) := by decide +kernel
theorem dX6_isPair_21 : decode cX6_isPair 21 = .ok (.ireturn, 1) := by decide +kernel
theorem dX6_isCost_0 : decode cX6_isCost 0 = .ok (.lload_n 0, 1) := by decide +kernel
theorem dX6_isCost_1 : decode cX6_isCost 1 = .ok (.ldc2_w 94, 3) := by decide +kernel
theorem dX6_isCost_4 : decode cX6_isCost 4 = .ok (.lcmp, 1) := by decide +kernel
theorem dX6_isCost_5 : decode cX6_isCost 5 = .ok (.ifCond .lt 15, 3) := by decide +kernel
theorem dX6_isCost_8 : decode cX6_isCost 8 = .ok (.lload_n 0, 1) := by decide +kernel
theorem dX6_isCost_9 : decode cX6_isCost 9 = .ok (.ldc2_w 96, 3) := by decide +kernel
theorem dX6_isCost_12 : decode cX6_isCost 12 = .ok (.lcmp, 1) := by decide +kernel
theorem dX6_isCost_13 : decode cX6_isCost 13 = .ok (.ifCond .gt 7, 3) := by decide +kernel
theorem dX6_isCost_16 : decode cX6_isCost 16 = .ok (.iconst 1, 1) := by decide +kernel
theorem dX6_isCost_17 : decode cX6_isCost 17 = .ok (.goto 4, 3) := by decide +kernel
theorem dX6_isCost_20 : decode cX6_isCost 20 = .ok (.iconst 0, 1) := by decide +kernel
theorem dX6_isCost_21 : decode cX6_isCost 21 = .ok (.ireturn, 1) := by decide +kernel
theorem dX6_isUsable_0 : decode cX6_isUsable 0 = .ok (.aload_n 0, 1) := by decide +kernel
theorem dX6_isUsable_1 : decode cX6_isUsable 1 = .ok (.getfield 16, 3) := by decide +kernel
theorem dX6_isUsable_4 : decode cX6_isUsable 4 = .ok (.bipush 10, 2) := by decide +kernel
theorem dX6_isUsable_6 : decode cX6_isUsable 6 = .ok (.iload_n 1, 1) := by decide +kernel
theorem dX6_isUsable_7 : decode cX6_isUsable 7 = .ok (.imul, 1) := by decide +kernel
theorem dX6_isUsable_8 : decode cX6_isUsable 8 = .ok (.iload_n 2, 1) := by decide +kernel
theorem dX6_isUsable_9 : decode cX6_isUsable 9 = .ok (.iadd, 1) := by decide +kernel
theorem dX6_isUsable_10 : decode cX6_isUsable 10 = .ok (.baload, 1) := by decide +kernel
theorem dX6_isUsable_11 : decode cX6_isUsable 11 = .ok (.ifCond .eq 25, 3) := by decide +kernel
theorem dX6_isUsable_14 : decode cX6_isUsable 14 = .ok (.aload_n 0, 1) := by decide +kernel
theorem dX6_isUsable_15 : decode cX6_isUsable 15 = .ok (.getfield 9, 3) := by decide +kernel
theorem dX6_isUsable_18 : decode cX6_isUsable 18 = .ok (.iload_n 1, 1) := by decide +kernel
theorem dX6_isUsable_19 : decode cX6_isUsable 19 = .ok (.baload, 1) := by decide +kernel
theorem dX6_isUsable_20 : decode cX6_isUsable 20 = .ok (.ifCond .eq 16, 3) := by decide +kernel
theorem dX6_isUsable_23 : decode cX6_isUsable 23 = .ok (.aload_n 0, 1) := by decide +kernel
theorem dX6_isUsable_24 : decode cX6_isUsable 24 = .ok (.getfield 13, 3) := by decide +kernel
theorem dX6_isUsable_27 : decode cX6_isUsable 27 = .ok (.iload_n 2, 1) := by decide +kernel
theorem dX6_isUsable_28 : decode cX6_isUsable 28 = .ok (.baload, 1) := by decide +kernel
theorem dX6_isUsable_29 : decode cX6_isUsable 29 = .ok (.ifCond .eq 7, 3) := by decide +kernel
theorem dX6_isUsable_32 : decode cX6_isUsable 32 = .ok (.iconst 1, 1) := by decide +kernel
theorem dX6_isUsable_33 : decode cX6_isUsable 33 = .ok (.goto 4, 3) := by decide +kernel
theorem dX6_isUsable_36 : decode cX6_isUsable 36 = .ok (.iconst 0, 1) := by decide +kernel
theorem dX6_isUsable_37 : decode cX6_isUsable 37 = .ok (.ireturn, 1) := by decide +kernel
theorem dX6_addRow_0 : decode cX6_addRow 0 = .ok (.aload_n 0, 1) := by decide +kernel
theorem dX6_addRow_1 : decode cX6_addRow 1 = .ok (.iconst 0, 1) := by decide +kernel
theorem dX6_addRow_2 : decode cX6_addRow 2 = .ok (.putfield 77, 3) := by decide +kernel
theorem dX6_addRow_5 : decode cX6_addRow 5 = .ok (.aload_n 0, 1) := by decide +kernel
theorem dX6_addRow_6 : decode cX6_addRow 6 = .ok (.getfield 81, 3) := by decide +kernel
theorem dX6_addRow_9 : decode cX6_addRow 9 = .ok (.bipush 10, 2) := by decide +kernel
theorem dX6_addRow_11 : decode cX6_addRow 11 = .ok (.if_icmp .ne 9, 3) := by decide +kernel
theorem dX6_addRow_14 : decode cX6_addRow 14 = .ok (.aload_n 0, 1) := by decide +kernel
theorem dX6_addRow_15 : decode cX6_addRow 15 = .ok (.iconst 1, 1) := by decide +kernel
theorem dX6_addRow_16 : decode cX6_addRow 16 = .ok (.invokevirtual 98, 3) := by decide +kernel
theorem dX6_addRow_19 : decode cX6_addRow 19 = .ok (.ireturn, 1) := by decide +kernel
theorem dX6_addRow_20 : decode cX6_addRow 20 = .ok (.aload_n 0, 1) := by decide +kernel
theorem dX6_addRow_21 : decode cX6_addRow 21 = .ok (.getfield 9, 3) := by decide +kernel
theorem dX6_addRow_24 : decode cX6_addRow 24 = .ok (.aload_n 0, 1) := by decide +kernel
theorem dX6_addRow_25 : decode cX6_addRow 25 = .ok (.getfield 81, 3) := by decide +kernel
theorem dX6_addRow_28 : decode cX6_addRow 28 = .ok (.iconst 1, 1) := by decide +kernel
theorem dX6_addRow_29 : decode cX6_addRow 29 = .ok (.bastore, 1) := by decide +kernel
theorem dX6_addRow_30 : decode cX6_addRow 30 = .ok (.aload_n 0, 1) := by decide +kernel
theorem dX6_addRow_31 : decode cX6_addRow 31 = .ok (.dup, 1) := by decide +kernel
theorem dX6_addRow_32 : decode cX6_addRow 32 = .ok (.getfield 81, 3) := by decide +kernel
theorem dX6_addRow_35 : decode cX6_addRow 35 = .ok (.iconst 1, 1) := by decide +kernel
theorem dX6_addRow_36 : decode cX6_addRow 36 = .ok (.iadd, 1) := by decide +kernel
theorem dX6_addRow_37 : decode cX6_addRow 37 = .ok (.putfield 81, 3) := by decide +kernel
theorem dX6_addRow_40 : decode cX6_addRow 40 = .ok (.aload_n 0, 1) := by decide +kernel
theorem dX6_addRow_41 : decode cX6_addRow 41 = .ok (.getfield 81, 3) := by decide +kernel
theorem dX6_addRow_44 : decode cX6_addRow 44 = .ok (.iconst 1, 1) := by decide +kernel
theorem dX6_addRow_45 : decode cX6_addRow 45 = .ok (.isub, 1) := by decide +kernel
theorem dX6_addRow_46 : decode cX6_addRow 46 = .ok (.ireturn, 1) := by decide +kernel
theorem dX6_addColumn_0 : decode cX6_addColumn 0 = .ok (.aload_n 0, 1) := by decide +kernel
theorem dX6_addColumn_1 : decode cX6_addColumn 1 = .ok (.iconst 0, 1) := by decide +kernel
theorem dX6_addColumn_2 : decode cX6_addColumn 2 = .ok (.putfield 77, 3) := by decide +kernel
theorem dX6_addColumn_5 : decode cX6_addColumn 5 = .ok (.aload_n 0, 1) := by decide +kernel
theorem dX6_addColumn_6 : decode cX6_addColumn 6 = .ok (.getfield 84, 3) := by decide +kernel
theorem dX6_addColumn_9 : decode cX6_addColumn 9 = .ok (.bipush 10, 2) := by decide +kernel
theorem dX6_addColumn_11 : decode cX6_addColumn 11 = .ok (.if_icmp .ne 9, 3) := by decide +kernel
theorem dX6_addColumn_14 : decode cX6_addColumn 14 = .ok (.aload_n 0, 1) := by decide +kernel
theorem dX6_addColumn_15 : decode cX6_addColumn 15 = .ok (.iconst 1, 1) := by decide +kernel
theorem dX6_addColumn_16 : decode cX6_addColumn 16 = .ok (.invokevirtual 98, 3) := by decide +kernel
theorem dX6_addColumn_19 : decode cX6_addColumn 19 = .ok (.ireturn, 1) := by decide +kernel
theorem dX6_addColumn_20 : decode cX6_addColumn 20 = .ok (.aload_n 0, 1) := by decide +kernel
theorem dX6_addColumn_21 : decode cX6_addColumn 21 = .ok (.getfield 13, 3) := by decide +kernel
theorem dX6_addColumn_24 : decode cX6_addColumn 24 = .ok (.aload_n 0, 1) := by decide +kernel
theorem dX6_addColumn_25 : decode cX6_addColumn 25 = .ok (.getfield 84, 3) := by decide +kernel
theorem dX6_addColumn_28 : decode cX6_addColumn 28 = .ok (.iconst 1, 1) := by decide +kernel
theorem dX6_addColumn_29 : decode cX6_addColumn 29 = .ok (.bastore, 1) := by decide +kernel
theorem dX6_addColumn_30 : decode cX6_addColumn 30 = .ok (.aload_n 0, 1) := by decide +kernel
theorem dX6_addColumn_31 : decode cX6_addColumn 31 = .ok (.dup, 1) := by decide +kernel
theorem dX6_addColumn_32 : decode cX6_addColumn 32 = .ok (.getfield 84, 3) := by decide +kernel
theorem dX6_addColumn_35 : decode cX6_addColumn 35 = .ok (.iconst 1, 1) := by decide +kernel
theorem dX6_addColumn_36 : decode cX6_addColumn 36 = .ok (.iadd, 1) := by decide +kernel
theorem dX6_addColumn_37 : decode cX6_addColumn 37 = .ok (.putfield 84, 3) := by decide +kernel
theorem dX6_addColumn_40 : decode cX6_addColumn 40 = .ok (.aload_n 0, 1) := by decide +kernel
theorem dX6_addColumn_41 : decode cX6_addColumn 41 = .ok (.getfield 84, 3) := by decide +kernel
theorem dX6_addColumn_44 : decode cX6_addColumn 44 = .ok (.iconst 1, 1) := by decide +kernel
theorem dX6_addColumn_45 : decode cX6_addColumn 45 = .ok (.isub, 1) := by decide +kernel
theorem dX6_addColumn_46 : decode cX6_addColumn 46 = .ok (.ireturn, 1) := by decide +kernel
theorem dX6_setRow_0 : decode cX6_setRow 0 = .ok (.aload_n 0, 1) := by decide +kernel
theorem dX6_setRow_1 : decode cX6_setRow 1 = .ok (.iconst 0, 1) := by decide +kernel
theorem dX6_setRow_2 : decode cX6_setRow 2 = .ok (.putfield 77, 3) := by decide +kernel
theorem dX6_setRow_5 : decode cX6_setRow 5 = .ok (.aload_n 0, 1) := by decide +kernel
theorem dX6_setRow_6 : decode cX6_setRow 6 = .ok (.iload_n 1, 1) := by decide +kernel
theorem dX6_setRow_7 : decode cX6_setRow 7 = .ok (.invokevirtual 87, 3) := by decide +kernel
theorem dX6_setRow_10 : decode cX6_setRow 10 = .ok (.ifCond .ne 9, 3) := by decide +kernel
theorem dX6_setRow_13 : decode cX6_setRow 13 = .ok (.aload_n 0, 1) := by decide +kernel
theorem dX6_setRow_14 : decode cX6_setRow 14 = .ok (.iconst 1, 1) := by decide +kernel
theorem dX6_setRow_15 : decode cX6_setRow 15 = .ok (.invokevirtual 102, 3) := by decide +kernel
theorem dX6_setRow_18 : decode cX6_setRow 18 = .ok (.ireturn, 1) := by decide +kernel
theorem dX6_setRow_19 : decode cX6_setRow 19 = .ok (.aload_n 0, 1) := by decide +kernel
theorem dX6_setRow_20 : decode cX6_setRow 20 = .ok (.getfield 9, 3) := by decide +kernel
theorem dX6_setRow_23 : decode cX6_setRow 23 = .ok (.iload_n 1, 1) := by decide +kernel
theorem dX6_setRow_24 : decode cX6_setRow 24 = .ok (.baload, 1) := by decide +kernel
theorem dX6_setRow_25 : decode cX6_setRow 25 = .ok (.istore_n 3, 1) := by decide +kernel
theorem dX6_setRow_26 : decode cX6_setRow 26 = .ok (.aload_n 0, 1) := by decide +kernel
theorem dX6_setRow_27 : decode cX6_setRow 27 = .ok (.getfield 9, 3) := by decide +kernel
theorem dX6_setRow_30 : decode cX6_setRow 30 = .ok (.iload_n 1, 1) := by decide +kernel
theorem dX6_setRow_31 : decode cX6_setRow 31 = .ok (.iload_n 2, 1) := by decide +kernel
theorem dX6_setRow_32 : decode cX6_setRow 32 = .ok (.bastore, 1) := by decide +kernel
theorem dX6_setRow_33 : decode cX6_setRow 33 = .ok (.iload_n 3, 1) := by decide +kernel
theorem dX6_setRow_34 : decode cX6_setRow 34 = .ok (.ireturn, 1) := by decide +kernel
theorem dX6_setColumn_0 : decode cX6_setColumn 0 = .ok (.aload_n 0, 1) := by decide +kernel
