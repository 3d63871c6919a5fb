theorem dX0_init_0 : decode cX0_init 0 = .ok (.aload_n 0, 1) := by decide +kernel
theorem dX0_init_1 : decode cX0_init 1 = .ok (.invokespecial 3, 3) := by decide +kernel
theorem dX0_init_4 : decode cX0_init 4 = .ok (.aload_n 0, 1) := by decide +kernel
theorem dX0_init_5 : decode cX0_init 5 = .ok (.bipush 30, 2) := by decide +kernel
theorem dX0_init_7 : decode cX0_init 7 = .ok (.newarray .int, 2) := by decide +kernel
theorem dX0_init_9 : decode cX0_init 9 = .ok (.putfield 9, 3) := by decide +kernel
theorem dX0_init_12 : decode cX0_init 12 = .ok (.aload_n 0, 1) := by decide +kernel
theorem dX0_init_13 : decode cX0_init 13 = .ok (.bipush 30, 2) := by decide +kernel
theorem dX0_init_15 : decode cX0_init 15 = .ok (.newarray .long, 2) := by decide +kernel
theorem dX0_init_17 : decode cX0_init 17 = .ok (.putfield 15, 3) := by decide +kernel
theorem dX0_init_20 : decode cX0_init 20 = .ok (.aload_n 0, 1) := by decide +kernel
theorem dX0_init_21 : decode cX0_init 21 = .ok (.bipush 30, 2) := by decide +kernel
theorem dX0_init_23 : decode cX0_init 23 = .ok (.newarray .int, 2) := by decide +kernel
theorem dX0_init_25 : decode cX0_init 25 = .ok (.putfield 19, 3) := by decide +kernel
theorem dX0_init_28 : decode cX0_init 28 = .ok (.aload_n 0, 1) := by decide +kernel
theorem dX0_init_29 : decode cX0_init 29 = .ok (.bipush 30, 2) := by decide +kernel
theorem dX0_init_31 : decode cX0_init 31 = .ok (.newarray .int, 2) := by decide +kernel
theorem dX0_init_33 : decode cX0_init 33 = .ok (.putfield 22, 3) := by decide +kernel
theorem dX0_init_36 : decode cX0_init 36 = .ok (.return_, 1) := by decide +kernel
theorem dX1_init_0 : decode cX1_init 0 = .ok (.aload_n 0, 1) := by decide +kernel
theorem dX1_init_1 : decode cX1_init 1 = .ok (.invokespecial 3, 3) := by decide +kernel
theorem dX1_init_4 : decode cX1_init 4 = .ok (.aload_n 0, 1) := by decide +kernel
theorem dX1_init_5 : decode cX1_init 5 = .ok (.sipush 800, 3) := by decide +kernel
theorem dX1_init_8 : decode cX1_init 8 = .ok (.newarray .int, 2) := by decide +kernel
theorem dX1_init_10 : decode cX1_init 10 = .ok (.putfield 9, 3) := by decide +kernel
theorem dX1_init_13 : decode cX1_init 13 = .ok (.aload_n 0, 1) := by decide +kernel
theorem dX1_init_14 : decode cX1_init 14 = .ok (.bipush 8, 2) := by decide +kernel
theorem dX1_init_16 : decode cX1_init 16 = .ok (.newarray .int, 2) := by decide +kernel
theorem dX1_init_18 : decode cX1_init 18 = .ok (.putfield 15, 3) := by decide +kernel
theorem dX1_init_21 : decode cX1_init 21 = .ok (.aload_n 0, 1) := by decide +kernel
theorem dX1_init_22 : decode cX1_init 22 = .ok (.bipush 8, 2) := by decide +kernel
theorem dX1_init_24 : decode cX1_init 24 = .ok (.newarray .int, 2) := by decide +kernel
theorem dX1_init_26 : decode cX1_init 26 = .ok (.putfield 18, 3) := by decide +kernel
theorem dX1_init_29 : decode cX1_init 29 = .ok (.return_, 1) := by decide +kernel
theorem dX2_init_0 : decode cX2_init 0 = .ok (.aload_n 0, 1) := by decide +kernel
theorem dX2_init_1 : decode cX2_init 1 = .ok (.invokespecial 3, 3) := by decide +kernel
theorem dX2_init_4 : decode cX2_init 4 = .ok (.aload_n 0, 1) := by decide +kernel
theorem dX2_init_5 : decode cX2_init 5 = .ok (.new 9, 3) := by decide +kernel
theorem dX2_init_8 : decode cX2_init 8 = .ok (.dup, 1) := by decide +kernel
theorem dX2_init_9 : decode cX2_init 9 = .ok (.invokespecial 11, 3) := by decide +kernel
theorem dX2_init_12 : decode cX2_init 12 = .ok (.putfield 12, 3) := by decide +kernel
theorem dX2_init_15 : decode cX2_init 15 = .ok (.aload_n 0, 1) := by decide +kernel
theorem dX2_init_16 : decode cX2_init 16 = .ok (.new 9, 3) := by decide +kernel
theorem dX2_init_19 : decode cX2_init 19 = .ok (.dup, 1) := by decide +kernel
theorem dX2_init_20 : decode cX2_init 20 = .ok (.invokespecial 11, 3) := by decide +kernel
theorem dX2_init_23 : decode cX2_init 23 = .ok (.putfield 18, 3) := by decide +kernel
theorem dX2_init_26 : decode cX2_init 26 = .ok (.return_, 1) := by decide +kernel
theorem dX3_init_0 : decode cX3_init 0 = .ok (.aload_n 0, 1) := by decide +kernel
theorem dX3_init_1 : decode cX3_init 1 = .ok (.invokespecial 5, 3) := by decide +kernel
theorem dX3_init_4 : decode cX3_init 4 = .ok (.aload_n 0, 1) := by decide +kernel
theorem dX3_init_5 : decode cX3_init 5 = .ok (.bipush 100, 2) := by decide +kernel
theorem dX3_init_7 : decode cX3_init 7 = .ok (.newarray .int, 2) := by decide +kernel
theorem dX3_init_9 : decode cX3_init 9 = .ok (.putfield 11, 3) := by decide +kernel
theorem dX3_init_12 : decode cX3_init 12 = .ok (.aload_n 0, 1) := by decide +kernel
theorem dX3_init_13 : decode cX3_init 13 = .ok (.bipush 10, 2) := by decide +kernel
theorem dX3_init_15 : decode cX3_init 15 = .ok (.newarray .int, 2) := by decide +kernel
theorem dX3_init_17 : decode cX3_init 17 = .ok (.putfield 15, 3) := by decide +kernel
theorem dX3_init_20 : decode cX3_init 20 = .ok (.aload_n 0, 1) := by decide +kernel
theorem dX3_init_21 : decode cX3_init 21 = .ok (.bipush 11, 2) := by decide +kernel
theorem dX3_init_23 : decode cX3_init 23 = .ok (.sipush 1024, 3) := by decide +kernel
theorem dX3_init_26 : decode cX3_init 26 = .ok (.multianewarray 18 2, 4) := by decide +kernel
theorem dX3_init_30 : decode cX3_init 30 = .ok (.putfield 20, 3) := by decide +kernel
theorem dX3_init_33 : decode cX3_init 33 = .ok (.aload_n 0, 1) := by decide +kernel
theorem dX3_init_34 : decode cX3_init 34 = .ok (.sipush 1024, 3) := by decide +kernel
theorem dX3_init_37 : decode cX3_init 37 = .ok (.newarray .int, 2) := by decide +kernel
theorem dX3_init_39 : decode cX3_init 39 = .ok (.putfield 23, 3) := by decide +kernel
theorem dX3_init_42 : decode cX3_init 42 = .ok (.aload_n 0, 1) := by decide +kernel
theorem dX3_init_43 : decode cX3_init 43 = .ok (.sipush 1024, 3) := by decide +kernel
theorem dX3_init_46 : decode cX3_init 46 = .ok (.newarray .int, 2) := by decide +kernel
theorem dX3_init_48 : decode cX3_init 48 = .ok (.putfield 26, 3) := by decide +kernel
theorem dX3_init_51 : decode cX3_init 51 = .ok (.aload_n 0, 1) := by decide +kernel
theorem dX3_init_52 : decode cX3_init 52 = .ok (.bipush 10, 2) := by decide +kernel
theorem dX3_init_54 : decode cX3_init 54 = .ok (.newarray .int, 2) := by decide +kernel
theorem dX3_init_56 : decode cX3_init 56 = .ok (.putfield 29, 3) := by decide +kernel
theorem dX3_init_59 : decode cX3_init 59 = .ok (.return_, 1) := by decide +kernel
theorem dX3_sizeOf_0 : decode cX3_sizeOf 0 = .ok (.ldc 32, 2) := by decide +kernel
theorem dX3_sizeOf_2 : decode cX3_sizeOf 2 = .ok (.iload_n 0, 1) := by decide +kernel
theorem dX3_sizeOf_3 : decode cX3_sizeOf 3 = .ok (.isub, 1) := by decide +kernel
theorem dX3_sizeOf_4 : decode cX3_sizeOf 4 = .ok (.ldc 33, 2) := by decide +kernel
theorem dX3_sizeOf_6 : decode cX3_sizeOf 6 = .ok (.idiv, 1) := by decide +kernel
theorem dX3_sizeOf_7 : decode cX3_sizeOf 7 = .ok (.ireturn, 1) := by decide +kernel
theorem dX3_costOf_0 : decode cX3_costOf 0 = .ok (.iload_n 0, 1) := by decide +kernel
theorem dX3_costOf_1 : decode cX3_costOf 1 = .ok (.iload_n 0, 1) := by decide +kernel
theorem dX3_costOf_2 : decode cX3_costOf 2 = .ok (.invokestatic 34, 3) := by decide +kernel
theorem dX3_costOf_5 : decode cX3_costOf 5 = .ok (.ldc 33, 2) := by decide +kernel
theorem dX3_costOf_7 : decode cX3_costOf 7 = .ok (.imul, 1) := by decide +kernel
theorem dX3_costOf_8 : decode cX3_costOf 8 = .ok (.iadd, 1) := by decide +kernel
theorem dX3_costOf_9 : decode cX3_costOf 9 = .ok (.ireturn, 1) := by decide +kernel
theorem dX3_solve_0 : decode cX3_solve 0 = .ok (.aload_n 0, 1) := by decide +kernel
theorem dX3_solve_1 : decode cX3_solve 1 = .ok (.aload_n 1, 1) := by decide +kernel
theorem dX3_solve_2 : decode cX3_solve 2 = .ok (.invokevirtual 38, 3) := by decide +kernel
theorem dX3_solve_5 : decode cX3_solve 5 = .ok (.bipush 9, 2) := by decide +kernel
theorem dX3_solve_7 : decode cX3_solve 7 = .ok (.istore_n 2, 1) := by decide +kernel
theorem dX3_solve_8 : decode cX3_solve 8 = .ok (.iload_n 2, 1) := by decide +kernel
theorem dX3_solve_9 : decode cX3_solve 9 = .ok (.ifCond .lt 34, 3) := by decide +kernel
theorem dX3_solve_12 : decode cX3_solve 12 = .ok (.aload_n 0, 1) := by decide +kernel
theorem dX3_solve_13 : decode cX3_solve 13 = .ok (.iload_n 2, 1) := by decide +kernel
theorem dX3_solve_14 : decode cX3_solve 14 = .ok (.aload_n 0, 1) := by decide +kernel
theorem dX3_solve_15 : decode cX3_solve 15 = .ok (.getfield 15, 3) := by decide +kernel
theorem dX3_solve_18 : decode cX3_solve 18 = .ok (.iload_n 2, 1) := by decide +kernel
theorem dX3_solve_19 : decode cX3_solve 19 = .ok (.iaload, 1) := by decide +kernel
theorem dX3_solve_20 : decode cX3_solve 20 = .ok (.aload_n 0, 1) := by decide +kernel
theorem dX3_solve_21 : decode cX3_solve 21 = .ok (.getfield 20, 3) := by decide +kernel
theorem dX3_solve_24 : decode cX3_solve 24 = .ok (.iload_n 2, 1) := by decide +kernel
theorem dX3_solve_25 : decode cX3_solve 25 = .ok (.iconst 1, 1) := by decide +kernel
theorem dX3_solve_26 : decode cX3_solve 26 = .ok (.iadd, 1) := by decide +kernel
theorem dX3_solve_27 : decode cX3_solve 27 = .ok (.aaload, 1) := by decide +kernel
theorem dX3_solve_28 : decode cX3_solve 28 = .ok (.aload_n 0, 1) := by decide +kernel
theorem dX3_solve_29 : decode cX3_solve 29 = .ok (.getfield 20, 3) := by decide +kernel
theorem dX3_solve_32 : decode cX3_solve 32 = .ok (.iload_n 2, 1) := by decide +kernel
theorem dX3_solve_33 : decode cX3_solve 33 = .ok (.aaload, 1) := by decide +kernel
theorem dX3_solve_34 : decode cX3_solve 34 = .ok (.invokevirtual 42, 3) := by decide +kernel
theorem dX3_solve_37 : decode cX3_solve 37 = .ok (.iinc 2 (-1), 3) := by decide +kernel
theorem dX3_solve_40 : decode cX3_solve 40 = .ok (.goto (-32), 3) := by decide +kernel
theorem dX3_solve_43 : decode cX3_solve 43 = .ok (.aload_n 0, 1) := by decide +kernel
theorem dX3_solve_44 : decode cX3_solve 44 = .ok (.aload_n 0, 1) := by decide +kernel
theorem dX3_solve_45 : decode cX3_solve 45 = .ok (.getfield 20, 3) := by decide +kernel
theorem dX3_solve_48 : decode cX3_solve 48 = .ok (.iconst 0, 1) := by decide +kernel
theorem dX3_solve_49 : decode cX3_solve 49 = .ok (.aaload, 1) := by decide +kernel
theorem dX3_solve_50 : decode cX3_solve 50 = .ok (.aload_n 0, 1) := by decide +kernel
theorem dX3_solve_51 : decode cX3_solve 51 = .ok (.getfield 46, 3) := by decide +kernel
theorem dX3_solve_54 : decode cX3_solve 54 = .ok (.iaload, 1) := by decide +kernel
theorem dX3_solve_55 : decode cX3_solve 55 = .ok (.putfield 50, 3) := by decide +kernel
theorem dX3_solve_58 : decode cX3_solve 58 = .ok (.aload_n 0, 1) := by decide +kernel
theorem dX3_solve_59 : decode cX3_solve 59 = .ok (.invokevirtual 53, 3) := by decide +kernel
theorem dX3_solve_62 : decode cX3_solve 62 = .ok (.return_, 1) := by decide +kernel
theorem dX3_read_0 : decode cX3_read 0 = .ok (.aload_n 0, 1) := by decide +kernel
theorem dX3_read_1 : decode cX3_read 1 = .ok (.aload_n 1, 1) := by decide +kernel
theorem dX3_read_2 : decode cX3_read 2 = .ok (.getfield 56, 3) := by decide +kernel
theorem dX3_read_5 : decode cX3_read 5 = .ok (.putfield 46, 3) := by decide +kernel
theorem dX3_read_8 : decode cX3_read 8 = .ok (.iconst 0, 1) := by decide +kernel
theorem dX3_read_9 : decode cX3_read 9 = .ok (.istore_n 2, 1) := by decide +kernel
theorem dX3_read_10 : decode cX3_read 10 = .ok (.iload_n 2, 1) := by decide +kernel
theorem dX3_read_11 : decode cX3_read 11 = .ok (.bipush 10, 2) := by decide +kernel
theorem dX3_read_13 : decode cX3_read 13 = .ok (.if_icmp .ge 54, 3) := by decide +kernel
theorem dX3_read_16 : decode cX3_read 16 = .ok (.aload_n 0, 1) := by decide +kernel
theorem dX3_read_17 : decode cX3_read 17 = .ok (.getfield 15, 3) := by decide +kernel
theorem dX3_read_20 : decode cX3_read 20 = .ok (.iload_n 2, 1) := by decide +kernel
theorem dX3_read_21 : decode cX3_read 21 = .ok (.aload_n 1, 1) := by decide +kernel
theorem dX3_read_22 : decode cX3_read 22 = .ok (.iload_n 2, 1) := by decide +kernel
theorem dX3_read_23 : decode cX3_read 23 = .ok (.invokevirtual 61, 3) := by decide +kernel
theorem dX3_read_26 : decode cX3_read 26 = .ok (.iastore, 1) := by decide +kernel
theorem dX3_read_27 : decode cX3_read 27 = .ok (.iconst 0, 1) := by decide +kernel
theorem dX3_read_28 : decode cX3_read 28 = .ok (.istore_n 3, 1) := by decide +kernel
theorem dX3_read_29 : decode cX3_read 29 = .ok (.iload_n 3, 1) := by decide +kernel
theorem dX3_read_30 : decode cX3_read 30 = .ok (.bipush 10, 2) := by decide +kernel
theorem dX3_read_32 : decode cX3_read 32 = .ok (.if_icmp .ge 29, 3) := by decide +kernel
theorem dX3_read_35 : decode cX3_read 35 = .ok (.aload_n 0, 1) := by decide +kernel
theorem dX3_read_36 : decode cX3_read 36 = .ok (.getfield 11, 3) := by decide +kernel
theorem dX3_read_39 : decode cX3_read 39 = .ok (.iload_n 2, 1) := by decide +kernel
theorem dX3_read_40 : decode cX3_read 40 = .ok (.bipush 10, 2) := by decide +kernel
theorem dX3_read_42 : decode cX3_read 42 = .ok (.imul, 1) := by decide +kernel
theorem dX3_read_43 : decode cX3_read 43 = .ok (.iload_n 3, 1) := by decide +kernel
theorem dX3_read_44 : decode cX3_read 44 = .ok (.iadd, 1) := by decide +kernel
theorem dX3_read_45 : decode cX3_read 45 = .ok (.aload_n 1, 1) := by decide +kernel
theorem dX3_read_46 : decode cX3_read 46 = .ok (.iload_n 2, 1) := by decide +kernel
theorem dX3_read_47 : decode cX3_read 47 = .ok (.iload_n 3, 1) := by decide +kernel
theorem dX3_read_48 : decode cX3_read 48 = .ok (.invokevirtual 64, 3) := by decide +kernel
theorem dX3_read_51 : decode cX3_read 51 = .ok (.ldc 33, 2) := by decide +kernel
theorem dX3_read_53 : decode cX3_read 53 = .ok (.isub, 1) := by decide +kernel
theorem dX3_read_54 : decode cX3_read 54 = .ok (.iastore, 1) := by decide +kernel
theorem dX3_read_55 : decode cX3_read 55 = .ok (.iinc 3 1, 3) := by decide +kernel
theorem dX3_read_58 : decode cX3_read 58 = .ok (.goto (-29), 3) := by decide +kernel
theorem dX3_read_61 : decode cX3_read 61 = .ok (.iinc 2 1, 3) := by decide +kernel
theorem dX3_read_64 : decode cX3_read 64 = .ok (.goto (-54), 3) := by decide +kernel
theorem dX3_read_67 : decode cX3_read 67 = .ok (.return_, 1) := by decide +kernel
theorem dX3_fillRow_0 : decode cX3_fillRow 0 = .ok (.aload_n 0, 1) := by decide +kernel
theorem dX3_fillRow_1 : decode cX3_fillRow 1 = .ok (.getfield 46, 3) := by decide +kernel
theorem dX3_fillRow_4 : decode cX3_fillRow 4 = .ok (.istore 5, 2) := by decide +kernel
theorem dX3_fillRow_6 : decode cX3_fillRow 6 = .ok (.iload 5, 2) := by decide +kernel
theorem dX3_fillRow_8 : decode cX3_fillRow 8 = .ok (.ifCond .lt 36, 3) := by decide +kernel
theorem dX3_fillRow_11 : decode cX3_fillRow 11 = .ok (.aload_n 0, 1) := by decide +kernel
theorem dX3_fillRow_12 : decode cX3_fillRow 12 = .ok (.iload 5, 2) := by decide +kernel
theorem dX3_fillRow_14 : decode cX3_fillRow 14 = .ok (.iload_n 1, 1) := by decide +kernel
theorem dX3_fillRow_15 : decode cX3_fillRow 15 = .ok (.invokevirtual 68, 3) := by decide +kernel
theorem dX3_fillRow_18 : decode cX3_fillRow 18 = .ok (.ifCond .eq 20, 3) := by decide +kernel
theorem dX3_fillRow_21 : decode cX3_fillRow 21 = .ok (.aload 4, 2) := by decide +kernel
theorem dX3_fillRow_23 : decode cX3_fillRow 23 = .ok (.iload 5, 2) := by decide +kernel
theorem dX3_fillRow_25 : decode cX3_fillRow 25 = .ok (.aload_n 0, 1) := by decide +kernel
theorem dX3_fillRow_26 : decode cX3_fillRow 26 = .ok (.iload_n 1, 1) := by decide +kernel
theorem dX3_fillRow_27 : decode cX3_fillRow 27 = .ok (.iload_n 2, 1) := by decide +kernel
theorem dX3_fillRow_28 : decode cX3_fillRow 28 = .ok (.iload 5, 2) := by decide +kernel
theorem dX3_fillRow_30 : decode cX3_fillRow 30 = .ok (.iand, 1) := by decide +kernel
theorem dX3_fillRow_31 : decode cX3_fillRow 31 = .ok (.aload_n 3, 1) := by decide +kernel
theorem dX3_fillRow_32 : decode cX3_fillRow 32 = .ok (.iload 5, 2) := by decide +kernel
theorem dX3_fillRow_34 : decode cX3_fillRow 34 = .ok (.invokevirtual 72, 3) := by decide +kernel
theorem dX3_fillRow_37 : decode cX3_fillRow 37 = .ok (.iastore, 1) := by decide +kernel
theorem dX3_fillRow_38 : decode cX3_fillRow 38 = .ok (.iinc 5 (-1), 3) := by decide +kernel
theorem dX3_fillRow_41 : decode cX3_fillRow 41 = .ok (.goto (-35), 3) := by decide +kernel
theorem dX3_fillRow_44 : decode cX3_fillRow 44 = .ok (.return_, 1) := by decide +kernel
theorem dX3_canBeLeft_0 : decode cX3_canBeLeft 0 = .ok (.iload_n 1, 1) := by decide +kernel
theorem dX3_canBeLeft_1 : decode cX3_canBeLeft 1 = .ok (.aload_n 0, 1) := by decide +kernel
theorem dX3_canBeLeft_2 : decode cX3_canBeLeft 2 = .ok (.getfield 46, 3) := by decide +kernel
theorem dX3_canBeLeft_5 : decode cX3_canBeLeft 5 = .ok (.iconst (-1), 1) := by decide +kernel
theorem dX3_canBeLeft_6 : decode cX3_canBeLeft 6 = .ok (.ixor, 1) := by decide +kernel
theorem dX3_canBeLeft_7 : decode cX3_canBeLeft 7 = .ok (.iand, 1) := by decide +kernel
theorem dX3_canBeLeft_8 : decode cX3_canBeLeft 8 = .ok (.ifCond .ne 22, 3) := by decide +kernel
theorem dX3_canBeLeft_11 : decode cX3_canBeLeft 11 = .ok (.aload_n 0, 1) := by decide +kernel
theorem dX3_canBeLeft_12 : decode cX3_canBeLeft 12 = .ok (.getfield 46, 3) := by decide +kernel
theorem dX3_canBeLeft_15 : decode cX3_canBeLeft 15 = .ok (.iload_n 1, 1) := by decide +kernel
theorem dX3_canBeLeft_16 : decode cX3_canBeLeft 16 = .ok (.iconst (-1), 1) := by decide +kernel
theorem dX3_canBeLeft_17 : decode cX3_canBeLeft 17 = .ok (.ixor, 1) := by decide +kernel
theorem dX3_canBeLeft_18 : decode cX3_canBeLeft 18 = .ok (.iand, 1) := by decide +kernel
theorem dX3_canBeLeft_19 : decode cX3_canBeLeft 19 = .ok (.invokestatic 76, 3) := by decide +kernel
theorem dX3_canBeLeft_22 : decode cX3_canBeLeft 22 = .ok (.iload_n 2, 1) := by decide +kernel
theorem dX3_canBeLeft_23 : decode cX3_canBeLeft 23 = .ok (.if_icmp .gt 7, 3) := by decide +kernel
theorem dX3_canBeLeft_26 : decode cX3_canBeLeft 26 = .ok (.iconst 1, 1) := by decide +kernel
theorem dX3_canBeLeft_27 : decode cX3_canBeLeft 27 = .ok (.goto 4, 3) := by decide +kernel
theorem dX3_canBeLeft_30 : decode cX3_canBeLeft 30 = .ok (.iconst 0, 1) := by decide +kernel
theorem dX3_canBeLeft_31 : decode cX3_canBeLeft 31 = .ok (.ireturn, 1) := by decide +kernel
theorem dX3_leastFrom_0 : decode cX3_leastFrom 0 = .ok (.aload_n 3, 1) := by decide +kernel
theorem dX3_leastFrom_1 : decode cX3_leastFrom 1 = .ok (.iload 4, 2) := by decide +kernel
theorem dX3_leastFrom_3 : decode cX3_leastFrom 3 = .ok (.iaload, 1) := by decide +kernel
theorem dX3_leastFrom_4 : decode cX3_leastFrom 4 = .ok (.istore 5, 2) := by decide +kernel
theorem dX3_leastFrom_6 : decode cX3_leastFrom 6 = .ok (.iconst 0, 1) := by decide +kernel
theorem dX3_leastFrom_7 : decode cX3_leastFrom 7 = .ok (.istore 6, 2) := by decide +kernel
theorem dX3_leastFrom_9 : decode cX3_leastFrom 9 = .ok (.iload 6, 2) := by decide +kernel
theorem dX3_leastFrom_11 : decode cX3_leastFrom 11 = .ok (.bipush 10, 2) := by decide +kernel
theorem dX3_leastFrom_13 : decode cX3_leastFrom 13 = .ok (.if_icmp .ge 52, 3) := by decide +kernel
theorem dX3_leastFrom_16 : decode cX3_leastFrom 16 = .ok (.iload_n 2, 1) := by decide +kernel
theorem dX3_leastFrom_17 : decode cX3_leastFrom 17 = .ok (.iload 6, 2) := by decide +kernel
theorem dX3_leastFrom_19 : decode cX3_leastFrom 19 = .ok (.invokestatic 81, 3) := by decide +kernel
theorem dX3_leastFrom_22 : decode cX3_leastFrom 22 = .ok (.ifCond .eq 37, 3) := by decide +kernel
theorem dX3_leastFrom_25 : decode cX3_leastFrom 25 = .ok (.aload_n 3, 1) := by decide +kernel
theorem dX3_leastFrom_26 : decode cX3_leastFrom 26 = .ok (.iload 4, 2) := by decide +kernel
theorem dX3_leastFrom_28 : decode cX3_leastFrom 28 = .ok (.iload 6, 2) := by decide +kernel
theorem dX3_leastFrom_30 : decode cX3_leastFrom 30 = .ok (.iconst 0, 1) := by decide +kernel
theorem dX3_leastFrom_31 : decode cX3_leastFrom 31 = .ok (.invokestatic 84, 3) := by decide +kernel
theorem dX3_leastFrom_34 : decode cX3_leastFrom 34 = .ok (.iaload, 1) := by decide +kernel
theorem dX3_leastFrom_35 : decode cX3_leastFrom 35 = .ok (.istore 7, 2) := by decide +kernel
theorem dX3_leastFrom_37 : decode cX3_leastFrom 37 = .ok (.iload 5, 2) := by decide +kernel
theorem dX3_leastFrom_39 : decode cX3_leastFrom 39 = .ok (.aload_n 0, 1) := by decide +kernel
theorem dX3_leastFrom_40 : decode cX3_leastFrom 40 = .ok (.getfield 11, 3) := by decide +kernel
theorem dX3_leastFrom_43 : decode cX3_leastFrom 43 = .ok (.iload_n 1, 1) := by decide +kernel
theorem dX3_leastFrom_44 : decode cX3_leastFrom 44 = .ok (.bipush 10, 2) := by decide +kernel
theorem dX3_leastFrom_46 : decode cX3_leastFrom 46 = .ok (.imul, 1) := by decide +kernel
theorem dX3_leastFrom_47 : decode cX3_leastFrom 47 = .ok (.iload 6, 2) := by decide +kernel
theorem dX3_leastFrom_49 : decode cX3_leastFrom 49 = .ok (.iadd, 1) := by decide +kernel
theorem dX3_leastFrom_50 : decode cX3_leastFrom 50 = .ok (.iaload, 1) := by decide +kernel
theorem dX3_leastFrom_51 : decode cX3_leastFrom 51 = .ok (.iload 7, 2) := by decide +kernel
theorem dX3_leastFrom_53 : decode cX3_leastFrom 53 = .ok (.iadd, 1) := by decide +kernel
theorem dX3_leastFrom_54 : decode cX3_leastFrom 54 = .ok (.invokestatic 88, 3) := by decide +kernel
theorem dX3_leastFrom_57 : decode cX3_leastFrom 57 = .ok (.istore 5, 2) := by decide +kernel
theorem dX3_leastFrom_59 : decode cX3_leastFrom 59 = .ok (.iinc 6 1, 3) := by decide +kernel
theorem dX3_leastFrom_62 : decode cX3_leastFrom 62 = .ok (.goto (-53), 3) := by decide +kernel
theorem dX3_leastFrom_65 : decode cX3_leastFrom 65 = .ok (.iload 5, 2) := by decide +kernel
theorem dX3_leastFrom_67 : decode cX3_leastFrom 67 = .ok (.ireturn, 1) := by decide +kernel
theorem dX3_keepFirst_0 : decode cX3_keepFirst 0 = .ok (.aload_n 0, 1) := by decide +kernel
theorem dX3_keepFirst_1 : decode cX3_keepFirst 1 = .ok (.getfield 46, 3) := by decide +kernel
theorem dX3_keepFirst_4 : decode cX3_keepFirst 4 = .ok (.istore_n 1, 1) := by decide +kernel
theorem dX3_keepFirst_5 : decode cX3_keepFirst 5 = .ok (.iconst 0, 1) := by decide +kernel
theorem dX3_keepFirst_6 : decode cX3_keepFirst 6 = .ok (.istore_n 2, 1) := by decide +kernel
theorem dX3_keepFirst_7 : decode cX3_keepFirst 7 = .ok (.iload_n 2, 1) := by decide +kernel
theorem dX3_keepFirst_8 : decode cX3_keepFirst 8 = .ok (.bipush 10, 2) := by decide +kernel
theorem dX3_keepFirst_10 : decode cX3_keepFirst 10 = .ok (.if_icmp .ge 35, 3) := by decide +kernel
theorem dX3_keepFirst_13 : decode cX3_keepFirst 13 = .ok (.aload_n 0, 1) := by decide +kernel
theorem dX3_keepFirst_14 : decode cX3_keepFirst 14 = .ok (.iload_n 2, 1) := by decide +kernel
theorem dX3_keepFirst_15 : decode cX3_keepFirst 15 = .ok (.iload_n 1, 1) := by decide +kernel
theorem dX3_keepFirst_16 : decode cX3_keepFirst 16 = .ok (.invokevirtual 93, 3) := by decide +kernel
theorem dX3_keepFirst_19 : decode cX3_keepFirst 19 = .ok (.istore_n 3, 1) := by decide +kernel
theorem dX3_keepFirst_20 : decode cX3_keepFirst 20 = .ok (.aload_n 0, 1) := by decide +kernel
theorem dX3_keepFirst_21 : decode cX3_keepFirst 21 = .ok (.getfield 29, 3) := by decide +kernel
theorem dX3_keepFirst_24 : decode cX3_keepFirst 24 = .ok (.iload_n 2, 1) := by decide +kernel
theorem dX3_keepFirst_25 : decode cX3_keepFirst 25 = .ok (.iload_n 3, 1) := by decide +kernel
theorem dX3_keepFirst_26 : decode cX3_keepFirst 26 = .ok (.iastore, 1) := by decide +kernel
theorem dX3_keepFirst_27 : decode cX3_keepFirst 27 = .ok (.iload_n 3, 1) := by decide +kernel
theorem dX3_keepFirst_28 : decode cX3_keepFirst 28 = .ok (.iconst (-1), 1) := by decide +kernel
theorem dX3_keepFirst_29 : decode cX3_keepFirst 29 = .ok (.if_icmp .eq 10, 3) := by decide +kernel
theorem dX3_keepFirst_32 : decode cX3_keepFirst 32 = .ok (.iload_n 1, 1) := by decide +kernel
theorem dX3_keepFirst_33 : decode cX3_keepFirst 33 = .ok (.iload_n 3, 1) := by decide +kernel
theorem dX3_keepFirst_34 : decode cX3_keepFirst 34 = .ok (.iconst 0, 1) := by decide +kernel
theorem dX3_keepFirst_35 : decode cX3_keepFirst 35 = .ok (.invokestatic 84, 3) := by decide +kernel
theorem dX3_keepFirst_38 : decode cX3_keepFirst 38 = .ok (.istore_n 1, 1) := by decide +kernel
theorem dX3_keepFirst_39 : decode cX3_keepFirst 39 = .ok (.iinc 2 1, 3) := by decide +kernel
theorem dX3_keepFirst_42 : decode cX3_keepFirst 42 = .ok (.goto (-35), 3) := by decide +kernel
theorem dX3_keepFirst_45 : decode cX3_keepFirst 45 = .ok (.return_, 1) := by decide +kernel
theorem dX3_firstOptimal_0 : decode cX3_firstOptimal 0 = .ok (.iconst 0, 1) := by decide +kernel
theorem dX3_firstOptimal_1 : decode cX3_firstOptimal 1 = .ok (.istore_n 3, 1) := by decide +kernel
theorem dX3_firstOptimal_2 : decode cX3_firstOptimal 2 = .ok (.iload_n 3, 1) := by decide +kernel
theorem dX3_firstOptimal_3 : decode cX3_firstOptimal 3 = .ok (.bipush 10, 2) := by decide +kernel
theorem dX3_firstOptimal_5 : decode cX3_firstOptimal 5 = .ok (.if_icmp .ge 21, 3) := by decide +kernel
theorem dX3_firstOptimal_8 : decode cX3_firstOptimal 8 = .ok (.aload_n 0, 1) := by decide +kernel
theorem dX3_firstOptimal_9 : decode cX3_firstOptimal 9 = .ok (.iload_n 1, 1) := by decide +kernel
theorem dX3_firstOptimal_10 : decode cX3_firstOptimal 10 = .ok (.iload_n 3, 1) := by decide +kernel
theorem dX3_firstOptimal_11 : decode cX3_firstOptimal 11 = .ok (.iload_n 2, 1) := by decide +kernel
theorem dX3_firstOptimal_12 : decode cX3_firstOptimal 12 = .ok (.invokevirtual 96, 3) := by decide +kernel
theorem dX3_firstOptimal_15 : decode cX3_firstOptimal 15 = .ok (.ifCond .eq 5, 3) := by decide +kernel
theorem dX3_firstOptimal_18 : decode cX3_firstOptimal 18 = .ok (.iload_n 3, 1) := by decide +kernel
theorem dX3_firstOptimal_19 : decode cX3_firstOptimal 19 = .ok (.ireturn, 1) := by decide +kernel
theorem dX3_firstOptimal_20 : decode cX3_firstOptimal 20 = .ok (.iinc 3 1, 3) := by decide +kernel
theorem dX3_firstOptimal_23 : decode cX3_firstOptimal 23 = .ok (.goto (-21), 3) := by decide +kernel
theorem dX3_firstOptimal_26 : decode cX3_firstOptimal 26 = .ok (.iconst (-1), 1) := by decide +kernel
theorem dX3_firstOptimal_27 : decode cX3_firstOptimal 27 = .ok (.ireturn, 1) := by decide +kernel
theorem dX3_isOptimal_0 : decode cX3_isOptimal 0 = .ok (.aload_n 0, 1) := by decide +kernel
theorem dX3_isOptimal_1 : decode cX3_isOptimal 1 = .ok (.getfield 15, 3) := by decide +kernel
theorem dX3_isOptimal_4 : decode cX3_isOptimal 4 = .ok (.iload_n 1, 1) := by decide +kernel
theorem dX3_isOptimal_5 : decode cX3_isOptimal 5 = .ok (.iaload, 1) := by decide +kernel
theorem dX3_isOptimal_6 : decode cX3_isOptimal 6 = .ok (.iload_n 3, 1) := by decide +kernel
theorem dX3_isOptimal_7 : decode cX3_isOptimal 7 = .ok (.iand, 1) := by decide +kernel
theorem dX3_isOptimal_8 : decode cX3_isOptimal 8 = .ok (.iload_n 2, 1) := by decide +kernel
theorem dX3_isOptimal_9 : decode cX3_isOptimal 9 = .ok (.invokestatic 81, 3) := by decide +kernel
theorem dX3_isOptimal_12 : decode cX3_isOptimal 12 = .ok (.ifCond .ne 5, 3) := by decide +kernel
theorem dX3_isOptimal_15 : decode cX3_isOptimal 15 = .ok (.iconst 0, 1) := by decide +kernel
theorem dX3_isOptimal_16 : decode cX3_isOptimal 16 = .ok (.ireturn, 1) := by decide +kernel
theorem dX3_isOptimal_17 : decode cX3_isOptimal 17 = .ok (.aload_n 0, 1) := by decide +kernel
theorem dX3_isOptimal_18 : decode cX3_isOptimal 18 = .ok (.getfield 20, 3) := by decide +kernel
theorem dX3_isOptimal_21 : decode cX3_isOptimal 21 = .ok (.iload_n 1, 1) := by decide +kernel
theorem dX3_isOptimal_22 : decode cX3_isOptimal 22 = .ok (.iconst 1, 1) := by decide +kernel
theorem dX3_isOptimal_23 : decode cX3_isOptimal 23 = .ok (.iadd, 1) := by decide +kernel
theorem dX3_isOptimal_24 : decode cX3_isOptimal 24 = .ok (.aaload, 1) := by decide +kernel
theorem dX3_isOptimal_25 : decode cX3_isOptimal 25 = .ok (.iload_n 3, 1) := by decide +kernel
theorem dX3_isOptimal_26 : decode cX3_isOptimal 26 = .ok (.iload_n 2, 1) := by decide +kernel
theorem dX3_isOptimal_27 : decode cX3_isOptimal 27 = .ok (.iconst 0, 1) := by decide +kernel
theorem dX3_isOptimal_28 : decode cX3_isOptimal 28 = .ok (.invokestatic 84, 3) := by decide +kernel
theorem dX3_isOptimal_31 : decode cX3_isOptimal 31 = .ok (.iaload, 1) := by decide +kernel
theorem dX3_isOptimal_32 : decode cX3_isOptimal 32 = .ok (.istore 4, 2) := by decide +kernel
theorem dX3_isOptimal_34 : decode cX3_isOptimal 34 = .ok (.aload_n 0, 1) := by decide +kernel
theorem dX3_isOptimal_35 : decode cX3_isOptimal 35 = .ok (.getfield 11, 3) := by decide +kernel
theorem dX3_isOptimal_38 : decode cX3_isOptimal 38 = .ok (.iload_n 1, 1) := by decide +kernel
theorem dX3_isOptimal_39 : decode cX3_isOptimal 39 = .ok (.bipush 10, 2) := by decide +kernel
theorem dX3_isOptimal_41 : decode cX3_isOptimal 41 = .ok (.imul, 1) := by decide +kernel
theorem dX3_isOptimal_42 : decode cX3_isOptimal 42 = .ok (.iload_n 2, 1) := by decide +kernel
theorem dX3_isOptimal_43 : decode cX3_isOptimal 43 = .ok (.iadd, 1) := by decide +kernel
theorem dX3_isOptimal_44 : decode cX3_isOptimal 44 = .ok (.iaload, 1) := by decide +kernel
theorem dX3_isOptimal_45 : decode cX3_isOptimal 45 = .ok (.iload 4, 2) := by decide +kernel
theorem dX3_isOptimal_47 : decode cX3_isOptimal 47 = .ok (.iadd, 1) := by decide +kernel
theorem dX3_isOptimal_48 : decode cX3_isOptimal 48 = .ok (.aload_n 0, 1) := by decide +kernel
theorem dX3_isOptimal_49 : decode cX3_isOptimal 49 = .ok (.getfield 20, 3) := by decide +kernel
theorem dX3_isOptimal_52 : decode cX3_isOptimal 52 = .ok (.iload_n 1, 1) := by decide +kernel
theorem dX3_isOptimal_53 : decode cX3_isOptimal 53 = .ok (.aaload, 1) := by decide +kernel
theorem dX3_isOptimal_54 : decode cX3_isOptimal 54 = .ok (.iload_n 3, 1) := by decide +kernel
theorem dX3_isOptimal_55 : decode cX3_isOptimal 55 = .ok (.iaload, 1) := by decide +kernel
theorem dX3_isOptimal_56 : decode cX3_isOptimal 56 = .ok (.if_icmp .ne 7, 3) := by decide +kernel
theorem dX3_isOptimal_59 : decode cX3_isOptimal 59 = .ok (.iconst 1, 1) := by decide +kernel
theorem dX3_isOptimal_60 : decode cX3_isOptimal 60 = .ok (.goto 4, 3) := by decide +kernel
theorem dX3_isOptimal_63 : decode cX3_isOptimal 63 = .ok (.iconst 0, 1) := by decide +kernel
theorem dX3_isOptimal_64 : decode cX3_isOptimal 64 = .ok (.ireturn, 1) := by decide +kernel
theorem dX4_init_0 : decode cX4_init 0 = .ok (.aload_n 0, 1) := by decide +kernel
theorem dX4_init_1 : decode cX4_init 1 = .ok (.invokespecial 3, 3) := by decide +kernel
theorem dX4_init_4 : decode cX4_init 4 = .ok (.aload_n 0, 1) := by decide +kernel
theorem dX4_init_5 : decode cX4_init 5 = .ok (.bipush 100, 2) := by decide +kernel
theorem dX4_init_7 : decode cX4_init 7 = .ok (.newarray .int, 2) := by decide +kernel
theorem dX4_init_9 : decode cX4_init 9 = .ok (.putfield 9, 3) := by decide +kernel
theorem dX4_init_12 : decode cX4_init 12 = .ok (.aload_n 0, 1) := by decide +kernel
theorem dX4_init_13 : decode cX4_init 13 = .ok (.getfield 9, 3) := by decide +kernel
theorem dX4_init_16 : decode cX4_init 16 = .ok (.sipush 20000, 3) := by decide +kernel
theorem dX4_init_19 : decode cX4_init 19 = .ok (.invokestatic 15, 3) := by decide +kernel
theorem dX4_init_22 : decode cX4_init 22 = .ok (.return_, 1) := by decide +kernel
theorem dX4_appendRow_0 : decode cX4_appendRow 0 = .ok (.aload_n 0, 1) := by decide +kernel
theorem dX4_appendRow_1 : decode cX4_appendRow 1 = .ok (.aload_n 0, 1) := by decide +kernel
theorem dX4_appendRow_2 : decode cX4_appendRow 2 = .ok (.getfield 21, 3) := by decide +kernel
theorem dX4_appendRow_5 : decode cX4_appendRow 5 = .ok (.aload_n 0, 1) := by decide +kernel
theorem dX4_appendRow_6 : decode cX4_appendRow 6 = .ok (.getfield 25, 3) := by decide +kernel
theorem dX4_appendRow_9 : decode cX4_appendRow 9 = .ok (.iconst 1, 1) := by decide +kernel
theorem dX4_appendRow_10 : decode cX4_appendRow 10 = .ok (.invokestatic 28, 3) := by decide +kernel
theorem dX4_appendRow_13 : decode cX4_appendRow 13 = .ok (.putfield 21, 3) := by decide +kernel
theorem dX4_appendRow_16 : decode cX4_appendRow 16 = .ok (.aload_n 0, 1) := by decide +kernel
theorem dX4_appendRow_17 : decode cX4_appendRow 17 = .ok (.dup, 1) := by decide +kernel
theorem dX4_appendRow_18 : decode cX4_appendRow 18 = .ok (.getfield 25, 3) := by decide +kernel
theorem dX4_appendRow_21 : decode cX4_appendRow 21 = .ok (.iconst 1, 1) := by decide +kernel
theorem dX4_appendRow_22 : decode cX4_appendRow 22 = .ok (.iadd, 1) := by decide +kernel
theorem dX4_appendRow_23 : decode cX4_appendRow 23 = .ok (.putfield 25, 3) := by decide +kernel
theorem dX4_appendRow_26 : decode cX4_appendRow 26 = .ok (.aload_n 0, 1) := by decide +kernel
theorem dX4_appendRow_27 : decode cX4_appendRow 27 = .ok (.getfield 25, 3) := by decide +kernel
theorem dX4_appendRow_30 : decode cX4_appendRow 30 = .ok (.iconst 1, 1) := by decide +kernel
theorem dX4_appendRow_31 : decode cX4_appendRow 31 = .ok (.isub, 1) := by decide +kernel
theorem dX4_appendRow_32 : decode cX4_appendRow 32 = .ok (.ireturn, 1) := by decide +kernel
theorem dX4_appendColumn_0 : decode cX4_appendColumn 0 = .ok (.aload_n 0, 1) := by decide +kernel
theorem dX4_appendColumn_1 : decode cX4_appendColumn 1 = .ok (.aload_n 0, 1) := by decide +kernel
theorem dX4_appendColumn_2 : decode cX4_appendColumn 2 = .ok (.getfield 32, 3) := by decide +kernel
theorem dX4_appendColumn_5 : decode cX4_appendColumn 5 = .ok (.aload_n 0, 1) := by decide +kernel
theorem dX4_appendColumn_6 : decode cX4_appendColumn 6 = .ok (.getfield 35, 3) := by decide +kernel
theorem dX4_appendColumn_9 : decode cX4_appendColumn 9 = .ok (.iconst 1, 1) := by decide +kernel
theorem dX4_appendColumn_10 : decode cX4_appendColumn 10 = .ok (.invokestatic 28, 3) := by decide +kernel
theorem dX4_appendColumn_13 : decode cX4_appendColumn 13 = .ok (.putfield 32, 3) := by decide +kernel
theorem dX4_appendColumn_16 : decode cX4_appendColumn 16 = .ok (.aload_n 0, 1) := by decide +kernel
theorem dX4_appendColumn_17 : decode cX4_appendColumn 17 = .ok (.dup, 1) := by decide +kernel
theorem dX4_appendColumn_18 : decode cX4_appendColumn 18 = .ok (.getfield 35, 3) := by decide +kernel
theorem dX4_appendColumn_21 : decode cX4_appendColumn 21 = .ok (.iconst 1, 1) := by decide +kernel
theorem dX4_appendColumn_22 : decode cX4_appendColumn 22 = .ok (.iadd, 1) := by decide +kernel
theorem dX4_appendColumn_23 : decode cX4_appendColumn 23 = .ok (.putfield 35, 3) := by decide +kernel
theorem dX4_appendColumn_26 : decode cX4_appendColumn 26 = .ok (.aload_n 0, 1) := by decide +kernel
theorem dX4_appendColumn_27 : decode cX4_appendColumn 27 = .ok (.getfield 35, 3) := by decide +kernel
theorem dX4_appendColumn_30 : decode cX4_appendColumn 30 = .ok (.iconst 1, 1) := by decide +kernel
theorem dX4_appendColumn_31 : decode cX4_appendColumn 31 = .ok (.isub, 1) := by decide +kernel
theorem dX4_appendColumn_32 : decode cX4_appendColumn 32 = .ok (.ireturn, 1) := by decide +kernel
theorem dX4_cell_0 : decode cX4_cell 0 = .ok (.aload_n 0, 1) := by decide +kernel
theorem dX4_cell_1 : decode cX4_cell 1 = .ok (.getfield 9, 3) := by decide +kernel
theorem dX4_cell_4 : decode cX4_cell 4 = .ok (.iload_n 1, 1) := by decide +kernel
theorem dX4_cell_5 : decode cX4_cell 5 = .ok (.bipush 10, 2) := by decide +kernel
theorem dX4_cell_7 : decode cX4_cell 7 = .ok (.imul, 1) := by decide +kernel
theorem dX4_cell_8 : decode cX4_cell 8 = .ok (.iload_n 2, 1) := by decide +kernel
theorem dX4_cell_9 : decode cX4_cell 9 = .ok (.iadd, 1) := by decide +kernel
theorem dX4_cell_10 : decode cX4_cell 10 = .ok (.iaload, 1) := by decide +kernel
theorem dX4_cell_11 : decode cX4_cell 11 = .ok (.ireturn, 1) := by decide +kernel
theorem dX4_isUsable_0 : decode cX4_isUsable 0 = .ok (.aload_n 0, 1) := by decide +kernel
theorem dX4_isUsable_1 : decode cX4_isUsable 1 = .ok (.getfield 21, 3) := by decide +kernel
theorem dX4_isUsable_4 : decode cX4_isUsable 4 = .ok (.iload_n 1, 1) := by decide +kernel
theorem dX4_isUsable_5 : decode cX4_isUsable 5 = .ok (.invokestatic 38, 3) := by decide +kernel
theorem dX4_isUsable_8 : decode cX4_isUsable 8 = .ok (.ifCond .eq 30, 3) := by decide +kernel
theorem dX4_isUsable_11 : decode cX4_isUsable 11 = .ok (.aload_n 0, 1) := by decide +kernel
theorem dX4_isUsable_12 : decode cX4_isUsable 12 = .ok (.getfield 32, 3) := by decide +kernel
theorem dX4_isUsable_15 : decode cX4_isUsable 15 = .ok (.iload_n 2, 1) := by decide +kernel
theorem dX4_isUsable_16 : decode cX4_isUsable 16 = .ok (.invokestatic 38, 3) := by decide +kernel
theorem dX4_isUsable_19 : decode cX4_isUsable 19 = .ok (.ifCond .eq 19, 3) := by decide +kernel
theorem dX4_isUsable_22 : decode cX4_isUsable 22 = .ok (.aload_n 0, 1) := by decide +kernel
theorem dX4_isUsable_23 : decode cX4_isUsable 23 = .ok (.iload_n 1, 1) := by decide +kernel
theorem dX4_isUsable_24 : decode cX4_isUsable 24 = .ok (.iload_n 2, 1) := by decide +kernel
theorem dX4_isUsable_25 : decode cX4_isUsable 25 = .ok (.invokevirtual 42, 3) := by decide +kernel
theorem dX4_isUsable_28 : decode cX4_isUsable 28 = .ok (.sipush 20000, 3) := by decide +kernel
theorem dX4_isUsable_31 : decode cX4_isUsable 31 = .ok (.if_icmp .eq 7, 3) := by decide +kernel
theorem dX4_isUsable_34 : decode cX4_isUsable 34 = .ok (.iconst 1, 1) := by decide +kernel
theorem dX4_isUsable_35 : decode cX4_isUsable 35 = .ok (.goto 4, 3) := by decide +kernel
theorem dX4_isUsable_38 : decode cX4_isUsable 38 = .ok (.iconst 0, 1) := by decide +kernel
theorem dX4_isUsable_39 : decode cX4_isUsable 39 = .ok (.ireturn, 1) := by decide +kernel
theorem dX4_usableColumns_0 : decode cX4_usableColumns 0 = .ok (.iconst 0, 1) := by decide +kernel
theorem dX4_usableColumns_1 : decode cX4_usableColumns 1 = .ok (.istore_n 2, 1) := by decide +kernel
theorem dX4_usableColumns_2 : decode cX4_usableColumns 2 = .ok (.iconst 0, 1) := by decide +kernel
theorem dX4_usableColumns_3 : decode cX4_usableColumns 3 = .ok (.istore_n 3, 1) := by decide +kernel
theorem dX4_usableColumns_4 : decode cX4_usableColumns 4 = .ok (.iload_n 3, 1) := by decide +kernel
theorem dX4_usableColumns_5 : decode cX4_usableColumns 5 = .ok (.bipush 10, 2) := by decide +kernel
theorem dX4_usableColumns_7 : decode cX4_usableColumns 7 = .ok (.if_icmp .ge 25, 3) := by decide +kernel
theorem dX4_usableColumns_10 : decode cX4_usableColumns 10 = .ok (.aload_n 0, 1) := by decide +kernel
theorem dX4_usableColumns_11 : decode cX4_usableColumns 11 = .ok (.iload_n 1, 1) := by decide +kernel
theorem dX4_usableColumns_12 : decode cX4_usableColumns 12 = .ok (.iload_n 3, 1) := by decide +kernel
theorem dX4_usableColumns_13 : decode cX4_usableColumns 13 = .ok (.invokevirtual 46, 3) := by decide +kernel
theorem dX4_usableColumns_16 : decode cX4_usableColumns 16 = .ok (.ifCond .eq 10, 3) := by decide +kernel
theorem dX4_usableColumns_19 : decode cX4_usableColumns 19 = .ok (.iload_n 2, 1) := by decide +kernel
theorem dX4_usableColumns_20 : decode cX4_usableColumns 20 = .ok (.iload_n 3, 1) := by decide +kernel
theorem dX4_usableColumns_21 : decode cX4_usableColumns 21 = .ok (.iconst 1, 1) := by decide +kernel
theorem dX4_usableColumns_22 : decode cX4_usableColumns 22 = .ok (.invokestatic 28, 3) := by decide +kernel
theorem dX4_usableColumns_25 : decode cX4_usableColumns 25 = .ok (.istore_n 2, 1) := by decide +kernel
theorem dX4_usableColumns_26 : decode cX4_usableColumns 26 = .ok (.iinc 3 1, 3) := by decide +kernel
theorem dX4_usableColumns_29 : decode cX4_usableColumns 29 = .ok (.goto (-25), 3) := by decide +kernel
theorem dX4_usableColumns_32 : decode cX4_usableColumns 32 = .ok (.iload_n 2, 1) := by decide +kernel
theorem dX4_usableColumns_33 : decode cX4_usableColumns 33 = .ok (.ireturn, 1) := by decide +kernel
theorem dX5_init_0 : decode cX5_init 0 = .ok (.aload_n 0, 1) := by decide +kernel
theorem dX5_init_1 : decode cX5_init 1 = .ok (.invokespecial 3, 3) := by decide +kernel
theorem dX5_init_4 : decode cX5_init 4 = .ok (.aload_n 0, 1) := by decide +kernel
theorem dX5_init_5 : decode cX5_init 5 = .ok (.new 9, 3) := by decide +kernel
theorem dX5_init_8 : decode cX5_init 8 = .ok (.dup, 1) := by decide +kernel
theorem dX5_init_9 : decode cX5_init 9 = .ok (.invokespecial 11, 3) := by decide +kernel
theorem dX5_init_12 : decode cX5_init 12 = .ok (.putfield 12, 3) := by decide +kernel
theorem dX5_init_15 : decode cX5_init 15 = .ok (.aload_n 0, 1) := by decide +kernel
theorem dX5_init_16 : decode cX5_init 16 = .ok (.new 16, 3) := by decide +kernel
theorem dX5_init_19 : decode cX5_init 19 = .ok (.dup, 1) := by decide +kernel
theorem dX5_init_20 : decode cX5_init 20 = .ok (.invokespecial 18, 3) := by decide +kernel
theorem dX5_init_23 : decode cX5_init 23 = .ok (.putfield 19, 3) := by decide +kernel
theorem dX5_init_26 : decode cX5_init 26 = .ok (.aload_n 0, 1) := by decide +kernel
theorem dX5_init_27 : decode cX5_init 27 = .ok (.new 23, 3) := by decide +kernel
theorem dX5_init_30 : decode cX5_init 30 = .ok (.dup, 1) := by decide +kernel
theorem dX5_init_31 : decode cX5_init 31 = .ok (.invokespecial 25, 3) := by decide +kernel
theorem dX5_init_34 : decode cX5_init 34 = .ok (.putfield 26, 3) := by decide +kernel
theorem dX5_init_37 : decode cX5_init 37 = .ok (.aload_n 0, 1) := by decide +kernel
theorem dX5_init_38 : decode cX5_init 38 = .ok (.new 30, 3) := by decide +kernel
theorem dX5_init_41 : decode cX5_init 41 = .ok (.dup, 1) := by decide +kernel
theorem dX5_init_42 : decode cX5_init 42 = .ok (.invokespecial 32, 3) := by decide +kernel
theorem dX5_init_45 : decode cX5_init 45 = .ok (.putfield 33, 3) := by decide +kernel
theorem dX5_init_48 : decode cX5_init 48 = .ok (.return_, 1) := by decide +kernel
theorem dX5_addRow_0 : decode cX5_addRow 0 = .ok (.aload_n 0, 1) := by decide +kernel
theorem dX5_addRow_1 : decode cX5_addRow 1 = .ok (.getfield 12, 3) := by decide +kernel
theorem dX5_addRow_4 : decode cX5_addRow 4 = .ok (.getfield 37, 3) := by decide +kernel
theorem dX5_addRow_7 : decode cX5_addRow 7 = .ok (.bipush 10, 2) := by decide +kernel
theorem dX5_addRow_9 : decode cX5_addRow 9 = .ok (.if_icmp .lt 13, 3) := by decide +kernel
theorem dX5_addRow_12 : decode cX5_addRow 12 = .ok (.new 41, 3) := by decide +kernel
theorem dX5_addRow_15 : decode cX5_addRow 15 = .ok (.dup, 1) := by decide +kernel
theorem dX5_addRow_16 : decode cX5_addRow 16 = .ok (.ldc 43, 2) := by decide +kernel
theorem dX5_addRow_18 : decode cX5_addRow 18 = .ok (.invokespecial 45, 3) := by decide +kernel
theorem dX5_addRow_21 : decode cX5_addRow 21 = .ok (.athrow, 1) := by decide +kernel
theorem dX5_addRow_22 : decode cX5_addRow 22 = .ok (.aload_n 0, 1) := by decide +kernel
theorem dX5_addRow_23 : decode cX5_addRow 23 = .ok (.iconst 0, 1) := by decide +kernel
theorem dX5_addRow_24 : decode cX5_addRow 24 = .ok (.putfield 48, 3) := by decide +kernel
theorem dX5_addRow_27 : decode cX5_addRow 27 = .ok (.aload_n 0, 1) := by decide +kernel
theorem dX5_addRow_28 : decode cX5_addRow 28 = .ok (.getfield 12, 3) := by decide +kernel
theorem dX5_addRow_31 : decode cX5_addRow 31 = .ok (.invokevirtual 52, 3) := by decide +kernel
theorem dX5_addRow_34 : decode cX5_addRow 34 = .ok (.ireturn, 1) := by decide +kernel
theorem dX5_addColumn_0 : decode cX5_addColumn 0 = .ok (.aload_n 0, 1) := by decide +kernel
theorem dX5_addColumn_1 : decode cX5_addColumn 1 = .ok (.getfield 12, 3) := by decide +kernel
theorem dX5_addColumn_4 : decode cX5_addColumn 4 = .ok (.getfield 56, 3) := by decide +kernel
theorem dX5_addColumn_7 : decode cX5_addColumn 7 = .ok (.bipush 10, 2) := by decide +kernel
theorem dX5_addColumn_9 : decode cX5_addColumn 9 = .ok (.if_icmp .lt 13, 3) := by decide +kernel
theorem dX5_addColumn_12 : decode cX5_addColumn 12 = .ok (.new 41, 3) := by decide +kernel
theorem dX5_addColumn_15 : decode cX5_addColumn 15 = .ok (.dup, 1) := by decide +kernel
theorem dX5_addColumn_16 : decode cX5_addColumn 16 = .ok (.ldc 59, 2) := by decide +kernel
theorem dX5_addColumn_18 : decode cX5_addColumn 18 = .ok (.invokespecial 45, 3) := by decide +kernel
theorem dX5_addColumn_21 : decode cX5_addColumn 21 = .ok (.athrow, 1) := by decide +kernel
theorem dX5_addColumn_22 : decode cX5_addColumn 22 = .ok (.aload_n 0, 1) := by decide +kernel
theorem dX5_addColumn_23 : decode cX5_addColumn 23 = .ok (.iconst 0, 1) := by decide +kernel
theorem dX5_addColumn_24 : decode cX5_addColumn 24 = .ok (.putfield 48, 3) := by decide +kernel
theorem dX5_addColumn_27 : decode cX5_addColumn 27 = .ok (.aload_n 0, 1) := by decide +kernel
theorem dX5_addColumn_28 : decode cX5_addColumn 28 = .ok (.getfield 12, 3) := by decide +kernel
theorem dX5_addColumn_31 : decode cX5_addColumn 31 = .ok (.invokevirtual 61, 3) := by decide +kernel
theorem dX5_addColumn_34 : decode cX5_addColumn 34 = .ok (.ireturn, 1) := by decide +kernel
theorem dX5_setRow_0 : decode cX5_setRow 0 = .ok (.aload_n 0, 1) := by decide +kernel
theorem dX5_setRow_1 : decode cX5_setRow 1 = .ok (.iload_n 1, 1) := by decide +kernel
theorem dX5_setRow_2 : decode cX5_setRow 2 = .ok (.invokevirtual 64, 3) := by decide +kernel
theorem dX5_setRow_5 : decode cX5_setRow 5 = .ok (.aload_n 0, 1) := by decide +kernel
theorem dX5_setRow_6 : decode cX5_setRow 6 = .ok (.getfield 12, 3) := by decide +kernel
theorem dX5_setRow_9 : decode cX5_setRow 9 = .ok (.getfield 68, 3) := by decide +kernel
theorem dX5_setRow_12 : decode cX5_setRow 12 = .ok (.iload_n 1, 1) := by decide +kernel
theorem dX5_setRow_13 : decode cX5_setRow 13 = .ok (.invokestatic 71, 3) := by decide +kernel
theorem dX5_setRow_16 : decode cX5_setRow 16 = .ok (.istore_n 3, 1) := by decide +kernel
theorem dX5_setRow_17 : decode cX5_setRow 17 = .ok (.aload_n 0, 1) := by decide +kernel
theorem dX5_setRow_18 : decode cX5_setRow 18 = .ok (.getfield 12, 3) := by decide +kernel
theorem dX5_setRow_21 : decode cX5_setRow 21 = .ok (.aload_n 0, 1) := by decide +kernel
theorem dX5_setRow_22 : decode cX5_setRow 22 = .ok (.getfield 12, 3) := by decide +kernel
theorem dX5_setRow_25 : decode cX5_setRow 25 = .ok (.getfield 68, 3) := by decide +kernel
theorem dX5_setRow_28 : decode cX5_setRow 28 = .ok (.iload_n 1, 1) := by decide +kernel
theorem dX5_setRow_29 : decode cX5_setRow 29 = .ok (.iload_n 2, 1) := by decide +kernel
theorem dX5_setRow_30 : decode cX5_setRow 30 = .ok (.invokestatic 75, 3) := by decide +kernel
theorem dX5_setRow_33 : decode cX5_setRow 33 = .ok (.putfield 68, 3) := by decide +kernel
theorem dX5_setRow_36 : decode cX5_setRow 36 = .ok (.aload_n 0, 1) := by decide +kernel
theorem dX5_setRow_37 : decode cX5_setRow 37 = .ok (.iconst 0, 1) := by decide +kernel
theorem dX5_setRow_38 : decode cX5_setRow 38 = .ok (.putfield 48, 3) := by decide +kernel
theorem dX5_setRow_41 : decode cX5_setRow 41 = .ok (.iload_n 3, 1) := by decide +kernel
theorem dX5_setRow_42 : decode cX5_setRow 42 = .ok (.ireturn, 1) := by decide +kernel
theorem dX5_setColumn_0 : decode cX5_setColumn 0 = .ok (.aload_n 0, 1) := by decide +kernel
theorem dX5_setColumn_1 : decode cX5_setColumn 1 = .ok (.iload_n 1, 1) := by decide +kernel
theorem dX5_setColumn_2 : decode cX5_setColumn 2 = .ok (.invokevirtual 79, 3) := by decide +kernel
theorem dX5_setColumn_5 : decode cX5_setColumn 5 = .ok (.aload_n 0, 1) := by decide +kernel
theorem dX5_setColumn_6 : decode cX5_setColumn 6 = .ok (.getfield 12, 3) := by decide +kernel
theorem dX5_setColumn_9 : decode cX5_setColumn 9 = .ok (.getfield 82, 3) := by decide +kernel
theorem dX5_setColumn_12 : decode cX5_setColumn 12 = .ok (.iload_n 1, 1) := by decide +kernel
theorem dX5_setColumn_13 : decode cX5_setColumn 13 = .ok (.invokestatic 71, 3) := by decide +kernel
theorem dX5_setColumn_16 : decode cX5_setColumn 16 = .ok (.istore_n 3, 1) := by decide +kernel
theorem dX5_setColumn_17 : decode cX5_setColumn 17 = .ok (.aload_n 0, 1) := by decide +kernel
theorem dX5_setColumn_18 : decode cX5_setColumn 18 = .ok (.getfield 12, 3) := by decide +kernel
theorem dX5_setColumn_21 : decode cX5_setColumn 21 = .ok (.aload_n 0, 1) := by decide +kernel
theorem dX5_setColumn_22 : decode cX5_setColumn 22 = .ok (.getfield 12, 3) := by decide +kernel
theorem dX5_setColumn_25 : decode cX5_setColumn 25 = .ok (.getfield 82, 3) := by decide +kernel
theorem dX5_setColumn_28 : decode cX5_setColumn 28 = .ok (.iload_n 1, 1) := by decide +kernel
theorem dX5_setColumn_29 : decode cX5_setColumn 29 = .ok (.iload_n 2, 1) := by decide +kernel
theorem dX5_setColumn_30 : decode cX5_setColumn 30 = .ok (.invokestatic 75, 3) := by decide +kernel
theorem dX5_setColumn_33 : decode cX5_setColumn 33 = .ok (.putfield 82, 3) := by decide +kernel
theorem dX5_setColumn_36 : decode cX5_setColumn 36 = .ok (.aload_n 0, 1) := by decide +kernel
theorem dX5_setColumn_37 : decode cX5_setColumn 37 = .ok (.iconst 0, 1) := by decide +kernel
theorem dX5_setColumn_38 : decode cX5_setColumn 38 = .ok (.putfield 48, 3) := by decide +kernel
theorem dX5_setColumn_41 : decode cX5_setColumn 41 = .ok (.iload_n 3, 1) := by decide +kernel
theorem dX5_setColumn_42 : decode cX5_setColumn 42 = .ok (.ireturn, 1) := by decide +kernel
theorem dX5_setCost_0 : decode cX5_setCost 0 = .ok (.aload_n 0, 1) := by decide +kernel
theorem dX5_setCost_1 : decode cX5_setCost 1 = .ok (.iload_n 1, 1) := by decide +kernel
theorem dX5_setCost_2 : decode cX5_setCost 2 = .ok (.iload_n 2, 1) := by decide +kernel
theorem dX5_setCost_3 : decode cX5_setCost 3 = .ok (.invokevirtual 85, 3) := by decide +kernel
theorem dX5_setCost_6 : decode cX5_setCost 6 = .ok (.iload_n 3, 1) := by decide +kernel
theorem dX5_setCost_7 : decode cX5_setCost 7 = .ok (.i2l, 1) := by decide +kernel
theorem dX5_setCost_8 : decode cX5_setCost 8 = .ok (.invokestatic 89, 3) := by decide +kernel
theorem dX5_setCost_11 : decode cX5_setCost 11 = .ok (.ifCond .ne 13, 3) := by decide +kernel
theorem dX5_setCost_14 : decode cX5_setCost 14 = .ok (.new 93, 3) := by decide +kernel
theorem dX5_setCost_17 : decode cX5_setCost 17 = .ok (.dup, 1) := by decide +kernel
theorem dX5_setCost_18 : decode cX5_setCost 18 = .ok (.ldc 95, 2) := by decide +kernel
theorem dX5_setCost_20 : decode cX5_setCost 20 = .ok (.invokespecial 97, 3) := by decide +kernel
theorem dX5_setCost_23 : decode cX5_setCost 23 = .ok (.athrow, 1) := by decide +kernel
theorem dX5_setCost_24 : decode cX5_setCost 24 = .ok (.aload_n 0, 1) := by decide +kernel
theorem dX5_setCost_25 : decode cX5_setCost 25 = .ok (.iload_n 1, 1) := by decide +kernel
theorem dX5_setCost_26 : decode cX5_setCost 26 = .ok (.iload_n 2, 1) := by decide +kernel
theorem dX5_setCost_27 : decode cX5_setCost 27 = .ok (.iload_n 3, 1) := by decide +kernel
theorem dX5_setCost_28 : decode cX5_setCost 28 = .ok (.invokevirtual 98, 3) := by decide +kernel
theorem dX5_setCost_31 : decode cX5_setCost 31 = .ok (.ireturn, 1) := by decide +kernel
theorem dX5_forbid_0 : decode cX5_forbid 0 = .ok (.aload_n 0, 1) := by decide +kernel
theorem dX5_forbid_1 : decode cX5_forbid 1 = .ok (.iload_n 1, 1) := by decide +kernel
theorem dX5_forbid_2 : decode cX5_forbid 2 = .ok (.iload_n 2, 1) := by decide +kernel
theorem dX5_forbid_3 : decode cX5_forbid 3 = .ok (.invokevirtual 85, 3) := by decide +kernel
theorem dX5_forbid_6 : decode cX5_forbid 6 = .ok (.aload_n 0, 1) := by decide +kernel
theorem dX5_forbid_7 : decode cX5_forbid 7 = .ok (.iload_n 1, 1) := by decide +kernel
theorem dX5_forbid_8 : decode cX5_forbid 8 = .ok (.iload_n 2, 1) := by decide +kernel
theorem dX5_forbid_9 : decode cX5_forbid 9 = .ok (.sipush 20000, 3) := by decide +kernel
theorem dX5_forbid_12 : decode cX5_forbid 12 = .ok (.invokevirtual 98, 3) := by decide +kernel
theorem dX5_forbid_15 : decode cX5_forbid 15 = .ok (.ireturn, 1) := by decide +kernel
theorem dX5_size_0 : decode cX5_size 0 = .ok (.aload_n 0, 1) := by decide +kernel
theorem dX5_size_1 : decode cX5_size 1 = .ok (.invokevirtual 136, 3) := by decide +kernel
theorem dX5_size_4 : decode cX5_size 4 = .ok (.getfield 140, 3) := by decide +kernel
theorem dX5_size_7 : decode cX5_size 7 = .ok (.invokestatic 143, 3) := by decide +kernel
theorem dX5_size_10 : decode cX5_size 10 = .ok (.ireturn, 1) := by decide +kernel
theorem dX5_total_0 : decode cX5_total 0 = .ok (.aload_n 0, 1) := by decide +kernel
theorem dX5_total_1 : decode cX5_total 1 = .ok (.invokevirtual 136, 3) := by decide +kernel
theorem dX5_total_4 : decode cX5_total 4 = .ok (.getfield 140, 3) := by decide +kernel
theorem dX5_total_7 : decode cX5_total 7 = .ok (.invokestatic 147, 3) := by decide +kernel
theorem dX5_total_10 : decode cX5_total 10 = .ok (.ireturn, 1) := by decide +kernel
theorem dX5_columnOf_0 : decode cX5_columnOf 0 = .ok (.aload_n 0, 1) := by decide +kernel
theorem dX5_columnOf_1 : decode cX5_columnOf 1 = .ok (.iload_n 1, 1) := by decide +kernel
theorem dX5_columnOf_2 : decode cX5_columnOf 2 = .ok (.invokevirtual 64, 3) := by decide +kernel
theorem dX5_columnOf_5 : decode cX5_columnOf 5 = .ok (.aload_n 0, 1) := by decide +kernel
theorem dX5_columnOf_6 : decode cX5_columnOf 6 = .ok (.invokevirtual 136, 3) := by decide +kernel
theorem dX5_columnOf_9 : decode cX5_columnOf 9 = .ok (.getfield 150, 3) := by decide +kernel
theorem dX5_columnOf_12 : decode cX5_columnOf 12 = .ok (.iload_n 1, 1) := by decide +kernel
theorem dX5_columnOf_13 : decode cX5_columnOf 13 = .ok (.iaload, 1) := by decide +kernel
theorem dX5_columnOf_14 : decode cX5_columnOf 14 = .ok (.ireturn, 1) := by decide +kernel
theorem dX5_requireRow_0 : decode cX5_requireRow 0 = .ok (.iload_n 1, 1) := by decide +kernel
theorem dX5_requireRow_1 : decode cX5_requireRow 1 = .ok (.ifCond .lt 14, 3) := by decide +kernel
theorem dX5_requireRow_4 : decode cX5_requireRow 4 = .ok (.iload_n 1, 1) := by decide +kernel
theorem dX5_requireRow_5 : decode cX5_requireRow 5 = .ok (.aload_n 0, 1) := by decide +kernel
theorem dX5_requireRow_6 : decode cX5_requireRow 6 = .ok (.getfield 12, 3) := by decide +kernel
theorem dX5_requireRow_9 : decode cX5_requireRow 9 = .ok (.getfield 37, 3) := by decide +kernel
theorem dX5_requireRow_12 : decode cX5_requireRow 12 = .ok (.if_icmp .lt 13, 3) := by decide +kernel
theorem dX5_requireRow_15 : decode cX5_requireRow 15 = .ok (.new 226, 3) := by decide +kernel
theorem dX5_requireRow_18 : decode cX5_requireRow 18 = .ok (.dup, 1) := by decide +kernel
theorem dX5_requireRow_19 : decode cX5_requireRow 19 = .ok (.ldc 228, 2) := by decide +kernel
theorem dX5_requireRow_21 : decode cX5_requireRow 21 = .ok (.invokespecial 230, 3) := by decide +kernel
theorem dX5_requireRow_24 : decode cX5_requireRow 24 = .ok (.athrow, 1) := by decide +kernel
theorem dX5_requireRow_25 : decode cX5_requireRow 25 = .ok (.return_, 1) := by decide +kernel
theorem dX5_requireColumn_0 : decode cX5_requireColumn 0 = .ok (.iload_n 1, 1) := by decide +kernel
theorem dX5_requireColumn_1 : decode cX5_requireColumn 1 = .ok (.ifCond .lt 14, 3) := by decide +kernel
theorem dX5_requireColumn_4 : decode cX5_requireColumn 4 = .ok (.iload_n 1, 1) := by decide +kernel
theorem dX5_requireColumn_5 : decode cX5_requireColumn 5 = .ok (.aload_n 0, 1) := by decide +kernel
theorem dX5_requireColumn_6 : decode cX5_requireColumn 6 = .ok (.getfield 12, 3) := by decide +kernel
theorem dX5_requireColumn_9 : decode cX5_requireColumn 9 = .ok (.getfield 56, 3) := by decide +kernel
theorem dX5_requireColumn_12 : decode cX5_requireColumn 12 = .ok (.if_icmp .lt 13, 3) := by decide +kernel
theorem dX5_requireColumn_15 : decode cX5_requireColumn 15 = .ok (.new 226, 3) := by decide +kernel
theorem dX5_requireColumn_18 : decode cX5_requireColumn 18 = .ok (.dup, 1) := by decide +kernel
theorem dX5_requireColumn_19 : decode cX5_requireColumn 19 = .ok (.ldc 231, 2) := by decide +kernel
theorem dX5_requireColumn_21 : decode cX5_requireColumn 21 = .ok (.invokespecial 230, 3) := by decide +kernel
theorem dX5_requireColumn_24 : decode cX5_requireColumn 24 = .ok (.athrow, 1) := by decide +kernel
theorem dX5_requireColumn_25 : decode cX5_requireColumn 25 = .ok (.return_, 1) := by decide +kernel
theorem dX5_requirePair_0 : decode cX5_requirePair 0 = .ok (.aload_n 0, 1) := by decide +kernel
theorem dX5_requirePair_1 : decode cX5_requirePair 1 = .ok (.iload_n 1, 1) := by decide +kernel
theorem dX5_requirePair_2 : decode cX5_requirePair 2 = .ok (.invokevirtual 64, 3) := by decide +kernel
theorem dX5_requirePair_5 : decode cX5_requirePair 5 = .ok (.aload_n 0, 1) := by decide +kernel
theorem dX5_requirePair_6 : decode cX5_requirePair 6 = .ok (.iload_n 2, 1) := by decide +kernel
theorem dX5_requirePair_7 : decode cX5_requirePair 7 = .ok (.invokevirtual 79, 3) := by decide +kernel
theorem dX5_requirePair_10 : decode cX5_requirePair 10 = .ok (.return_, 1) := by decide +kernel
theorem dX5_replaceCell_0 : decode cX5_replaceCell 0 = .ok (.aload_n 0, 1) := by decide +kernel
theorem dX5_replaceCell_1 : decode cX5_replaceCell 1 = .ok (.getfield 12, 3) := by decide +kernel
theorem dX5_replaceCell_4 : decode cX5_replaceCell 4 = .ok (.iload_n 1, 1) := by decide +kernel
theorem dX5_replaceCell_5 : decode cX5_replaceCell 5 = .ok (.iload_n 2, 1) := by decide +kernel
theorem dX5_replaceCell_6 : decode cX5_replaceCell 6 = .ok (.invokevirtual 128, 3) := by decide +kernel
theorem dX5_replaceCell_9 : decode cX5_replaceCell 9 = .ok (.sipush 20000, 3) := by decide +kernel
theorem dX5_replaceCell_12 : decode cX5_replaceCell 12 = .ok (.if_icmp .eq 7, 3) := by decide +kernel
theorem dX5_replaceCell_15 : decode cX5_replaceCell 15 = .ok (.iconst 1, 1) := by decide +kernel
theorem dX5_replaceCell_16 : decode cX5_replaceCell 16 = .ok (.goto 4, 3) := by decide +kernel
theorem dX5_replaceCell_19 : decode cX5_replaceCell 19 = .ok (.iconst 0, 1) := by decide +kernel
theorem dX5_replaceCell_20 : decode cX5_replaceCell 20 = .ok (.istore 4, 2) := by decide +kernel
theorem dX5_replaceCell_22 : decode cX5_replaceCell 22 = .ok (.aload_n 0, 1) := by decide +kernel
theorem dX5_replaceCell_23 : decode cX5_replaceCell 23 = .ok (.getfield 12, 3) := by decide +kernel
theorem dX5_replaceCell_26 : decode cX5_replaceCell 26 = .ok (.getfield 237, 3) := by decide +kernel
theorem dX5_replaceCell_29 : decode cX5_replaceCell 29 = .ok (.iload_n 1, 1) := by decide +kernel
theorem dX5_replaceCell_30 : decode cX5_replaceCell 30 = .ok (.bipush 10, 2) := by decide +kernel
theorem dX5_replaceCell_32 : decode cX5_replaceCell 32 = .ok (.imul, 1) := by decide +kernel
theorem dX5_replaceCell_33 : decode cX5_replaceCell 33 = .ok (.iload_n 2, 1) := by decide +kernel
theorem dX5_replaceCell_34 : decode cX5_replaceCell 34 = .ok (.iadd, 1) := by decide +kernel
theorem dX5_replaceCell_35 : decode cX5_replaceCell 35 = .ok (.iload_n 3, 1) := by decide +kernel
theorem dX5_replaceCell_36 : decode cX5_replaceCell 36 = .ok (.iastore, 1) := by decide +kernel
theorem dX5_replaceCell_37 : decode cX5_replaceCell 37 = .ok (.aload_n 0, 1) := by decide +kernel
theorem dX5_replaceCell_38 : decode cX5_replaceCell 38 = .ok (.iconst 0, 1) := by decide +kernel
theorem dX5_replaceCell_39 : decode cX5_replaceCell 39 = .ok (.putfield 48, 3) := by decide +kernel
theorem dX5_replaceCell_42 : decode cX5_replaceCell 42 = .ok (.iload 4, 2) := by decide +kernel
theorem dX5_replaceCell_44 : decode cX5_replaceCell 44 = .ok (.ireturn, 1) := by decide +kernel
theorem dX5_solved_0 : decode cX5_solved 0 = .ok (.aload_n 0, 1) := by decide +kernel
theorem dX5_solved_1 : decode cX5_solved 1 = .ok (.getfield 48, 3) := by decide +kernel
theorem dX5_solved_4 : decode cX5_solved 4 = .ok (.ifCond .ne 19, 3) := by decide +kernel
theorem dX5_solved_7 : decode cX5_solved 7 = .ok (.aload_n 0, 1) := by decide +kernel
theorem dX5_solved_8 : decode cX5_solved 8 = .ok (.getfield 26, 3) := by decide +kernel
theorem dX5_solved_11 : decode cX5_solved 11 = .ok (.aload_n 0, 1) := by decide +kernel
theorem dX5_solved_12 : decode cX5_solved 12 = .ok (.getfield 12, 3) := by decide +kernel
theorem dX5_solved_15 : decode cX5_solved 15 = .ok (.invokevirtual 240, 3) := by decide +kernel
theorem dX5_solved_18 : decode cX5_solved 18 = .ok (.aload_n 0, 1) := by decide +kernel
theorem dX5_solved_19 : decode cX5_solved 19 = .ok (.iconst 1, 1) := by decide +kernel
theorem dX5_solved_20 : decode cX5_solved 20 = .ok (.putfield 48, 3) := by decide +kernel
theorem dX5_solved_23 : decode cX5_solved 23 = .ok (.aload_n 0, 1) := by decide +kernel
theorem dX5_solved_24 : decode cX5_solved 24 = .ok (.getfield 26, 3) := by decide +kernel
theorem dX5_solved_27 : decode cX5_solved 27 = .ok (.areturn, 1) := by decide +kernel
theorem dX5_isCost_0 : decode cX5_isCost 0 = .ok (.lload_n 0, 1) := by decide +kernel
theorem dX5_isCost_1 : decode cX5_isCost 1 = .ok (.ldc2_w 243, 3) := by decide +kernel
theorem dX5_isCost_4 : decode cX5_isCost 4 = .ok (.lcmp, 1) := by decide +kernel
theorem dX5_isCost_5 : decode cX5_isCost 5 = .ok (.ifCond .lt 15, 3) := by decide +kernel
theorem dX5_isCost_8 : decode cX5_isCost 8 = .ok (.lload_n 0, 1) := by decide +kernel
theorem dX5_isCost_9 : decode cX5_isCost 9 = .ok (.ldc2_w 245, 3) := by decide +kernel
theorem dX5_isCost_12 : decode cX5_isCost 12 = .ok (.lcmp, 1) := by decide +kernel
theorem dX5_isCost_13 : decode cX5_isCost 13 = .ok (.ifCond .gt 7, 3) := by decide +kernel
theorem dX5_isCost_16 : decode cX5_isCost 16 = .ok (.iconst 1, 1) := by decide +kernel
theorem dX5_isCost_17 : decode cX5_isCost 17 = .ok (.goto 4, 3) := by decide +kernel
theorem dX5_isCost_20 : decode cX5_isCost 20 = .ok (.iconst 0, 1) := by decide +kernel
theorem dX5_isCost_21 : decode cX5_isCost 21 = .ok (.ireturn, 1) := by decide +kernel
theorem dX5_hasBit_0 : decode cX5_hasBit 0 = .ok (.iload_n 0, 1) := by decide +kernel
theorem dX5_hasBit_1 : decode cX5_hasBit 1 = .ok (.iload_n 1, 1) := by decide +kernel
theorem dX5_hasBit_2 : decode cX5_hasBit 2 = .ok (.ishr, 1) := by decide +kernel
theorem dX5_hasBit_3 : decode cX5_hasBit 3 = .ok (.iconst 1, 1) := by decide +kernel
theorem dX5_hasBit_4 : decode cX5_hasBit 4 = .ok (.iand, 1) := by decide +kernel
theorem dX5_hasBit_5 : decode cX5_hasBit 5 = .ok (.ifCond .eq 7, 3) := by decide +kernel
theorem dX5_hasBit_8 : decode cX5_hasBit 8 = .ok (.iconst 1, 1) := by decide +kernel
theorem dX5_hasBit_9 : decode cX5_hasBit 9 = .ok (.goto 4, 3) := by decide +kernel
theorem dX5_hasBit_12 : decode cX5_hasBit 12 = .ok (.iconst 0, 1) := by decide +kernel
theorem dX5_hasBit_13 : decode cX5_hasBit 13 = .ok (.ireturn, 1) := by decide +kernel
theorem dX5_withBit_0 : decode cX5_withBit 0 = .ok (.iload_n 2, 1) := by decide +kernel
theorem dX5_withBit_1 : decode cX5_withBit 1 = .ok (.ifCond .eq 11, 3) := by decide +kernel
theorem dX5_withBit_4 : decode cX5_withBit 4 = .ok (.iload_n 0, 1) := by decide +kernel
theorem dX5_withBit_5 : decode cX5_withBit 5 = .ok (.iconst 1, 1) := by decide +kernel
theorem dX5_withBit_6 : decode cX5_withBit 6 = .ok (.iload_n 1, 1) := by decide +kernel
theorem dX5_withBit_7 : decode cX5_withBit 7 = .ok (.ishl, 1) := by decide +kernel
theorem dX5_withBit_8 : decode cX5_withBit 8 = .ok (.ior, 1) := by decide +kernel
theorem dX5_withBit_9 : decode cX5_withBit 9 = .ok (.goto 10, 3) := by decide +kernel
theorem dX5_withBit_12 : decode cX5_withBit 12 = .ok (.iload_n 0, 1) := by decide +kernel
theorem dX5_withBit_13 : decode cX5_withBit 13 = .ok (.iconst 1, 1) := by decide +kernel
theorem dX5_withBit_14 : decode cX5_withBit 14 = .ok (.iload_n 1, 1) := by decide +kernel
theorem dX5_withBit_15 : decode cX5_withBit 15 = .ok (.ishl, 1) := by decide +kernel
theorem dX5_withBit_16 : decode cX5_withBit 16 = .ok (.iconst (-1), 1) := by decide +kernel
theorem dX5_withBit_17 : decode cX5_withBit 17 = .ok (.ixor, 1) := by decide +kernel
theorem dX5_withBit_18 : decode cX5_withBit 18 = .ok (.iand, 1) := by decide +kernel
theorem dX5_withBit_19 : decode cX5_withBit 19 = .ok (.ireturn, 1) := by decide +kernel
theorem dJ6_bitCount_0f7a4_0 : decode cJ6_bitCount_0f7a4 0 = .ok (.iload_n 0, 1) := by decide +kernel
theorem dJ6_bitCount_0f7a4_1 : decode cJ6_bitCount_0f7a4 1 = .ok (.iload_n 0, 1) := by decide +kernel
theorem dJ6_bitCount_0f7a4_2 : decode cJ6_bitCount_0f7a4 2 = .ok (.iconst 1, 1) := by decide +kernel
theorem dJ6_bitCount_0f7a4_3 : decode cJ6_bitCount_0f7a4 3 = .ok (.iushr, 1) := by decide +kernel
theorem dJ6_bitCount_0f7a4_4 : decode cJ6_bitCount_0f7a4 4 = .ok (.ldc_w 265, 3) := by decide +kernel
theorem dJ6_bitCount_0f7a4_7 : decode cJ6_bitCount_0f7a4 7 = .ok (.iand, 1) := by decide +kernel
theorem dJ6_bitCount_0f7a4_8 : decode cJ6_bitCount_0f7a4 8 = .ok (.isub, 1) := by decide +kernel
theorem dJ6_bitCount_0f7a4_9 : decode cJ6_bitCount_0f7a4 9 = .ok (.istore_n 0, 1) := by decide +kernel
theorem dJ6_bitCount_0f7a4_10 : decode cJ6_bitCount_0f7a4 10 = .ok (.iload_n 0, 1) := by decide +kernel
theorem dJ6_bitCount_0f7a4_11 : decode cJ6_bitCount_0f7a4 11 = .ok (.ldc_w 266, 3) := by decide +kernel
theorem dJ6_bitCount_0f7a4_14 : decode cJ6_bitCount_0f7a4 14 = .ok (.iand, 1) := by decide +kernel
theorem dJ6_bitCount_0f7a4_15 : decode cJ6_bitCount_0f7a4 15 = .ok (.iload_n 0, 1) := by decide +kernel
theorem dJ6_bitCount_0f7a4_16 : decode cJ6_bitCount_0f7a4 16 = .ok (.iconst 2, 1) := by decide +kernel
theorem dJ6_bitCount_0f7a4_17 : decode cJ6_bitCount_0f7a4 17 = .ok (.iushr, 1) := by decide +kernel
theorem dJ6_bitCount_0f7a4_18 : decode cJ6_bitCount_0f7a4 18 = .ok (.ldc_w 266, 3) := by decide +kernel
theorem dJ6_bitCount_0f7a4_21 : decode cJ6_bitCount_0f7a4 21 = .ok (.iand, 1) := by decide +kernel
theorem dJ6_bitCount_0f7a4_22 : decode cJ6_bitCount_0f7a4 22 = .ok (.iadd, 1) := by decide +kernel
theorem dJ6_bitCount_0f7a4_23 : decode cJ6_bitCount_0f7a4 23 = .ok (.istore_n 0, 1) := by decide +kernel
theorem dJ6_bitCount_0f7a4_24 : decode cJ6_bitCount_0f7a4 24 = .ok (.iload_n 0, 1) := by decide +kernel
theorem dJ6_bitCount_0f7a4_25 : decode cJ6_bitCount_0f7a4 25 = .ok (.iload_n 0, 1) := by decide +kernel
theorem dJ6_bitCount_0f7a4_26 : decode cJ6_bitCount_0f7a4 26 = .ok (.iconst 4, 1) := by decide +kernel
theorem dJ6_bitCount_0f7a4_27 : decode cJ6_bitCount_0f7a4 27 = .ok (.iushr, 1) := by decide +kernel
theorem dJ6_bitCount_0f7a4_28 : decode cJ6_bitCount_0f7a4 28 = .ok (.iadd, 1) := by decide +kernel
theorem dJ6_bitCount_0f7a4_29 : decode cJ6_bitCount_0f7a4 29 = .ok (.ldc_w 267, 3) := by decide +kernel
theorem dJ6_bitCount_0f7a4_32 : decode cJ6_bitCount_0f7a4 32 = .ok (.iand, 1) := by decide +kernel
theorem dJ6_bitCount_0f7a4_33 : decode cJ6_bitCount_0f7a4 33 = .ok (.istore_n 0, 1) := by decide +kernel
theorem dJ6_bitCount_0f7a4_34 : decode cJ6_bitCount_0f7a4 34 = .ok (.iload_n 0, 1) := by decide +kernel
theorem dJ6_bitCount_0f7a4_35 : decode cJ6_bitCount_0f7a4 35 = .ok (.iload_n 0, 1) := by decide +kernel
theorem dJ6_bitCount_0f7a4_36 : decode cJ6_bitCount_0f7a4 36 = .ok (.bipush 8, 2) := by decide +kernel
theorem dJ6_bitCount_0f7a4_38 : decode cJ6_bitCount_0f7a4 38 = .ok (.iushr, 1) := by decide +kernel
theorem dJ6_bitCount_0f7a4_39 : decode cJ6_bitCount_0f7a4 39 = .ok (.iadd, 1) := by decide +kernel
theorem dJ6_bitCount_0f7a4_40 : decode cJ6_bitCount_0f7a4 40 = .ok (.istore_n 0, 1) := by decide +kernel
theorem dJ6_bitCount_0f7a4_41 : decode cJ6_bitCount_0f7a4 41 = .ok (.iload_n 0, 1) := by decide +kernel
theorem dJ6_bitCount_0f7a4_42 : decode cJ6_bitCount_0f7a4 42 = .ok (.iload_n 0, 1) := by decide +kernel
theorem dJ6_bitCount_0f7a4_43 : decode cJ6_bitCount_0f7a4 43 = .ok (.bipush 16, 2) := by decide +kernel
theorem dJ6_bitCount_0f7a4_45 : decode cJ6_bitCount_0f7a4 45 = .ok (.iushr, 1) := by decide +kernel
theorem dJ6_bitCount_0f7a4_46 : decode cJ6_bitCount_0f7a4 46 = .ok (.iadd, 1) := by decide +kernel
theorem dJ6_bitCount_0f7a4_47 : decode cJ6_bitCount_0f7a4 47 = .ok (.istore_n 0, 1) := by decide +kernel
theorem dJ6_bitCount_0f7a4_48 : decode cJ6_bitCount_0f7a4 48 = .ok (.iload_n 0, 1) := by decide +kernel
theorem dJ6_bitCount_0f7a4_49 : decode cJ6_bitCount_0f7a4 49 = .ok (.bipush 63, 2) := by decide +kernel
theorem dJ6_bitCount_0f7a4_51 : decode cJ6_bitCount_0f7a4 51 = .ok (.iand, 1) := by decide +kernel
theorem dJ6_bitCount_0f7a4_52 : decode cJ6_bitCount_0f7a4 52 = .ok (.ireturn, 1) := by decide +kernel
theorem dJ9_max_7cf53_0 : decode cJ9_max_7cf53 0 = .ok (.iload_n 0, 1) := by decide +kernel
theorem dJ9_max_7cf53_1 : decode cJ9_max_7cf53 1 = .ok (.iload_n 1, 1) := by decide +kernel
theorem dJ9_max_7cf53_2 : decode cJ9_max_7cf53 2 = .ok (.if_icmp .lt 7, 3) := by decide +kernel
theorem dJ9_max_7cf53_5 : decode cJ9_max_7cf53 5 = .ok (.iload_n 0, 1) := by decide +kernel
theorem dJ9_max_7cf53_6 : decode cJ9_max_7cf53 6 = .ok (.goto 4, 3) := by decide +kernel
theorem dJ9_max_7cf53_9 : decode cJ9_max_7cf53 9 = .ok (.iload_n 1, 1) := by decide +kernel
theorem dJ9_max_7cf53_10 : decode cJ9_max_7cf53 10 = .ok (.ireturn, 1) := by decide +kernel
theorem dJ9_min_7cf53_0 : decode cJ9_min_7cf53 0 = .ok (.iload_n 0, 1) := by decide +kernel
theorem dJ9_min_7cf53_1 : decode cJ9_min_7cf53 1 = .ok (.iload_n 1, 1) := by decide +kernel
theorem dJ9_min_7cf53_2 : decode cJ9_min_7cf53 2 = .ok (.if_icmp .gt 7, 3) := by decide +kernel
theorem dJ9_min_7cf53_5 : decode cJ9_min_7cf53 5 = .ok (.iload_n 0, 1) := by decide +kernel
theorem dJ9_min_7cf53_6 : decode cJ9_min_7cf53 6 = .ok (.goto 4, 3) := by decide +kernel
theorem dJ9_min_7cf53_9 : decode cJ9_min_7cf53 9 = .ok (.iload_n 1, 1) := by decide +kernel
theorem dJ9_min_7cf53_10 : decode cJ9_min_7cf53 10 = .ok (.ireturn, 1) := by decide +kernel
theorem dJ7_fill_53178_0 : decode cJ7_fill_53178 0 = .ok (.iconst 0, 1) := by decide +kernel
theorem dJ7_fill_53178_1 : decode cJ7_fill_53178 1 = .ok (.istore_n 2, 1) := by decide +kernel
theorem dJ7_fill_53178_2 : decode cJ7_fill_53178 2 = .ok (.aload_n 0, 1) := by decide +kernel
theorem dJ7_fill_53178_3 : decode cJ7_fill_53178 3 = .ok (.arraylength, 1) := by decide +kernel
theorem dJ7_fill_53178_4 : decode cJ7_fill_53178 4 = .ok (.istore_n 3, 1) := by decide +kernel
theorem dJ7_fill_53178_5 : decode cJ7_fill_53178 5 = .ok (.iload_n 2, 1) := by decide +kernel
theorem dJ7_fill_53178_6 : decode cJ7_fill_53178 6 = .ok (.iload_n 3, 1) := by decide +kernel
theorem dJ7_fill_53178_7 : decode cJ7_fill_53178 7 = .ok (.if_icmp .ge 13, 3) := by decide +kernel
theorem dJ7_fill_53178_10 : decode cJ7_fill_53178 10 = .ok (.aload_n 0, 1) := by decide +kernel
theorem dJ7_fill_53178_11 : decode cJ7_fill_53178 11 = .ok (.iload_n 2, 1) := by decide +kernel
theorem dJ7_fill_53178_12 : decode cJ7_fill_53178 12 = .ok (.iload_n 1, 1) := by decide +kernel
theorem dJ7_fill_53178_13 : decode cJ7_fill_53178 13 = .ok (.iastore, 1) := by decide +kernel
theorem dJ7_fill_53178_14 : decode cJ7_fill_53178 14 = .ok (.iinc 2 1, 3) := by decide +kernel
theorem dJ7_fill_53178_17 : decode cJ7_fill_53178 17 = .ok (.goto (-12), 3) := by decide +kernel
theorem dJ7_fill_53178_20 : decode cJ7_fill_53178 20 = .ok (.return_, 1) := by decide +kernel
theorem dL_below_0 : decode cL_below 0 = .ok (.iload_n 0, 1) := by decide +kernel
theorem dL_below_1 : decode cL_below 1 = .ok (.ldc 7, 2) := by decide +kernel
theorem dL_below_3 : decode cL_below 3 = .ok (.iand, 1) := by decide +kernel
theorem dL_below_4 : decode cL_below 4 = .ok (.iload_n 1, 1) := by decide +kernel
theorem dL_below_5 : decode cL_below 5 = .ok (.irem, 1) := by decide +kernel
theorem dL_below_6 : decode cL_below 6 = .ok (.ireturn, 1) := by decide +kernel
theorem dL_cell_0 : decode cL_cell 0 = .ok (.iload_n 1, 1) := by decide +kernel
theorem dL_cell_1 : decode cL_cell 1 = .ok (.aload_n 0, 1) := by decide +kernel
theorem dL_cell_2 : decode cL_cell 2 = .ok (.arraylength, 1) := by decide +kernel
theorem dL_cell_3 : decode cL_cell 3 = .ok (.if_icmp .ge 9, 3) := by decide +kernel
theorem dL_cell_6 : decode cL_cell 6 = .ok (.aload_n 0, 1) := by decide +kernel
theorem dL_cell_7 : decode cL_cell 7 = .ok (.iload_n 1, 1) := by decide +kernel
theorem dL_cell_8 : decode cL_cell 8 = .ok (.iaload, 1) := by decide +kernel
theorem dL_cell_9 : decode cL_cell 9 = .ok (.goto 9, 3) := by decide +kernel
theorem dL_cell_12 : decode cL_cell 12 = .ok (.ldc 8, 2) := by decide +kernel
theorem dL_cell_14 : decode cL_cell 14 = .ok (.iload_n 1, 1) := by decide +kernel
theorem dL_cell_15 : decode cL_cell 15 = .ok (.iconst 3, 1) := by decide +kernel
theorem dL_cell_16 : decode cL_cell 16 = .ok (.iadd, 1) := by decide +kernel
theorem dL_cell_17 : decode cL_cell 17 = .ok (.imul, 1) := by decide +kernel
theorem dL_cell_18 : decode cL_cell 18 = .ok (.ireturn, 1) := by decide +kernel
theorem dL_build_0 : decode cL_build 0 = .ok (.iconst 0, 1) := by decide +kernel
theorem dL_build_1 : decode cL_build 1 = .ok (.istore 4, 2) := by decide +kernel
theorem dL_build_3 : decode cL_build 3 = .ok (.iload 4, 2) := by decide +kernel
theorem dL_build_5 : decode cL_build 5 = .ok (.iconst 4, 1) := by decide +kernel
theorem dL_build_6 : decode cL_build 6 = .ok (.if_icmp .ge 29, 3) := by decide +kernel
theorem dL_build_9 : decode cL_build 9 = .ok (.aload_n 0, 1) := by decide +kernel
theorem dL_build_10 : decode cL_build 10 = .ok (.invokevirtual 9, 3) := by decide +kernel
theorem dL_build_13 : decode cL_build 13 = .ok (.iload 4, 2) := by decide +kernel
theorem dL_build_15 : decode cL_build 15 = .ok (.if_icmp .ne 12, 3) := by decide +kernel
theorem dL_build_18 : decode cL_build 18 = .ok (.aload_n 0, 1) := by decide +kernel
theorem dL_build_19 : decode cL_build 19 = .ok (.invokevirtual 15, 3) := by decide +kernel
theorem dL_build_22 : decode cL_build 22 = .ok (.iload 4, 2) := by decide +kernel
theorem dL_build_24 : decode cL_build 24 = .ok (.if_icmp .eq 5, 3) := by decide +kernel
theorem dL_build_27 : decode cL_build 27 = .ok (.iconst 0, 1) := by decide +kernel
theorem dL_build_28 : decode cL_build 28 = .ok (.ireturn, 1) := by decide +kernel
theorem dL_build_29 : decode cL_build 29 = .ok (.iinc 4 1, 3) := by decide +kernel
theorem dL_build_32 : decode cL_build 32 = .ok (.goto (-29), 3) := by decide +kernel
theorem dL_build_35 : decode cL_build 35 = .ok (.iconst 0, 1) := by decide +kernel
theorem dL_build_36 : decode cL_build 36 = .ok (.istore 4, 2) := by decide +kernel
theorem dL_build_38 : decode cL_build 38 = .ok (.iload 4, 2) := by decide +kernel
theorem dL_build_40 : decode cL_build 40 = .ok (.bipush 16, 2) := by decide +kernel
theorem dL_build_42 : decode cL_build 42 = .ok (.if_icmp .ge 76, 3) := by decide +kernel
theorem dL_build_45 : decode cL_build 45 = .ok (.aload_n 1, 1) := by decide +kernel
theorem dL_build_46 : decode cL_build 46 = .ok (.iload_n 2, 1) := by decide +kernel
theorem dL_build_47 : decode cL_build 47 = .ok (.iload 4, 2) := by decide +kernel
theorem dL_build_49 : decode cL_build 49 = .ok (.iadd, 1) := by decide +kernel
theorem dL_build_50 : decode cL_build 50 = .ok (.invokestatic 18, 3) := by decide +kernel
theorem dL_build_53 : decode cL_build 53 = .ok (.istore 5, 2) := by decide +kernel
theorem dL_build_55 : decode cL_build 55 = .ok (.aload_n 3, 1) := by decide +kernel
theorem dL_build_56 : decode cL_build 56 = .ok (.iload 4, 2) := by decide +kernel
theorem dL_build_58 : decode cL_build 58 = .ok (.iload 5, 2) := by decide +kernel
theorem dL_build_60 : decode cL_build 60 = .ok (.iconst 3, 1) := by decide +kernel
theorem dL_build_61 : decode cL_build 61 = .ok (.iand, 1) := by decide +kernel
theorem dL_build_62 : decode cL_build 62 = .ok (.ifCond .ne 8, 3) := by decide +kernel
theorem dL_build_65 : decode cL_build 65 = .ok (.bipush 99, 2) := by decide +kernel
theorem dL_build_67 : decode cL_build 67 = .ok (.goto 14, 3) := by decide +kernel
theorem dL_build_70 : decode cL_build 70 = .ok (.iload 5, 2) := by decide +kernel
theorem dL_build_72 : decode cL_build 72 = .ok (.iconst 2, 1) := by decide +kernel
theorem dL_build_73 : decode cL_build 73 = .ok (.ishr, 1) := by decide +kernel
theorem dL_build_74 : decode cL_build 74 = .ok (.bipush 9, 2) := by decide +kernel
theorem dL_build_76 : decode cL_build 76 = .ok (.invokestatic 24, 3) := by decide +kernel
theorem dL_build_79 : decode cL_build 79 = .ok (.iconst 3, 1) := by decide +kernel
theorem dL_build_80 : decode cL_build 80 = .ok (.isub, 1) := by decide +kernel
theorem dL_build_81 : decode cL_build 81 = .ok (.iastore, 1) := by decide +kernel
theorem dL_build_82 : decode cL_build 82 = .ok (.aload_n 3, 1) := by decide +kernel
theorem dL_build_83 : decode cL_build 83 = .ok (.iload 4, 2) := by decide +kernel
theorem dL_build_85 : decode cL_build 85 = .ok (.iaload, 1) := by decide +kernel
theorem dL_build_86 : decode cL_build 86 = .ok (.bipush 99, 2) := by decide +kernel
theorem dL_build_88 : decode cL_build 88 = .ok (.if_icmp .ge 24, 3) := by decide +kernel
theorem dL_build_91 : decode cL_build 91 = .ok (.aload_n 0, 1) := by decide +kernel
theorem dL_build_92 : decode cL_build 92 = .ok (.iload 4, 2) := by decide +kernel
theorem dL_build_94 : decode cL_build 94 = .ok (.iconst 4, 1) := by decide +kernel
theorem dL_build_95 : decode cL_build 95 = .ok (.idiv, 1) := by decide +kernel
theorem dL_build_96 : decode cL_build 96 = .ok (.iload 4, 2) := by decide +kernel
theorem dL_build_98 : decode cL_build 98 = .ok (.iconst 4, 1) := by decide +kernel
theorem dL_build_99 : decode cL_build 99 = .ok (.irem, 1) := by decide +kernel
theorem dL_build_100 : decode cL_build 100 = .ok (.aload_n 3, 1) := by decide +kernel
theorem dL_build_101 : decode cL_build 101 = .ok (.iload 4, 2) := by decide +kernel
theorem dL_build_103 : decode cL_build 103 = .ok (.iaload, 1) := by decide +kernel
theorem dL_build_104 : decode cL_build 104 = .ok (.invokevirtual 28, 3) := by decide +kernel
theorem dL_build_107 : decode cL_build 107 = .ok (.ifCond .eq 5, 3) := by decide +kernel
theorem dL_build_110 : decode cL_build 110 = .ok (.iconst 0, 1) := by decide +kernel
theorem dL_build_111 : decode cL_build 111 = .ok (.ireturn, 1) := by decide +kernel
theorem dL_build_112 : decode cL_build 112 = .ok (.iinc 4 1, 3) := by decide +kernel
theorem dL_build_115 : decode cL_build 115 = .ok (.goto (-77), 3) := by decide +kernel
theorem dL_build_118 : decode cL_build 118 = .ok (.iconst 1, 1) := by decide +kernel
theorem dL_build_119 : decode cL_build 119 = .ok (.ireturn, 1) := by decide +kernel
theorem dL_column_0 : decode cL_column 0 = .ok (.iload_n 0, 1) := by decide +kernel
theorem dL_column_1 : decode cL_column 1 = .ok (.iload_n 1, 1) := by decide +kernel
theorem dL_column_2 : decode cL_column 2 = .ok (.ifCond .ne 8, 3) := by decide +kernel
theorem dL_column_5 : decode cL_column 5 = .ok (.bipush 125, 2) := by decide +kernel
theorem dL_column_7 : decode cL_column 7 = .ok (.goto 23, 3) := by decide +kernel
theorem dL_column_10 : decode cL_column 10 = .ok (.iload_n 1, 1) := by decide +kernel
theorem dL_column_11 : decode cL_column 11 = .ok (.iconst 1, 1) := by decide +kernel
theorem dL_column_12 : decode cL_column 12 = .ok (.if_icmp .ne 8, 3) := by decide +kernel
theorem dL_column_15 : decode cL_column 15 = .ok (.bipush 25, 2) := by decide +kernel
theorem dL_column_17 : decode cL_column 17 = .ok (.goto 13, 3) := by decide +kernel
theorem dL_column_20 : decode cL_column 20 = .ok (.iload_n 1, 1) := by decide +kernel
theorem dL_column_21 : decode cL_column 21 = .ok (.iconst 2, 1) := by decide +kernel
theorem dL_column_22 : decode cL_column 22 = .ok (.if_icmp .ne 7, 3) := by decide +kernel
theorem dL_column_25 : decode cL_column 25 = .ok (.iconst 5, 1) := by decide +kernel
theorem dL_column_26 : decode cL_column 26 = .ok (.goto 4, 3) := by decide +kernel
theorem dL_column_29 : decode cL_column 29 = .ok (.iconst 1, 1) := by decide +kernel
theorem dL_column_30 : decode cL_column 30 = .ok (.idiv, 1) := by decide +kernel
theorem dL_column_31 : decode cL_column 31 = .ok (.iconst 5, 1) := by decide +kernel
theorem dL_column_32 : decode cL_column 32 = .ok (.irem, 1) := by decide +kernel
theorem dL_column_33 : decode cL_column 33 = .ok (.ireturn, 1) := by decide +kernel
theorem dL_sizeOf_0 : decode cL_sizeOf 0 = .ok (.iconst 0, 1) := by decide +kernel
theorem dL_sizeOf_1 : decode cL_sizeOf 1 = .ok (.istore_n 2, 1) := by decide +kernel
theorem dL_sizeOf_2 : decode cL_sizeOf 2 = .ok (.iconst 0, 1) := by decide +kernel
theorem dL_sizeOf_3 : decode cL_sizeOf 3 = .ok (.istore_n 3, 1) := by decide +kernel
theorem dL_sizeOf_4 : decode cL_sizeOf 4 = .ok (.iconst 0, 1) := by decide +kernel
theorem dL_sizeOf_5 : decode cL_sizeOf 5 = .ok (.istore 4, 2) := by decide +kernel
theorem dL_sizeOf_7 : decode cL_sizeOf 7 = .ok (.iload 4, 2) := by decide +kernel
theorem dL_sizeOf_9 : decode cL_sizeOf 9 = .ok (.iconst 4, 1) := by decide +kernel
theorem dL_sizeOf_10 : decode cL_sizeOf 10 = .ok (.if_icmp .ge 62, 3) := by decide +kernel
theorem dL_sizeOf_13 : decode cL_sizeOf 13 = .ok (.iload_n 0, 1) := by decide +kernel
theorem dL_sizeOf_14 : decode cL_sizeOf 14 = .ok (.iload 4, 2) := by decide +kernel
theorem dL_sizeOf_16 : decode cL_sizeOf 16 = .ok (.invokestatic 32, 3) := by decide +kernel
theorem dL_sizeOf_19 : decode cL_sizeOf 19 = .ok (.istore 5, 2) := by decide +kernel
theorem dL_sizeOf_21 : decode cL_sizeOf 21 = .ok (.iload 5, 2) := by decide +kernel
theorem dL_sizeOf_23 : decode cL_sizeOf 23 = .ok (.iconst 4, 1) := by decide +kernel
theorem dL_sizeOf_24 : decode cL_sizeOf 24 = .ok (.if_icmp .ne 6, 3) := by decide +kernel
theorem dL_sizeOf_27 : decode cL_sizeOf 27 = .ok (.goto 39, 3) := by decide +kernel
theorem dL_sizeOf_30 : decode cL_sizeOf 30 = .ok (.iload_n 2, 1) := by decide +kernel
theorem dL_sizeOf_31 : decode cL_sizeOf 31 = .ok (.iload 5, 2) := by decide +kernel
theorem dL_sizeOf_33 : decode cL_sizeOf 33 = .ok (.ishr, 1) := by decide +kernel
theorem dL_sizeOf_34 : decode cL_sizeOf 34 = .ok (.iconst 1, 1) := by decide +kernel
theorem dL_sizeOf_35 : decode cL_sizeOf 35 = .ok (.iand, 1) := by decide +kernel
theorem dL_sizeOf_36 : decode cL_sizeOf 36 = .ok (.iconst 1, 1) := by decide +kernel
theorem dL_sizeOf_37 : decode cL_sizeOf 37 = .ok (.if_icmp .eq 17, 3) := by decide +kernel
theorem dL_sizeOf_40 : decode cL_sizeOf 40 = .ok (.aload_n 1, 1) := by decide +kernel
theorem dL_sizeOf_41 : decode cL_sizeOf 41 = .ok (.iconst 4, 1) := by decide +kernel
theorem dL_sizeOf_42 : decode cL_sizeOf 42 = .ok (.iload 4, 2) := by decide +kernel
theorem dL_sizeOf_44 : decode cL_sizeOf 44 = .ok (.imul, 1) := by decide +kernel
theorem dL_sizeOf_45 : decode cL_sizeOf 45 = .ok (.iload 5, 2) := by decide +kernel
theorem dL_sizeOf_47 : decode cL_sizeOf 47 = .ok (.iadd, 1) := by decide +kernel
theorem dL_sizeOf_48 : decode cL_sizeOf 48 = .ok (.iaload, 1) := by decide +kernel
theorem dL_sizeOf_49 : decode cL_sizeOf 49 = .ok (.bipush 99, 2) := by decide +kernel
theorem dL_sizeOf_51 : decode cL_sizeOf 51 = .ok (.if_icmp .ne 5, 3) := by decide +kernel
theorem dL_sizeOf_54 : decode cL_sizeOf 54 = .ok (.iconst (-1), 1) := by decide +kernel
theorem dL_sizeOf_55 : decode cL_sizeOf 55 = .ok (.ireturn, 1) := by decide +kernel
theorem dL_sizeOf_56 : decode cL_sizeOf 56 = .ok (.iload_n 2, 1) := by decide +kernel
theorem dL_sizeOf_57 : decode cL_sizeOf 57 = .ok (.iconst 1, 1) := by decide +kernel
theorem dL_sizeOf_58 : decode cL_sizeOf 58 = .ok (.iload 5, 2) := by decide +kernel
theorem dL_sizeOf_60 : decode cL_sizeOf 60 = .ok (.ishl, 1) := by decide +kernel
theorem dL_sizeOf_61 : decode cL_sizeOf 61 = .ok (.ior, 1) := by decide +kernel
theorem dL_sizeOf_62 : decode cL_sizeOf 62 = .ok (.istore_n 2, 1) := by decide +kernel
theorem dL_sizeOf_63 : decode cL_sizeOf 63 = .ok (.iinc 3 1, 3) := by decide +kernel
theorem dL_sizeOf_66 : decode cL_sizeOf 66 = .ok (.iinc 4 1, 3) := by decide +kernel
theorem dL_sizeOf_69 : decode cL_sizeOf 69 = .ok (.goto (-62), 3) := by decide +kernel
theorem dL_sizeOf_72 : decode cL_sizeOf 72 = .ok (.iload_n 3, 1) := by decide +kernel
theorem dL_sizeOf_73 : decode cL_sizeOf 73 = .ok (.ireturn, 1) := by decide +kernel
theorem dL_costOf_0 : decode cL_costOf 0 = .ok (.iconst 0, 1) := by decide +kernel
theorem dL_costOf_1 : decode cL_costOf 1 = .ok (.istore_n 2, 1) := by decide +kernel
theorem dL_costOf_2 : decode cL_costOf 2 = .ok (.iconst 0, 1) := by decide +kernel
theorem dL_costOf_3 : decode cL_costOf 3 = .ok (.istore_n 3, 1) := by decide +kernel
theorem dL_costOf_4 : decode cL_costOf 4 = .ok (.iload_n 3, 1) := by decide +kernel
theorem dL_costOf_5 : decode cL_costOf 5 = .ok (.iconst 4, 1) := by decide +kernel
theorem dL_costOf_6 : decode cL_costOf 6 = .ok (.if_icmp .ge 36, 3) := by decide +kernel
theorem dL_costOf_9 : decode cL_costOf 9 = .ok (.iload_n 2, 1) := by decide +kernel
theorem dL_costOf_10 : decode cL_costOf 10 = .ok (.iload_n 0, 1) := by decide +kernel
theorem dL_costOf_11 : decode cL_costOf 11 = .ok (.iload_n 3, 1) := by decide +kernel
theorem dL_costOf_12 : decode cL_costOf 12 = .ok (.invokestatic 32, 3) := by decide +kernel
theorem dL_costOf_15 : decode cL_costOf 15 = .ok (.iconst 4, 1) := by decide +kernel
theorem dL_costOf_16 : decode cL_costOf 16 = .ok (.if_icmp .ne 7, 3) := by decide +kernel
theorem dL_costOf_19 : decode cL_costOf 19 = .ok (.iconst 0, 1) := by decide +kernel
theorem dL_costOf_20 : decode cL_costOf 20 = .ok (.goto 14, 3) := by decide +kernel
theorem dL_costOf_23 : decode cL_costOf 23 = .ok (.aload_n 1, 1) := by decide +kernel
theorem dL_costOf_24 : decode cL_costOf 24 = .ok (.iconst 4, 1) := by decide +kernel
theorem dL_costOf_25 : decode cL_costOf 25 = .ok (.iload_n 3, 1) := by decide +kernel
theorem dL_costOf_26 : decode cL_costOf 26 = .ok (.imul, 1) := by decide +kernel
theorem dL_costOf_27 : decode cL_costOf 27 = .ok (.iload_n 0, 1) := by decide +kernel
theorem dL_costOf_28 : decode cL_costOf 28 = .ok (.iload_n 3, 1) := by decide +kernel
theorem dL_costOf_29 : decode cL_costOf 29 = .ok (.invokestatic 32, 3) := by decide +kernel
theorem dL_costOf_32 : decode cL_costOf 32 = .ok (.iadd, 1) := by decide +kernel
theorem dL_costOf_33 : decode cL_costOf 33 = .ok (.iaload, 1) := by decide +kernel
theorem dL_costOf_34 : decode cL_costOf 34 = .ok (.iadd, 1) := by decide +kernel
theorem dL_costOf_35 : decode cL_costOf 35 = .ok (.istore_n 2, 1) := by decide +kernel
theorem dL_costOf_36 : decode cL_costOf 36 = .ok (.iinc 3 1, 3) := by decide +kernel
theorem dL_costOf_39 : decode cL_costOf 39 = .ok (.goto (-35), 3) := by decide +kernel
theorem dL_costOf_42 : decode cL_costOf 42 = .ok (.iload_n 2, 1) := by decide +kernel
theorem dL_costOf_43 : decode cL_costOf 43 = .ok (.ireturn, 1) := by decide +kernel
theorem dL_greatestSize_0 : decode cL_greatestSize 0 = .ok (.iconst 0, 1) := by decide +kernel
theorem dL_greatestSize_1 : decode cL_greatestSize 1 = .ok (.istore_n 1, 1) := by decide +kernel
theorem dL_greatestSize_2 : decode cL_greatestSize 2 = .ok (.iconst 0, 1) := by decide +kernel
theorem dL_greatestSize_3 : decode cL_greatestSize 3 = .ok (.istore_n 2, 1) := by decide +kernel
theorem dL_greatestSize_4 : decode cL_greatestSize 4 = .ok (.iload_n 2, 1) := by decide +kernel
theorem dL_greatestSize_5 : decode cL_greatestSize 5 = .ok (.sipush 625, 3) := by decide +kernel
theorem dL_greatestSize_8 : decode cL_greatestSize 8 = .ok (.if_icmp .ge 19, 3) := by decide +kernel
theorem dL_greatestSize_11 : decode cL_greatestSize 11 = .ok (.iload_n 1, 1) := by decide +kernel
theorem dL_greatestSize_12 : decode cL_greatestSize 12 = .ok (.iload_n 2, 1) := by decide +kernel
theorem dL_greatestSize_13 : decode cL_greatestSize 13 = .ok (.aload_n 0, 1) := by decide +kernel
theorem dL_greatestSize_14 : decode cL_greatestSize 14 = .ok (.invokestatic 35, 3) := by decide +kernel
theorem dL_greatestSize_17 : decode cL_greatestSize 17 = .ok (.invokestatic 39, 3) := by decide +kernel
theorem dL_greatestSize_20 : decode cL_greatestSize 20 = .ok (.istore_n 1, 1) := by decide +kernel
theorem dL_greatestSize_21 : decode cL_greatestSize 21 = .ok (.iinc 2 1, 3) := by decide +kernel
theorem dL_greatestSize_24 : decode cL_greatestSize 24 = .ok (.goto (-20), 3) := by decide +kernel
theorem dL_greatestSize_27 : decode cL_greatestSize 27 = .ok (.iload_n 1, 1) := by decide +kernel
theorem dL_greatestSize_28 : decode cL_greatestSize 28 = .ok (.ireturn, 1) := by decide +kernel
theorem dL_best_0 : decode cL_best 0 = .ok (.aload_n 0, 1) := by decide +kernel
theorem dL_best_1 : decode cL_best 1 = .ok (.invokestatic 44, 3) := by decide +kernel
theorem dL_best_4 : decode cL_best 4 = .ok (.istore_n 1, 1) := by decide +kernel
theorem dL_best_5 : decode cL_best 5 = .ok (.iconst (-1), 1) := by decide +kernel
theorem dL_best_6 : decode cL_best 6 = .ok (.istore_n 2, 1) := by decide +kernel
theorem dL_best_7 : decode cL_best 7 = .ok (.iconst 0, 1) := by decide +kernel
theorem dL_best_8 : decode cL_best 8 = .ok (.istore_n 3, 1) := by decide +kernel
theorem dL_best_9 : decode cL_best 9 = .ok (.iload_n 3, 1) := by decide +kernel
theorem dL_best_10 : decode cL_best 10 = .ok (.sipush 625, 3) := by decide +kernel
theorem dL_best_13 : decode cL_best 13 = .ok (.if_icmp .ge 37, 3) := by decide +kernel
theorem dL_best_16 : decode cL_best 16 = .ok (.iload_n 3, 1) := by decide +kernel
theorem dL_best_17 : decode cL_best 17 = .ok (.aload_n 0, 1) := by decide +kernel
theorem dL_best_18 : decode cL_best 18 = .ok (.invokestatic 35, 3) := by decide +kernel
theorem dL_best_21 : decode cL_best 21 = .ok (.iload_n 1, 1) := by decide +kernel
theorem dL_best_22 : decode cL_best 22 = .ok (.if_icmp .ne 22, 3) := by decide +kernel
theorem dL_best_25 : decode cL_best 25 = .ok (.iload_n 2, 1) := by decide +kernel
theorem dL_best_26 : decode cL_best 26 = .ok (.ifCond .lt 16, 3) := by decide +kernel
theorem dL_best_29 : decode cL_best 29 = .ok (.iload_n 3, 1) := by decide +kernel
theorem dL_best_30 : decode cL_best 30 = .ok (.aload_n 0, 1) := by decide +kernel
theorem dL_best_31 : decode cL_best 31 = .ok (.invokestatic 48, 3) := by decide +kernel
theorem dL_best_34 : decode cL_best 34 = .ok (.iload_n 2, 1) := by decide +kernel
theorem dL_best_35 : decode cL_best 35 = .ok (.aload_n 0, 1) := by decide +kernel
theorem dL_best_36 : decode cL_best 36 = .ok (.invokestatic 48, 3) := by decide +kernel
theorem dL_best_39 : decode cL_best 39 = .ok (.if_icmp .ge 5, 3) := by decide +kernel
theorem dL_best_42 : decode cL_best 42 = .ok (.iload_n 3, 1) := by decide +kernel
theorem dL_best_43 : decode cL_best 43 = .ok (.istore_n 2, 1) := by decide +kernel
theorem dL_best_44 : decode cL_best 44 = .ok (.iinc 3 1, 3) := by decide +kernel
theorem dL_best_47 : decode cL_best 47 = .ok (.goto (-38), 3) := by decide +kernel
theorem dL_best_50 : decode cL_best 50 = .ok (.iload_n 2, 1) := by decide +kernel
theorem dL_best_51 : decode cL_best 51 = .ok (.ireturn, 1) := by decide +kernel
theorem dL_law_0 : decode cL_law 0 = .ok (.new 10, 3) := by decide +kernel
theorem dL_law_3 : decode cL_law 3 = .ok (.dup, 1) := by decide +kernel
theorem dL_law_4 : decode cL_law 4 = .ok (.invokespecial 51, 3) := by decide +kernel
theorem dL_law_7 : decode cL_law 7 = .ok (.astore_n 1, 1) := by decide +kernel
theorem dL_law_8 : decode cL_law 8 = .ok (.bipush 16, 2) := by decide +kernel
theorem dL_law_10 : decode cL_law 10 = .ok (.newarray .int, 2) := by decide +kernel
theorem dL_law_12 : decode cL_law 12 = .ok (.astore_n 2, 1) := by decide +kernel
theorem dL_law_13 : decode cL_law 13 = .ok (.aload_n 1, 1) := by decide +kernel
theorem dL_law_14 : decode cL_law 14 = .ok (.aload_n 0, 1) := by decide +kernel
theorem dL_law_15 : decode cL_law 15 = .ok (.iconst 0, 1) := by decide +kernel
theorem dL_law_16 : decode cL_law 16 = .ok (.aload_n 2, 1) := by decide +kernel
theorem dL_law_17 : decode cL_law 17 = .ok (.invokestatic 52, 3) := by decide +kernel
theorem dL_law_20 : decode cL_law 20 = .ok (.ifCond .ne 5, 3) := by decide +kernel
theorem dL_law_23 : decode cL_law 23 = .ok (.iconst 0, 1) := by decide +kernel
theorem dL_law_24 : decode cL_law 24 = .ok (.ireturn, 1) := by decide +kernel
theorem dL_law_25 : decode cL_law 25 = .ok (.iconst 4, 1) := by decide +kernel
theorem dL_law_26 : decode cL_law 26 = .ok (.newarray .boolean, 2) := by decide +kernel
theorem dL_law_28 : decode cL_law 28 = .ok (.astore_n 3, 1) := by decide +kernel
theorem dL_law_29 : decode cL_law 29 = .ok (.iconst 4, 1) := by decide +kernel
theorem dL_law_30 : decode cL_law 30 = .ok (.newarray .boolean, 2) := by decide +kernel
theorem dL_law_32 : decode cL_law 32 = .ok (.astore 4, 2) := by decide +kernel
theorem dL_law_34 : decode cL_law 34 = .ok (.iconst 0, 1) := by decide +kernel
theorem dL_law_35 : decode cL_law 35 = .ok (.istore 5, 2) := by decide +kernel
theorem dL_law_37 : decode cL_law 37 = .ok (.iload 5, 2) := by decide +kernel
theorem dL_law_39 : decode cL_law 39 = .ok (.bipush 8, 2) := by decide +kernel
theorem dL_law_41 : decode cL_law 41 = .ok (.if_icmp .ge 404, 3) := by decide +kernel
theorem dL_law_44 : decode cL_law 44 = .ok (.aload_n 0, 1) := by decide +kernel
theorem dL_law_45 : decode cL_law 45 = .ok (.bipush 16, 2) := by decide +kernel
theorem dL_law_47 : decode cL_law 47 = .ok (.iload 5, 2) := by decide +kernel
theorem dL_law_49 : decode cL_law 49 = .ok (.iadd, 1) := by decide +kernel
theorem dL_law_50 : decode cL_law 50 = .ok (.invokestatic 18, 3) := by decide +kernel
theorem dL_law_53 : decode cL_law 53 = .ok (.istore 6, 2) := by decide +kernel
theorem dL_law_55 : decode cL_law 55 = .ok (.iload 6, 2) := by decide +kernel
theorem dL_law_57 : decode cL_law 57 = .ok (.iconst 3, 1) := by decide +kernel
theorem dL_law_58 : decode cL_law 58 = .ok (.ishr, 1) := by decide +kernel
theorem dL_law_59 : decode cL_law 59 = .ok (.iconst 4, 1) := by decide +kernel
theorem dL_law_60 : decode cL_law 60 = .ok (.invokestatic 24, 3) := by decide +kernel
theorem dL_law_63 : decode cL_law 63 = .ok (.istore 7, 2) := by decide +kernel
theorem dL_law_65 : decode cL_law 65 = .ok (.iload 6, 2) := by decide +kernel
theorem dL_law_67 : decode cL_law 67 = .ok (.bipush 6, 2) := by decide +kernel
theorem dL_law_69 : decode cL_law 69 = .ok (.ishr, 1) := by decide +kernel
theorem dL_law_70 : decode cL_law 70 = .ok (.iconst 4, 1) := by decide +kernel
theorem dL_law_71 : decode cL_law 71 = .ok (.invokestatic 24, 3) := by decide +kernel
theorem dL_law_74 : decode cL_law 74 = .ok (.istore 8, 2) := by decide +kernel
theorem dL_law_76 : decode cL_law 76 = .ok (.iload 6, 2) := by decide +kernel
theorem dL_law_78 : decode cL_law 78 = .ok (.bipush 7, 2) := by decide +kernel
theorem dL_law_80 : decode cL_law 80 = .ok (.iand, 1) := by decide +kernel
theorem dL_law_81 : decode cL_law 81 = .ok (.istore 9, 2) := by decide +kernel
theorem dL_law_83 : decode cL_law 83 = .ok (.iload 9, 2) := by decide +kernel
theorem dL_law_85 : decode cL_law 85 = .ok (.iconst 3, 1) := by decide +kernel
theorem dL_law_86 : decode cL_law 86 = .ok (.if_icmp .ge 65, 3) := by decide +kernel
theorem dL_law_89 : decode cL_law 89 = .ok (.iload 6, 2) := by decide +kernel
theorem dL_law_91 : decode cL_law 91 = .ok (.bipush 10, 2) := by decide +kernel
theorem dL_law_93 : decode cL_law 93 = .ok (.ishr, 1) := by decide +kernel
theorem dL_law_94 : decode cL_law 94 = .ok (.bipush 11, 2) := by decide +kernel
theorem dL_law_96 : decode cL_law 96 = .ok (.invokestatic 24, 3) := by decide +kernel
theorem dL_law_99 : decode cL_law 99 = .ok (.iconst 4, 1) := by decide +kernel
theorem dL_law_100 : decode cL_law 100 = .ok (.isub, 1) := by decide +kernel
theorem dL_law_101 : decode cL_law 101 = .ok (.istore 10, 2) := by decide +kernel
theorem dL_law_103 : decode cL_law 103 = .ok (.aload_n 1, 1) := by decide +kernel
theorem dL_law_104 : decode cL_law 104 = .ok (.iload 7, 2) := by decide +kernel
theorem dL_law_106 : decode cL_law 106 = .ok (.iload 8, 2) := by decide +kernel
theorem dL_law_108 : decode cL_law 108 = .ok (.iload 10, 2) := by decide +kernel
theorem dL_law_110 : decode cL_law 110 = .ok (.invokevirtual 28, 3) := by decide +kernel
theorem dL_law_113 : decode cL_law 113 = .ok (.aload_n 2, 1) := by decide +kernel
theorem dL_law_114 : decode cL_law 114 = .ok (.iconst 4, 1) := by decide +kernel
theorem dL_law_115 : decode cL_law 115 = .ok (.iload 7, 2) := by decide +kernel
theorem dL_law_117 : decode cL_law 117 = .ok (.imul, 1) := by decide +kernel
theorem dL_law_118 : decode cL_law 118 = .ok (.iload 8, 2) := by decide +kernel
theorem dL_law_120 : decode cL_law 120 = .ok (.iadd, 1) := by decide +kernel
theorem dL_law_121 : decode cL_law 121 = .ok (.iaload, 1) := by decide +kernel
theorem dL_law_122 : decode cL_law 122 = .ok (.bipush 99, 2) := by decide +kernel
theorem dL_law_124 : decode cL_law 124 = .ok (.if_icmp .ge 7, 3) := by decide +kernel
theorem dL_law_127 : decode cL_law 127 = .ok (.iconst 1, 1) := by decide +kernel
theorem dL_law_128 : decode cL_law 128 = .ok (.goto 4, 3) := by decide +kernel
theorem dL_law_131 : decode cL_law 131 = .ok (.iconst 0, 1) := by decide +kernel
theorem dL_law_132 : decode cL_law 132 = .ok (.if_icmp .eq 5, 3) := by decide +kernel
theorem dL_law_135 : decode cL_law 135 = .ok (.iconst 0, 1) := by decide +kernel
theorem dL_law_136 : decode cL_law 136 = .ok (.ireturn, 1) := by decide +kernel
theorem dL_law_137 : decode cL_law 137 = .ok (.aload_n 2, 1) := by decide +kernel
theorem dL_law_138 : decode cL_law 138 = .ok (.iconst 4, 1) := by decide +kernel
theorem dL_law_139 : decode cL_law 139 = .ok (.iload 7, 2) := by decide +kernel
theorem dL_law_141 : decode cL_law 141 = .ok (.imul, 1) := by decide +kernel
theorem dL_law_142 : decode cL_law 142 = .ok (.iload 8, 2) := by decide +kernel
theorem dL_law_144 : decode cL_law 144 = .ok (.iadd, 1) := by decide +kernel
theorem dL_law_145 : decode cL_law 145 = .ok (.iload 10, 2) := by decide +kernel
theorem dL_law_147 : decode cL_law 147 = .ok (.iastore, 1) := by decide +kernel
theorem dL_law_148 : decode cL_law 148 = .ok (.goto 151, 3) := by decide +kernel
theorem dL_law_151 : decode cL_law 151 = .ok (.iload 9, 2) := by decide +kernel
theorem dL_law_153 : decode cL_law 153 = .ok (.iconst 3, 1) := by decide +kernel
theorem dL_law_154 : decode cL_law 154 = .ok (.if_icmp .ne 49, 3) := by decide +kernel
theorem dL_law_157 : decode cL_law 157 = .ok (.aload_n 1, 1) := by decide +kernel
theorem dL_law_158 : decode cL_law 158 = .ok (.iload 7, 2) := by decide +kernel
theorem dL_law_160 : decode cL_law 160 = .ok (.iload 8, 2) := by decide +kernel
theorem dL_law_162 : decode cL_law 162 = .ok (.invokevirtual 56, 3) := by decide +kernel
theorem dL_law_165 : decode cL_law 165 = .ok (.aload_n 2, 1) := by decide +kernel
theorem dL_law_166 : decode cL_law 166 = .ok (.iconst 4, 1) := by decide +kernel
theorem dL_law_167 : decode cL_law 167 = .ok (.iload 7, 2) := by decide +kernel
theorem dL_law_169 : decode cL_law 169 = .ok (.imul, 1) := by decide +kernel
theorem dL_law_170 : decode cL_law 170 = .ok (.iload 8, 2) := by decide +kernel
theorem dL_law_172 : decode cL_law 172 = .ok (.iadd, 1) := by decide +kernel
