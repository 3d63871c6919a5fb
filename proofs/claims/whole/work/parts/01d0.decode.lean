theorem dX0_init_0 : decode cX0_init 0 = .ok (.aload_n 0, 1) := by decide +kernel
theorem dX0_init_1 : decode cX0_init 1 = .ok (.invokespecial 3, 3) := by decide +kernel
theorem dX0_init_4 : decode cX0_init 4 = .ok (.aload_n 0, 1) := by decide +kernel
theorem dX0_init_5 : decode cX0_init 5 = .ok (.bipush 30, 2) := by decide +kernel
theorem dX0_init_7 : decode cX0_init 7 = .ok (.newarray .int, 2) := by decide +kernel
theorem dX0_init_9 : decode cX0_init 9 = .ok (.putfield 9, 3) := by decide +kernel
theorem dX0_init_12 : decode cX0_init 12 = .ok (.aload_n 0, 1) := by decide +kernel
theorem dX0_init_13 : decode cX0_init 13 = .ok (.bipush 30, 2) := by decide +kernel
theorem dX0_init_15 : decode cX0_init 15 = .ok (.newarray .long, 2) := by decide +kernel
theorem dX0_init_17 : decode cX0_init 17 = .ok (.putfield 15, 3) := by decide +kernel
theorem dX0_init_20 : decode cX0_init 20 = .ok (.aload_n 0, 1) := by decide +kernel
theorem dX0_init_21 : decode cX0_init 21 = .ok (.bipush 30, 2) := by decide +kernel
theorem dX0_init_23 : decode cX0_init 23 = .ok (.newarray .int, 2) := by decide +kernel
theorem dX0_init_25 : decode cX0_init 25 = .ok (.putfield 19, 3) := by decide +kernel
theorem dX0_init_28 : decode cX0_init 28 = .ok (.aload_n 0, 1) := by decide +kernel
theorem dX0_init_29 : decode cX0_init 29 = .ok (.bipush 30, 2) := by decide +kernel
theorem dX0_init_31 : decode cX0_init 31 = .ok (.newarray .int, 2) := by decide +kernel
theorem dX0_init_33 : decode cX0_init 33 = .ok (.putfield 22, 3) := by decide +kernel
theorem dX0_init_36 : decode cX0_init 36 = .ok (.return_, 1) := by decide +kernel
theorem dX0_offer_0 : decode cX0_offer 0 = .ok (.aload_n 0, 1) := by decide +kernel
theorem dX0_offer_1 : decode cX0_offer 1 = .ok (.getfield 25, 3) := by decide +kernel
theorem dX0_offer_4 : decode cX0_offer 4 = .ok (.iload 6, 2) := by decide +kernel
theorem dX0_offer_6 : decode cX0_offer 6 = .ok (.if_icmp .lt 25, 3) := by decide +kernel
theorem dX0_offer_9 : decode cX0_offer 9 = .ok (.aload_n 0, 1) := by decide +kernel
theorem dX0_offer_10 : decode cX0_offer 10 = .ok (.iload_n 1, 1) := by decide +kernel
theorem dX0_offer_11 : decode cX0_offer 11 = .ok (.lload_n 2, 1) := by decide +kernel
theorem dX0_offer_12 : decode cX0_offer 12 = .ok (.iload 6, 2) := by decide +kernel
theorem dX0_offer_14 : decode cX0_offer 14 = .ok (.iconst 1, 1) := by decide +kernel
theorem dX0_offer_15 : decode cX0_offer 15 = .ok (.isub, 1) := by decide +kernel
theorem dX0_offer_16 : decode cX0_offer 16 = .ok (.invokevirtual 29, 3) := by decide +kernel
theorem dX0_offer_19 : decode cX0_offer 19 = .ok (.ifCond .ne 4, 3) := by decide +kernel
theorem dX0_offer_22 : decode cX0_offer 22 = .ok (.return_, 1) := by decide +kernel
theorem dX0_offer_23 : decode cX0_offer 23 = .ok (.aload_n 0, 1) := by decide +kernel
theorem dX0_offer_24 : decode cX0_offer 24 = .ok (.iload 6, 2) := by decide +kernel
theorem dX0_offer_26 : decode cX0_offer 26 = .ok (.iconst 1, 1) := by decide +kernel
theorem dX0_offer_27 : decode cX0_offer 27 = .ok (.isub, 1) := by decide +kernel
theorem dX0_offer_28 : decode cX0_offer 28 = .ok (.putfield 25, 3) := by decide +kernel
theorem dX0_offer_31 : decode cX0_offer 31 = .ok (.aload_n 0, 1) := by decide +kernel
theorem dX0_offer_32 : decode cX0_offer 32 = .ok (.getfield 25, 3) := by decide +kernel
theorem dX0_offer_35 : decode cX0_offer 35 = .ok (.istore 7, 2) := by decide +kernel
theorem dX0_offer_37 : decode cX0_offer 37 = .ok (.iload 7, 2) := by decide +kernel
theorem dX0_offer_39 : decode cX0_offer 39 = .ok (.ifCond .le 30, 3) := by decide +kernel
theorem dX0_offer_42 : decode cX0_offer 42 = .ok (.aload_n 0, 1) := by decide +kernel
theorem dX0_offer_43 : decode cX0_offer 43 = .ok (.iload_n 1, 1) := by decide +kernel
theorem dX0_offer_44 : decode cX0_offer 44 = .ok (.lload_n 2, 1) := by decide +kernel
theorem dX0_offer_45 : decode cX0_offer 45 = .ok (.iload 7, 2) := by decide +kernel
theorem dX0_offer_47 : decode cX0_offer 47 = .ok (.iconst 1, 1) := by decide +kernel
theorem dX0_offer_48 : decode cX0_offer 48 = .ok (.isub, 1) := by decide +kernel
theorem dX0_offer_49 : decode cX0_offer 49 = .ok (.invokevirtual 29, 3) := by decide +kernel
theorem dX0_offer_52 : decode cX0_offer 52 = .ok (.ifCond .eq 17, 3) := by decide +kernel
theorem dX0_offer_55 : decode cX0_offer 55 = .ok (.aload_n 0, 1) := by decide +kernel
theorem dX0_offer_56 : decode cX0_offer 56 = .ok (.iload 7, 2) := by decide +kernel
theorem dX0_offer_58 : decode cX0_offer 58 = .ok (.iconst 1, 1) := by decide +kernel
theorem dX0_offer_59 : decode cX0_offer 59 = .ok (.isub, 1) := by decide +kernel
theorem dX0_offer_60 : decode cX0_offer 60 = .ok (.invokevirtual 33, 3) := by decide +kernel
theorem dX0_offer_63 : decode cX0_offer 63 = .ok (.iinc 7 (-1), 3) := by decide +kernel
theorem dX0_offer_66 : decode cX0_offer 66 = .ok (.goto (-29), 3) := by decide +kernel
theorem dX0_offer_69 : decode cX0_offer 69 = .ok (.aload_n 0, 1) := by decide +kernel
theorem dX0_offer_70 : decode cX0_offer 70 = .ok (.getfield 9, 3) := by decide +kernel
theorem dX0_offer_73 : decode cX0_offer 73 = .ok (.iload 7, 2) := by decide +kernel
theorem dX0_offer_75 : decode cX0_offer 75 = .ok (.iload_n 1, 1) := by decide +kernel
theorem dX0_offer_76 : decode cX0_offer 76 = .ok (.iastore, 1) := by decide +kernel
theorem dX0_offer_77 : decode cX0_offer 77 = .ok (.aload_n 0, 1) := by decide +kernel
theorem dX0_offer_78 : decode cX0_offer 78 = .ok (.getfield 15, 3) := by decide +kernel
theorem dX0_offer_81 : decode cX0_offer 81 = .ok (.iload 7, 2) := by decide +kernel
theorem dX0_offer_83 : decode cX0_offer 83 = .ok (.lload_n 2, 1) := by decide +kernel
theorem dX0_offer_84 : decode cX0_offer 84 = .ok (.lastore, 1) := by decide +kernel
theorem dX0_offer_85 : decode cX0_offer 85 = .ok (.aload_n 0, 1) := by decide +kernel
theorem dX0_offer_86 : decode cX0_offer 86 = .ok (.getfield 19, 3) := by decide +kernel
theorem dX0_offer_89 : decode cX0_offer 89 = .ok (.iload 7, 2) := by decide +kernel
theorem dX0_offer_91 : decode cX0_offer 91 = .ok (.iload 4, 2) := by decide +kernel
theorem dX0_offer_93 : decode cX0_offer 93 = .ok (.iastore, 1) := by decide +kernel
theorem dX0_offer_94 : decode cX0_offer 94 = .ok (.aload_n 0, 1) := by decide +kernel
theorem dX0_offer_95 : decode cX0_offer 95 = .ok (.getfield 22, 3) := by decide +kernel
theorem dX0_offer_98 : decode cX0_offer 98 = .ok (.iload 7, 2) := by decide +kernel
theorem dX0_offer_100 : decode cX0_offer 100 = .ok (.iload 5, 2) := by decide +kernel
theorem dX0_offer_102 : decode cX0_offer 102 = .ok (.iastore, 1) := by decide +kernel
theorem dX0_offer_103 : decode cX0_offer 103 = .ok (.aload_n 0, 1) := by decide +kernel
theorem dX0_offer_104 : decode cX0_offer 104 = .ok (.dup, 1) := by decide +kernel
theorem dX0_offer_105 : decode cX0_offer 105 = .ok (.getfield 25, 3) := by decide +kernel
theorem dX0_offer_108 : decode cX0_offer 108 = .ok (.iconst 1, 1) := by decide +kernel
theorem dX0_offer_109 : decode cX0_offer 109 = .ok (.iadd, 1) := by decide +kernel
theorem dX0_offer_110 : decode cX0_offer 110 = .ok (.putfield 25, 3) := by decide +kernel
theorem dX0_offer_113 : decode cX0_offer 113 = .ok (.return_, 1) := by decide +kernel
theorem dX0_isBefore_0 : decode cX0_isBefore 0 = .ok (.iload_n 1, 1) := by decide +kernel
theorem dX0_isBefore_1 : decode cX0_isBefore 1 = .ok (.aload_n 0, 1) := by decide +kernel
theorem dX0_isBefore_2 : decode cX0_isBefore 2 = .ok (.getfield 9, 3) := by decide +kernel
theorem dX0_isBefore_5 : decode cX0_isBefore 5 = .ok (.iload 4, 2) := by decide +kernel
theorem dX0_isBefore_7 : decode cX0_isBefore 7 = .ok (.iaload, 1) := by decide +kernel
theorem dX0_isBefore_8 : decode cX0_isBefore 8 = .ok (.if_icmp .lt 26, 3) := by decide +kernel
theorem dX0_isBefore_11 : decode cX0_isBefore 11 = .ok (.iload_n 1, 1) := by decide +kernel
theorem dX0_isBefore_12 : decode cX0_isBefore 12 = .ok (.aload_n 0, 1) := by decide +kernel
theorem dX0_isBefore_13 : decode cX0_isBefore 13 = .ok (.getfield 9, 3) := by decide +kernel
theorem dX0_isBefore_16 : decode cX0_isBefore 16 = .ok (.iload 4, 2) := by decide +kernel
theorem dX0_isBefore_18 : decode cX0_isBefore 18 = .ok (.iaload, 1) := by decide +kernel
theorem dX0_isBefore_19 : decode cX0_isBefore 19 = .ok (.if_icmp .ne 19, 3) := by decide +kernel
theorem dX0_isBefore_22 : decode cX0_isBefore 22 = .ok (.lload_n 2, 1) := by decide +kernel
theorem dX0_isBefore_23 : decode cX0_isBefore 23 = .ok (.aload_n 0, 1) := by decide +kernel
theorem dX0_isBefore_24 : decode cX0_isBefore 24 = .ok (.getfield 15, 3) := by decide +kernel
theorem dX0_isBefore_27 : decode cX0_isBefore 27 = .ok (.iload 4, 2) := by decide +kernel
theorem dX0_isBefore_29 : decode cX0_isBefore 29 = .ok (.laload, 1) := by decide +kernel
theorem dX0_isBefore_30 : decode cX0_isBefore 30 = .ok (.lcmp, 1) := by decide +kernel
theorem dX0_isBefore_31 : decode cX0_isBefore 31 = .ok (.ifCond .ge 7, 3) := by decide +kernel
theorem dX0_isBefore_34 : decode cX0_isBefore 34 = .ok (.iconst 1, 1) := by decide +kernel
theorem dX0_isBefore_35 : decode cX0_isBefore 35 = .ok (.goto 4, 3) := by decide +kernel
theorem dX0_isBefore_38 : decode cX0_isBefore 38 = .ok (.iconst 0, 1) := by decide +kernel
theorem dX0_isBefore_39 : decode cX0_isBefore 39 = .ok (.ireturn, 1) := by decide +kernel
theorem dX0_moveBack_0 : decode cX0_moveBack 0 = .ok (.aload_n 0, 1) := by decide +kernel
theorem dX0_moveBack_1 : decode cX0_moveBack 1 = .ok (.getfield 9, 3) := by decide +kernel
theorem dX0_moveBack_4 : decode cX0_moveBack 4 = .ok (.iload_n 1, 1) := by decide +kernel
theorem dX0_moveBack_5 : decode cX0_moveBack 5 = .ok (.iconst 1, 1) := by decide +kernel
theorem dX0_moveBack_6 : decode cX0_moveBack 6 = .ok (.iadd, 1) := by decide +kernel
theorem dX0_moveBack_7 : decode cX0_moveBack 7 = .ok (.aload_n 0, 1) := by decide +kernel
theorem dX0_moveBack_8 : decode cX0_moveBack 8 = .ok (.getfield 9, 3) := by decide +kernel
theorem dX0_moveBack_11 : decode cX0_moveBack 11 = .ok (.iload_n 1, 1) := by decide +kernel
theorem dX0_moveBack_12 : decode cX0_moveBack 12 = .ok (.iaload, 1) := by decide +kernel
theorem dX0_moveBack_13 : decode cX0_moveBack 13 = .ok (.iastore, 1) := by decide +kernel
theorem dX0_moveBack_14 : decode cX0_moveBack 14 = .ok (.aload_n 0, 1) := by decide +kernel
theorem dX0_moveBack_15 : decode cX0_moveBack 15 = .ok (.getfield 15, 3) := by decide +kernel
theorem dX0_moveBack_18 : decode cX0_moveBack 18 = .ok (.iload_n 1, 1) := by decide +kernel
theorem dX0_moveBack_19 : decode cX0_moveBack 19 = .ok (.iconst 1, 1) := by decide +kernel
theorem dX0_moveBack_20 : decode cX0_moveBack 20 = .ok (.iadd, 1) := by decide +kernel
theorem dX0_moveBack_21 : decode cX0_moveBack 21 = .ok (.aload_n 0, 1) := by decide +kernel
theorem dX0_moveBack_22 : decode cX0_moveBack 22 = .ok (.getfield 15, 3) := by decide +kernel
theorem dX0_moveBack_25 : decode cX0_moveBack 25 = .ok (.iload_n 1, 1) := by decide +kernel
theorem dX0_moveBack_26 : decode cX0_moveBack 26 = .ok (.laload, 1) := by decide +kernel
theorem dX0_moveBack_27 : decode cX0_moveBack 27 = .ok (.lastore, 1) := by decide +kernel
theorem dX0_moveBack_28 : decode cX0_moveBack 28 = .ok (.aload_n 0, 1) := by decide +kernel
theorem dX0_moveBack_29 : decode cX0_moveBack 29 = .ok (.getfield 19, 3) := by decide +kernel
theorem dX0_moveBack_32 : decode cX0_moveBack 32 = .ok (.iload_n 1, 1) := by decide +kernel
theorem dX0_moveBack_33 : decode cX0_moveBack 33 = .ok (.iconst 1, 1) := by decide +kernel
theorem dX0_moveBack_34 : decode cX0_moveBack 34 = .ok (.iadd, 1) := by decide +kernel
theorem dX0_moveBack_35 : decode cX0_moveBack 35 = .ok (.aload_n 0, 1) := by decide +kernel
theorem dX0_moveBack_36 : decode cX0_moveBack 36 = .ok (.getfield 19, 3) := by decide +kernel
theorem dX0_moveBack_39 : decode cX0_moveBack 39 = .ok (.iload_n 1, 1) := by decide +kernel
theorem dX0_moveBack_40 : decode cX0_moveBack 40 = .ok (.iaload, 1) := by decide +kernel
theorem dX0_moveBack_41 : decode cX0_moveBack 41 = .ok (.iastore, 1) := by decide +kernel
theorem dX0_moveBack_42 : decode cX0_moveBack 42 = .ok (.aload_n 0, 1) := by decide +kernel
theorem dX0_moveBack_43 : decode cX0_moveBack 43 = .ok (.getfield 22, 3) := by decide +kernel
theorem dX0_moveBack_46 : decode cX0_moveBack 46 = .ok (.iload_n 1, 1) := by decide +kernel
theorem dX0_moveBack_47 : decode cX0_moveBack 47 = .ok (.iconst 1, 1) := by decide +kernel
theorem dX0_moveBack_48 : decode cX0_moveBack 48 = .ok (.iadd, 1) := by decide +kernel
theorem dX0_moveBack_49 : decode cX0_moveBack 49 = .ok (.aload_n 0, 1) := by decide +kernel
theorem dX0_moveBack_50 : decode cX0_moveBack 50 = .ok (.getfield 22, 3) := by decide +kernel
theorem dX0_moveBack_53 : decode cX0_moveBack 53 = .ok (.iload_n 1, 1) := by decide +kernel
theorem dX0_moveBack_54 : decode cX0_moveBack 54 = .ok (.iaload, 1) := by decide +kernel
theorem dX0_moveBack_55 : decode cX0_moveBack 55 = .ok (.iastore, 1) := by decide +kernel
theorem dX0_moveBack_56 : decode cX0_moveBack 56 = .ok (.return_, 1) := by decide +kernel
theorem dX1_init_0 : decode cX1_init 0 = .ok (.aload_n 0, 1) := by decide +kernel
theorem dX1_init_1 : decode cX1_init 1 = .ok (.invokespecial 3, 3) := by decide +kernel
theorem dX1_init_4 : decode cX1_init 4 = .ok (.aload_n 0, 1) := by decide +kernel
theorem dX1_init_5 : decode cX1_init 5 = .ok (.sipush 800, 3) := by decide +kernel
theorem dX1_init_8 : decode cX1_init 8 = .ok (.newarray .int, 2) := by decide +kernel
theorem dX1_init_10 : decode cX1_init 10 = .ok (.putfield 9, 3) := by decide +kernel
theorem dX1_init_13 : decode cX1_init 13 = .ok (.aload_n 0, 1) := by decide +kernel
theorem dX1_init_14 : decode cX1_init 14 = .ok (.bipush 8, 2) := by decide +kernel
theorem dX1_init_16 : decode cX1_init 16 = .ok (.newarray .int, 2) := by decide +kernel
theorem dX1_init_18 : decode cX1_init 18 = .ok (.putfield 15, 3) := by decide +kernel
theorem dX1_init_21 : decode cX1_init 21 = .ok (.aload_n 0, 1) := by decide +kernel
theorem dX1_init_22 : decode cX1_init 22 = .ok (.bipush 8, 2) := by decide +kernel
theorem dX1_init_24 : decode cX1_init 24 = .ok (.newarray .int, 2) := by decide +kernel
theorem dX1_init_26 : decode cX1_init 26 = .ok (.putfield 18, 3) := by decide +kernel
theorem dX1_init_29 : decode cX1_init 29 = .ok (.return_, 1) := by decide +kernel
theorem dX1_store_0 : decode cX1_store 0 = .ok (.aload_n 1, 1) := by decide +kernel
theorem dX1_store_1 : decode cX1_store 1 = .ok (.getfield 21, 3) := by decide +kernel
theorem dX1_store_4 : decode cX1_store 4 = .ok (.iconst 0, 1) := by decide +kernel
theorem dX1_store_5 : decode cX1_store 5 = .ok (.aload_n 0, 1) := by decide +kernel
theorem dX1_store_6 : decode cX1_store 6 = .ok (.getfield 9, 3) := by decide +kernel
theorem dX1_store_9 : decode cX1_store 9 = .ok (.aload_n 0, 1) := by decide +kernel
theorem dX1_store_10 : decode cX1_store 10 = .ok (.getfield 24, 3) := by decide +kernel
theorem dX1_store_13 : decode cX1_store 13 = .ok (.bipush 100, 2) := by decide +kernel
theorem dX1_store_15 : decode cX1_store 15 = .ok (.imul, 1) := by decide +kernel
theorem dX1_store_16 : decode cX1_store 16 = .ok (.bipush 100, 2) := by decide +kernel
theorem dX1_store_18 : decode cX1_store 18 = .ok (.invokestatic 28, 3) := by decide +kernel
theorem dX1_store_21 : decode cX1_store 21 = .ok (.aload_n 0, 1) := by decide +kernel
theorem dX1_store_22 : decode cX1_store 22 = .ok (.getfield 15, 3) := by decide +kernel
theorem dX1_store_25 : decode cX1_store 25 = .ok (.aload_n 0, 1) := by decide +kernel
theorem dX1_store_26 : decode cX1_store 26 = .ok (.getfield 24, 3) := by decide +kernel
theorem dX1_store_29 : decode cX1_store 29 = .ok (.aload_n 1, 1) := by decide +kernel
theorem dX1_store_30 : decode cX1_store 30 = .ok (.getfield 34, 3) := by decide +kernel
theorem dX1_store_33 : decode cX1_store 33 = .ok (.iastore, 1) := by decide +kernel
theorem dX1_store_34 : decode cX1_store 34 = .ok (.aload_n 0, 1) := by decide +kernel
theorem dX1_store_35 : decode cX1_store 35 = .ok (.getfield 18, 3) := by decide +kernel
theorem dX1_store_38 : decode cX1_store 38 = .ok (.aload_n 0, 1) := by decide +kernel
theorem dX1_store_39 : decode cX1_store 39 = .ok (.getfield 24, 3) := by decide +kernel
theorem dX1_store_42 : decode cX1_store 42 = .ok (.aload_n 1, 1) := by decide +kernel
theorem dX1_store_43 : decode cX1_store 43 = .ok (.getfield 36, 3) := by decide +kernel
theorem dX1_store_46 : decode cX1_store 46 = .ok (.iastore, 1) := by decide +kernel
theorem dX1_store_47 : decode cX1_store 47 = .ok (.aload_n 0, 1) := by decide +kernel
theorem dX1_store_48 : decode cX1_store 48 = .ok (.dup, 1) := by decide +kernel
theorem dX1_store_49 : decode cX1_store 49 = .ok (.getfield 24, 3) := by decide +kernel
theorem dX1_store_52 : decode cX1_store 52 = .ok (.iconst 1, 1) := by decide +kernel
theorem dX1_store_53 : decode cX1_store 53 = .ok (.iadd, 1) := by decide +kernel
theorem dX1_store_54 : decode cX1_store 54 = .ok (.putfield 24, 3) := by decide +kernel
theorem dX1_store_57 : decode cX1_store 57 = .ok (.return_, 1) := by decide +kernel
theorem dX1_restore_0 : decode cX1_restore 0 = .ok (.aload_n 0, 1) := by decide +kernel
theorem dX1_restore_1 : decode cX1_restore 1 = .ok (.dup, 1) := by decide +kernel
theorem dX1_restore_2 : decode cX1_restore 2 = .ok (.getfield 24, 3) := by decide +kernel
theorem dX1_restore_5 : decode cX1_restore 5 = .ok (.iconst 1, 1) := by decide +kernel
theorem dX1_restore_6 : decode cX1_restore 6 = .ok (.isub, 1) := by decide +kernel
theorem dX1_restore_7 : decode cX1_restore 7 = .ok (.putfield 24, 3) := by decide +kernel
theorem dX1_restore_10 : decode cX1_restore 10 = .ok (.aload_n 0, 1) := by decide +kernel
theorem dX1_restore_11 : decode cX1_restore 11 = .ok (.getfield 9, 3) := by decide +kernel
theorem dX1_restore_14 : decode cX1_restore 14 = .ok (.aload_n 0, 1) := by decide +kernel
theorem dX1_restore_15 : decode cX1_restore 15 = .ok (.getfield 24, 3) := by decide +kernel
theorem dX1_restore_18 : decode cX1_restore 18 = .ok (.bipush 100, 2) := by decide +kernel
theorem dX1_restore_20 : decode cX1_restore 20 = .ok (.imul, 1) := by decide +kernel
theorem dX1_restore_21 : decode cX1_restore 21 = .ok (.aload_n 1, 1) := by decide +kernel
theorem dX1_restore_22 : decode cX1_restore 22 = .ok (.getfield 21, 3) := by decide +kernel
theorem dX1_restore_25 : decode cX1_restore 25 = .ok (.iconst 0, 1) := by decide +kernel
theorem dX1_restore_26 : decode cX1_restore 26 = .ok (.bipush 100, 2) := by decide +kernel
theorem dX1_restore_28 : decode cX1_restore 28 = .ok (.invokestatic 28, 3) := by decide +kernel
theorem dX1_restore_31 : decode cX1_restore 31 = .ok (.aload_n 1, 1) := by decide +kernel
theorem dX1_restore_32 : decode cX1_restore 32 = .ok (.aload_n 0, 1) := by decide +kernel
theorem dX1_restore_33 : decode cX1_restore 33 = .ok (.getfield 15, 3) := by decide +kernel
theorem dX1_restore_36 : decode cX1_restore 36 = .ok (.aload_n 0, 1) := by decide +kernel
theorem dX1_restore_37 : decode cX1_restore 37 = .ok (.getfield 24, 3) := by decide +kernel
theorem dX1_restore_40 : decode cX1_restore 40 = .ok (.iaload, 1) := by decide +kernel
theorem dX1_restore_41 : decode cX1_restore 41 = .ok (.putfield 34, 3) := by decide +kernel
theorem dX1_restore_44 : decode cX1_restore 44 = .ok (.aload_n 1, 1) := by decide +kernel
theorem dX1_restore_45 : decode cX1_restore 45 = .ok (.aload_n 0, 1) := by decide +kernel
theorem dX1_restore_46 : decode cX1_restore 46 = .ok (.getfield 18, 3) := by decide +kernel
theorem dX1_restore_49 : decode cX1_restore 49 = .ok (.aload_n 0, 1) := by decide +kernel
theorem dX1_restore_50 : decode cX1_restore 50 = .ok (.getfield 24, 3) := by decide +kernel
theorem dX1_restore_53 : decode cX1_restore 53 = .ok (.iaload, 1) := by decide +kernel
theorem dX1_restore_54 : decode cX1_restore 54 = .ok (.putfield 36, 3) := by decide +kernel
theorem dX1_restore_57 : decode cX1_restore 57 = .ok (.return_, 1) := by decide +kernel
theorem dX2_init_0 : decode cX2_init 0 = .ok (.aload_n 0, 1) := by decide +kernel
theorem dX2_init_1 : decode cX2_init 1 = .ok (.invokespecial 3, 3) := by decide +kernel
theorem dX2_init_4 : decode cX2_init 4 = .ok (.aload_n 0, 1) := by decide +kernel
theorem dX2_init_5 : decode cX2_init 5 = .ok (.new 9, 3) := by decide +kernel
theorem dX2_init_8 : decode cX2_init 8 = .ok (.dup, 1) := by decide +kernel
theorem dX2_init_9 : decode cX2_init 9 = .ok (.invokespecial 11, 3) := by decide +kernel
theorem dX2_init_12 : decode cX2_init 12 = .ok (.putfield 12, 3) := by decide +kernel
theorem dX2_init_15 : decode cX2_init 15 = .ok (.aload_n 0, 1) := by decide +kernel
theorem dX2_init_16 : decode cX2_init 16 = .ok (.new 9, 3) := by decide +kernel
theorem dX2_init_19 : decode cX2_init 19 = .ok (.dup, 1) := by decide +kernel
theorem dX2_init_20 : decode cX2_init 20 = .ok (.invokespecial 11, 3) := by decide +kernel
theorem dX2_init_23 : decode cX2_init 23 = .ok (.putfield 18, 3) := by decide +kernel
theorem dX2_init_26 : decode cX2_init 26 = .ok (.return_, 1) := by decide +kernel
theorem dX2_columnIn_0 : decode cX2_columnIn 0 = .ok (.lload_n 0, 1) := by decide +kernel
theorem dX2_columnIn_1 : decode cX2_columnIn 1 = .ok (.iconst 4, 1) := by decide +kernel
theorem dX2_columnIn_2 : decode cX2_columnIn 2 = .ok (.bipush 9, 2) := by decide +kernel
theorem dX2_columnIn_4 : decode cX2_columnIn 4 = .ok (.iload_n 2, 1) := by decide +kernel
theorem dX2_columnIn_5 : decode cX2_columnIn 5 = .ok (.isub, 1) := by decide +kernel
theorem dX2_columnIn_6 : decode cX2_columnIn 6 = .ok (.imul, 1) := by decide +kernel
theorem dX2_columnIn_7 : decode cX2_columnIn 7 = .ok (.lshr, 1) := by decide +kernel
theorem dX2_columnIn_8 : decode cX2_columnIn 8 = .ok (.l2i, 1) := by decide +kernel
theorem dX2_columnIn_9 : decode cX2_columnIn 9 = .ok (.bipush 15, 2) := by decide +kernel
theorem dX2_columnIn_11 : decode cX2_columnIn 11 = .ok (.iand, 1) := by decide +kernel
theorem dX2_columnIn_12 : decode cX2_columnIn 12 = .ok (.istore_n 3, 1) := by decide +kernel
theorem dX2_columnIn_13 : decode cX2_columnIn 13 = .ok (.iload_n 3, 1) := by decide +kernel
theorem dX2_columnIn_14 : decode cX2_columnIn 14 = .ok (.bipush 15, 2) := by decide +kernel
theorem dX2_columnIn_16 : decode cX2_columnIn 16 = .ok (.if_icmp .ne 7, 3) := by decide +kernel
theorem dX2_columnIn_19 : decode cX2_columnIn 19 = .ok (.iconst (-1), 1) := by decide +kernel
theorem dX2_columnIn_20 : decode cX2_columnIn 20 = .ok (.goto 4, 3) := by decide +kernel
theorem dX2_columnIn_23 : decode cX2_columnIn 23 = .ok (.iload_n 3, 1) := by decide +kernel
theorem dX2_columnIn_24 : decode cX2_columnIn 24 = .ok (.ireturn, 1) := by decide +kernel
theorem dX2_findFirst_0 : decode cX2_findFirst 0 = .ok (.aload_n 0, 1) := by decide +kernel
theorem dX2_findFirst_1 : decode cX2_findFirst 1 = .ok (.getfield 12, 3) := by decide +kernel
theorem dX2_findFirst_4 : decode cX2_findFirst 4 = .ok (.iconst 0, 1) := by decide +kernel
theorem dX2_findFirst_5 : decode cX2_findFirst 5 = .ok (.putfield 21, 3) := by decide +kernel
theorem dX2_findFirst_8 : decode cX2_findFirst 8 = .ok (.aload_n 0, 1) := by decide +kernel
theorem dX2_findFirst_9 : decode cX2_findFirst 9 = .ok (.getfield 12, 3) := by decide +kernel
theorem dX2_findFirst_12 : decode cX2_findFirst 12 = .ok (.aload_n 1, 1) := by decide +kernel
theorem dX2_findFirst_13 : decode cX2_findFirst 13 = .ok (.getfield 25, 3) := by decide +kernel
theorem dX2_findFirst_16 : decode cX2_findFirst 16 = .ok (.lconst 0, 1) := by decide +kernel
theorem dX2_findFirst_17 : decode cX2_findFirst 17 = .ok (.iconst 0, 1) := by decide +kernel
theorem dX2_findFirst_18 : decode cX2_findFirst 18 = .ok (.aload_n 1, 1) := by decide +kernel
theorem dX2_findFirst_19 : decode cX2_findFirst 19 = .ok (.getfield 30, 3) := by decide +kernel
theorem dX2_findFirst_22 : decode cX2_findFirst 22 = .ok (.iload_n 2, 1) := by decide +kernel
theorem dX2_findFirst_23 : decode cX2_findFirst 23 = .ok (.invokevirtual 33, 3) := by decide +kernel
theorem dX2_findFirst_26 : decode cX2_findFirst 26 = .ok (.iconst 0, 1) := by decide +kernel
theorem dX2_findFirst_27 : decode cX2_findFirst 27 = .ok (.istore_n 3, 1) := by decide +kernel
theorem dX2_findFirst_28 : decode cX2_findFirst 28 = .ok (.iload_n 3, 1) := by decide +kernel
theorem dX2_findFirst_29 : decode cX2_findFirst 29 = .ok (.bipush 10, 2) := by decide +kernel
theorem dX2_findFirst_31 : decode cX2_findFirst 31 = .ok (.if_icmp .ge 67, 3) := by decide +kernel
theorem dX2_findFirst_34 : decode cX2_findFirst 34 = .ok (.aload_n 0, 1) := by decide +kernel
theorem dX2_findFirst_35 : decode cX2_findFirst 35 = .ok (.getfield 18, 3) := by decide +kernel
theorem dX2_findFirst_38 : decode cX2_findFirst 38 = .ok (.iconst 0, 1) := by decide +kernel
theorem dX2_findFirst_39 : decode cX2_findFirst 39 = .ok (.putfield 21, 3) := by decide +kernel
theorem dX2_findFirst_42 : decode cX2_findFirst 42 = .ok (.iconst 0, 1) := by decide +kernel
theorem dX2_findFirst_43 : decode cX2_findFirst 43 = .ok (.istore 4, 2) := by decide +kernel
theorem dX2_findFirst_45 : decode cX2_findFirst 45 = .ok (.iload 4, 2) := by decide +kernel
theorem dX2_findFirst_47 : decode cX2_findFirst 47 = .ok (.aload_n 0, 1) := by decide +kernel
theorem dX2_findFirst_48 : decode cX2_findFirst 48 = .ok (.getfield 12, 3) := by decide +kernel
theorem dX2_findFirst_51 : decode cX2_findFirst 51 = .ok (.getfield 21, 3) := by decide +kernel
theorem dX2_findFirst_54 : decode cX2_findFirst 54 = .ok (.if_icmp .ge 18, 3) := by decide +kernel
theorem dX2_findFirst_57 : decode cX2_findFirst 57 = .ok (.aload_n 0, 1) := by decide +kernel
theorem dX2_findFirst_58 : decode cX2_findFirst 58 = .ok (.aload_n 1, 1) := by decide +kernel
theorem dX2_findFirst_59 : decode cX2_findFirst 59 = .ok (.iload_n 3, 1) := by decide +kernel
theorem dX2_findFirst_60 : decode cX2_findFirst 60 = .ok (.iload 4, 2) := by decide +kernel
theorem dX2_findFirst_62 : decode cX2_findFirst 62 = .ok (.iload_n 2, 1) := by decide +kernel
theorem dX2_findFirst_63 : decode cX2_findFirst 63 = .ok (.invokevirtual 37, 3) := by decide +kernel
theorem dX2_findFirst_66 : decode cX2_findFirst 66 = .ok (.iinc 4 1, 3) := by decide +kernel
theorem dX2_findFirst_69 : decode cX2_findFirst 69 = .ok (.goto (-24), 3) := by decide +kernel
theorem dX2_findFirst_72 : decode cX2_findFirst 72 = .ok (.aload_n 0, 1) := by decide +kernel
theorem dX2_findFirst_73 : decode cX2_findFirst 73 = .ok (.getfield 12, 3) := by decide +kernel
theorem dX2_findFirst_76 : decode cX2_findFirst 76 = .ok (.astore 4, 2) := by decide +kernel
theorem dX2_findFirst_78 : decode cX2_findFirst 78 = .ok (.aload_n 0, 1) := by decide +kernel
theorem dX2_findFirst_79 : decode cX2_findFirst 79 = .ok (.aload_n 0, 1) := by decide +kernel
theorem dX2_findFirst_80 : decode cX2_findFirst 80 = .ok (.getfield 18, 3) := by decide +kernel
theorem dX2_findFirst_83 : decode cX2_findFirst 83 = .ok (.putfield 12, 3) := by decide +kernel
theorem dX2_findFirst_86 : decode cX2_findFirst 86 = .ok (.aload_n 0, 1) := by decide +kernel
theorem dX2_findFirst_87 : decode cX2_findFirst 87 = .ok (.aload 4, 2) := by decide +kernel
theorem dX2_findFirst_89 : decode cX2_findFirst 89 = .ok (.putfield 18, 3) := by decide +kernel
theorem dX2_findFirst_92 : decode cX2_findFirst 92 = .ok (.iinc 3 1, 3) := by decide +kernel
theorem dX2_findFirst_95 : decode cX2_findFirst 95 = .ok (.goto (-67), 3) := by decide +kernel
theorem dX2_findFirst_98 : decode cX2_findFirst 98 = .ok (.return_, 1) := by decide +kernel
theorem dX2_extend_0 : decode cX2_extend 0 = .ok (.aload_n 0, 1) := by decide +kernel
theorem dX2_extend_1 : decode cX2_extend 1 = .ok (.getfield 12, 3) := by decide +kernel
theorem dX2_extend_4 : decode cX2_extend 4 = .ok (.getfield 41, 3) := by decide +kernel
theorem dX2_extend_7 : decode cX2_extend 7 = .ok (.iload_n 3, 1) := by decide +kernel
theorem dX2_extend_8 : decode cX2_extend 8 = .ok (.laload, 1) := by decide +kernel
theorem dX2_extend_9 : decode cX2_extend 9 = .ok (.iconst 4, 1) := by decide +kernel
theorem dX2_extend_10 : decode cX2_extend 10 = .ok (.lshl, 1) := by decide +kernel
theorem dX2_extend_11 : decode cX2_extend 11 = .ok (.lstore 5, 2) := by decide +kernel
theorem dX2_extend_13 : decode cX2_extend 13 = .ok (.aload_n 0, 1) := by decide +kernel
theorem dX2_extend_14 : decode cX2_extend 14 = .ok (.getfield 12, 3) := by decide +kernel
theorem dX2_extend_17 : decode cX2_extend 17 = .ok (.getfield 45, 3) := by decide +kernel
theorem dX2_extend_20 : decode cX2_extend 20 = .ok (.iload_n 3, 1) := by decide +kernel
theorem dX2_extend_21 : decode cX2_extend 21 = .ok (.iaload, 1) := by decide +kernel
theorem dX2_extend_22 : decode cX2_extend 22 = .ok (.istore 7, 2) := by decide +kernel
theorem dX2_extend_24 : decode cX2_extend 24 = .ok (.aload_n 0, 1) := by decide +kernel
theorem dX2_extend_25 : decode cX2_extend 25 = .ok (.getfield 12, 3) := by decide +kernel
theorem dX2_extend_28 : decode cX2_extend 28 = .ok (.getfield 49, 3) := by decide +kernel
theorem dX2_extend_31 : decode cX2_extend 31 = .ok (.iload_n 3, 1) := by decide +kernel
theorem dX2_extend_32 : decode cX2_extend 32 = .ok (.iaload, 1) := by decide +kernel
theorem dX2_extend_33 : decode cX2_extend 33 = .ok (.istore 8, 2) := by decide +kernel
theorem dX2_extend_35 : decode cX2_extend 35 = .ok (.aload_n 0, 1) := by decide +kernel
theorem dX2_extend_36 : decode cX2_extend 36 = .ok (.aload_n 1, 1) := by decide +kernel
theorem dX2_extend_37 : decode cX2_extend 37 = .ok (.iload_n 2, 1) := by decide +kernel
theorem dX2_extend_38 : decode cX2_extend 38 = .ok (.lload 5, 2) := by decide +kernel
theorem dX2_extend_40 : decode cX2_extend 40 = .ok (.ldc2_w 52, 3) := by decide +kernel
theorem dX2_extend_43 : decode cX2_extend 43 = .ok (.ladd, 1) := by decide +kernel
theorem dX2_extend_44 : decode cX2_extend 44 = .ok (.iload 7, 2) := by decide +kernel
theorem dX2_extend_46 : decode cX2_extend 46 = .ok (.iload 8, 2) := by decide +kernel
theorem dX2_extend_48 : decode cX2_extend 48 = .ok (.iload 4, 2) := by decide +kernel
theorem dX2_extend_50 : decode cX2_extend 50 = .ok (.invokevirtual 54, 3) := by decide +kernel
theorem dX2_extend_53 : decode cX2_extend 53 = .ok (.iconst 0, 1) := by decide +kernel
theorem dX2_extend_54 : decode cX2_extend 54 = .ok (.istore 9, 2) := by decide +kernel
theorem dX2_extend_56 : decode cX2_extend 56 = .ok (.iload 9, 2) := by decide +kernel
theorem dX2_extend_58 : decode cX2_extend 58 = .ok (.bipush 10, 2) := by decide +kernel
theorem dX2_extend_60 : decode cX2_extend 60 = .ok (.if_icmp .ge 71, 3) := by decide +kernel
theorem dX2_extend_63 : decode cX2_extend 63 = .ok (.aload_n 1, 1) := by decide +kernel
theorem dX2_extend_64 : decode cX2_extend 64 = .ok (.getfield 58, 3) := by decide +kernel
theorem dX2_extend_67 : decode cX2_extend 67 = .ok (.iload_n 2, 1) := by decide +kernel
theorem dX2_extend_68 : decode cX2_extend 68 = .ok (.iaload, 1) := by decide +kernel
theorem dX2_extend_69 : decode cX2_extend 69 = .ok (.iload 8, 2) := by decide +kernel
theorem dX2_extend_71 : decode cX2_extend 71 = .ok (.iand, 1) := by decide +kernel
theorem dX2_extend_72 : decode cX2_extend 72 = .ok (.iload 9, 2) := by decide +kernel
theorem dX2_extend_74 : decode cX2_extend 74 = .ok (.invokestatic 61, 3) := by decide +kernel
theorem dX2_extend_77 : decode cX2_extend 77 = .ok (.ifCond .eq 48, 3) := by decide +kernel
theorem dX2_extend_80 : decode cX2_extend 80 = .ok (.iload 7, 2) := by decide +kernel
theorem dX2_extend_82 : decode cX2_extend 82 = .ok (.aload_n 1, 1) := by decide +kernel
theorem dX2_extend_83 : decode cX2_extend 83 = .ok (.getfield 65, 3) := by decide +kernel
theorem dX2_extend_86 : decode cX2_extend 86 = .ok (.iload_n 2, 1) := by decide +kernel
theorem dX2_extend_87 : decode cX2_extend 87 = .ok (.bipush 10, 2) := by decide +kernel
theorem dX2_extend_89 : decode cX2_extend 89 = .ok (.imul, 1) := by decide +kernel
theorem dX2_extend_90 : decode cX2_extend 90 = .ok (.iload 9, 2) := by decide +kernel
theorem dX2_extend_92 : decode cX2_extend 92 = .ok (.iadd, 1) := by decide +kernel
theorem dX2_extend_93 : decode cX2_extend 93 = .ok (.iaload, 1) := by decide +kernel
theorem dX2_extend_94 : decode cX2_extend 94 = .ok (.iadd, 1) := by decide +kernel
theorem dX2_extend_95 : decode cX2_extend 95 = .ok (.istore 10, 2) := by decide +kernel
theorem dX2_extend_97 : decode cX2_extend 97 = .ok (.iload 8, 2) := by decide +kernel
theorem dX2_extend_99 : decode cX2_extend 99 = .ok (.iload 9, 2) := by decide +kernel
theorem dX2_extend_101 : decode cX2_extend 101 = .ok (.iconst 0, 1) := by decide +kernel
theorem dX2_extend_102 : decode cX2_extend 102 = .ok (.invokestatic 68, 3) := by decide +kernel
theorem dX2_extend_105 : decode cX2_extend 105 = .ok (.istore 11, 2) := by decide +kernel
theorem dX2_extend_107 : decode cX2_extend 107 = .ok (.aload_n 0, 1) := by decide +kernel
theorem dX2_extend_108 : decode cX2_extend 108 = .ok (.aload_n 1, 1) := by decide +kernel
theorem dX2_extend_109 : decode cX2_extend 109 = .ok (.iload_n 2, 1) := by decide +kernel
theorem dX2_extend_110 : decode cX2_extend 110 = .ok (.lload 5, 2) := by decide +kernel
theorem dX2_extend_112 : decode cX2_extend 112 = .ok (.iload 9, 2) := by decide +kernel
theorem dX2_extend_114 : decode cX2_extend 114 = .ok (.i2l, 1) := by decide +kernel
theorem dX2_extend_115 : decode cX2_extend 115 = .ok (.ladd, 1) := by decide +kernel
theorem dX2_extend_116 : decode cX2_extend 116 = .ok (.iload 10, 2) := by decide +kernel
theorem dX2_extend_118 : decode cX2_extend 118 = .ok (.iload 11, 2) := by decide +kernel
theorem dX2_extend_120 : decode cX2_extend 120 = .ok (.iload 4, 2) := by decide +kernel
theorem dX2_extend_122 : decode cX2_extend 122 = .ok (.invokevirtual 54, 3) := by decide +kernel
theorem dX2_extend_125 : decode cX2_extend 125 = .ok (.iinc 9 1, 3) := by decide +kernel
theorem dX2_extend_128 : decode cX2_extend 128 = .ok (.goto (-72), 3) := by decide +kernel
theorem dX2_extend_131 : decode cX2_extend 131 = .ok (.return_, 1) := by decide +kernel
theorem dX2_offerFull_0 : decode cX2_offerFull 0 = .ok (.iload 5, 2) := by decide +kernel
theorem dX2_offerFull_2 : decode cX2_offerFull 2 = .ok (.aload_n 1, 1) := by decide +kernel
theorem dX2_offerFull_3 : decode cX2_offerFull 3 = .ok (.getfield 72, 3) := by decide +kernel
theorem dX2_offerFull_6 : decode cX2_offerFull 6 = .ok (.iload_n 2, 1) := by decide +kernel
theorem dX2_offerFull_7 : decode cX2_offerFull 7 = .ok (.iconst 1, 1) := by decide +kernel
theorem dX2_offerFull_8 : decode cX2_offerFull 8 = .ok (.iadd, 1) := by decide +kernel
theorem dX2_offerFull_9 : decode cX2_offerFull 9 = .ok (.aaload, 1) := by decide +kernel
theorem dX2_offerFull_10 : decode cX2_offerFull 10 = .ok (.iload 6, 2) := by decide +kernel
theorem dX2_offerFull_12 : decode cX2_offerFull 12 = .ok (.iaload, 1) := by decide +kernel
theorem dX2_offerFull_13 : decode cX2_offerFull 13 = .ok (.iadd, 1) := by decide +kernel
theorem dX2_offerFull_14 : decode cX2_offerFull 14 = .ok (.istore 8, 2) := by decide +kernel
theorem dX2_offerFull_16 : decode cX2_offerFull 16 = .ok (.iload 8, 2) := by decide +kernel
theorem dX2_offerFull_18 : decode cX2_offerFull 18 = .ok (.invokestatic 76, 3) := by decide +kernel
theorem dX2_offerFull_21 : decode cX2_offerFull 21 = .ok (.aload_n 1, 1) := by decide +kernel
theorem dX2_offerFull_22 : decode cX2_offerFull 22 = .ok (.getfield 25, 3) := by decide +kernel
theorem dX2_offerFull_25 : decode cX2_offerFull 25 = .ok (.invokestatic 76, 3) := by decide +kernel
theorem dX2_offerFull_28 : decode cX2_offerFull 28 = .ok (.if_icmp .ne 19, 3) := by decide +kernel
theorem dX2_offerFull_31 : decode cX2_offerFull 31 = .ok (.aload_n 0, 1) := by decide +kernel
theorem dX2_offerFull_32 : decode cX2_offerFull 32 = .ok (.getfield 18, 3) := by decide +kernel
theorem dX2_offerFull_35 : decode cX2_offerFull 35 = .ok (.iload 8, 2) := by decide +kernel
theorem dX2_offerFull_37 : decode cX2_offerFull 37 = .ok (.lload_n 3, 1) := by decide +kernel
theorem dX2_offerFull_38 : decode cX2_offerFull 38 = .ok (.iload 5, 2) := by decide +kernel
theorem dX2_offerFull_40 : decode cX2_offerFull 40 = .ok (.iload 6, 2) := by decide +kernel
theorem dX2_offerFull_42 : decode cX2_offerFull 42 = .ok (.iload 7, 2) := by decide +kernel
theorem dX2_offerFull_44 : decode cX2_offerFull 44 = .ok (.invokevirtual 33, 3) := by decide +kernel
theorem dX2_offerFull_47 : decode cX2_offerFull 47 = .ok (.return_, 1) := by decide +kernel
theorem dX3_init_0 : decode cX3_init 0 = .ok (.aload_n 0, 1) := by decide +kernel
theorem dX3_init_1 : decode cX3_init 1 = .ok (.invokespecial 5, 3) := by decide +kernel
theorem dX3_init_4 : decode cX3_init 4 = .ok (.aload_n 0, 1) := by decide +kernel
theorem dX3_init_5 : decode cX3_init 5 = .ok (.bipush 100, 2) := by decide +kernel
theorem dX3_init_7 : decode cX3_init 7 = .ok (.newarray .int, 2) := by decide +kernel
theorem dX3_init_9 : decode cX3_init 9 = .ok (.putfield 11, 3) := by decide +kernel
theorem dX3_init_12 : decode cX3_init 12 = .ok (.aload_n 0, 1) := by decide +kernel
theorem dX3_init_13 : decode cX3_init 13 = .ok (.bipush 10, 2) := by decide +kernel
theorem dX3_init_15 : decode cX3_init 15 = .ok (.newarray .int, 2) := by decide +kernel
theorem dX3_init_17 : decode cX3_init 17 = .ok (.putfield 15, 3) := by decide +kernel
theorem dX3_init_20 : decode cX3_init 20 = .ok (.aload_n 0, 1) := by decide +kernel
theorem dX3_init_21 : decode cX3_init 21 = .ok (.bipush 11, 2) := by decide +kernel
theorem dX3_init_23 : decode cX3_init 23 = .ok (.sipush 1024, 3) := by decide +kernel
theorem dX3_init_26 : decode cX3_init 26 = .ok (.multianewarray 18 2, 4) := by decide +kernel
theorem dX3_init_30 : decode cX3_init 30 = .ok (.putfield 20, 3) := by decide +kernel
theorem dX3_init_33 : decode cX3_init 33 = .ok (.aload_n 0, 1) := by decide +kernel
theorem dX3_init_34 : decode cX3_init 34 = .ok (.sipush 1024, 3) := by decide +kernel
theorem dX3_init_37 : decode cX3_init 37 = .ok (.newarray .int, 2) := by decide +kernel
theorem dX3_init_39 : decode cX3_init 39 = .ok (.putfield 23, 3) := by decide +kernel
theorem dX3_init_42 : decode cX3_init 42 = .ok (.aload_n 0, 1) := by decide +kernel
theorem dX3_init_43 : decode cX3_init 43 = .ok (.sipush 1024, 3) := by decide +kernel
theorem dX3_init_46 : decode cX3_init 46 = .ok (.newarray .int, 2) := by decide +kernel
theorem dX3_init_48 : decode cX3_init 48 = .ok (.putfield 26, 3) := by decide +kernel
theorem dX3_init_51 : decode cX3_init 51 = .ok (.aload_n 0, 1) := by decide +kernel
theorem dX3_init_52 : decode cX3_init 52 = .ok (.bipush 10, 2) := by decide +kernel
theorem dX3_init_54 : decode cX3_init 54 = .ok (.newarray .int, 2) := by decide +kernel
theorem dX3_init_56 : decode cX3_init 56 = .ok (.putfield 29, 3) := by decide +kernel
theorem dX3_init_59 : decode cX3_init 59 = .ok (.return_, 1) := by decide +kernel
theorem dX3_sizeOf_0 : decode cX3_sizeOf 0 = .ok (.ldc 32, 2) := by decide +kernel
theorem dX3_sizeOf_2 : decode cX3_sizeOf 2 = .ok (.iload_n 0, 1) := by decide +kernel
theorem dX3_sizeOf_3 : decode cX3_sizeOf 3 = .ok (.isub, 1) := by decide +kernel
theorem dX3_sizeOf_4 : decode cX3_sizeOf 4 = .ok (.ldc 33, 2) := by decide +kernel
theorem dX3_sizeOf_6 : decode cX3_sizeOf 6 = .ok (.idiv, 1) := by decide +kernel
theorem dX3_sizeOf_7 : decode cX3_sizeOf 7 = .ok (.ireturn, 1) := by decide +kernel
theorem dX3_costOf_0 : decode cX3_costOf 0 = .ok (.iload_n 0, 1) := by decide +kernel
theorem dX3_costOf_1 : decode cX3_costOf 1 = .ok (.iload_n 0, 1) := by decide +kernel
theorem dX3_costOf_2 : decode cX3_costOf 2 = .ok (.invokestatic 34, 3) := by decide +kernel
theorem dX3_costOf_5 : decode cX3_costOf 5 = .ok (.ldc 33, 2) := by decide +kernel
theorem dX3_costOf_7 : decode cX3_costOf 7 = .ok (.imul, 1) := by decide +kernel
theorem dX3_costOf_8 : decode cX3_costOf 8 = .ok (.iadd, 1) := by decide +kernel
theorem dX3_costOf_9 : decode cX3_costOf 9 = .ok (.ireturn, 1) := by decide +kernel
theorem dX3_solve_0 : decode cX3_solve 0 = .ok (.aload_n 0, 1) := by decide +kernel
theorem dX3_solve_1 : decode cX3_solve 1 = .ok (.aload_n 1, 1) := by decide +kernel
theorem dX3_solve_2 : decode cX3_solve 2 = .ok (.invokevirtual 38, 3) := by decide +kernel
theorem dX3_solve_5 : decode cX3_solve 5 = .ok (.bipush 9, 2) := by decide +kernel
theorem dX3_solve_7 : decode cX3_solve 7 = .ok (.istore_n 2, 1) := by decide +kernel
theorem dX3_solve_8 : decode cX3_solve 8 = .ok (.iload_n 2, 1) := by decide +kernel
theorem dX3_solve_9 : decode cX3_solve 9 = .ok (.ifCond .lt 34, 3) := by decide +kernel
theorem dX3_solve_12 : decode cX3_solve 12 = .ok (.aload_n 0, 1) := by decide +kernel
theorem dX3_solve_13 : decode cX3_solve 13 = .ok (.iload_n 2, 1) := by decide +kernel
theorem dX3_solve_14 : decode cX3_solve 14 = .ok (.aload_n 0, 1) := by decide +kernel
theorem dX3_solve_15 : decode cX3_solve 15 = .ok (.getfield 15, 3) := by decide +kernel
theorem dX3_solve_18 : decode cX3_solve 18 = .ok (.iload_n 2, 1) := by decide +kernel
theorem dX3_solve_19 : decode cX3_solve 19 = .ok (.iaload, 1) := by decide +kernel
theorem dX3_solve_20 : decode cX3_solve 20 = .ok (.aload_n 0, 1) := by decide +kernel
theorem dX3_solve_21 : decode cX3_solve 21 = .ok (.getfield 20, 3) := by decide +kernel
theorem dX3_solve_24 : decode cX3_solve 24 = .ok (.iload_n 2, 1) := by decide +kernel
theorem dX3_solve_25 : decode cX3_solve 25 = .ok (.iconst 1, 1) := by decide +kernel
theorem dX3_solve_26 : decode cX3_solve 26 = .ok (.iadd, 1) := by decide +kernel
theorem dX3_solve_27 : decode cX3_solve 27 = .ok (.aaload, 1) := by decide +kernel
theorem dX3_solve_28 : decode cX3_solve 28 = .ok (.aload_n 0, 1) := by decide +kernel
theorem dX3_solve_29 : decode cX3_solve 29 = .ok (.getfield 20, 3) := by decide +kernel
theorem dX3_solve_32 : decode cX3_solve 32 = .ok (.iload_n 2, 1) := by decide +kernel
theorem dX3_solve_33 : decode cX3_solve 33 = .ok (.aaload, 1) := by decide +kernel
theorem dX3_solve_34 : decode cX3_solve 34 = .ok (.invokevirtual 42, 3) := by decide +kernel
theorem dX3_solve_37 : decode cX3_solve 37 = .ok (.iinc 2 (-1), 3) := by decide +kernel
theorem dX3_solve_40 : decode cX3_solve 40 = .ok (.goto (-32), 3) := by decide +kernel
theorem dX3_solve_43 : decode cX3_solve 43 = .ok (.aload_n 0, 1) := by decide +kernel
theorem dX3_solve_44 : decode cX3_solve 44 = .ok (.aload_n 0, 1) := by decide +kernel
theorem dX3_solve_45 : decode cX3_solve 45 = .ok (.getfield 20, 3) := by decide +kernel
theorem dX3_solve_48 : decode cX3_solve 48 = .ok (.iconst 0, 1) := by decide +kernel
theorem dX3_solve_49 : decode cX3_solve 49 = .ok (.aaload, 1) := by decide +kernel
theorem dX3_solve_50 : decode cX3_solve 50 = .ok (.aload_n 0, 1) := by decide +kernel
theorem dX3_solve_51 : decode cX3_solve 51 = .ok (.getfield 46, 3) := by decide +kernel
theorem dX3_solve_54 : decode cX3_solve 54 = .ok (.iaload, 1) := by decide +kernel
theorem dX3_solve_55 : decode cX3_solve 55 = .ok (.putfield 50, 3) := by decide +kernel
theorem dX3_solve_58 : decode cX3_solve 58 = .ok (.aload_n 0, 1) := by decide +kernel
theorem dX3_solve_59 : decode cX3_solve 59 = .ok (.invokevirtual 53, 3) := by decide +kernel
theorem dX3_solve_62 : decode cX3_solve 62 = .ok (.return_, 1) := by decide +kernel
theorem dX3_read_0 : decode cX3_read 0 = .ok (.aload_n 0, 1) := by decide +kernel
theorem dX3_read_1 : decode cX3_read 1 = .ok (.aload_n 1, 1) := by decide +kernel
theorem dX3_read_2 : decode cX3_read 2 = .ok (.getfield 56, 3) := by decide +kernel
theorem dX3_read_5 : decode cX3_read 5 = .ok (.putfield 46, 3) := by decide +kernel
theorem dX3_read_8 : decode cX3_read 8 = .ok (.iconst 0, 1) := by decide +kernel
theorem dX3_read_9 : decode cX3_read 9 = .ok (.istore_n 2, 1) := by decide +kernel
theorem dX3_read_10 : decode cX3_read 10 = .ok (.iload_n 2, 1) := by decide +kernel
theorem dX3_read_11 : decode cX3_read 11 = .ok (.bipush 10, 2) := by decide +kernel
theorem dX3_read_13 : decode cX3_read 13 = .ok (.if_icmp .ge 54, 3) := by decide +kernel
theorem dX3_read_16 : decode cX3_read 16 = .ok (.aload_n 0, 1) := by decide +kernel
theorem dX3_read_17 : decode cX3_read 17 = .ok (.getfield 15, 3) := by decide +kernel
theorem dX3_read_20 : decode cX3_read 20 = .ok (.iload_n 2, 1) := by decide +kernel
theorem dX3_read_21 : decode cX3_read 21 = .ok (.aload_n 1, 1) := by decide +kernel
theorem dX3_read_22 : decode cX3_read 22 = .ok (.iload_n 2, 1) := by decide +kernel
theorem dX3_read_23 : decode cX3_read 23 = .ok (.invokevirtual 61, 3) := by decide +kernel
theorem dX3_read_26 : decode cX3_read 26 = .ok (.iastore, 1) := by decide +kernel
theorem dX3_read_27 : decode cX3_read 27 = .ok (.iconst 0, 1) := by decide +kernel
theorem dX3_read_28 : decode cX3_read 28 = .ok (.istore_n 3, 1) := by decide +kernel
theorem dX3_read_29 : decode cX3_read 29 = .ok (.iload_n 3, 1) := by decide +kernel
theorem dX3_read_30 : decode cX3_read 30 = .ok (.bipush 10, 2) := by decide +kernel
theorem dX3_read_32 : decode cX3_read 32 = .ok (.if_icmp .ge 29, 3) := by decide +kernel
theorem dX3_read_35 : decode cX3_read 35 = .ok (.aload_n 0, 1) := by decide +kernel
theorem dX3_read_36 : decode cX3_read 36 = .ok (.getfield 11, 3) := by decide +kernel
theorem dX3_read_39 : decode cX3_read 39 = .ok (.iload_n 2, 1) := by decide +kernel
theorem dX3_read_40 : decode cX3_read 40 = .ok (.bipush 10, 2) := by decide +kernel
theorem dX3_read_42 : decode cX3_read 42 = .ok (.imul, 1) := by decide +kernel
theorem dX3_read_43 : decode cX3_read 43 = .ok (.iload_n 3, 1) := by decide +kernel
theorem dX3_read_44 : decode cX3_read 44 = .ok (.iadd, 1) := by decide +kernel
theorem dX3_read_45 : decode cX3_read 45 = .ok (.aload_n 1, 1) := by decide +kernel
theorem dX3_read_46 : decode cX3_read 46 = .ok (.iload_n 2, 1) := by decide +kernel
theorem dX3_read_47 : decode cX3_read 47 = .ok (.iload_n 3, 1) := by decide +kernel
theorem dX3_read_48 : decode cX3_read 48 = .ok (.invokevirtual 64, 3) := by decide +kernel
theorem dX3_read_51 : decode cX3_read 51 = .ok (.ldc 33, 2) := by decide +kernel
theorem dX3_read_53 : decode cX3_read 53 = .ok (.isub, 1) := by decide +kernel
theorem dX3_read_54 : decode cX3_read 54 = .ok (.iastore, 1) := by decide +kernel
theorem dX3_read_55 : decode cX3_read 55 = .ok (.iinc 3 1, 3) := by decide +kernel
theorem dX3_read_58 : decode cX3_read 58 = .ok (.goto (-29), 3) := by decide +kernel
theorem dX3_read_61 : decode cX3_read 61 = .ok (.iinc 2 1, 3) := by decide +kernel
theorem dX3_read_64 : decode cX3_read 64 = .ok (.goto (-54), 3) := by decide +kernel
theorem dX3_read_67 : decode cX3_read 67 = .ok (.return_, 1) := by decide +kernel
theorem dX3_fillRow_0 : decode cX3_fillRow 0 = .ok (.aload_n 0, 1) := by decide +kernel
theorem dX3_fillRow_1 : decode cX3_fillRow 1 = .ok (.getfield 46, 3) := by decide +kernel
theorem dX3_fillRow_4 : decode cX3_fillRow 4 = .ok (.istore 5, 2) := by decide +kernel
theorem dX3_fillRow_6 : decode cX3_fillRow 6 = .ok (.iload 5, 2) := by decide +kernel
theorem dX3_fillRow_8 : decode cX3_fillRow 8 = .ok (.ifCond .lt 36, 3) := by decide +kernel
theorem dX3_fillRow_11 : decode cX3_fillRow 11 = .ok (.aload_n 0, 1) := by decide +kernel
theorem dX3_fillRow_12 : decode cX3_fillRow 12 = .ok (.iload 5, 2) := by decide +kernel
theorem dX3_fillRow_14 : decode cX3_fillRow 14 = .ok (.iload_n 1, 1) := by decide +kernel
theorem dX3_fillRow_15 : decode cX3_fillRow 15 = .ok (.invokevirtual 68, 3) := by decide +kernel
theorem dX3_fillRow_18 : decode cX3_fillRow 18 = .ok (.ifCond .eq 20, 3) := by decide +kernel
theorem dX3_fillRow_21 : decode cX3_fillRow 21 = .ok (.aload 4, 2) := by decide +kernel
theorem dX3_fillRow_23 : decode cX3_fillRow 23 = .ok (.iload 5, 2) := by decide +kernel
theorem dX3_fillRow_25 : decode cX3_fillRow 25 = .ok (.aload_n 0, 1) := by decide +kernel
theorem dX3_fillRow_26 : decode cX3_fillRow 26 = .ok (.iload_n 1, 1) := by decide +kernel
theorem dX3_fillRow_27 : decode cX3_fillRow 27 = .ok (.iload_n 2, 1) := by decide +kernel
theorem dX3_fillRow_28 : decode cX3_fillRow 28 = .ok (.iload 5, 2) := by decide +kernel
theorem dX3_fillRow_30 : decode cX3_fillRow 30 = .ok (.iand, 1) := by decide +kernel
theorem dX3_fillRow_31 : decode cX3_fillRow 31 = .ok (.aload_n 3, 1) := by decide +kernel
theorem dX3_fillRow_32 : decode cX3_fillRow 32 = .ok (.iload 5, 2) := by decide +kernel
theorem dX3_fillRow_34 : decode cX3_fillRow 34 = .ok (.invokevirtual 72, 3) := by decide +kernel
theorem dX3_fillRow_37 : decode cX3_fillRow 37 = .ok (.iastore, 1) := by decide +kernel
theorem dX3_fillRow_38 : decode cX3_fillRow 38 = .ok (.iinc 5 (-1), 3) := by decide +kernel
theorem dX3_fillRow_41 : decode cX3_fillRow 41 = .ok (.goto (-35), 3) := by decide +kernel
theorem dX3_fillRow_44 : decode cX3_fillRow 44 = .ok (.return_, 1) := by decide +kernel
theorem dX3_canBeLeft_0 : decode cX3_canBeLeft 0 = .ok (.iload_n 1, 1) := by decide +kernel
theorem dX3_canBeLeft_1 : decode cX3_canBeLeft 1 = .ok (.aload_n 0, 1) := by decide +kernel
theorem dX3_canBeLeft_2 : decode cX3_canBeLeft 2 = .ok (.getfield 46, 3) := by decide +kernel
theorem dX3_canBeLeft_5 : decode cX3_canBeLeft 5 = .ok (.iconst (-1), 1) := by decide +kernel
theorem dX3_canBeLeft_6 : decode cX3_canBeLeft 6 = .ok (.ixor, 1) := by decide +kernel
theorem dX3_canBeLeft_7 : decode cX3_canBeLeft 7 = .ok (.iand, 1) := by decide +kernel
theorem dX3_canBeLeft_8 : decode cX3_canBeLeft 8 = .ok (.ifCond .ne 22, 3) := by decide +kernel
theorem dX3_canBeLeft_11 : decode cX3_canBeLeft 11 = .ok (.aload_n 0, 1) := by decide +kernel
theorem dX3_canBeLeft_12 : decode cX3_canBeLeft 12 = .ok (.getfield 46, 3) := by decide +kernel
theorem dX3_canBeLeft_15 : decode cX3_canBeLeft 15 = .ok (.iload_n 1, 1) := by decide +kernel
theorem dX3_canBeLeft_16 : decode cX3_canBeLeft 16 = .ok (.iconst (-1), 1) := by decide +kernel
theorem dX3_canBeLeft_17 : decode cX3_canBeLeft 17 = .ok (.ixor, 1) := by decide +kernel
theorem dX3_canBeLeft_18 : decode cX3_canBeLeft 18 = .ok (.iand, 1) := by decide +kernel
theorem dX3_canBeLeft_19 : decode cX3_canBeLeft 19 = .ok (.invokestatic 76, 3) := by decide +kernel
theorem dX3_canBeLeft_22 : decode cX3_canBeLeft 22 = .ok (.iload_n 2, 1) := by decide +kernel
theorem dX3_canBeLeft_23 : decode cX3_canBeLeft 23 = .ok (.if_icmp .gt 7, 3) := by decide +kernel
theorem dX3_canBeLeft_26 : decode cX3_canBeLeft 26 = .ok (.iconst 1, 1) := by decide +kernel
theorem dX3_canBeLeft_27 : decode cX3_canBeLeft 27 = .ok (.goto 4, 3) := by decide +kernel
theorem dX3_canBeLeft_30 : decode cX3_canBeLeft 30 = .ok (.iconst 0, 1) := by decide +kernel
theorem dX3_canBeLeft_31 : decode cX3_canBeLeft 31 = .ok (.ireturn, 1) := by decide +kernel
theorem dX3_leastFrom_0 : decode cX3_leastFrom 0 = .ok (.aload_n 3, 1) := by decide +kernel
theorem dX3_leastFrom_1 : decode cX3_leastFrom 1 = .ok (.iload 4, 2) := by decide +kernel
theorem dX3_leastFrom_3 : decode cX3_leastFrom 3 = .ok (.iaload, 1) := by decide +kernel
theorem dX3_leastFrom_4 : decode cX3_leastFrom 4 = .ok (.istore 5, 2) := by decide +kernel
theorem dX3_leastFrom_6 : decode cX3_leastFrom 6 = .ok (.iconst 0, 1) := by decide +kernel
theorem dX3_leastFrom_7 : decode cX3_leastFrom 7 = .ok (.istore 6, 2) := by decide +kernel
theorem dX3_leastFrom_9 : decode cX3_leastFrom 9 = .ok (.iload 6, 2) := by decide +kernel
theorem dX3_leastFrom_11 : decode cX3_leastFrom 11 = .ok (.bipush 10, 2) := by decide +kernel
theorem dX3_leastFrom_13 : decode cX3_leastFrom 13 = .ok (.if_icmp .ge 52, 3) := by decide +kernel
theorem dX3_leastFrom_16 : decode cX3_leastFrom 16 = .ok (.iload_n 2, 1) := by decide +kernel
theorem dX3_leastFrom_17 : decode cX3_leastFrom 17 = .ok (.iload 6, 2) := by decide +kernel
theorem dX3_leastFrom_19 : decode cX3_leastFrom 19 = .ok (.invokestatic 81, 3) := by decide +kernel
theorem dX3_leastFrom_22 : decode cX3_leastFrom 22 = .ok (.ifCond .eq 37, 3) := by decide +kernel
theorem dX3_leastFrom_25 : decode cX3_leastFrom 25 = .ok (.aload_n 3, 1) := by decide +kernel
theorem dX3_leastFrom_26 : decode cX3_leastFrom 26 = .ok (.iload 4, 2) := by decide +kernel
theorem dX3_leastFrom_28 : decode cX3_leastFrom 28 = .ok (.iload 6, 2) := by decide +kernel
theorem dX3_leastFrom_30 : decode cX3_leastFrom 30 = .ok (.iconst 0, 1) := by decide +kernel
theorem dX3_leastFrom_31 : decode cX3_leastFrom 31 = .ok (.invokestatic 84, 3) := by decide +kernel
theorem dX3_leastFrom_34 : decode cX3_leastFrom 34 = .ok (.iaload, 1) := by decide +kernel
theorem dX3_leastFrom_35 : decode cX3_leastFrom 35 = .ok (.istore 7, 2) := by decide +kernel
theorem dX3_leastFrom_37 : decode cX3_leastFrom 37 = .ok (.iload 5, 2) := by decide +kernel
theorem dX3_leastFrom_39 : decode cX3_leastFrom 39 = .ok (.aload_n 0, 1) := by decide +kernel
theorem dX3_leastFrom_40 : decode cX3_leastFrom 40 = .ok (.getfield 11, 3) := by decide +kernel
theorem dX3_leastFrom_43 : decode cX3_leastFrom 43 = .ok (.iload_n 1, 1) := by decide +kernel
theorem dX3_leastFrom_44 : decode cX3_leastFrom 44 = .ok (.bipush 10, 2) := by decide +kernel
theorem dX3_leastFrom_46 : decode cX3_leastFrom 46 = .ok (.imul, 1) := by decide +kernel
theorem dX3_leastFrom_47 : decode cX3_leastFrom 47 = .ok (.iload 6, 2) := by decide +kernel
theorem dX3_leastFrom_49 : decode cX3_leastFrom 49 = .ok (.iadd, 1) := by decide +kernel
theorem dX3_leastFrom_50 : decode cX3_leastFrom 50 = .ok (.iaload, 1) := by decide +kernel
theorem dX3_leastFrom_51 : decode cX3_leastFrom 51 = .ok (.iload 7, 2) := by decide +kernel
theorem dX3_leastFrom_53 : decode cX3_leastFrom 53 = .ok (.iadd, 1) := by decide +kernel
theorem dX3_leastFrom_54 : decode cX3_leastFrom 54 = .ok (.invokestatic 88, 3) := by decide +kernel
theorem dX3_leastFrom_57 : decode cX3_leastFrom 57 = .ok (.istore 5, 2) := by decide +kernel
theorem dX3_leastFrom_59 : decode cX3_leastFrom 59 = .ok (.iinc 6 1, 3) := by decide +kernel
theorem dX3_leastFrom_62 : decode cX3_leastFrom 62 = .ok (.goto (-53), 3) := by decide +kernel
theorem dX3_leastFrom_65 : decode cX3_leastFrom 65 = .ok (.iload 5, 2) := by decide +kernel
theorem dX3_leastFrom_67 : decode cX3_leastFrom 67 = .ok (.ireturn, 1) := by decide +kernel
theorem dX3_keepFirst_0 : decode cX3_keepFirst 0 = .ok (.aload_n 0, 1) := by decide +kernel
theorem dX3_keepFirst_1 : decode cX3_keepFirst 1 = .ok (.getfield 46, 3) := by decide +kernel
theorem dX3_keepFirst_4 : decode cX3_keepFirst 4 = .ok (.istore_n 1, 1) := by decide +kernel
theorem dX3_keepFirst_5 : decode cX3_keepFirst 5 = .ok (.iconst 0, 1) := by decide +kernel
theorem dX3_keepFirst_6 : decode cX3_keepFirst 6 = .ok (.istore_n 2, 1) := by decide +kernel
theorem dX3_keepFirst_7 : decode cX3_keepFirst 7 = .ok (.iload_n 2, 1) := by decide +kernel
theorem dX3_keepFirst_8 : decode cX3_keepFirst 8 = .ok (.bipush 10, 2) := by decide +kernel
theorem dX3_keepFirst_10 : decode cX3_keepFirst 10 = .ok (.if_icmp .ge 35, 3) := by decide +kernel
theorem dX3_keepFirst_13 : decode cX3_keepFirst 13 = .ok (.aload_n 0, 1) := by decide +kernel
theorem dX3_keepFirst_14 : decode cX3_keepFirst 14 = .ok (.iload_n 2, 1) := by decide +kernel
theorem dX3_keepFirst_15 : decode cX3_keepFirst 15 = .ok (.iload_n 1, 1) := by decide +kernel
theorem dX3_keepFirst_16 : decode cX3_keepFirst 16 = .ok (.invokevirtual 93, 3) := by decide +kernel
theorem dX3_keepFirst_19 : decode cX3_keepFirst 19 = .ok (.istore_n 3, 1) := by decide +kernel
theorem dX3_keepFirst_20 : decode cX3_keepFirst 20 = .ok (.aload_n 0, 1) := by decide +kernel
theorem dX3_keepFirst_21 : decode cX3_keepFirst 21 = .ok (.getfield 29, 3) := by decide +kernel
theorem dX3_keepFirst_24 : decode cX3_keepFirst 24 = .ok (.iload_n 2, 1) := by decide +kernel
theorem dX3_keepFirst_25 : decode cX3_keepFirst 25 = .ok (.iload_n 3, 1) := by decide +kernel
theorem dX3_keepFirst_26 : decode cX3_keepFirst 26 = .ok (.iastore, 1) := by decide +kernel
theorem dX3_keepFirst_27 : decode cX3_keepFirst 27 = .ok (.iload_n 3, 1) := by decide +kernel
theorem dX3_keepFirst_28 : decode cX3_keepFirst 28 = .ok (.iconst (-1), 1) := by decide +kernel
theorem dX3_keepFirst_29 : decode cX3_keepFirst 29 = .ok (.if_icmp .eq 10, 3) := by decide +kernel
theorem dX3_keepFirst_32 : decode cX3_keepFirst 32 = .ok (.iload_n 1, 1) := by decide +kernel
theorem dX3_keepFirst_33 : decode cX3_keepFirst 33 = .ok (.iload_n 3, 1) := by decide +kernel
theorem dX3_keepFirst_34 : decode cX3_keepFirst 34 = .ok (.iconst 0, 1) := by decide +kernel
theorem dX3_keepFirst_35 : decode cX3_keepFirst 35 = .ok (.invokestatic 84, 3) := by decide +kernel
theorem dX3_keepFirst_38 : decode cX3_keepFirst 38 = .ok (.istore_n 1, 1) := by decide +kernel
theorem dX3_keepFirst_39 : decode cX3_keepFirst 39 = .ok (.iinc 2 1, 3) := by decide +kernel
theorem dX3_keepFirst_42 : decode cX3_keepFirst 42 = .ok (.goto (-35), 3) := by decide +kernel
theorem dX3_keepFirst_45 : decode cX3_keepFirst 45 = .ok (.return_, 1) := by decide +kernel
theorem dX3_firstOptimal_0 : decode cX3_firstOptimal 0 = .ok (.iconst 0, 1) := by decide +kernel
theorem dX3_firstOptimal_1 : decode cX3_firstOptimal 1 = .ok (.istore_n 3, 1) := by decide +kernel
theorem dX3_firstOptimal_2 : decode cX3_firstOptimal 2 = .ok (.iload_n 3, 1) := by decide +kernel
theorem dX3_firstOptimal_3 : decode cX3_firstOptimal 3 = .ok (.bipush 10, 2) := by decide +kernel
theorem dX3_firstOptimal_5 : decode cX3_firstOptimal 5 = .ok (.if_icmp .ge 21, 3) := by decide +kernel
theorem dX3_firstOptimal_8 : decode cX3_firstOptimal 8 = .ok (.aload_n 0, 1) := by decide +kernel
theorem dX3_firstOptimal_9 : decode cX3_firstOptimal 9 = .ok (.iload_n 1, 1) := by decide +kernel
theorem dX3_firstOptimal_10 : decode cX3_firstOptimal 10 = .ok (.iload_n 3, 1) := by decide +kernel
theorem dX3_firstOptimal_11 : decode cX3_firstOptimal 11 = .ok (.iload_n 2, 1) := by decide +kernel
theorem dX3_firstOptimal_12 : decode cX3_firstOptimal 12 = .ok (.invokevirtual 96, 3) := by decide +kernel
theorem dX3_firstOptimal_15 : decode cX3_firstOptimal 15 = .ok (.ifCond .eq 5, 3) := by decide +kernel
theorem dX3_firstOptimal_18 : decode cX3_firstOptimal 18 = .ok (.iload_n 3, 1) := by decide +kernel
theorem dX3_firstOptimal_19 : decode cX3_firstOptimal 19 = .ok (.ireturn, 1) := by decide +kernel
theorem dX3_firstOptimal_20 : decode cX3_firstOptimal 20 = .ok (.iinc 3 1, 3) := by decide +kernel
theorem dX3_firstOptimal_23 : decode cX3_firstOptimal 23 = .ok (.goto (-21), 3) := by decide +kernel
theorem dX3_firstOptimal_26 : decode cX3_firstOptimal 26 = .ok (.iconst (-1), 1) := by decide +kernel
theorem dX3_firstOptimal_27 : decode cX3_firstOptimal 27 = .ok (.ireturn, 1) := by decide +kernel
theorem dX3_isOptimal_0 : decode cX3_isOptimal 0 = .ok (.aload_n 0, 1) := by decide +kernel
theorem dX3_isOptimal_1 : decode cX3_isOptimal 1 = .ok (.getfield 15, 3) := by decide +kernel
theorem dX3_isOptimal_4 : decode cX3_isOptimal 4 = .ok (.iload_n 1, 1) := by decide +kernel
theorem dX3_isOptimal_5 : decode cX3_isOptimal 5 = .ok (.iaload, 1) := by decide +kernel
theorem dX3_isOptimal_6 : decode cX3_isOptimal 6 = .ok (.iload_n 3, 1) := by decide +kernel
theorem dX3_isOptimal_7 : decode cX3_isOptimal 7 = .ok (.iand, 1) := by decide +kernel
theorem dX3_isOptimal_8 : decode cX3_isOptimal 8 = .ok (.iload_n 2, 1) := by decide +kernel
theorem dX3_isOptimal_9 : decode cX3_isOptimal 9 = .ok (.invokestatic 81, 3) := by decide +kernel
theorem dX3_isOptimal_12 : decode cX3_isOptimal 12 = .ok (.ifCond .ne 5, 3) := by decide +kernel
theorem dX3_isOptimal_15 : decode cX3_isOptimal 15 = .ok (.iconst 0, 1) := by decide +kernel
theorem dX3_isOptimal_16 : decode cX3_isOptimal 16 = .ok (.ireturn, 1) := by decide +kernel
theorem dX3_isOptimal_17 : decode cX3_isOptimal 17 = .ok (.aload_n 0, 1) := by decide +kernel
theorem dX3_isOptimal_18 : decode cX3_isOptimal 18 = .ok (.getfield 20, 3) := by decide +kernel
theorem dX3_isOptimal_21 : decode cX3_isOptimal 21 = .ok (.iload_n 1, 1) := by decide +kernel
theorem dX3_isOptimal_22 : decode cX3_isOptimal 22 = .ok (.iconst 1, 1) := by decide +kernel
theorem dX3_isOptimal_23 : decode cX3_isOptimal 23 = .ok (.iadd, 1) := by decide +kernel
theorem dX3_isOptimal_24 : decode cX3_isOptimal 24 = .ok (.aaload, 1) := by decide +kernel
theorem dX3_isOptimal_25 : decode cX3_isOptimal 25 = .ok (.iload_n 3, 1) := by decide +kernel
theorem dX3_isOptimal_26 : decode cX3_isOptimal 26 = .ok (.iload_n 2, 1) := by decide +kernel
theorem dX3_isOptimal_27 : decode cX3_isOptimal 27 = .ok (.iconst 0, 1) := by decide +kernel
theorem dX3_isOptimal_28 : decode cX3_isOptimal 28 = .ok (.invokestatic 84, 3) := by decide +kernel
theorem dX3_isOptimal_31 : decode cX3_isOptimal 31 = .ok (.iaload, 1) := by decide +kernel
theorem dX3_isOptimal_32 : decode cX3_isOptimal 32 = .ok (.istore 4, 2) := by decide +kernel
theorem dX3_isOptimal_34 : decode cX3_isOptimal 34 = .ok (.aload_n 0, 1) := by decide +kernel
theorem dX3_isOptimal_35 : decode cX3_isOptimal 35 = .ok (.getfield 11, 3) := by decide +kernel
theorem dX3_isOptimal_38 : decode cX3_isOptimal 38 = .ok (.iload_n 1, 1) := by decide +kernel
theorem dX3_isOptimal_39 : decode cX3_isOptimal 39 = .ok (.bipush 10, 2) := by decide +kernel
theorem dX3_isOptimal_41 : decode cX3_isOptimal 41 = .ok (.imul, 1) := by decide +kernel
theorem dX3_isOptimal_42 : decode cX3_isOptimal 42 = .ok (.iload_n 2, 1) := by decide +kernel
theorem dX3_isOptimal_43 : decode cX3_isOptimal 43 = .ok (.iadd, 1) := by decide +kernel
theorem dX3_isOptimal_44 : decode cX3_isOptimal 44 = .ok (.iaload, 1) := by decide +kernel
theorem dX3_isOptimal_45 : decode cX3_isOptimal 45 = .ok (.iload 4, 2) := by decide +kernel
theorem dX3_isOptimal_47 : decode cX3_isOptimal 47 = .ok (.iadd, 1) := by decide +kernel
theorem dX3_isOptimal_48 : decode cX3_isOptimal 48 = .ok (.aload_n 0, 1) := by decide +kernel
theorem dX3_isOptimal_49 : decode cX3_isOptimal 49 = .ok (.getfield 20, 3) := by decide +kernel
theorem dX3_isOptimal_52 : decode cX3_isOptimal 52 = .ok (.iload_n 1, 1) := by decide +kernel
theorem dX3_isOptimal_53 : decode cX3_isOptimal 53 = .ok (.aaload, 1) := by decide +kernel
theorem dX3_isOptimal_54 : decode cX3_isOptimal 54 = .ok (.iload_n 3, 1) := by decide +kernel
theorem dX3_isOptimal_55 : decode cX3_isOptimal 55 = .ok (.iaload, 1) := by decide +kernel
theorem dX3_isOptimal_56 : decode cX3_isOptimal 56 = .ok (.if_icmp .ne 7, 3) := by decide +kernel
theorem dX3_isOptimal_59 : decode cX3_isOptimal 59 = .ok (.iconst 1, 1) := by decide +kernel
theorem dX3_isOptimal_60 : decode cX3_isOptimal 60 = .ok (.goto 4, 3) := by decide +kernel
theorem dX3_isOptimal_63 : decode cX3_isOptimal 63 = .ok (.iconst 0, 1) := by decide +kernel
theorem dX3_isOptimal_64 : decode cX3_isOptimal 64 = .ok (.ireturn, 1) := by decide +kernel
theorem dX3_countOptimal_0 : decode cX3_countOptimal 0 = .ok (.aload_n 0, 1) := by decide +kernel
theorem dX3_countOptimal_1 : decode cX3_countOptimal 1 = .ok (.getfield 26, 3) := by decide +kernel
theorem dX3_countOptimal_4 : decode cX3_countOptimal 4 = .ok (.iconst 0, 1) := by decide +kernel
theorem dX3_countOptimal_5 : decode cX3_countOptimal 5 = .ok (.invokestatic 100, 3) := by decide +kernel
theorem dX3_countOptimal_8 : decode cX3_countOptimal 8 = .ok (.aload_n 0, 1) := by decide +kernel
theorem dX3_countOptimal_9 : decode cX3_countOptimal 9 = .ok (.getfield 26, 3) := by decide +kernel
theorem dX3_countOptimal_12 : decode cX3_countOptimal 12 = .ok (.aload_n 0, 1) := by decide +kernel
theorem dX3_countOptimal_13 : decode cX3_countOptimal 13 = .ok (.getfield 46, 3) := by decide +kernel
theorem dX3_countOptimal_16 : decode cX3_countOptimal 16 = .ok (.iconst 1, 1) := by decide +kernel
theorem dX3_countOptimal_17 : decode cX3_countOptimal 17 = .ok (.iastore, 1) := by decide +kernel
theorem dX3_countOptimal_18 : decode cX3_countOptimal 18 = .ok (.iconst 0, 1) := by decide +kernel
theorem dX3_countOptimal_19 : decode cX3_countOptimal 19 = .ok (.istore_n 1, 1) := by decide +kernel
theorem dX3_countOptimal_20 : decode cX3_countOptimal 20 = .ok (.iload_n 1, 1) := by decide +kernel
theorem dX3_countOptimal_21 : decode cX3_countOptimal 21 = .ok (.bipush 10, 2) := by decide +kernel
theorem dX3_countOptimal_23 : decode cX3_countOptimal 23 = .ok (.if_icmp .ge 14, 3) := by decide +kernel
theorem dX3_countOptimal_26 : decode cX3_countOptimal 26 = .ok (.aload_n 0, 1) := by decide +kernel
theorem dX3_countOptimal_27 : decode cX3_countOptimal 27 = .ok (.iload_n 1, 1) := by decide +kernel
theorem dX3_countOptimal_28 : decode cX3_countOptimal 28 = .ok (.invokevirtual 106, 3) := by decide +kernel
theorem dX3_countOptimal_31 : decode cX3_countOptimal 31 = .ok (.iinc 1 1, 3) := by decide +kernel
theorem dX3_countOptimal_34 : decode cX3_countOptimal 34 = .ok (.goto (-14), 3) := by decide +kernel
theorem dX3_countOptimal_37 : decode cX3_countOptimal 37 = .ok (.iconst 0, 1) := by decide +kernel
theorem dX3_countOptimal_38 : decode cX3_countOptimal 38 = .ok (.istore_n 1, 1) := by decide +kernel
theorem dX3_countOptimal_39 : decode cX3_countOptimal 39 = .ok (.iconst 0, 1) := by decide +kernel
theorem dX3_countOptimal_40 : decode cX3_countOptimal 40 = .ok (.istore_n 2, 1) := by decide +kernel
theorem dX3_countOptimal_41 : decode cX3_countOptimal 41 = .ok (.iload_n 2, 1) := by decide +kernel
theorem dX3_countOptimal_42 : decode cX3_countOptimal 42 = .ok (.sipush 1024, 3) := by decide +kernel
theorem dX3_countOptimal_45 : decode cX3_countOptimal 45 = .ok (.if_icmp .ge 18, 3) := by decide +kernel
theorem dX3_countOptimal_48 : decode cX3_countOptimal 48 = .ok (.iload_n 1, 1) := by decide +kernel
theorem dX3_countOptimal_49 : decode cX3_countOptimal 49 = .ok (.aload_n 0, 1) := by decide +kernel
theorem dX3_countOptimal_50 : decode cX3_countOptimal 50 = .ok (.getfield 26, 3) := by decide +kernel
theorem dX3_countOptimal_53 : decode cX3_countOptimal 53 = .ok (.iload_n 2, 1) := by decide +kernel
theorem dX3_countOptimal_54 : decode cX3_countOptimal 54 = .ok (.iaload, 1) := by decide +kernel
theorem dX3_countOptimal_55 : decode cX3_countOptimal 55 = .ok (.iadd, 1) := by decide +kernel
theorem dX3_countOptimal_56 : decode cX3_countOptimal 56 = .ok (.istore_n 1, 1) := by decide +kernel
theorem dX3_countOptimal_57 : decode cX3_countOptimal 57 = .ok (.iinc 2 1, 3) := by decide +kernel
theorem dX3_countOptimal_60 : decode cX3_countOptimal 60 = .ok (.goto (-19), 3) := by decide +kernel
theorem dX3_countOptimal_63 : decode cX3_countOptimal 63 = .ok (.iload_n 1, 1) := by decide +kernel
theorem dX3_countOptimal_64 : decode cX3_countOptimal 64 = .ok (.ireturn, 1) := by decide +kernel
theorem dX3_spreadWays_0 : decode cX3_spreadWays 0 = .ok (.iconst 0, 1) := by decide +kernel
theorem dX3_spreadWays_1 : decode cX3_spreadWays 1 = .ok (.istore_n 2, 1) := by decide +kernel
theorem dX3_spreadWays_2 : decode cX3_spreadWays 2 = .ok (.iload_n 2, 1) := by decide +kernel
theorem dX3_spreadWays_3 : decode cX3_spreadWays 3 = .ok (.aload_n 0, 1) := by decide +kernel
theorem dX3_spreadWays_4 : decode cX3_spreadWays 4 = .ok (.getfield 46, 3) := by decide +kernel
theorem dX3_spreadWays_7 : decode cX3_spreadWays 7 = .ok (.if_icmp .gt 95, 3) := by decide +kernel
theorem dX3_spreadWays_10 : decode cX3_spreadWays 10 = .ok (.aload_n 0, 1) := by decide +kernel
theorem dX3_spreadWays_11 : decode cX3_spreadWays 11 = .ok (.getfield 26, 3) := by decide +kernel
theorem dX3_spreadWays_14 : decode cX3_spreadWays 14 = .ok (.iload_n 2, 1) := by decide +kernel
theorem dX3_spreadWays_15 : decode cX3_spreadWays 15 = .ok (.iaload, 1) := by decide +kernel
theorem dX3_spreadWays_16 : decode cX3_spreadWays 16 = .ok (.istore_n 3, 1) := by decide +kernel
theorem dX3_spreadWays_17 : decode cX3_spreadWays 17 = .ok (.iload_n 3, 1) := by decide +kernel
theorem dX3_spreadWays_18 : decode cX3_spreadWays 18 = .ok (.ifCond .eq 78, 3) := by decide +kernel
theorem dX3_spreadWays_21 : decode cX3_spreadWays 21 = .ok (.aload_n 0, 1) := by decide +kernel
theorem dX3_spreadWays_22 : decode cX3_spreadWays 22 = .ok (.getfield 26, 3) := by decide +kernel
theorem dX3_spreadWays_25 : decode cX3_spreadWays 25 = .ok (.iload_n 2, 1) := by decide +kernel
theorem dX3_spreadWays_26 : decode cX3_spreadWays 26 = .ok (.aload_n 0, 1) := by decide +kernel
theorem dX3_spreadWays_27 : decode cX3_spreadWays 27 = .ok (.getfield 20, 3) := by decide +kernel
theorem dX3_spreadWays_30 : decode cX3_spreadWays 30 = .ok (.iload_n 1, 1) := by decide +kernel
theorem dX3_spreadWays_31 : decode cX3_spreadWays 31 = .ok (.iconst 1, 1) := by decide +kernel
theorem dX3_spreadWays_32 : decode cX3_spreadWays 32 = .ok (.iadd, 1) := by decide +kernel
theorem dX3_spreadWays_33 : decode cX3_spreadWays 33 = .ok (.aaload, 1) := by decide +kernel
theorem dX3_spreadWays_34 : decode cX3_spreadWays 34 = .ok (.iload_n 2, 1) := by decide +kernel
theorem dX3_spreadWays_35 : decode cX3_spreadWays 35 = .ok (.iaload, 1) := by decide +kernel
theorem dX3_spreadWays_36 : decode cX3_spreadWays 36 = .ok (.aload_n 0, 1) := by decide +kernel
theorem dX3_spreadWays_37 : decode cX3_spreadWays 37 = .ok (.getfield 20, 3) := by decide +kernel
theorem dX3_spreadWays_40 : decode cX3_spreadWays 40 = .ok (.iload_n 1, 1) := by decide +kernel
theorem dX3_spreadWays_41 : decode cX3_spreadWays 41 = .ok (.aaload, 1) := by decide +kernel
theorem dX3_spreadWays_42 : decode cX3_spreadWays 42 = .ok (.iload_n 2, 1) := by decide +kernel
theorem dX3_spreadWays_43 : decode cX3_spreadWays 43 = .ok (.iaload, 1) := by decide +kernel
theorem dX3_spreadWays_44 : decode cX3_spreadWays 44 = .ok (.if_icmp .ne 7, 3) := by decide +kernel
theorem dX3_spreadWays_47 : decode cX3_spreadWays 47 = .ok (.iload_n 3, 1) := by decide +kernel
theorem dX3_spreadWays_48 : decode cX3_spreadWays 48 = .ok (.goto 4, 3) := by decide +kernel
theorem dX3_spreadWays_51 : decode cX3_spreadWays 51 = .ok (.iconst 0, 1) := by decide +kernel
theorem dX3_spreadWays_52 : decode cX3_spreadWays 52 = .ok (.iastore, 1) := by decide +kernel
theorem dX3_spreadWays_53 : decode cX3_spreadWays 53 = .ok (.iconst 0, 1) := by decide +kernel
theorem dX3_spreadWays_54 : decode cX3_spreadWays 54 = .ok (.istore 4, 2) := by decide +kernel
theorem dX3_spreadWays_56 : decode cX3_spreadWays 56 = .ok (.iload 4, 2) := by decide +kernel
theorem dX3_spreadWays_58 : decode cX3_spreadWays 58 = .ok (.bipush 10, 2) := by decide +kernel
theorem dX3_spreadWays_60 : decode cX3_spreadWays 60 = .ok (.if_icmp .ge 36, 3) := by decide +kernel
theorem dX3_spreadWays_63 : decode cX3_spreadWays 63 = .ok (.aload_n 0, 1) := by decide +kernel
theorem dX3_spreadWays_64 : decode cX3_spreadWays 64 = .ok (.iload_n 1, 1) := by decide +kernel
theorem dX3_spreadWays_65 : decode cX3_spreadWays 65 = .ok (.iload 4, 2) := by decide +kernel
theorem dX3_spreadWays_67 : decode cX3_spreadWays 67 = .ok (.iload_n 2, 1) := by decide +kernel
theorem dX3_spreadWays_68 : decode cX3_spreadWays 68 = .ok (.invokevirtual 96, 3) := by decide +kernel
theorem dX3_spreadWays_71 : decode cX3_spreadWays 71 = .ok (.ifCond .eq 19, 3) := by decide +kernel
theorem dX3_spreadWays_74 : decode cX3_spreadWays 74 = .ok (.aload_n 0, 1) := by decide +kernel
theorem dX3_spreadWays_75 : decode cX3_spreadWays 75 = .ok (.getfield 26, 3) := by decide +kernel
theorem dX3_spreadWays_78 : decode cX3_spreadWays 78 = .ok (.iload_n 2, 1) := by decide +kernel
theorem dX3_spreadWays_79 : decode cX3_spreadWays 79 = .ok (.iload 4, 2) := by decide +kernel
theorem dX3_spreadWays_81 : decode cX3_spreadWays 81 = .ok (.iconst 0, 1) := by decide +kernel
theorem dX3_spreadWays_82 : decode cX3_spreadWays 82 = .ok (.invokestatic 84, 3) := by decide +kernel
theorem dX3_spreadWays_85 : decode cX3_spreadWays 85 = .ok (.dup2, 1) := by decide +kernel
theorem dX3_spreadWays_86 : decode cX3_spreadWays 86 = .ok (.iaload, 1) := by decide +kernel
theorem dX3_spreadWays_87 : decode cX3_spreadWays 87 = .ok (.iload_n 3, 1) := by decide +kernel
theorem dX3_spreadWays_88 : decode cX3_spreadWays 88 = .ok (.iadd, 1) := by decide +kernel
theorem dX3_spreadWays_89 : decode cX3_spreadWays 89 = .ok (.iastore, 1) := by decide +kernel
theorem dX3_spreadWays_90 : decode cX3_spreadWays 90 = .ok (.iinc 4 1, 3) := by decide +kernel
theorem dX3_spreadWays_93 : decode cX3_spreadWays 93 = .ok (.goto (-37), 3) := by decide +kernel
theorem dX3_spreadWays_96 : decode cX3_spreadWays 96 = .ok (.iinc 2 1, 3) := by decide +kernel
theorem dX3_spreadWays_99 : decode cX3_spreadWays 99 = .ok (.goto (-97), 3) := by decide +kernel
theorem dX3_spreadWays_102 : decode cX3_spreadWays 102 = .ok (.return_, 1) := by decide +kernel
theorem dX3_extraCostWith_0 : decode cX3_extraCostWith 0 = .ok (.aload_n 0, 1) := by decide +kernel
theorem dX3_extraCostWith_1 : decode cX3_extraCostWith 1 = .ok (.getfield 46, 3) := by decide +kernel
theorem dX3_extraCostWith_4 : decode cX3_extraCostWith 4 = .ok (.istore_n 3, 1) := by decide +kernel
theorem dX3_extraCostWith_5 : decode cX3_extraCostWith 5 = .ok (.iload_n 3, 1) := by decide +kernel
theorem dX3_extraCostWith_6 : decode cX3_extraCostWith 6 = .ok (.ifCond .lt 71, 3) := by decide +kernel
theorem dX3_extraCostWith_9 : decode cX3_extraCostWith 9 = .ok (.aload_n 0, 1) := by decide +kernel
theorem dX3_extraCostWith_10 : decode cX3_extraCostWith 10 = .ok (.getfield 23, 3) := by decide +kernel
theorem dX3_extraCostWith_13 : decode cX3_extraCostWith 13 = .ok (.iload_n 3, 1) := by decide +kernel
theorem dX3_extraCostWith_14 : decode cX3_extraCostWith 14 = .ok (.ldc 110, 2) := by decide +kernel
theorem dX3_extraCostWith_16 : decode cX3_extraCostWith 16 = .ok (.iastore, 1) := by decide +kernel
theorem dX3_extraCostWith_17 : decode cX3_extraCostWith 17 = .ok (.aload_n 0, 1) := by decide +kernel
theorem dX3_extraCostWith_18 : decode cX3_extraCostWith 18 = .ok (.iload_n 3, 1) := by decide +kernel
theorem dX3_extraCostWith_19 : decode cX3_extraCostWith 19 = .ok (.iload_n 1, 1) := by decide +kernel
theorem dX3_extraCostWith_20 : decode cX3_extraCostWith 20 = .ok (.invokevirtual 68, 3) := by decide +kernel
theorem dX3_extraCostWith_23 : decode cX3_extraCostWith 23 = .ok (.ifCond .eq 48, 3) := by decide +kernel
theorem dX3_extraCostWith_26 : decode cX3_extraCostWith 26 = .ok (.iload_n 3, 1) := by decide +kernel
theorem dX3_extraCostWith_27 : decode cX3_extraCostWith 27 = .ok (.iload_n 2, 1) := by decide +kernel
theorem dX3_extraCostWith_28 : decode cX3_extraCostWith 28 = .ok (.invokestatic 81, 3) := by decide +kernel
theorem dX3_extraCostWith_31 : decode cX3_extraCostWith 31 = .ok (.ifCond .eq 40, 3) := by decide +kernel
theorem dX3_extraCostWith_34 : decode cX3_extraCostWith 34 = .ok (.aload_n 0, 1) := by decide +kernel
theorem dX3_extraCostWith_35 : decode cX3_extraCostWith 35 = .ok (.getfield 20, 3) := by decide +kernel
theorem dX3_extraCostWith_38 : decode cX3_extraCostWith 38 = .ok (.iload_n 1, 1) := by decide +kernel
theorem dX3_extraCostWith_39 : decode cX3_extraCostWith 39 = .ok (.iconst 1, 1) := by decide +kernel
theorem dX3_extraCostWith_40 : decode cX3_extraCostWith 40 = .ok (.iadd, 1) := by decide +kernel
theorem dX3_extraCostWith_41 : decode cX3_extraCostWith 41 = .ok (.aaload, 1) := by decide +kernel
theorem dX3_extraCostWith_42 : decode cX3_extraCostWith 42 = .ok (.iload_n 3, 1) := by decide +kernel
theorem dX3_extraCostWith_43 : decode cX3_extraCostWith 43 = .ok (.iload_n 2, 1) := by decide +kernel
theorem dX3_extraCostWith_44 : decode cX3_extraCostWith 44 = .ok (.iconst 0, 1) := by decide +kernel
theorem dX3_extraCostWith_45 : decode cX3_extraCostWith 45 = .ok (.invokestatic 84, 3) := by decide +kernel
theorem dX3_extraCostWith_48 : decode cX3_extraCostWith 48 = .ok (.iaload, 1) := by decide +kernel
theorem dX3_extraCostWith_49 : decode cX3_extraCostWith 49 = .ok (.istore 4, 2) := by decide +kernel
theorem dX3_extraCostWith_51 : decode cX3_extraCostWith 51 = .ok (.aload_n 0, 1) := by decide +kernel
theorem dX3_extraCostWith_52 : decode cX3_extraCostWith 52 = .ok (.getfield 23, 3) := by decide +kernel
theorem dX3_extraCostWith_55 : decode cX3_extraCostWith 55 = .ok (.iload_n 3, 1) := by decide +kernel
theorem dX3_extraCostWith_56 : decode cX3_extraCostWith 56 = .ok (.aload_n 0, 1) := by decide +kernel
theorem dX3_extraCostWith_57 : decode cX3_extraCostWith 57 = .ok (.getfield 11, 3) := by decide +kernel
theorem dX3_extraCostWith_60 : decode cX3_extraCostWith 60 = .ok (.iload_n 1, 1) := by decide +kernel
theorem dX3_extraCostWith_61 : decode cX3_extraCostWith 61 = .ok (.bipush 10, 2) := by decide +kernel
theorem dX3_extraCostWith_63 : decode cX3_extraCostWith 63 = .ok (.imul, 1) := by decide +kernel
theorem dX3_extraCostWith_64 : decode cX3_extraCostWith 64 = .ok (.iload_n 2, 1) := by decide +kernel
theorem dX3_extraCostWith_65 : decode cX3_extraCostWith 65 = .ok (.iadd, 1) := by decide +kernel
theorem dX3_extraCostWith_66 : decode cX3_extraCostWith 66 = .ok (.iaload, 1) := by decide +kernel
theorem dX3_extraCostWith_67 : decode cX3_extraCostWith 67 = .ok (.iload 4, 2) := by decide +kernel
theorem dX3_extraCostWith_69 : decode cX3_extraCostWith 69 = .ok (.iadd, 1) := by decide +kernel
theorem dX3_extraCostWith_70 : decode cX3_extraCostWith 70 = .ok (.iastore, 1) := by decide +kernel
theorem dX3_extraCostWith_71 : decode cX3_extraCostWith 71 = .ok (.iinc 3 (-1), 3) := by decide +kernel
theorem dX3_extraCostWith_74 : decode cX3_extraCostWith 74 = .ok (.goto (-69), 3) := by decide +kernel
theorem dX3_extraCostWith_77 : decode cX3_extraCostWith 77 = .ok (.aload_n 0, 1) := by decide +kernel
theorem dX3_extraCostWith_78 : decode cX3_extraCostWith 78 = .ok (.iload_n 1, 1) := by decide +kernel
theorem dX3_extraCostWith_79 : decode cX3_extraCostWith 79 = .ok (.invokevirtual 111, 3) := by decide +kernel
theorem dX3_extraCostWith_82 : decode cX3_extraCostWith 82 = .ok (.ireturn, 1) := by decide +kernel
theorem dX3_extraCostWithout_0 : decode cX3_extraCostWithout 0 = .ok (.aload_n 0, 1) := by decide +kernel
theorem dX3_extraCostWithout_1 : decode cX3_extraCostWithout 1 = .ok (.iload_n 1, 1) := by decide +kernel
theorem dX3_extraCostWithout_2 : decode cX3_extraCostWithout 2 = .ok (.aload_n 0, 1) := by decide +kernel
theorem dX3_extraCostWithout_3 : decode cX3_extraCostWithout 3 = .ok (.getfield 15, 3) := by decide +kernel
theorem dX3_extraCostWithout_6 : decode cX3_extraCostWithout 6 = .ok (.iload_n 1, 1) := by decide +kernel
theorem dX3_extraCostWithout_7 : decode cX3_extraCostWithout 7 = .ok (.iaload, 1) := by decide +kernel
theorem dX3_extraCostWithout_8 : decode cX3_extraCostWithout 8 = .ok (.iload_n 2, 1) := by decide +kernel
theorem dX3_extraCostWithout_9 : decode cX3_extraCostWithout 9 = .ok (.iconst 0, 1) := by decide +kernel
theorem dX3_extraCostWithout_10 : decode cX3_extraCostWithout 10 = .ok (.invokestatic 84, 3) := by decide +kernel
theorem dX3_extraCostWithout_13 : decode cX3_extraCostWithout 13 = .ok (.aload_n 0, 1) := by decide +kernel
theorem dX3_extraCostWithout_14 : decode cX3_extraCostWithout 14 = .ok (.getfield 20, 3) := by decide +kernel
theorem dX3_extraCostWithout_17 : decode cX3_extraCostWithout 17 = .ok (.iload_n 1, 1) := by decide +kernel
theorem dX3_extraCostWithout_18 : decode cX3_extraCostWithout 18 = .ok (.iconst 1, 1) := by decide +kernel
theorem dX3_extraCostWithout_19 : decode cX3_extraCostWithout 19 = .ok (.iadd, 1) := by decide +kernel
theorem dX3_extraCostWithout_20 : decode cX3_extraCostWithout 20 = .ok (.aaload, 1) := by decide +kernel
theorem dX3_extraCostWithout_21 : decode cX3_extraCostWithout 21 = .ok (.aload_n 0, 1) := by decide +kernel
theorem dX3_extraCostWithout_22 : decode cX3_extraCostWithout 22 = .ok (.getfield 23, 3) := by decide +kernel
theorem dX3_extraCostWithout_25 : decode cX3_extraCostWithout 25 = .ok (.invokevirtual 42, 3) := by decide +kernel
theorem dX3_extraCostWithout_28 : decode cX3_extraCostWithout 28 = .ok (.aload_n 0, 1) := by decide +kernel
theorem dX3_extraCostWithout_29 : decode cX3_extraCostWithout 29 = .ok (.iload_n 1, 1) := by decide +kernel
theorem dX3_extraCostWithout_30 : decode cX3_extraCostWithout 30 = .ok (.invokevirtual 111, 3) := by decide +kernel
theorem dX3_extraCostWithout_33 : decode cX3_extraCostWithout 33 = .ok (.ireturn, 1) := by decide +kernel
theorem dX3_extraCostOfSupposed_0 : decode cX3_extraCostOfSupposed 0 = .ok (.iload_n 1, 1) := by decide +kernel
theorem dX3_extraCostOfSupposed_1 : decode cX3_extraCostOfSupposed 1 = .ok (.iconst 1, 1) := by decide +kernel
theorem dX3_extraCostOfSupposed_2 : decode cX3_extraCostOfSupposed 2 = .ok (.isub, 1) := by decide +kernel
theorem dX3_extraCostOfSupposed_3 : decode cX3_extraCostOfSupposed 3 = .ok (.istore_n 2, 1) := by decide +kernel
theorem dX3_extraCostOfSupposed_4 : decode cX3_extraCostOfSupposed 4 = .ok (.iload_n 2, 1) := by decide +kernel
theorem dX3_extraCostOfSupposed_5 : decode cX3_extraCostOfSupposed 5 = .ok (.ifCond .lt 28, 3) := by decide +kernel
theorem dX3_extraCostOfSupposed_8 : decode cX3_extraCostOfSupposed 8 = .ok (.aload_n 0, 1) := by decide +kernel
theorem dX3_extraCostOfSupposed_9 : decode cX3_extraCostOfSupposed 9 = .ok (.iload_n 2, 1) := by decide +kernel
theorem dX3_extraCostOfSupposed_10 : decode cX3_extraCostOfSupposed 10 = .ok (.aload_n 0, 1) := by decide +kernel
theorem dX3_extraCostOfSupposed_11 : decode cX3_extraCostOfSupposed 11 = .ok (.getfield 15, 3) := by decide +kernel
theorem dX3_extraCostOfSupposed_14 : decode cX3_extraCostOfSupposed 14 = .ok (.iload_n 2, 1) := by decide +kernel
theorem dX3_extraCostOfSupposed_15 : decode cX3_extraCostOfSupposed 15 = .ok (.iaload, 1) := by decide +kernel
theorem dX3_extraCostOfSupposed_16 : decode cX3_extraCostOfSupposed 16 = .ok (.aload_n 0, 1) := by decide +kernel
theorem dX3_extraCostOfSupposed_17 : decode cX3_extraCostOfSupposed 17 = .ok (.getfield 23, 3) := by decide +kernel
theorem dX3_extraCostOfSupposed_20 : decode cX3_extraCostOfSupposed 20 = .ok (.aload_n 0, 1) := by decide +kernel
theorem dX3_extraCostOfSupposed_21 : decode cX3_extraCostOfSupposed 21 = .ok (.getfield 23, 3) := by decide +kernel
theorem dX3_extraCostOfSupposed_24 : decode cX3_extraCostOfSupposed 24 = .ok (.invokevirtual 42, 3) := by decide +kernel
theorem dX3_extraCostOfSupposed_27 : decode cX3_extraCostOfSupposed 27 = .ok (.iinc 2 (-1), 3) := by decide +kernel
theorem dX3_extraCostOfSupposed_30 : decode cX3_extraCostOfSupposed 30 = .ok (.goto (-26), 3) := by decide +kernel
theorem dX3_extraCostOfSupposed_33 : decode cX3_extraCostOfSupposed 33 = .ok (.aload_n 0, 1) := by decide +kernel
theorem dX3_extraCostOfSupposed_34 : decode cX3_extraCostOfSupposed 34 = .ok (.getfield 23, 3) := by decide +kernel
theorem dX3_extraCostOfSupposed_37 : decode cX3_extraCostOfSupposed 37 = .ok (.aload_n 0, 1) := by decide +kernel
theorem dX3_extraCostOfSupposed_38 : decode cX3_extraCostOfSupposed 38 = .ok (.getfield 46, 3) := by decide +kernel
theorem dX3_extraCostOfSupposed_41 : decode cX3_extraCostOfSupposed 41 = .ok (.iaload, 1) := by decide +kernel
theorem dX3_extraCostOfSupposed_42 : decode cX3_extraCostOfSupposed 42 = .ok (.istore_n 2, 1) := by decide +kernel
theorem dX3_extraCostOfSupposed_43 : decode cX3_extraCostOfSupposed 43 = .ok (.iload_n 2, 1) := by decide +kernel
theorem dX3_extraCostOfSupposed_44 : decode cX3_extraCostOfSupposed 44 = .ok (.invokestatic 34, 3) := by decide +kernel
theorem dX3_extraCostOfSupposed_47 : decode cX3_extraCostOfSupposed 47 = .ok (.aload_n 0, 1) := by decide +kernel
theorem dX3_extraCostOfSupposed_48 : decode cX3_extraCostOfSupposed 48 = .ok (.getfield 50, 3) := by decide +kernel
theorem dX3_extraCostOfSupposed_51 : decode cX3_extraCostOfSupposed 51 = .ok (.invokestatic 34, 3) := by decide +kernel
theorem dX3_extraCostOfSupposed_54 : decode cX3_extraCostOfSupposed 54 = .ok (.if_icmp .ne 12, 3) := by decide +kernel
theorem dX3_extraCostOfSupposed_57 : decode cX3_extraCostOfSupposed 57 = .ok (.iload_n 2, 1) := by decide +kernel
theorem dX3_extraCostOfSupposed_58 : decode cX3_extraCostOfSupposed 58 = .ok (.aload_n 0, 1) := by decide +kernel
theorem dX3_extraCostOfSupposed_59 : decode cX3_extraCostOfSupposed 59 = .ok (.getfield 50, 3) := by decide +kernel
theorem dX3_extraCostOfSupposed_62 : decode cX3_extraCostOfSupposed 62 = .ok (.isub, 1) := by decide +kernel
theorem dX3_extraCostOfSupposed_63 : decode cX3_extraCostOfSupposed 63 = .ok (.goto 4, 3) := by decide +kernel
theorem dX3_extraCostOfSupposed_66 : decode cX3_extraCostOfSupposed 66 = .ok (.iconst (-1), 1) := by decide +kernel
theorem dX3_extraCostOfSupposed_67 : decode cX3_extraCostOfSupposed 67 = .ok (.ireturn, 1) := by decide +kernel
theorem dX3_addTo_0 : decode cX3_addTo 0 = .ok (.lload_n 1, 1) := by decide +kernel
theorem dX3_addTo_1 : decode cX3_addTo 1 = .ok (.ldc2_w 114, 3) := by decide +kernel
theorem dX3_addTo_4 : decode cX3_addTo 4 = .ok (.lmul, 1) := by decide +kernel
theorem dX3_addTo_5 : decode cX3_addTo 5 = .ok (.aload_n 0, 1) := by decide +kernel
theorem dX3_addTo_6 : decode cX3_addTo 6 = .ok (.getfield 50, 3) := by decide +kernel
theorem dX3_addTo_9 : decode cX3_addTo 9 = .ok (.invokestatic 34, 3) := by decide +kernel
theorem dX3_addTo_12 : decode cX3_addTo 12 = .ok (.i2l, 1) := by decide +kernel
theorem dX3_addTo_13 : decode cX3_addTo 13 = .ok (.ladd, 1) := by decide +kernel
theorem dX3_addTo_14 : decode cX3_addTo 14 = .ok (.lstore 4, 2) := by decide +kernel
theorem dX3_addTo_16 : decode cX3_addTo 16 = .ok (.lload 4, 2) := by decide +kernel
theorem dX3_addTo_18 : decode cX3_addTo 18 = .ok (.ldc2_w 114, 3) := by decide +kernel
theorem dX3_addTo_21 : decode cX3_addTo 21 = .ok (.lmul, 1) := by decide +kernel
theorem dX3_addTo_22 : decode cX3_addTo 22 = .ok (.aload_n 0, 1) := by decide +kernel
theorem dX3_addTo_23 : decode cX3_addTo 23 = .ok (.getfield 50, 3) := by decide +kernel
theorem dX3_addTo_26 : decode cX3_addTo 26 = .ok (.invokestatic 116, 3) := by decide +kernel
theorem dX3_addTo_29 : decode cX3_addTo 29 = .ok (.i2l, 1) := by decide +kernel
theorem dX3_addTo_30 : decode cX3_addTo 30 = .ok (.ladd, 1) := by decide +kernel
theorem dX3_addTo_31 : decode cX3_addTo 31 = .ok (.lstore 4, 2) := by decide +kernel
theorem dX3_addTo_33 : decode cX3_addTo 33 = .ok (.iconst 0, 1) := by decide +kernel
theorem dX3_addTo_34 : decode cX3_addTo 34 = .ok (.istore 6, 2) := by decide +kernel
theorem dX3_addTo_36 : decode cX3_addTo 36 = .ok (.iload 6, 2) := by decide +kernel
theorem dX3_addTo_38 : decode cX3_addTo 38 = .ok (.iload_n 3, 1) := by decide +kernel
theorem dX3_addTo_39 : decode cX3_addTo 39 = .ok (.if_icmp .ge 33, 3) := by decide +kernel
theorem dX3_addTo_42 : decode cX3_addTo 42 = .ok (.iload 6, 2) := by decide +kernel
theorem dX3_addTo_44 : decode cX3_addTo 44 = .ok (.bipush 10, 2) := by decide +kernel
theorem dX3_addTo_46 : decode cX3_addTo 46 = .ok (.if_icmp .ge 26, 3) := by decide +kernel
theorem dX3_addTo_49 : decode cX3_addTo 49 = .ok (.lload 4, 2) := by decide +kernel
theorem dX3_addTo_51 : decode cX3_addTo 51 = .ok (.ldc2_w 114, 3) := by decide +kernel
theorem dX3_addTo_54 : decode cX3_addTo 54 = .ok (.lmul, 1) := by decide +kernel
theorem dX3_addTo_55 : decode cX3_addTo 55 = .ok (.aload_n 0, 1) := by decide +kernel
theorem dX3_addTo_56 : decode cX3_addTo 56 = .ok (.getfield 29, 3) := by decide +kernel
theorem dX3_addTo_59 : decode cX3_addTo 59 = .ok (.iload 6, 2) := by decide +kernel
theorem dX3_addTo_61 : decode cX3_addTo 61 = .ok (.iaload, 1) := by decide +kernel
theorem dX3_addTo_62 : decode cX3_addTo 62 = .ok (.i2l, 1) := by decide +kernel
theorem dX3_addTo_63 : decode cX3_addTo 63 = .ok (.ladd, 1) := by decide +kernel
theorem dX3_addTo_64 : decode cX3_addTo 64 = .ok (.lstore 4, 2) := by decide +kernel
theorem dX3_addTo_66 : decode cX3_addTo 66 = .ok (.iinc 6 1, 3) := by decide +kernel
theorem dX3_addTo_69 : decode cX3_addTo 69 = .ok (.goto (-33), 3) := by decide +kernel
theorem dX3_addTo_72 : decode cX3_addTo 72 = .ok (.lload 4, 2) := by decide +kernel
theorem dX3_addTo_74 : decode cX3_addTo 74 = .ok (.lreturn, 1) := by decide +kernel
theorem dX4_init_0 : decode cX4_init 0 = .ok (.aload_n 0, 1) := by decide +kernel
theorem dX4_init_1 : decode cX4_init 1 = .ok (.invokespecial 3, 3) := by decide +kernel
theorem dX4_init_4 : decode cX4_init 4 = .ok (.aload_n 0, 1) := by decide +kernel
theorem dX4_init_5 : decode cX4_init 5 = .ok (.bipush 100, 2) := by decide +kernel
theorem dX4_init_7 : decode cX4_init 7 = .ok (.newarray .int, 2) := by decide +kernel
theorem dX4_init_9 : decode cX4_init 9 = .ok (.putfield 9, 3) := by decide +kernel
theorem dX4_init_12 : decode cX4_init 12 = .ok (.aload_n 0, 1) := by decide +kernel
theorem dX4_init_13 : decode cX4_init 13 = .ok (.getfield 9, 3) := by decide +kernel
theorem dX4_init_16 : decode cX4_init 16 = .ok (.sipush 20000, 3) := by decide +kernel
theorem dX4_init_19 : decode cX4_init 19 = .ok (.invokestatic 15, 3) := by decide +kernel
theorem dX4_init_22 : decode cX4_init 22 = .ok (.return_, 1) := by decide +kernel
theorem dX4_appendRow_0 : decode cX4_appendRow 0 = .ok (.aload_n 0, 1) := by decide +kernel
theorem dX4_appendRow_1 : decode cX4_appendRow 1 = .ok (.aload_n 0, 1) := by decide +kernel
theorem dX4_appendRow_2 : decode cX4_appendRow 2 = .ok (.getfield 21, 3) := by decide +kernel
theorem dX4_appendRow_5 : decode cX4_appendRow 5 = .ok (.aload_n 0, 1) := by decide +kernel
theorem dX4_appendRow_6 : decode cX4_appendRow 6 = .ok (.getfield 25, 3) := by decide +kernel
theorem dX4_appendRow_9 : decode cX4_appendRow 9 = .ok (.iconst 1, 1) := by decide +kernel
theorem dX4_appendRow_10 : decode cX4_appendRow 10 = .ok (.invokestatic 28, 3) := by decide +kernel
theorem dX4_appendRow_13 : decode cX4_appendRow 13 = .ok (.putfield 21, 3) := by decide +kernel
theorem dX4_appendRow_16 : decode cX4_appendRow 16 = .ok (.aload_n 0, 1) := by decide +kernel
theorem dX4_appendRow_17 : decode cX4_appendRow 17 = .ok (.dup, 1) := by decide +kernel
theorem dX4_appendRow_18 : decode cX4_appendRow 18 = .ok (.getfield 25, 3) := by decide +kernel
theorem dX4_appendRow_21 : decode cX4_appendRow 21 = .ok (.iconst 1, 1) := by decide +kernel
theorem dX4_appendRow_22 : decode cX4_appendRow 22 = .ok (.iadd, 1) := by decide +kernel
theorem dX4_appendRow_23 : decode cX4_appendRow 23 = .ok (.putfield 25, 3) := by decide +kernel
theorem dX4_appendRow_26 : decode cX4_appendRow 26 = .ok (.aload_n 0, 1) := by decide +kernel
theorem dX4_appendRow_27 : decode cX4_appendRow 27 = .ok (.getfield 25, 3) := by decide +kernel
theorem dX4_appendRow_30 : decode cX4_appendRow 30 = .ok (.iconst 1, 1) := by decide +kernel
theorem dX4_appendRow_31 : decode cX4_appendRow 31 = .ok (.isub, 1) := by decide +kernel
theorem dX4_appendRow_32 : decode cX4_appendRow 32 = .ok (.ireturn, 1) := by decide +kernel
theorem dX4_appendColumn_0 : decode cX4_appendColumn 0 = .ok (.aload_n 0, 1) := by decide +kernel
theorem dX4_appendColumn_1 : decode cX4_appendColumn 1 = .ok (.aload_n 0, 1) := by decide +kernel
theorem dX4_appendColumn_2 : decode cX4_appendColumn 2 = .ok (.getfield 32, 3) := by decide +kernel
theorem dX4_appendColumn_5 : decode cX4_appendColumn 5 = .ok (.aload_n 0, 1) := by decide +kernel
theorem dX4_appendColumn_6 : decode cX4_appendColumn 6 = .ok (.getfield 35, 3) := by decide +kernel
theorem dX4_appendColumn_9 : decode cX4_appendColumn 9 = .ok (.iconst 1, 1) := by decide +kernel
theorem dX4_appendColumn_10 : decode cX4_appendColumn 10 = .ok (.invokestatic 28, 3) := by decide +kernel
theorem dX4_appendColumn_13 : decode cX4_appendColumn 13 = .ok (.putfield 32, 3) := by decide +kernel
theorem dX4_appendColumn_16 : decode cX4_appendColumn 16 = .ok (.aload_n 0, 1) := by decide +kernel
theorem dX4_appendColumn_17 : decode cX4_appendColumn 17 = .ok (.dup, 1) := by decide +kernel
theorem dX4_appendColumn_18 : decode cX4_appendColumn 18 = .ok (.getfield 35, 3) := by decide +kernel
theorem dX4_appendColumn_21 : decode cX4_appendColumn 21 = .ok (.iconst 1, 1) := by decide +kernel
theorem dX4_appendColumn_22 : decode cX4_appendColumn 22 = .ok (.iadd, 1) := by decide +kernel
theorem dX4_appendColumn_23 : decode cX4_appendColumn 23 = .ok (.putfield 35, 3) := by decide +kernel
theorem dX4_appendColumn_26 : decode cX4_appendColumn 26 = .ok (.aload_n 0, 1) := by decide +kernel
theorem dX4_appendColumn_27 : decode cX4_appendColumn 27 = .ok (.getfield 35, 3) := by decide +kernel
theorem dX4_appendColumn_30 : decode cX4_appendColumn 30 = .ok (.iconst 1, 1) := by decide +kernel
theorem dX4_appendColumn_31 : decode cX4_appendColumn 31 = .ok (.isub, 1) := by decide +kernel
theorem dX4_appendColumn_32 : decode cX4_appendColumn 32 = .ok (.ireturn, 1) := by decide +kernel
theorem dX4_cell_0 : decode cX4_cell 0 = .ok (.aload_n 0, 1) := by decide +kernel
theorem dX4_cell_1 : decode cX4_cell 1 = .ok (.getfield 9, 3) := by decide +kernel
theorem dX4_cell_4 : decode cX4_cell 4 = .ok (.iload_n 1, 1) := by decide +kernel
theorem dX4_cell_5 : decode cX4_cell 5 = .ok (.bipush 10, 2) := by decide +kernel
theorem dX4_cell_7 : decode cX4_cell 7 = .ok (.imul, 1) := by decide +kernel
theorem dX4_cell_8 : decode cX4_cell 8 = .ok (.iload_n 2, 1) := by decide +kernel
theorem dX4_cell_9 : decode cX4_cell 9 = .ok (.iadd, 1) := by decide +kernel
theorem dX4_cell_10 : decode cX4_cell 10 = .ok (.iaload, 1) := by decide +kernel
theorem dX4_cell_11 : decode cX4_cell 11 = .ok (.ireturn, 1) := by decide +kernel
theorem dX4_isUsable_0 : decode cX4_isUsable 0 = .ok (.aload_n 0, 1) := by decide +kernel
theorem dX4_isUsable_1 : decode cX4_isUsable 1 = .ok (.getfield 21, 3) := by decide +kernel
theorem dX4_isUsable_4 : decode cX4_isUsable 4 = .ok (.iload_n 1, 1) := by decide +kernel
theorem dX4_isUsable_5 : decode cX4_isUsable 5 = .ok (.invokestatic 38, 3) := by decide +kernel
theorem dX4_isUsable_8 : decode cX4_isUsable 8 = .ok (.ifCond .eq 30, 3) := by decide +kernel
theorem dX4_isUsable_11 : decode cX4_isUsable 11 = .ok (.aload_n 0, 1) := by decide +kernel
theorem dX4_isUsable_12 : decode cX4_isUsable 12 = .ok (.getfield 32, 3) := by decide +kernel
theorem dX4_isUsable_15 : decode cX4_isUsable 15 = .ok (.iload_n 2, 1) := by decide +kernel
theorem dX4_isUsable_16 : decode cX4_isUsable 16 = .ok (.invokestatic 38, 3) := by decide +kernel
theorem dX4_isUsable_19 : decode cX4_isUsable 19 = .ok (.ifCond .eq 19, 3) := by decide +kernel
theorem dX4_isUsable_22 : decode cX4_isUsable 22 = .ok (.aload_n 0, 1) := by decide +kernel
theorem dX4_isUsable_23 : decode cX4_isUsable 23 = .ok (.iload_n 1, 1) := by decide +kernel
theorem dX4_isUsable_24 : decode cX4_isUsable 24 = .ok (.iload_n 2, 1) := by decide +kernel
theorem dX4_isUsable_25 : decode cX4_isUsable 25 = .ok (.invokevirtual 42, 3) := by decide +kernel
theorem dX4_isUsable_28 : decode cX4_isUsable 28 = .ok (.sipush 20000, 3) := by decide +kernel
theorem dX4_isUsable_31 : decode cX4_isUsable 31 = .ok (.if_icmp .eq 7, 3) := by decide +kernel
theorem dX4_isUsable_34 : decode cX4_isUsable 34 = .ok (.iconst 1, 1) := by decide +kernel
theorem dX4_isUsable_35 : decode cX4_isUsable 35 = .ok (.goto 4, 3) := by decide +kernel
theorem dX4_isUsable_38 : decode cX4_isUsable 38 = .ok (.iconst 0, 1) := by decide +kernel
theorem dX4_isUsable_39 : decode cX4_isUsable 39 = .ok (.ireturn, 1) := by decide +kernel
theorem dX4_usableColumns_0 : decode cX4_usableColumns 0 = .ok (.iconst 0, 1) := by decide +kernel
theorem dX4_usableColumns_1 : decode cX4_usableColumns 1 = .ok (.istore_n 2, 1) := by decide +kernel
theorem dX4_usableColumns_2 : decode cX4_usableColumns 2 = .ok (.iconst 0, 1) := by decide +kernel
theorem dX4_usableColumns_3 : decode cX4_usableColumns 3 = .ok (.istore_n 3, 1) := by decide +kernel
theorem dX4_usableColumns_4 : decode cX4_usableColumns 4 = .ok (.iload_n 3, 1) := by decide +kernel
theorem dX4_usableColumns_5 : decode cX4_usableColumns 5 = .ok (.bipush 10, 2) := by decide +kernel
theorem dX4_usableColumns_7 : decode cX4_usableColumns 7 = .ok (.if_icmp .ge 25, 3) := by decide +kernel
theorem dX4_usableColumns_10 : decode cX4_usableColumns 10 = .ok (.aload_n 0, 1) := by decide +kernel
theorem dX4_usableColumns_11 : decode cX4_usableColumns 11 = .ok (.iload_n 1, 1) := by decide +kernel
theorem dX4_usableColumns_12 : decode cX4_usableColumns 12 = .ok (.iload_n 3, 1) := by decide +kernel
theorem dX4_usableColumns_13 : decode cX4_usableColumns 13 = .ok (.invokevirtual 46, 3) := by decide +kernel
theorem dX4_usableColumns_16 : decode cX4_usableColumns 16 = .ok (.ifCond .eq 10, 3) := by decide +kernel
theorem dX4_usableColumns_19 : decode cX4_usableColumns 19 = .ok (.iload_n 2, 1) := by decide +kernel
theorem dX4_usableColumns_20 : decode cX4_usableColumns 20 = .ok (.iload_n 3, 1) := by decide +kernel
theorem dX4_usableColumns_21 : decode cX4_usableColumns 21 = .ok (.iconst 1, 1) := by decide +kernel
theorem dX4_usableColumns_22 : decode cX4_usableColumns 22 = .ok (.invokestatic 28, 3) := by decide +kernel
theorem dX4_usableColumns_25 : decode cX4_usableColumns 25 = .ok (.istore_n 2, 1) := by decide +kernel
theorem dX4_usableColumns_26 : decode cX4_usableColumns 26 = .ok (.iinc 3 1, 3) := by decide +kernel
theorem dX4_usableColumns_29 : decode cX4_usableColumns 29 = .ok (.goto (-25), 3) := by decide +kernel
theorem dX4_usableColumns_32 : decode cX4_usableColumns 32 = .ok (.iload_n 2, 1) := by decide +kernel
theorem dX4_usableColumns_33 : decode cX4_usableColumns 33 = .ok (.ireturn, 1) := by decide +kernel
theorem dX4_canShiftRow_0 : decode cX4_canShiftRow 0 = .ok (.iconst 0, 1) := by decide +kernel
theorem dX4_canShiftRow_1 : decode cX4_canShiftRow 1 = .ok (.istore_n 3, 1) := by decide +kernel
theorem dX4_canShiftRow_2 : decode cX4_canShiftRow 2 = .ok (.iload_n 3, 1) := by decide +kernel
theorem dX4_canShiftRow_3 : decode cX4_canShiftRow 3 = .ok (.bipush 10, 2) := by decide +kernel
theorem dX4_canShiftRow_5 : decode cX4_canShiftRow 5 = .ok (.if_icmp .ge 39, 3) := by decide +kernel
theorem dX4_canShiftRow_8 : decode cX4_canShiftRow 8 = .ok (.aload_n 0, 1) := by decide +kernel
theorem dX4_canShiftRow_9 : decode cX4_canShiftRow 9 = .ok (.iload_n 1, 1) := by decide +kernel
theorem dX4_canShiftRow_10 : decode cX4_canShiftRow 10 = .ok (.iload_n 3, 1) := by decide +kernel
theorem dX4_canShiftRow_11 : decode cX4_canShiftRow 11 = .ok (.invokevirtual 42, 3) := by decide +kernel
theorem dX4_canShiftRow_14 : decode cX4_canShiftRow 14 = .ok (.istore 4, 2) := by decide +kernel
theorem dX4_canShiftRow_16 : decode cX4_canShiftRow 16 = .ok (.iload 4, 2) := by decide +kernel
theorem dX4_canShiftRow_18 : decode cX4_canShiftRow 18 = .ok (.sipush 20000, 3) := by decide +kernel
theorem dX4_canShiftRow_21 : decode cX4_canShiftRow 21 = .ok (.if_icmp .eq 17, 3) := by decide +kernel
theorem dX4_canShiftRow_24 : decode cX4_canShiftRow 24 = .ok (.iload 4, 2) := by decide +kernel
theorem dX4_canShiftRow_26 : decode cX4_canShiftRow 26 = .ok (.i2l, 1) := by decide +kernel
theorem dX4_canShiftRow_27 : decode cX4_canShiftRow 27 = .ok (.iload_n 2, 1) := by decide +kernel
theorem dX4_canShiftRow_28 : decode cX4_canShiftRow 28 = .ok (.i2l, 1) := by decide +kernel
theorem dX4_canShiftRow_29 : decode cX4_canShiftRow 29 = .ok (.ladd, 1) := by decide +kernel
theorem dX4_canShiftRow_30 : decode cX4_canShiftRow 30 = .ok (.invokestatic 49, 3) := by decide +kernel
theorem dX4_canShiftRow_33 : decode cX4_canShiftRow 33 = .ok (.ifCond .ne 5, 3) := by decide +kernel
theorem dX4_canShiftRow_36 : decode cX4_canShiftRow 36 = .ok (.iconst 0, 1) := by decide +kernel
theorem dX4_canShiftRow_37 : decode cX4_canShiftRow 37 = .ok (.ireturn, 1) := by decide +kernel
theorem dX4_canShiftRow_38 : decode cX4_canShiftRow 38 = .ok (.iinc 3 1, 3) := by decide +kernel
theorem dX4_canShiftRow_41 : decode cX4_canShiftRow 41 = .ok (.goto (-39), 3) := by decide +kernel
theorem dX4_canShiftRow_44 : decode cX4_canShiftRow 44 = .ok (.iconst 1, 1) := by decide +kernel
theorem dX4_canShiftRow_45 : decode cX4_canShiftRow 45 = .ok (.ireturn, 1) := by decide +kernel
theorem dX4_shiftRow_0 : decode cX4_shiftRow 0 = .ok (.iconst 0, 1) := by decide +kernel
theorem dX4_shiftRow_1 : decode cX4_shiftRow 1 = .ok (.istore_n 3, 1) := by decide +kernel
theorem dX4_shiftRow_2 : decode cX4_shiftRow 2 = .ok (.iconst 0, 1) := by decide +kernel
theorem dX4_shiftRow_3 : decode cX4_shiftRow 3 = .ok (.istore 4, 2) := by decide +kernel
theorem dX4_shiftRow_5 : decode cX4_shiftRow 5 = .ok (.iload 4, 2) := by decide +kernel
theorem dX4_shiftRow_7 : decode cX4_shiftRow 7 = .ok (.bipush 10, 2) := by decide +kernel
theorem dX4_shiftRow_9 : decode cX4_shiftRow 9 = .ok (.if_icmp .ge 41, 3) := by decide +kernel
theorem dX4_shiftRow_12 : decode cX4_shiftRow 12 = .ok (.aload_n 0, 1) := by decide +kernel
theorem dX4_shiftRow_13 : decode cX4_shiftRow 13 = .ok (.iload_n 1, 1) := by decide +kernel
theorem dX4_shiftRow_14 : decode cX4_shiftRow 14 = .ok (.iload 4, 2) := by decide +kernel
theorem dX4_shiftRow_16 : decode cX4_shiftRow 16 = .ok (.invokevirtual 42, 3) := by decide +kernel
theorem dX4_shiftRow_19 : decode cX4_shiftRow 19 = .ok (.sipush 20000, 3) := by decide +kernel
theorem dX4_shiftRow_22 : decode cX4_shiftRow 22 = .ok (.if_icmp .eq 22, 3) := by decide +kernel
theorem dX4_shiftRow_25 : decode cX4_shiftRow 25 = .ok (.aload_n 0, 1) := by decide +kernel
theorem dX4_shiftRow_26 : decode cX4_shiftRow 26 = .ok (.getfield 9, 3) := by decide +kernel
theorem dX4_shiftRow_29 : decode cX4_shiftRow 29 = .ok (.iload_n 1, 1) := by decide +kernel
theorem dX4_shiftRow_30 : decode cX4_shiftRow 30 = .ok (.bipush 10, 2) := by decide +kernel
theorem dX4_shiftRow_32 : decode cX4_shiftRow 32 = .ok (.imul, 1) := by decide +kernel
theorem dX4_shiftRow_33 : decode cX4_shiftRow 33 = .ok (.iload 4, 2) := by decide +kernel
theorem dX4_shiftRow_35 : decode cX4_shiftRow 35 = .ok (.iadd, 1) := by decide +kernel
theorem dX4_shiftRow_36 : decode cX4_shiftRow 36 = .ok (.dup2, 1) := by decide +kernel
theorem dX4_shiftRow_37 : decode cX4_shiftRow 37 = .ok (.iaload, 1) := by decide +kernel
theorem dX4_shiftRow_38 : decode cX4_shiftRow 38 = .ok (.iload_n 2, 1) := by decide +kernel
theorem dX4_shiftRow_39 : decode cX4_shiftRow 39 = .ok (.iadd, 1) := by decide +kernel
theorem dX4_shiftRow_40 : decode cX4_shiftRow 40 = .ok (.iastore, 1) := by decide +kernel
