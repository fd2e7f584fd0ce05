theorem dX0_init_0 : decode cX0_init 0 = .ok (.aload_n 0, 1) := by decide +kernel
theorem dX0_init_1 : decode cX0_init 1 = .ok (.invokespecial 3, 3) := by decide +kernel
theorem dX0_init_4 : decode cX0_init 4 = .ok (.aload_n 0, 1) := by decide +kernel
theorem dX0_init_5 : decode cX0_init 5 = .ok (.bipush 8, 2) := by decide +kernel
theorem dX0_init_7 : decode cX0_init 7 = .ok (.newarray .int, 2) := by decide +kernel
theorem dX0_init_9 : decode cX0_init 9 = .ok (.putfield 9, 3) := by decide +kernel
theorem dX0_init_12 : decode cX0_init 12 = .ok (.aload_n 0, 1) := by decide +kernel
theorem dX0_init_13 : decode cX0_init 13 = .ok (.bipush 8, 2) := by decide +kernel
theorem dX0_init_15 : decode cX0_init 15 = .ok (.newarray .int, 2) := by decide +kernel
theorem dX0_init_17 : decode cX0_init 17 = .ok (.putfield 15, 3) := by decide +kernel
theorem dX0_init_20 : decode cX0_init 20 = .ok (.aload_n 0, 1) := by decide +kernel
theorem dX0_init_21 : decode cX0_init 21 = .ok (.iconst 0, 1) := by decide +kernel
theorem dX0_init_22 : decode cX0_init 22 = .ok (.putfield 18, 3) := by decide +kernel
theorem dX0_init_25 : decode cX0_init 25 = .ok (.return_, 1) := by decide +kernel
theorem dX0_push_0 : decode cX0_push 0 = .ok (.aload_n 0, 1) := by decide +kernel
theorem dX0_push_1 : decode cX0_push 1 = .ok (.getfield 9, 3) := by decide +kernel
theorem dX0_push_4 : decode cX0_push 4 = .ok (.aload_n 0, 1) := by decide +kernel
theorem dX0_push_5 : decode cX0_push 5 = .ok (.getfield 18, 3) := by decide +kernel
theorem dX0_push_8 : decode cX0_push 8 = .ok (.iload_n 1, 1) := by decide +kernel
theorem dX0_push_9 : decode cX0_push 9 = .ok (.iastore, 1) := by decide +kernel
theorem dX0_push_10 : decode cX0_push 10 = .ok (.aload_n 0, 1) := by decide +kernel
theorem dX0_push_11 : decode cX0_push 11 = .ok (.getfield 15, 3) := by decide +kernel
theorem dX0_push_14 : decode cX0_push 14 = .ok (.aload_n 0, 1) := by decide +kernel
theorem dX0_push_15 : decode cX0_push 15 = .ok (.getfield 18, 3) := by decide +kernel
theorem dX0_push_18 : decode cX0_push 18 = .ok (.iload_n 2, 1) := by decide +kernel
theorem dX0_push_19 : decode cX0_push 19 = .ok (.iastore, 1) := by decide +kernel
theorem dX0_push_20 : decode cX0_push 20 = .ok (.aload_n 0, 1) := by decide +kernel
theorem dX0_push_21 : decode cX0_push 21 = .ok (.dup, 1) := by decide +kernel
theorem dX0_push_22 : decode cX0_push 22 = .ok (.getfield 18, 3) := by decide +kernel
theorem dX0_push_25 : decode cX0_push 25 = .ok (.iconst 1, 1) := by decide +kernel
theorem dX0_push_26 : decode cX0_push 26 = .ok (.iadd, 1) := by decide +kernel
theorem dX0_push_27 : decode cX0_push 27 = .ok (.putfield 18, 3) := by decide +kernel
theorem dX0_push_30 : decode cX0_push 30 = .ok (.return_, 1) := by decide +kernel
theorem dX1_init_0 : decode cX1_init 0 = .ok (.aload_n 0, 1) := by decide +kernel
theorem dX1_init_1 : decode cX1_init 1 = .ok (.invokespecial 3, 3) := by decide +kernel
theorem dX1_init_4 : decode cX1_init 4 = .ok (.aload_n 0, 1) := by decide +kernel
theorem dX1_init_5 : decode cX1_init 5 = .ok (.bipush 8, 2) := by decide +kernel
theorem dX1_init_7 : decode cX1_init 7 = .ok (.newarray .long, 2) := by decide +kernel
theorem dX1_init_9 : decode cX1_init 9 = .ok (.putfield 9, 3) := by decide +kernel
theorem dX1_init_12 : decode cX1_init 12 = .ok (.aload_n 0, 1) := by decide +kernel
theorem dX1_init_13 : decode cX1_init 13 = .ok (.lconst 1, 1) := by decide +kernel
theorem dX1_init_14 : decode cX1_init 14 = .ok (.putfield 15, 3) := by decide +kernel
theorem dX1_init_17 : decode cX1_init 17 = .ok (.aload_n 0, 1) := by decide +kernel
theorem dX1_init_18 : decode cX1_init 18 = .ok (.lconst 0, 1) := by decide +kernel
theorem dX1_init_19 : decode cX1_init 19 = .ok (.putfield 19, 3) := by decide +kernel
theorem dX1_init_22 : decode cX1_init 22 = .ok (.aload_n 0, 1) := by decide +kernel
theorem dX1_init_23 : decode cX1_init 23 = .ok (.lconst 1, 1) := by decide +kernel
theorem dX1_init_24 : decode cX1_init 24 = .ok (.putfield 22, 3) := by decide +kernel
theorem dX1_init_27 : decode cX1_init 27 = .ok (.aload_n 0, 1) := by decide +kernel
theorem dX1_init_28 : decode cX1_init 28 = .ok (.aload_n 1, 1) := by decide +kernel
theorem dX1_init_29 : decode cX1_init 29 = .ok (.putfield 25, 3) := by decide +kernel
theorem dX1_init_32 : decode cX1_init 32 = .ok (.aload_n 0, 1) := by decide +kernel
theorem dX1_init_33 : decode cX1_init 33 = .ok (.aload_n 2, 1) := by decide +kernel
theorem dX1_init_34 : decode cX1_init 34 = .ok (.putfield 29, 3) := by decide +kernel
theorem dX1_init_37 : decode cX1_init 37 = .ok (.aload_n 0, 1) := by decide +kernel
theorem dX1_init_38 : decode cX1_init 38 = .ok (.aload_n 3, 1) := by decide +kernel
theorem dX1_init_39 : decode cX1_init 39 = .ok (.putfield 32, 3) := by decide +kernel
theorem dX1_init_42 : decode cX1_init 42 = .ok (.return_, 1) := by decide +kernel
theorem dX1_weigh_0 : decode cX1_weigh 0 = .ok (.aload_n 0, 1) := by decide +kernel
theorem dX1_weigh_1 : decode cX1_weigh 1 = .ok (.getfield 29, 3) := by decide +kernel
theorem dX1_weigh_4 : decode cX1_weigh 4 = .ok (.aload_n 0, 1) := by decide +kernel
theorem dX1_weigh_5 : decode cX1_weigh 5 = .ok (.getfield 25, 3) := by decide +kernel
theorem dX1_weigh_8 : decode cX1_weigh 8 = .ok (.invokevirtual 36, 3) := by decide +kernel
theorem dX1_weigh_11 : decode cX1_weigh 11 = .ok (.aload_n 0, 1) := by decide +kernel
theorem dX1_weigh_12 : decode cX1_weigh 12 = .ok (.lconst 1, 1) := by decide +kernel
theorem dX1_weigh_13 : decode cX1_weigh 13 = .ok (.iconst 4, 1) := by decide +kernel
theorem dX1_weigh_14 : decode cX1_weigh 14 = .ok (.aload_n 0, 1) := by decide +kernel
theorem dX1_weigh_15 : decode cX1_weigh 15 = .ok (.getfield 25, 3) := by decide +kernel
theorem dX1_weigh_18 : decode cX1_weigh 18 = .ok (.getfield 42, 3) := by decide +kernel
theorem dX1_weigh_21 : decode cX1_weigh 21 = .ok (.getfield 46, 3) := by decide +kernel
theorem dX1_weigh_24 : decode cX1_weigh 24 = .ok (.imul, 1) := by decide +kernel
theorem dX1_weigh_25 : decode cX1_weigh 25 = .ok (.lshl, 1) := by decide +kernel
theorem dX1_weigh_26 : decode cX1_weigh 26 = .ok (.putfield 15, 3) := by decide +kernel
theorem dX1_weigh_29 : decode cX1_weigh 29 = .ok (.iconst 0, 1) := by decide +kernel
theorem dX1_weigh_30 : decode cX1_weigh 30 = .ok (.istore_n 2, 1) := by decide +kernel
theorem dX1_weigh_31 : decode cX1_weigh 31 = .ok (.iload_n 2, 1) := by decide +kernel
theorem dX1_weigh_32 : decode cX1_weigh 32 = .ok (.bipush 8, 2) := by decide +kernel
theorem dX1_weigh_34 : decode cX1_weigh 34 = .ok (.if_icmp .ge 16, 3) := by decide +kernel
theorem dX1_weigh_37 : decode cX1_weigh 37 = .ok (.aload_n 0, 1) := by decide +kernel
theorem dX1_weigh_38 : decode cX1_weigh 38 = .ok (.getfield 9, 3) := by decide +kernel
theorem dX1_weigh_41 : decode cX1_weigh 41 = .ok (.iload_n 2, 1) := by decide +kernel
theorem dX1_weigh_42 : decode cX1_weigh 42 = .ok (.lconst 0, 1) := by decide +kernel
theorem dX1_weigh_43 : decode cX1_weigh 43 = .ok (.lastore, 1) := by decide +kernel
theorem dX1_weigh_44 : decode cX1_weigh 44 = .ok (.iinc 2 1, 3) := by decide +kernel
theorem dX1_weigh_47 : decode cX1_weigh 47 = .ok (.goto (-16), 3) := by decide +kernel
theorem dX1_weigh_50 : decode cX1_weigh 50 = .ok (.iconst 1, 1) := by decide +kernel
theorem dX1_weigh_51 : decode cX1_weigh 51 = .ok (.aload_n 0, 1) := by decide +kernel
theorem dX1_weigh_52 : decode cX1_weigh 52 = .ok (.getfield 25, 3) := by decide +kernel
theorem dX1_weigh_55 : decode cX1_weigh 55 = .ok (.getfield 42, 3) := by decide +kernel
theorem dX1_weigh_58 : decode cX1_weigh 58 = .ok (.getfield 46, 3) := by decide +kernel
theorem dX1_weigh_61 : decode cX1_weigh 61 = .ok (.ishl, 1) := by decide +kernel
theorem dX1_weigh_62 : decode cX1_weigh 62 = .ok (.istore_n 2, 1) := by decide +kernel
theorem dX1_weigh_63 : decode cX1_weigh 63 = .ok (.iconst 0, 1) := by decide +kernel
theorem dX1_weigh_64 : decode cX1_weigh 64 = .ok (.istore_n 3, 1) := by decide +kernel
theorem dX1_weigh_65 : decode cX1_weigh 65 = .ok (.iload_n 3, 1) := by decide +kernel
theorem dX1_weigh_66 : decode cX1_weigh 66 = .ok (.iload_n 2, 1) := by decide +kernel
theorem dX1_weigh_67 : decode cX1_weigh 67 = .ok (.if_icmp .ge 49, 3) := by decide +kernel
theorem dX1_weigh_70 : decode cX1_weigh 70 = .ok (.aload_n 0, 1) := by decide +kernel
theorem dX1_weigh_71 : decode cX1_weigh 71 = .ok (.iload_n 3, 1) := by decide +kernel
theorem dX1_weigh_72 : decode cX1_weigh 72 = .ok (.iload_n 1, 1) := by decide +kernel
theorem dX1_weigh_73 : decode cX1_weigh 73 = .ok (.invokevirtual 52, 3) := by decide +kernel
theorem dX1_weigh_76 : decode cX1_weigh 76 = .ok (.lstore 4, 2) := by decide +kernel
theorem dX1_weigh_78 : decode cX1_weigh 78 = .ok (.lload 4, 2) := by decide +kernel
theorem dX1_weigh_80 : decode cX1_weigh 80 = .ok (.lconst 0, 1) := by decide +kernel
theorem dX1_weigh_81 : decode cX1_weigh 81 = .ok (.lcmp, 1) := by decide +kernel
theorem dX1_weigh_82 : decode cX1_weigh 82 = .ok (.ifCond .le 28, 3) := by decide +kernel
theorem dX1_weigh_85 : decode cX1_weigh 85 = .ok (.aload_n 0, 1) := by decide +kernel
theorem dX1_weigh_86 : decode cX1_weigh 86 = .ok (.getfield 29, 3) := by decide +kernel
theorem dX1_weigh_89 : decode cX1_weigh 89 = .ok (.iload_n 3, 1) := by decide +kernel
theorem dX1_weigh_90 : decode cX1_weigh 90 = .ok (.putfield 56, 3) := by decide +kernel
theorem dX1_weigh_93 : decode cX1_weigh 93 = .ok (.aload_n 0, 1) := by decide +kernel
theorem dX1_weigh_94 : decode cX1_weigh 94 = .ok (.getfield 32, 3) := by decide +kernel
theorem dX1_weigh_97 : decode cX1_weigh 97 = .ok (.aload_n 0, 1) := by decide +kernel
theorem dX1_weigh_98 : decode cX1_weigh 98 = .ok (.getfield 29, 3) := by decide +kernel
theorem dX1_weigh_101 : decode cX1_weigh 101 = .ok (.invokevirtual 59, 3) := by decide +kernel
theorem dX1_weigh_104 : decode cX1_weigh 104 = .ok (.aload_n 0, 1) := by decide +kernel
theorem dX1_weigh_105 : decode cX1_weigh 105 = .ok (.lload 4, 2) := by decide +kernel
theorem dX1_weigh_107 : decode cX1_weigh 107 = .ok (.invokevirtual 64, 3) := by decide +kernel
theorem dX1_weigh_110 : decode cX1_weigh 110 = .ok (.iinc 3 1, 3) := by decide +kernel
theorem dX1_weigh_113 : decode cX1_weigh 113 = .ok (.goto (-48), 3) := by decide +kernel
theorem dX1_weigh_116 : decode cX1_weigh 116 = .ok (.return_, 1) := by decide +kernel
theorem dX1_weightOf_0 : decode cX1_weightOf 0 = .ok (.lconst 1, 1) := by decide +kernel
theorem dX1_weightOf_1 : decode cX1_weightOf 1 = .ok (.lstore_n 3, 1) := by decide +kernel
theorem dX1_weightOf_2 : decode cX1_weightOf 2 = .ok (.iconst 0, 1) := by decide +kernel
theorem dX1_weightOf_3 : decode cX1_weightOf 3 = .ok (.istore 5, 2) := by decide +kernel
theorem dX1_weightOf_5 : decode cX1_weightOf 5 = .ok (.iload 5, 2) := by decide +kernel
theorem dX1_weightOf_7 : decode cX1_weightOf 7 = .ok (.aload_n 0, 1) := by decide +kernel
theorem dX1_weightOf_8 : decode cX1_weightOf 8 = .ok (.getfield 25, 3) := by decide +kernel
theorem dX1_weightOf_11 : decode cX1_weightOf 11 = .ok (.getfield 42, 3) := by decide +kernel
theorem dX1_weightOf_14 : decode cX1_weightOf 14 = .ok (.getfield 46, 3) := by decide +kernel
theorem dX1_weightOf_17 : decode cX1_weightOf 17 = .ok (.if_icmp .ge 32, 3) := by decide +kernel
theorem dX1_weightOf_20 : decode cX1_weightOf 20 = .ok (.lload_n 3, 1) := by decide +kernel
theorem dX1_weightOf_21 : decode cX1_weightOf 21 = .ok (.iload_n 1, 1) := by decide +kernel
theorem dX1_weightOf_22 : decode cX1_weightOf 22 = .ok (.iload 5, 2) := by decide +kernel
theorem dX1_weightOf_24 : decode cX1_weightOf 24 = .ok (.ishr, 1) := by decide +kernel
theorem dX1_weightOf_25 : decode cX1_weightOf 25 = .ok (.iconst 1, 1) := by decide +kernel
theorem dX1_weightOf_26 : decode cX1_weightOf 26 = .ok (.iand, 1) := by decide +kernel
theorem dX1_weightOf_27 : decode cX1_weightOf 27 = .ok (.iconst 1, 1) := by decide +kernel
theorem dX1_weightOf_28 : decode cX1_weightOf 28 = .ok (.if_icmp .ne 11, 3) := by decide +kernel
theorem dX1_weightOf_31 : decode cX1_weightOf 31 = .ok (.bipush 16, 2) := by decide +kernel
theorem dX1_weightOf_33 : decode cX1_weightOf 33 = .ok (.iload_n 2, 1) := by decide +kernel
theorem dX1_weightOf_34 : decode cX1_weightOf 34 = .ok (.isub, 1) := by decide +kernel
theorem dX1_weightOf_35 : decode cX1_weightOf 35 = .ok (.i2l, 1) := by decide +kernel
theorem dX1_weightOf_36 : decode cX1_weightOf 36 = .ok (.goto 5, 3) := by decide +kernel
theorem dX1_weightOf_39 : decode cX1_weightOf 39 = .ok (.iload_n 2, 1) := by decide +kernel
theorem dX1_weightOf_40 : decode cX1_weightOf 40 = .ok (.i2l, 1) := by decide +kernel
theorem dX1_weightOf_41 : decode cX1_weightOf 41 = .ok (.lmul, 1) := by decide +kernel
theorem dX1_weightOf_42 : decode cX1_weightOf 42 = .ok (.lstore_n 3, 1) := by decide +kernel
theorem dX1_weightOf_43 : decode cX1_weightOf 43 = .ok (.iinc 5 1, 3) := by decide +kernel
theorem dX1_weightOf_46 : decode cX1_weightOf 46 = .ok (.goto (-41), 3) := by decide +kernel
theorem dX1_weightOf_49 : decode cX1_weightOf 49 = .ok (.lload_n 3, 1) := by decide +kernel
theorem dX1_weightOf_50 : decode cX1_weightOf 50 = .ok (.lreturn, 1) := by decide +kernel
theorem dX1_addWeight_0 : decode cX1_addWeight 0 = .ok (.iconst 0, 1) := by decide +kernel
theorem dX1_addWeight_1 : decode cX1_addWeight 1 = .ok (.istore_n 3, 1) := by decide +kernel
theorem dX1_addWeight_2 : decode cX1_addWeight 2 = .ok (.iload_n 3, 1) := by decide +kernel
theorem dX1_addWeight_3 : decode cX1_addWeight 3 = .ok (.aload_n 0, 1) := by decide +kernel
theorem dX1_addWeight_4 : decode cX1_addWeight 4 = .ok (.getfield 25, 3) := by decide +kernel
theorem dX1_addWeight_7 : decode cX1_addWeight 7 = .ok (.getfield 68, 3) := by decide +kernel
theorem dX1_addWeight_10 : decode cX1_addWeight 10 = .ok (.if_icmp .ge 32, 3) := by decide +kernel
theorem dX1_addWeight_13 : decode cX1_addWeight 13 = .ok (.aload_n 0, 1) := by decide +kernel
theorem dX1_addWeight_14 : decode cX1_addWeight 14 = .ok (.getfield 32, 3) := by decide +kernel
theorem dX1_addWeight_17 : decode cX1_addWeight 17 = .ok (.getfield 69, 3) := by decide +kernel
theorem dX1_addWeight_20 : decode cX1_addWeight 20 = .ok (.iload_n 3, 1) := by decide +kernel
theorem dX1_addWeight_21 : decode cX1_addWeight 21 = .ok (.iaload, 1) := by decide +kernel
theorem dX1_addWeight_22 : decode cX1_addWeight 22 = .ok (.iconst 2, 1) := by decide +kernel
theorem dX1_addWeight_23 : decode cX1_addWeight 23 = .ok (.if_icmp .ne 13, 3) := by decide +kernel
theorem dX1_addWeight_26 : decode cX1_addWeight 26 = .ok (.aload_n 0, 1) := by decide +kernel
theorem dX1_addWeight_27 : decode cX1_addWeight 27 = .ok (.getfield 9, 3) := by decide +kernel
theorem dX1_addWeight_30 : decode cX1_addWeight 30 = .ok (.iload_n 3, 1) := by decide +kernel
theorem dX1_addWeight_31 : decode cX1_addWeight 31 = .ok (.dup2, 1) := by decide +kernel
theorem dX1_addWeight_32 : decode cX1_addWeight 32 = .ok (.laload, 1) := by decide +kernel
theorem dX1_addWeight_33 : decode cX1_addWeight 33 = .ok (.lload_n 1, 1) := by decide +kernel
theorem dX1_addWeight_34 : decode cX1_addWeight 34 = .ok (.ladd, 1) := by decide +kernel
theorem dX1_addWeight_35 : decode cX1_addWeight 35 = .ok (.lastore, 1) := by decide +kernel
theorem dX1_addWeight_36 : decode cX1_addWeight 36 = .ok (.iinc 3 1, 3) := by decide +kernel
theorem dX1_addWeight_39 : decode cX1_addWeight 39 = .ok (.goto (-37), 3) := by decide +kernel
theorem dX1_addWeight_42 : decode cX1_addWeight 42 = .ok (.return_, 1) := by decide +kernel
theorem dX1_reduce_0 : decode cX1_reduce 0 = .ok (.aload_n 0, 1) := by decide +kernel
theorem dX1_reduce_1 : decode cX1_reduce 1 = .ok (.aload_n 0, 1) := by decide +kernel
theorem dX1_reduce_2 : decode cX1_reduce 2 = .ok (.getfield 9, 3) := by decide +kernel
theorem dX1_reduce_5 : decode cX1_reduce 5 = .ok (.iload_n 1, 1) := by decide +kernel
theorem dX1_reduce_6 : decode cX1_reduce 6 = .ok (.laload, 1) := by decide +kernel
theorem dX1_reduce_7 : decode cX1_reduce 7 = .ok (.putfield 19, 3) := by decide +kernel
theorem dX1_reduce_10 : decode cX1_reduce 10 = .ok (.aload_n 0, 1) := by decide +kernel
theorem dX1_reduce_11 : decode cX1_reduce 11 = .ok (.aload_n 0, 1) := by decide +kernel
theorem dX1_reduce_12 : decode cX1_reduce 12 = .ok (.getfield 15, 3) := by decide +kernel
theorem dX1_reduce_15 : decode cX1_reduce 15 = .ok (.putfield 22, 3) := by decide +kernel
theorem dX1_reduce_18 : decode cX1_reduce 18 = .ok (.iconst 0, 1) := by decide +kernel
theorem dX1_reduce_19 : decode cX1_reduce 19 = .ok (.istore_n 2, 1) := by decide +kernel
theorem dX1_reduce_20 : decode cX1_reduce 20 = .ok (.iload_n 2, 1) := by decide +kernel
theorem dX1_reduce_21 : decode cX1_reduce 21 = .ok (.bipush 63, 2) := by decide +kernel
theorem dX1_reduce_23 : decode cX1_reduce 23 = .ok (.if_icmp .ge 55, 3) := by decide +kernel
theorem dX1_reduce_26 : decode cX1_reduce 26 = .ok (.aload_n 0, 1) := by decide +kernel
theorem dX1_reduce_27 : decode cX1_reduce 27 = .ok (.getfield 22, 3) := by decide +kernel
theorem dX1_reduce_30 : decode cX1_reduce 30 = .ok (.lconst 1, 1) := by decide +kernel
theorem dX1_reduce_31 : decode cX1_reduce 31 = .ok (.lcmp, 1) := by decide +kernel
theorem dX1_reduce_32 : decode cX1_reduce 32 = .ok (.ifCond .le 46, 3) := by decide +kernel
theorem dX1_reduce_35 : decode cX1_reduce 35 = .ok (.aload_n 0, 1) := by decide +kernel
theorem dX1_reduce_36 : decode cX1_reduce 36 = .ok (.getfield 19, 3) := by decide +kernel
theorem dX1_reduce_39 : decode cX1_reduce 39 = .ok (.ldc2_w 73, 3) := by decide +kernel
theorem dX1_reduce_42 : decode cX1_reduce 42 = .ok (.lrem, 1) := by decide +kernel
theorem dX1_reduce_43 : decode cX1_reduce 43 = .ok (.lconst 0, 1) := by decide +kernel
theorem dX1_reduce_44 : decode cX1_reduce 44 = .ok (.lcmp, 1) := by decide +kernel
theorem dX1_reduce_45 : decode cX1_reduce 45 = .ok (.ifCond .ne 33, 3) := by decide +kernel
theorem dX1_reduce_48 : decode cX1_reduce 48 = .ok (.aload_n 0, 1) := by decide +kernel
theorem dX1_reduce_49 : decode cX1_reduce 49 = .ok (.dup, 1) := by decide +kernel
theorem dX1_reduce_50 : decode cX1_reduce 50 = .ok (.getfield 19, 3) := by decide +kernel
theorem dX1_reduce_53 : decode cX1_reduce 53 = .ok (.ldc2_w 73, 3) := by decide +kernel
theorem dX1_reduce_56 : decode cX1_reduce 56 = .ok (.ldiv, 1) := by decide +kernel
theorem dX1_reduce_57 : decode cX1_reduce 57 = .ok (.putfield 19, 3) := by decide +kernel
theorem dX1_reduce_60 : decode cX1_reduce 60 = .ok (.aload_n 0, 1) := by decide +kernel
theorem dX1_reduce_61 : decode cX1_reduce 61 = .ok (.dup, 1) := by decide +kernel
theorem dX1_reduce_62 : decode cX1_reduce 62 = .ok (.getfield 22, 3) := by decide +kernel
theorem dX1_reduce_65 : decode cX1_reduce 65 = .ok (.ldc2_w 73, 3) := by decide +kernel
theorem dX1_reduce_68 : decode cX1_reduce 68 = .ok (.ldiv, 1) := by decide +kernel
theorem dX1_reduce_69 : decode cX1_reduce 69 = .ok (.putfield 22, 3) := by decide +kernel
theorem dX1_reduce_72 : decode cX1_reduce 72 = .ok (.iinc 2 1, 3) := by decide +kernel
theorem dX1_reduce_75 : decode cX1_reduce 75 = .ok (.goto (-55), 3) := by decide +kernel
theorem dX1_reduce_78 : decode cX1_reduce 78 = .ok (.return_, 1) := by decide +kernel
theorem dX1_drawn_0 : decode cX1_drawn 0 = .ok (.aload_n 0, 1) := by decide +kernel
theorem dX1_drawn_1 : decode cX1_drawn 1 = .ok (.getfield 29, 3) := by decide +kernel
theorem dX1_drawn_4 : decode cX1_drawn 4 = .ok (.aload_n 0, 1) := by decide +kernel
theorem dX1_drawn_5 : decode cX1_drawn 5 = .ok (.getfield 25, 3) := by decide +kernel
theorem dX1_drawn_8 : decode cX1_drawn 8 = .ok (.invokevirtual 36, 3) := by decide +kernel
theorem dX1_drawn_11 : decode cX1_drawn 11 = .ok (.iload_n 1, 1) := by decide +kernel
theorem dX1_drawn_12 : decode cX1_drawn 12 = .ok (.istore_n 3, 1) := by decide +kernel
theorem dX1_drawn_13 : decode cX1_drawn 13 = .ok (.iconst 0, 1) := by decide +kernel
theorem dX1_drawn_14 : decode cX1_drawn 14 = .ok (.istore 4, 2) := by decide +kernel
theorem dX1_drawn_16 : decode cX1_drawn 16 = .ok (.iload 4, 2) := by decide +kernel
theorem dX1_drawn_18 : decode cX1_drawn 18 = .ok (.aload_n 0, 1) := by decide +kernel
theorem dX1_drawn_19 : decode cX1_drawn 19 = .ok (.getfield 25, 3) := by decide +kernel
theorem dX1_drawn_22 : decode cX1_drawn 22 = .ok (.getfield 68, 3) := by decide +kernel
theorem dX1_drawn_25 : decode cX1_drawn 25 = .ok (.if_icmp .ge 35, 3) := by decide +kernel
theorem dX1_drawn_28 : decode cX1_drawn 28 = .ok (.ldc 75, 2) := by decide +kernel
theorem dX1_drawn_30 : decode cX1_drawn 30 = .ok (.iload_n 3, 1) := by decide +kernel
theorem dX1_drawn_31 : decode cX1_drawn 31 = .ok (.imul, 1) := by decide +kernel
theorem dX1_drawn_32 : decode cX1_drawn 32 = .ok (.sipush 12345, 3) := by decide +kernel
theorem dX1_drawn_35 : decode cX1_drawn 35 = .ok (.iadd, 1) := by decide +kernel
theorem dX1_drawn_36 : decode cX1_drawn 36 = .ok (.istore_n 3, 1) := by decide +kernel
theorem dX1_drawn_37 : decode cX1_drawn 37 = .ok (.aload_n 0, 1) := by decide +kernel
theorem dX1_drawn_38 : decode cX1_drawn 38 = .ok (.getfield 29, 3) := by decide +kernel
theorem dX1_drawn_41 : decode cX1_drawn 41 = .ok (.getfield 76, 3) := by decide +kernel
theorem dX1_drawn_44 : decode cX1_drawn 44 = .ok (.iload 4, 2) := by decide +kernel
theorem dX1_drawn_46 : decode cX1_drawn 46 = .ok (.iload_n 3, 1) := by decide +kernel
theorem dX1_drawn_47 : decode cX1_drawn 47 = .ok (.bipush 16, 2) := by decide +kernel
theorem dX1_drawn_49 : decode cX1_drawn 49 = .ok (.iushr, 1) := by decide +kernel
theorem dX1_drawn_50 : decode cX1_drawn 50 = .ok (.bipush 100, 2) := by decide +kernel
theorem dX1_drawn_52 : decode cX1_drawn 52 = .ok (.irem, 1) := by decide +kernel
theorem dX1_drawn_53 : decode cX1_drawn 53 = .ok (.iastore, 1) := by decide +kernel
theorem dX1_drawn_54 : decode cX1_drawn 54 = .ok (.iinc 4 1, 3) := by decide +kernel
theorem dX1_drawn_57 : decode cX1_drawn 57 = .ok (.goto (-41), 3) := by decide +kernel
theorem dX1_drawn_60 : decode cX1_drawn 60 = .ok (.aload_n 0, 1) := by decide +kernel
theorem dX1_drawn_61 : decode cX1_drawn 61 = .ok (.getfield 32, 3) := by decide +kernel
theorem dX1_drawn_64 : decode cX1_drawn 64 = .ok (.aload_n 0, 1) := by decide +kernel
theorem dX1_drawn_65 : decode cX1_drawn 65 = .ok (.getfield 29, 3) := by decide +kernel
theorem dX1_drawn_68 : decode cX1_drawn 68 = .ok (.invokevirtual 59, 3) := by decide +kernel
theorem dX1_drawn_71 : decode cX1_drawn 71 = .ok (.aload_n 0, 1) := by decide +kernel
theorem dX1_drawn_72 : decode cX1_drawn 72 = .ok (.getfield 32, 3) := by decide +kernel
theorem dX1_drawn_75 : decode cX1_drawn 75 = .ok (.iload_n 2, 1) := by decide +kernel
theorem dX1_drawn_76 : decode cX1_drawn 76 = .ok (.invokevirtual 79, 3) := by decide +kernel
theorem dX1_drawn_79 : decode cX1_drawn 79 = .ok (.ireturn, 1) := by decide +kernel
theorem dX2_init_0 : decode cX2_init 0 = .ok (.aload_n 0, 1) := by decide +kernel
theorem dX2_init_1 : decode cX2_init 1 = .ok (.invokespecial 3, 3) := by decide +kernel
theorem dX2_init_4 : decode cX2_init 4 = .ok (.aload_n 0, 1) := by decide +kernel
theorem dX2_init_5 : decode cX2_init 5 = .ok (.bipush 64, 2) := by decide +kernel
theorem dX2_init_7 : decode cX2_init 7 = .ok (.newarray .int, 2) := by decide +kernel
theorem dX2_init_9 : decode cX2_init 9 = .ok (.putfield 9, 3) := by decide +kernel
theorem dX2_init_12 : decode cX2_init 12 = .ok (.aload_n 0, 1) := by decide +kernel
theorem dX2_init_13 : decode cX2_init 13 = .ok (.bipush 64, 2) := by decide +kernel
theorem dX2_init_15 : decode cX2_init 15 = .ok (.newarray .int, 2) := by decide +kernel
theorem dX2_init_17 : decode cX2_init 17 = .ok (.putfield 15, 3) := by decide +kernel
theorem dX2_init_20 : decode cX2_init 20 = .ok (.aload_n 0, 1) := by decide +kernel
theorem dX2_init_21 : decode cX2_init 21 = .ok (.bipush 64, 2) := by decide +kernel
theorem dX2_init_23 : decode cX2_init 23 = .ok (.newarray .int, 2) := by decide +kernel
theorem dX2_init_25 : decode cX2_init 25 = .ok (.putfield 18, 3) := by decide +kernel
theorem dX2_init_28 : decode cX2_init 28 = .ok (.return_, 1) := by decide +kernel
theorem dX2_fill_0 : decode cX2_fill 0 = .ok (.iconst 0, 1) := by decide +kernel
theorem dX2_fill_1 : decode cX2_fill 1 = .ok (.istore_n 3, 1) := by decide +kernel
theorem dX2_fill_2 : decode cX2_fill 2 = .ok (.iload_n 3, 1) := by decide +kernel
theorem dX2_fill_3 : decode cX2_fill 3 = .ok (.bipush 64, 2) := by decide +kernel
theorem dX2_fill_5 : decode cX2_fill 5 = .ok (.if_icmp .ge 18, 3) := by decide +kernel
theorem dX2_fill_8 : decode cX2_fill 8 = .ok (.aload_n 0, 1) := by decide +kernel
theorem dX2_fill_9 : decode cX2_fill 9 = .ok (.getfield 9, 3) := by decide +kernel
theorem dX2_fill_12 : decode cX2_fill 12 = .ok (.iload_n 3, 1) := by decide +kernel
theorem dX2_fill_13 : decode cX2_fill 13 = .ok (.sipush 1000, 3) := by decide +kernel
theorem dX2_fill_16 : decode cX2_fill 16 = .ok (.iastore, 1) := by decide +kernel
theorem dX2_fill_17 : decode cX2_fill 17 = .ok (.iinc 3 1, 3) := by decide +kernel
theorem dX2_fill_20 : decode cX2_fill 20 = .ok (.goto (-18), 3) := by decide +kernel
theorem dX2_fill_23 : decode cX2_fill 23 = .ok (.iconst 0, 1) := by decide +kernel
theorem dX2_fill_24 : decode cX2_fill 24 = .ok (.istore_n 3, 1) := by decide +kernel
theorem dX2_fill_25 : decode cX2_fill 25 = .ok (.iload_n 3, 1) := by decide +kernel
theorem dX2_fill_26 : decode cX2_fill 26 = .ok (.aload_n 1, 1) := by decide +kernel
theorem dX2_fill_27 : decode cX2_fill 27 = .ok (.getfield 21, 3) := by decide +kernel
theorem dX2_fill_30 : decode cX2_fill 30 = .ok (.if_icmp .ge 88, 3) := by decide +kernel
theorem dX2_fill_33 : decode cX2_fill 33 = .ok (.iload_n 3, 1) := by decide +kernel
theorem dX2_fill_34 : decode cX2_fill 34 = .ok (.iload_n 2, 1) := by decide +kernel
theorem dX2_fill_35 : decode cX2_fill 35 = .ok (.if_icmp .ne 7, 3) := by decide +kernel
theorem dX2_fill_38 : decode cX2_fill 38 = .ok (.iconst 1, 1) := by decide +kernel
theorem dX2_fill_39 : decode cX2_fill 39 = .ok (.goto 9, 3) := by decide +kernel
theorem dX2_fill_42 : decode cX2_fill 42 = .ok (.aload_n 1, 1) := by decide +kernel
theorem dX2_fill_43 : decode cX2_fill 43 = .ok (.iload_n 3, 1) := by decide +kernel
theorem dX2_fill_44 : decode cX2_fill 44 = .ok (.iconst 3, 1) := by decide +kernel
theorem dX2_fill_45 : decode cX2_fill 45 = .ok (.invokevirtual 27, 3) := by decide +kernel
theorem dX2_fill_48 : decode cX2_fill 48 = .ok (.istore 4, 2) := by decide +kernel
theorem dX2_fill_50 : decode cX2_fill 50 = .ok (.aload_n 1, 1) := by decide +kernel
theorem dX2_fill_51 : decode cX2_fill 51 = .ok (.iload_n 3, 1) := by decide +kernel
theorem dX2_fill_52 : decode cX2_fill 52 = .ok (.iconst 0, 1) := by decide +kernel
theorem dX2_fill_53 : decode cX2_fill 53 = .ok (.invokevirtual 27, 3) := by decide +kernel
theorem dX2_fill_56 : decode cX2_fill 56 = .ok (.istore 5, 2) := by decide +kernel
theorem dX2_fill_58 : decode cX2_fill 58 = .ok (.aload_n 1, 1) := by decide +kernel
theorem dX2_fill_59 : decode cX2_fill 59 = .ok (.iload_n 3, 1) := by decide +kernel
theorem dX2_fill_60 : decode cX2_fill 60 = .ok (.iconst 1, 1) := by decide +kernel
theorem dX2_fill_61 : decode cX2_fill 61 = .ok (.invokevirtual 27, 3) := by decide +kernel
theorem dX2_fill_64 : decode cX2_fill 64 = .ok (.istore 6, 2) := by decide +kernel
theorem dX2_fill_66 : decode cX2_fill 66 = .ok (.aload_n 1, 1) := by decide +kernel
theorem dX2_fill_67 : decode cX2_fill 67 = .ok (.iload_n 3, 1) := by decide +kernel
theorem dX2_fill_68 : decode cX2_fill 68 = .ok (.iconst 2, 1) := by decide +kernel
theorem dX2_fill_69 : decode cX2_fill 69 = .ok (.invokevirtual 27, 3) := by decide +kernel
theorem dX2_fill_72 : decode cX2_fill 72 = .ok (.istore 7, 2) := by decide +kernel
theorem dX2_fill_74 : decode cX2_fill 74 = .ok (.aload_n 0, 1) := by decide +kernel
theorem dX2_fill_75 : decode cX2_fill 75 = .ok (.iload 5, 2) := by decide +kernel
theorem dX2_fill_77 : decode cX2_fill 77 = .ok (.bipush 8, 2) := by decide +kernel
theorem dX2_fill_79 : decode cX2_fill 79 = .ok (.imul, 1) := by decide +kernel
theorem dX2_fill_80 : decode cX2_fill 80 = .ok (.iload 6, 2) := by decide +kernel
theorem dX2_fill_82 : decode cX2_fill 82 = .ok (.iadd, 1) := by decide +kernel
theorem dX2_fill_83 : decode cX2_fill 83 = .ok (.iload 7, 2) := by decide +kernel
theorem dX2_fill_85 : decode cX2_fill 85 = .ok (.iconst 3, 1) := by decide +kernel
theorem dX2_fill_86 : decode cX2_fill 86 = .ok (.iload 4, 2) := by decide +kernel
theorem dX2_fill_88 : decode cX2_fill 88 = .ok (.isub, 1) := by decide +kernel
theorem dX2_fill_89 : decode cX2_fill 89 = .ok (.imul, 1) := by decide +kernel
theorem dX2_fill_90 : decode cX2_fill 90 = .ok (.invokevirtual 31, 3) := by decide +kernel
theorem dX2_fill_93 : decode cX2_fill 93 = .ok (.aload_n 0, 1) := by decide +kernel
theorem dX2_fill_94 : decode cX2_fill 94 = .ok (.iload 6, 2) := by decide +kernel
theorem dX2_fill_96 : decode cX2_fill 96 = .ok (.bipush 8, 2) := by decide +kernel
theorem dX2_fill_98 : decode cX2_fill 98 = .ok (.imul, 1) := by decide +kernel
theorem dX2_fill_99 : decode cX2_fill 99 = .ok (.iload 5, 2) := by decide +kernel
theorem dX2_fill_101 : decode cX2_fill 101 = .ok (.iadd, 1) := by decide +kernel
theorem dX2_fill_102 : decode cX2_fill 102 = .ok (.iload 7, 2) := by decide +kernel
theorem dX2_fill_104 : decode cX2_fill 104 = .ok (.iconst 1, 1) := by decide +kernel
theorem dX2_fill_105 : decode cX2_fill 105 = .ok (.iload 4, 2) := by decide +kernel
theorem dX2_fill_107 : decode cX2_fill 107 = .ok (.iadd, 1) := by decide +kernel
theorem dX2_fill_108 : decode cX2_fill 108 = .ok (.imul, 1) := by decide +kernel
theorem dX2_fill_109 : decode cX2_fill 109 = .ok (.invokevirtual 31, 3) := by decide +kernel
theorem dX2_fill_112 : decode cX2_fill 112 = .ok (.iinc 3 1, 3) := by decide +kernel
theorem dX2_fill_115 : decode cX2_fill 115 = .ok (.goto (-90), 3) := by decide +kernel
theorem dX2_fill_118 : decode cX2_fill 118 = .ok (.aload_n 0, 1) := by decide +kernel
theorem dX2_fill_119 : decode cX2_fill 119 = .ok (.invokevirtual 35, 3) := by decide +kernel
theorem dX2_fill_122 : decode cX2_fill 122 = .ok (.iconst 0, 1) := by decide +kernel
theorem dX2_fill_123 : decode cX2_fill 123 = .ok (.istore_n 3, 1) := by decide +kernel
theorem dX2_fill_124 : decode cX2_fill 124 = .ok (.iload_n 3, 1) := by decide +kernel
theorem dX2_fill_125 : decode cX2_fill 125 = .ok (.bipush 8, 2) := by decide +kernel
theorem dX2_fill_127 : decode cX2_fill 127 = .ok (.if_icmp .ge 44, 3) := by decide +kernel
theorem dX2_fill_130 : decode cX2_fill 130 = .ok (.iconst 0, 1) := by decide +kernel
theorem dX2_fill_131 : decode cX2_fill 131 = .ok (.istore 4, 2) := by decide +kernel
theorem dX2_fill_133 : decode cX2_fill 133 = .ok (.iload 4, 2) := by decide +kernel
theorem dX2_fill_135 : decode cX2_fill 135 = .ok (.bipush 8, 2) := by decide +kernel
theorem dX2_fill_137 : decode cX2_fill 137 = .ok (.if_icmp .ge 28, 3) := by decide +kernel
theorem dX2_fill_140 : decode cX2_fill 140 = .ok (.aload_n 0, 1) := by decide +kernel
theorem dX2_fill_141 : decode cX2_fill 141 = .ok (.getfield 18, 3) := by decide +kernel
theorem dX2_fill_144 : decode cX2_fill 144 = .ok (.iload_n 3, 1) := by decide +kernel
theorem dX2_fill_145 : decode cX2_fill 145 = .ok (.bipush 8, 2) := by decide +kernel
theorem dX2_fill_147 : decode cX2_fill 147 = .ok (.imul, 1) := by decide +kernel
theorem dX2_fill_148 : decode cX2_fill 148 = .ok (.iload 4, 2) := by decide +kernel
theorem dX2_fill_150 : decode cX2_fill 150 = .ok (.iadd, 1) := by decide +kernel
theorem dX2_fill_151 : decode cX2_fill 151 = .ok (.aload_n 0, 1) := by decide +kernel
theorem dX2_fill_152 : decode cX2_fill 152 = .ok (.iload_n 3, 1) := by decide +kernel
theorem dX2_fill_153 : decode cX2_fill 153 = .ok (.iload 4, 2) := by decide +kernel
theorem dX2_fill_155 : decode cX2_fill 155 = .ok (.invokevirtual 38, 3) := by decide +kernel
theorem dX2_fill_158 : decode cX2_fill 158 = .ok (.iastore, 1) := by decide +kernel
theorem dX2_fill_159 : decode cX2_fill 159 = .ok (.iinc 4 1, 3) := by decide +kernel
theorem dX2_fill_162 : decode cX2_fill 162 = .ok (.goto (-29), 3) := by decide +kernel
theorem dX2_fill_165 : decode cX2_fill 165 = .ok (.iinc 3 1, 3) := by decide +kernel
theorem dX2_fill_168 : decode cX2_fill 168 = .ok (.goto (-44), 3) := by decide +kernel
theorem dX2_fill_171 : decode cX2_fill 171 = .ok (.return_, 1) := by decide +kernel
theorem dX2_shorten_0 : decode cX2_shorten 0 = .ok (.aload_n 0, 1) := by decide +kernel
theorem dX2_shorten_1 : decode cX2_shorten 1 = .ok (.getfield 9, 3) := by decide +kernel
theorem dX2_shorten_4 : decode cX2_shorten 4 = .ok (.iload_n 1, 1) := by decide +kernel
theorem dX2_shorten_5 : decode cX2_shorten 5 = .ok (.aload_n 0, 1) := by decide +kernel
theorem dX2_shorten_6 : decode cX2_shorten 6 = .ok (.getfield 9, 3) := by decide +kernel
theorem dX2_shorten_9 : decode cX2_shorten 9 = .ok (.iload_n 1, 1) := by decide +kernel
theorem dX2_shorten_10 : decode cX2_shorten 10 = .ok (.iaload, 1) := by decide +kernel
theorem dX2_shorten_11 : decode cX2_shorten 11 = .ok (.iload_n 2, 1) := by decide +kernel
theorem dX2_shorten_12 : decode cX2_shorten 12 = .ok (.invokestatic 41, 3) := by decide +kernel
theorem dX2_shorten_15 : decode cX2_shorten 15 = .ok (.iastore, 1) := by decide +kernel
theorem dX2_shorten_16 : decode cX2_shorten 16 = .ok (.return_, 1) := by decide +kernel
theorem dX2_addUp_0 : decode cX2_addUp 0 = .ok (.iconst 0, 1) := by decide +kernel
theorem dX2_addUp_1 : decode cX2_addUp 1 = .ok (.istore_n 1, 1) := by decide +kernel
theorem dX2_addUp_2 : decode cX2_addUp 2 = .ok (.iload_n 1, 1) := by decide +kernel
theorem dX2_addUp_3 : decode cX2_addUp 3 = .ok (.bipush 64, 2) := by decide +kernel
theorem dX2_addUp_5 : decode cX2_addUp 5 = .ok (.if_icmp .ge 21, 3) := by decide +kernel
theorem dX2_addUp_8 : decode cX2_addUp 8 = .ok (.aload_n 0, 1) := by decide +kernel
theorem dX2_addUp_9 : decode cX2_addUp 9 = .ok (.getfield 15, 3) := by decide +kernel
theorem dX2_addUp_12 : decode cX2_addUp 12 = .ok (.iload_n 1, 1) := by decide +kernel
theorem dX2_addUp_13 : decode cX2_addUp 13 = .ok (.aload_n 0, 1) := by decide +kernel
theorem dX2_addUp_14 : decode cX2_addUp 14 = .ok (.getfield 9, 3) := by decide +kernel
theorem dX2_addUp_17 : decode cX2_addUp 17 = .ok (.iload_n 1, 1) := by decide +kernel
theorem dX2_addUp_18 : decode cX2_addUp 18 = .ok (.iaload, 1) := by decide +kernel
theorem dX2_addUp_19 : decode cX2_addUp 19 = .ok (.iastore, 1) := by decide +kernel
theorem dX2_addUp_20 : decode cX2_addUp 20 = .ok (.iinc 1 1, 3) := by decide +kernel
theorem dX2_addUp_23 : decode cX2_addUp 23 = .ok (.goto (-21), 3) := by decide +kernel
theorem dX2_addUp_26 : decode cX2_addUp 26 = .ok (.iconst 0, 1) := by decide +kernel
theorem dX2_addUp_27 : decode cX2_addUp 27 = .ok (.istore_n 1, 1) := by decide +kernel
theorem dX2_addUp_28 : decode cX2_addUp 28 = .ok (.iload_n 1, 1) := by decide +kernel
theorem dX2_addUp_29 : decode cX2_addUp 29 = .ok (.bipush 8, 2) := by decide +kernel
theorem dX2_addUp_31 : decode cX2_addUp 31 = .ok (.if_icmp .ge 21, 3) := by decide +kernel
theorem dX2_addUp_34 : decode cX2_addUp 34 = .ok (.aload_n 0, 1) := by decide +kernel
theorem dX2_addUp_35 : decode cX2_addUp 35 = .ok (.getfield 15, 3) := by decide +kernel
theorem dX2_addUp_38 : decode cX2_addUp 38 = .ok (.iload_n 1, 1) := by decide +kernel
theorem dX2_addUp_39 : decode cX2_addUp 39 = .ok (.bipush 8, 2) := by decide +kernel
theorem dX2_addUp_41 : decode cX2_addUp 41 = .ok (.imul, 1) := by decide +kernel
theorem dX2_addUp_42 : decode cX2_addUp 42 = .ok (.iload_n 1, 1) := by decide +kernel
theorem dX2_addUp_43 : decode cX2_addUp 43 = .ok (.iadd, 1) := by decide +kernel
theorem dX2_addUp_44 : decode cX2_addUp 44 = .ok (.iconst 0, 1) := by decide +kernel
theorem dX2_addUp_45 : decode cX2_addUp 45 = .ok (.iastore, 1) := by decide +kernel
theorem dX2_addUp_46 : decode cX2_addUp 46 = .ok (.iinc 1 1, 3) := by decide +kernel
theorem dX2_addUp_49 : decode cX2_addUp 49 = .ok (.goto (-21), 3) := by decide +kernel
theorem dX2_addUp_52 : decode cX2_addUp 52 = .ok (.iconst 0, 1) := by decide +kernel
theorem dX2_addUp_53 : decode cX2_addUp 53 = .ok (.istore_n 1, 1) := by decide +kernel
theorem dX2_addUp_54 : decode cX2_addUp 54 = .ok (.iload_n 1, 1) := by decide +kernel
theorem dX2_addUp_55 : decode cX2_addUp 55 = .ok (.bipush 8, 2) := by decide +kernel
theorem dX2_addUp_57 : decode cX2_addUp 57 = .ok (.if_icmp .ge 105, 3) := by decide +kernel
theorem dX2_addUp_60 : decode cX2_addUp 60 = .ok (.iconst 0, 1) := by decide +kernel
theorem dX2_addUp_61 : decode cX2_addUp 61 = .ok (.istore_n 2, 1) := by decide +kernel
theorem dX2_addUp_62 : decode cX2_addUp 62 = .ok (.iload_n 2, 1) := by decide +kernel
theorem dX2_addUp_63 : decode cX2_addUp 63 = .ok (.bipush 8, 2) := by decide +kernel
theorem dX2_addUp_65 : decode cX2_addUp 65 = .ok (.if_icmp .ge 91, 3) := by decide +kernel
theorem dX2_addUp_68 : decode cX2_addUp 68 = .ok (.aload_n 0, 1) := by decide +kernel
theorem dX2_addUp_69 : decode cX2_addUp 69 = .ok (.getfield 15, 3) := by decide +kernel
theorem dX2_addUp_72 : decode cX2_addUp 72 = .ok (.iload_n 2, 1) := by decide +kernel
theorem dX2_addUp_73 : decode cX2_addUp 73 = .ok (.bipush 8, 2) := by decide +kernel
theorem dX2_addUp_75 : decode cX2_addUp 75 = .ok (.imul, 1) := by decide +kernel
theorem dX2_addUp_76 : decode cX2_addUp 76 = .ok (.iload_n 1, 1) := by decide +kernel
theorem dX2_addUp_77 : decode cX2_addUp 77 = .ok (.iadd, 1) := by decide +kernel
theorem dX2_addUp_78 : decode cX2_addUp 78 = .ok (.iaload, 1) := by decide +kernel
theorem dX2_addUp_79 : decode cX2_addUp 79 = .ok (.istore_n 3, 1) := by decide +kernel
theorem dX2_addUp_80 : decode cX2_addUp 80 = .ok (.iconst 0, 1) := by decide +kernel
theorem dX2_addUp_81 : decode cX2_addUp 81 = .ok (.istore 4, 2) := by decide +kernel
theorem dX2_addUp_83 : decode cX2_addUp 83 = .ok (.iload_n 3, 1) := by decide +kernel
theorem dX2_addUp_84 : decode cX2_addUp 84 = .ok (.sipush 1000, 3) := by decide +kernel
theorem dX2_addUp_87 : decode cX2_addUp 87 = .ok (.if_icmp .ge 63, 3) := by decide +kernel
theorem dX2_addUp_90 : decode cX2_addUp 90 = .ok (.iload 4, 2) := by decide +kernel
theorem dX2_addUp_92 : decode cX2_addUp 92 = .ok (.bipush 8, 2) := by decide +kernel
theorem dX2_addUp_94 : decode cX2_addUp 94 = .ok (.if_icmp .ge 56, 3) := by decide +kernel
theorem dX2_addUp_97 : decode cX2_addUp 97 = .ok (.iload_n 3, 1) := by decide +kernel
theorem dX2_addUp_98 : decode cX2_addUp 98 = .ok (.aload_n 0, 1) := by decide +kernel
theorem dX2_addUp_99 : decode cX2_addUp 99 = .ok (.getfield 15, 3) := by decide +kernel
theorem dX2_addUp_102 : decode cX2_addUp 102 = .ok (.iload_n 1, 1) := by decide +kernel
theorem dX2_addUp_103 : decode cX2_addUp 103 = .ok (.bipush 8, 2) := by decide +kernel
theorem dX2_addUp_105 : decode cX2_addUp 105 = .ok (.imul, 1) := by decide +kernel
theorem dX2_addUp_106 : decode cX2_addUp 106 = .ok (.iload 4, 2) := by decide +kernel
theorem dX2_addUp_108 : decode cX2_addUp 108 = .ok (.iadd, 1) := by decide +kernel
theorem dX2_addUp_109 : decode cX2_addUp 109 = .ok (.iaload, 1) := by decide +kernel
theorem dX2_addUp_110 : decode cX2_addUp 110 = .ok (.iadd, 1) := by decide +kernel
theorem dX2_addUp_111 : decode cX2_addUp 111 = .ok (.istore 5, 2) := by decide +kernel
theorem dX2_addUp_113 : decode cX2_addUp 113 = .ok (.iload 5, 2) := by decide +kernel
theorem dX2_addUp_115 : decode cX2_addUp 115 = .ok (.aload_n 0, 1) := by decide +kernel
theorem dX2_addUp_116 : decode cX2_addUp 116 = .ok (.getfield 15, 3) := by decide +kernel
theorem dX2_addUp_119 : decode cX2_addUp 119 = .ok (.iload_n 2, 1) := by decide +kernel
theorem dX2_addUp_120 : decode cX2_addUp 120 = .ok (.bipush 8, 2) := by decide +kernel
theorem dX2_addUp_122 : decode cX2_addUp 122 = .ok (.imul, 1) := by decide +kernel
theorem dX2_addUp_123 : decode cX2_addUp 123 = .ok (.iload 4, 2) := by decide +kernel
theorem dX2_addUp_125 : decode cX2_addUp 125 = .ok (.iadd, 1) := by decide +kernel
theorem dX2_addUp_126 : decode cX2_addUp 126 = .ok (.iaload, 1) := by decide +kernel
theorem dX2_addUp_127 : decode cX2_addUp 127 = .ok (.if_icmp .ge 17, 3) := by decide +kernel
theorem dX2_addUp_130 : decode cX2_addUp 130 = .ok (.aload_n 0, 1) := by decide +kernel
theorem dX2_addUp_131 : decode cX2_addUp 131 = .ok (.getfield 15, 3) := by decide +kernel
theorem dX2_addUp_134 : decode cX2_addUp 134 = .ok (.iload_n 2, 1) := by decide +kernel
theorem dX2_addUp_135 : decode cX2_addUp 135 = .ok (.bipush 8, 2) := by decide +kernel
theorem dX2_addUp_137 : decode cX2_addUp 137 = .ok (.imul, 1) := by decide +kernel
theorem dX2_addUp_138 : decode cX2_addUp 138 = .ok (.iload 4, 2) := by decide +kernel
theorem dX2_addUp_140 : decode cX2_addUp 140 = .ok (.iadd, 1) := by decide +kernel
theorem dX2_addUp_141 : decode cX2_addUp 141 = .ok (.iload 5, 2) := by decide +kernel
theorem dX2_addUp_143 : decode cX2_addUp 143 = .ok (.iastore, 1) := by decide +kernel
theorem dX2_addUp_144 : decode cX2_addUp 144 = .ok (.iinc 4 1, 3) := by decide +kernel
theorem dX2_addUp_147 : decode cX2_addUp 147 = .ok (.goto (-64), 3) := by decide +kernel
theorem dX2_addUp_150 : decode cX2_addUp 150 = .ok (.iinc 2 1, 3) := by decide +kernel
theorem dX2_addUp_153 : decode cX2_addUp 153 = .ok (.goto (-91), 3) := by decide +kernel
theorem dX2_addUp_156 : decode cX2_addUp 156 = .ok (.iinc 1 1, 3) := by decide +kernel
theorem dX2_addUp_159 : decode cX2_addUp 159 = .ok (.goto (-105), 3) := by decide +kernel
theorem dX2_addUp_162 : decode cX2_addUp 162 = .ok (.return_, 1) := by decide +kernel
theorem dX2_firstTurn_0 : decode cX2_firstTurn 0 = .ok (.aload_n 0, 1) := by decide +kernel
theorem dX2_firstTurn_1 : decode cX2_firstTurn 1 = .ok (.getfield 15, 3) := by decide +kernel
theorem dX2_firstTurn_4 : decode cX2_firstTurn 4 = .ok (.iload_n 1, 1) := by decide +kernel
theorem dX2_firstTurn_5 : decode cX2_firstTurn 5 = .ok (.bipush 8, 2) := by decide +kernel
theorem dX2_firstTurn_7 : decode cX2_firstTurn 7 = .ok (.imul, 1) := by decide +kernel
theorem dX2_firstTurn_8 : decode cX2_firstTurn 8 = .ok (.iload_n 2, 1) := by decide +kernel
theorem dX2_firstTurn_9 : decode cX2_firstTurn 9 = .ok (.iadd, 1) := by decide +kernel
theorem dX2_firstTurn_10 : decode cX2_firstTurn 10 = .ok (.iaload, 1) := by decide +kernel
theorem dX2_firstTurn_11 : decode cX2_firstTurn 11 = .ok (.istore_n 3, 1) := by decide +kernel
theorem dX2_firstTurn_12 : decode cX2_firstTurn 12 = .ok (.iload_n 1, 1) := by decide +kernel
theorem dX2_firstTurn_13 : decode cX2_firstTurn 13 = .ok (.iload_n 2, 1) := by decide +kernel
theorem dX2_firstTurn_14 : decode cX2_firstTurn 14 = .ok (.if_icmp .eq 10, 3) := by decide +kernel
theorem dX2_firstTurn_17 : decode cX2_firstTurn 17 = .ok (.iload_n 3, 1) := by decide +kernel
theorem dX2_firstTurn_18 : decode cX2_firstTurn 18 = .ok (.sipush 1000, 3) := by decide +kernel
theorem dX2_firstTurn_21 : decode cX2_firstTurn 21 = .ok (.if_icmp .lt 5, 3) := by decide +kernel
theorem dX2_firstTurn_24 : decode cX2_firstTurn 24 = .ok (.iconst (-1), 1) := by decide +kernel
theorem dX2_firstTurn_25 : decode cX2_firstTurn 25 = .ok (.ireturn, 1) := by decide +kernel
theorem dX2_firstTurn_26 : decode cX2_firstTurn 26 = .ok (.iconst 0, 1) := by decide +kernel
theorem dX2_firstTurn_27 : decode cX2_firstTurn 27 = .ok (.istore 4, 2) := by decide +kernel
theorem dX2_firstTurn_29 : decode cX2_firstTurn 29 = .ok (.iload 4, 2) := by decide +kernel
theorem dX2_firstTurn_31 : decode cX2_firstTurn 31 = .ok (.bipush 8, 2) := by decide +kernel
theorem dX2_firstTurn_33 : decode cX2_firstTurn 33 = .ok (.if_icmp .ge 41, 3) := by decide +kernel
theorem dX2_firstTurn_36 : decode cX2_firstTurn 36 = .ok (.aload_n 0, 1) := by decide +kernel
theorem dX2_firstTurn_37 : decode cX2_firstTurn 37 = .ok (.getfield 9, 3) := by decide +kernel
theorem dX2_firstTurn_40 : decode cX2_firstTurn 40 = .ok (.iload_n 1, 1) := by decide +kernel
theorem dX2_firstTurn_41 : decode cX2_firstTurn 41 = .ok (.bipush 8, 2) := by decide +kernel
theorem dX2_firstTurn_43 : decode cX2_firstTurn 43 = .ok (.imul, 1) := by decide +kernel
theorem dX2_firstTurn_44 : decode cX2_firstTurn 44 = .ok (.iload 4, 2) := by decide +kernel
theorem dX2_firstTurn_46 : decode cX2_firstTurn 46 = .ok (.iadd, 1) := by decide +kernel
theorem dX2_firstTurn_47 : decode cX2_firstTurn 47 = .ok (.iaload, 1) := by decide +kernel
theorem dX2_firstTurn_48 : decode cX2_firstTurn 48 = .ok (.aload_n 0, 1) := by decide +kernel
theorem dX2_firstTurn_49 : decode cX2_firstTurn 49 = .ok (.getfield 15, 3) := by decide +kernel
theorem dX2_firstTurn_52 : decode cX2_firstTurn 52 = .ok (.iload 4, 2) := by decide +kernel
theorem dX2_firstTurn_54 : decode cX2_firstTurn 54 = .ok (.bipush 8, 2) := by decide +kernel
theorem dX2_firstTurn_56 : decode cX2_firstTurn 56 = .ok (.imul, 1) := by decide +kernel
theorem dX2_firstTurn_57 : decode cX2_firstTurn 57 = .ok (.iload_n 2, 1) := by decide +kernel
theorem dX2_firstTurn_58 : decode cX2_firstTurn 58 = .ok (.iadd, 1) := by decide +kernel
theorem dX2_firstTurn_59 : decode cX2_firstTurn 59 = .ok (.iaload, 1) := by decide +kernel
theorem dX2_firstTurn_60 : decode cX2_firstTurn 60 = .ok (.iadd, 1) := by decide +kernel
theorem dX2_firstTurn_61 : decode cX2_firstTurn 61 = .ok (.iload_n 3, 1) := by decide +kernel
theorem dX2_firstTurn_62 : decode cX2_firstTurn 62 = .ok (.if_icmp .ne 6, 3) := by decide +kernel
theorem dX2_firstTurn_65 : decode cX2_firstTurn 65 = .ok (.iload 4, 2) := by decide +kernel
theorem dX2_firstTurn_67 : decode cX2_firstTurn 67 = .ok (.ireturn, 1) := by decide +kernel
theorem dX2_firstTurn_68 : decode cX2_firstTurn 68 = .ok (.iinc 4 1, 3) := by decide +kernel
theorem dX2_firstTurn_71 : decode cX2_firstTurn 71 = .ok (.goto (-42), 3) := by decide +kernel
theorem dX2_firstTurn_74 : decode cX2_firstTurn 74 = .ok (.iconst (-1), 1) := by decide +kernel
theorem dX2_firstTurn_75 : decode cX2_firstTurn 75 = .ok (.ireturn, 1) := by decide +kernel
theorem dX2_step_0 : decode cX2_step 0 = .ok (.aload_n 0, 1) := by decide +kernel
theorem dX2_step_1 : decode cX2_step 1 = .ok (.getfield 9, 3) := by decide +kernel
theorem dX2_step_4 : decode cX2_step 4 = .ok (.iload_n 1, 1) := by decide +kernel
theorem dX2_step_5 : decode cX2_step 5 = .ok (.bipush 8, 2) := by decide +kernel
theorem dX2_step_7 : decode cX2_step 7 = .ok (.imul, 1) := by decide +kernel
theorem dX2_step_8 : decode cX2_step 8 = .ok (.iload_n 2, 1) := by decide +kernel
theorem dX2_step_9 : decode cX2_step 9 = .ok (.iadd, 1) := by decide +kernel
theorem dX2_step_10 : decode cX2_step 10 = .ok (.iaload, 1) := by decide +kernel
theorem dX2_step_11 : decode cX2_step 11 = .ok (.ireturn, 1) := by decide +kernel
theorem dX2_distance_0 : decode cX2_distance 0 = .ok (.aload_n 0, 1) := by decide +kernel
theorem dX2_distance_1 : decode cX2_distance 1 = .ok (.getfield 15, 3) := by decide +kernel
theorem dX2_distance_4 : decode cX2_distance 4 = .ok (.iload_n 1, 1) := by decide +kernel
theorem dX2_distance_5 : decode cX2_distance 5 = .ok (.bipush 8, 2) := by decide +kernel
theorem dX2_distance_7 : decode cX2_distance 7 = .ok (.imul, 1) := by decide +kernel
theorem dX2_distance_8 : decode cX2_distance 8 = .ok (.iload_n 2, 1) := by decide +kernel
theorem dX2_distance_9 : decode cX2_distance 9 = .ok (.iadd, 1) := by decide +kernel
theorem dX2_distance_10 : decode cX2_distance 10 = .ok (.iaload, 1) := by decide +kernel
theorem dX2_distance_11 : decode cX2_distance 11 = .ok (.istore_n 3, 1) := by decide +kernel
theorem dX2_distance_12 : decode cX2_distance 12 = .ok (.iload_n 3, 1) := by decide +kernel
theorem dX2_distance_13 : decode cX2_distance 13 = .ok (.sipush 1000, 3) := by decide +kernel
theorem dX2_distance_16 : decode cX2_distance 16 = .ok (.if_icmp .ge 7, 3) := by decide +kernel
theorem dX2_distance_19 : decode cX2_distance 19 = .ok (.iload_n 3, 1) := by decide +kernel
theorem dX2_distance_20 : decode cX2_distance 20 = .ok (.goto 4, 3) := by decide +kernel
theorem dX2_distance_23 : decode cX2_distance 23 = .ok (.iconst (-1), 1) := by decide +kernel
theorem dX2_distance_24 : decode cX2_distance 24 = .ok (.ireturn, 1) := by decide +kernel
theorem dX2_turn_0 : decode cX2_turn 0 = .ok (.aload_n 0, 1) := by decide +kernel
theorem dX2_turn_1 : decode cX2_turn 1 = .ok (.getfield 18, 3) := by decide +kernel
theorem dX2_turn_4 : decode cX2_turn 4 = .ok (.iload_n 1, 1) := by decide +kernel
theorem dX2_turn_5 : decode cX2_turn 5 = .ok (.bipush 8, 2) := by decide +kernel
theorem dX2_turn_7 : decode cX2_turn 7 = .ok (.imul, 1) := by decide +kernel
theorem dX2_turn_8 : decode cX2_turn 8 = .ok (.iload_n 2, 1) := by decide +kernel
theorem dX2_turn_9 : decode cX2_turn 9 = .ok (.iadd, 1) := by decide +kernel
theorem dX2_turn_10 : decode cX2_turn 10 = .ok (.iaload, 1) := by decide +kernel
theorem dX2_turn_11 : decode cX2_turn 11 = .ok (.ireturn, 1) := by decide +kernel
theorem dX3_init_0 : decode cX3_init 0 = .ok (.aload_n 0, 1) := by decide +kernel
theorem dX3_init_1 : decode cX3_init 1 = .ok (.invokespecial 3, 3) := by decide +kernel
theorem dX3_init_4 : decode cX3_init 4 = .ok (.aload_n 0, 1) := by decide +kernel
theorem dX3_init_5 : decode cX3_init 5 = .ok (.bipush 8, 2) := by decide +kernel
theorem dX3_init_7 : decode cX3_init 7 = .ok (.newarray .int, 2) := by decide +kernel
theorem dX3_init_9 : decode cX3_init 9 = .ok (.putfield 9, 3) := by decide +kernel
theorem dX3_init_12 : decode cX3_init 12 = .ok (.aload_n 0, 1) := by decide +kernel
theorem dX3_init_13 : decode cX3_init 13 = .ok (.bipush 8, 2) := by decide +kernel
theorem dX3_init_15 : decode cX3_init 15 = .ok (.newarray .int, 2) := by decide +kernel
theorem dX3_init_17 : decode cX3_init 17 = .ok (.putfield 15, 3) := by decide +kernel
theorem dX3_init_20 : decode cX3_init 20 = .ok (.aload_n 0, 1) := by decide +kernel
theorem dX3_init_21 : decode cX3_init 21 = .ok (.bipush 8, 2) := by decide +kernel
theorem dX3_init_23 : decode cX3_init 23 = .ok (.newarray .int, 2) := by decide +kernel
theorem dX3_init_25 : decode cX3_init 25 = .ok (.putfield 18, 3) := by decide +kernel
theorem dX3_init_28 : decode cX3_init 28 = .ok (.aload_n 0, 1) := by decide +kernel
theorem dX3_init_29 : decode cX3_init 29 = .ok (.iconst 3, 1) := by decide +kernel
theorem dX3_init_30 : decode cX3_init 30 = .ok (.newarray .int, 2) := by decide +kernel
theorem dX3_init_32 : decode cX3_init 32 = .ok (.putfield 21, 3) := by decide +kernel
theorem dX3_init_35 : decode cX3_init 35 = .ok (.aload_n 0, 1) := by decide +kernel
theorem dX3_init_36 : decode cX3_init 36 = .ok (.iconst 3, 1) := by decide +kernel
theorem dX3_init_37 : decode cX3_init 37 = .ok (.newarray .int, 2) := by decide +kernel
theorem dX3_init_39 : decode cX3_init 39 = .ok (.putfield 24, 3) := by decide +kernel
theorem dX3_init_42 : decode cX3_init 42 = .ok (.aload_n 0, 1) := by decide +kernel
theorem dX3_init_43 : decode cX3_init 43 = .ok (.iconst 0, 1) := by decide +kernel
theorem dX3_init_44 : decode cX3_init 44 = .ok (.putfield 27, 3) := by decide +kernel
theorem dX3_init_47 : decode cX3_init 47 = .ok (.aload_n 0, 1) := by decide +kernel
theorem dX3_init_48 : decode cX3_init 48 = .ok (.iconst 0, 1) := by decide +kernel
theorem dX3_init_49 : decode cX3_init 49 = .ok (.putfield 31, 3) := by decide +kernel
theorem dX3_init_52 : decode cX3_init 52 = .ok (.aload_n 0, 1) := by decide +kernel
theorem dX3_init_53 : decode cX3_init 53 = .ok (.iconst 0, 1) := by decide +kernel
theorem dX3_init_54 : decode cX3_init 54 = .ok (.putfield 34, 3) := by decide +kernel
theorem dX3_init_57 : decode cX3_init 57 = .ok (.aload_n 0, 1) := by decide +kernel
theorem dX3_init_58 : decode cX3_init 58 = .ok (.iconst (-1), 1) := by decide +kernel
theorem dX3_init_59 : decode cX3_init 59 = .ok (.putfield 37, 3) := by decide +kernel
theorem dX3_init_62 : decode cX3_init 62 = .ok (.aload_n 0, 1) := by decide +kernel
theorem dX3_init_63 : decode cX3_init 63 = .ok (.iconst (-1), 1) := by decide +kernel
theorem dX3_init_64 : decode cX3_init 64 = .ok (.putfield 40, 3) := by decide +kernel
theorem dX3_init_67 : decode cX3_init 67 = .ok (.aload_n 0, 1) := by decide +kernel
theorem dX3_init_68 : decode cX3_init 68 = .ok (.aload_n 1, 1) := by decide +kernel
theorem dX3_init_69 : decode cX3_init 69 = .ok (.putfield 43, 3) := by decide +kernel
theorem dX3_init_72 : decode cX3_init 72 = .ok (.aload_n 0, 1) := by decide +kernel
theorem dX3_init_73 : decode cX3_init 73 = .ok (.aload_n 2, 1) := by decide +kernel
theorem dX3_init_74 : decode cX3_init 74 = .ok (.putfield 47, 3) := by decide +kernel
theorem dX3_init_77 : decode cX3_init 77 = .ok (.aload_n 0, 1) := by decide +kernel
theorem dX3_init_78 : decode cX3_init 78 = .ok (.aload_n 3, 1) := by decide +kernel
theorem dX3_init_79 : decode cX3_init 79 = .ok (.putfield 50, 3) := by decide +kernel
theorem dX3_init_82 : decode cX3_init 82 = .ok (.return_, 1) := by decide +kernel
theorem dX3_push_0 : decode cX3_push 0 = .ok (.aload_n 0, 1) := by decide +kernel
theorem dX3_push_1 : decode cX3_push 1 = .ok (.getfield 9, 3) := by decide +kernel
theorem dX3_push_4 : decode cX3_push 4 = .ok (.aload_n 0, 1) := by decide +kernel
theorem dX3_push_5 : decode cX3_push 5 = .ok (.getfield 31, 3) := by decide +kernel
theorem dX3_push_8 : decode cX3_push 8 = .ok (.iload_n 1, 1) := by decide +kernel
theorem dX3_push_9 : decode cX3_push 9 = .ok (.iastore, 1) := by decide +kernel
theorem dX3_push_10 : decode cX3_push 10 = .ok (.aload_n 0, 1) := by decide +kernel
theorem dX3_push_11 : decode cX3_push 11 = .ok (.getfield 15, 3) := by decide +kernel
theorem dX3_push_14 : decode cX3_push 14 = .ok (.aload_n 0, 1) := by decide +kernel
theorem dX3_push_15 : decode cX3_push 15 = .ok (.getfield 31, 3) := by decide +kernel
theorem dX3_push_18 : decode cX3_push 18 = .ok (.iload_n 2, 1) := by decide +kernel
theorem dX3_push_19 : decode cX3_push 19 = .ok (.iastore, 1) := by decide +kernel
theorem dX3_push_20 : decode cX3_push 20 = .ok (.aload_n 0, 1) := by decide +kernel
theorem dX3_push_21 : decode cX3_push 21 = .ok (.getfield 18, 3) := by decide +kernel
theorem dX3_push_24 : decode cX3_push 24 = .ok (.aload_n 0, 1) := by decide +kernel
theorem dX3_push_25 : decode cX3_push 25 = .ok (.getfield 31, 3) := by decide +kernel
theorem dX3_push_28 : decode cX3_push 28 = .ok (.iload_n 3, 1) := by decide +kernel
theorem dX3_push_29 : decode cX3_push 29 = .ok (.bipush 8, 2) := by decide +kernel
theorem dX3_push_31 : decode cX3_push 31 = .ok (.if_icmp .ge 7, 3) := by decide +kernel
theorem dX3_push_34 : decode cX3_push 34 = .ok (.iload_n 3, 1) := by decide +kernel
theorem dX3_push_35 : decode cX3_push 35 = .ok (.goto 4, 3) := by decide +kernel
theorem dX3_push_38 : decode cX3_push 38 = .ok (.iconst (-1), 1) := by decide +kernel
theorem dX3_push_39 : decode cX3_push 39 = .ok (.iastore, 1) := by decide +kernel
theorem dX3_push_40 : decode cX3_push 40 = .ok (.aload_n 0, 1) := by decide +kernel
theorem dX3_push_41 : decode cX3_push 41 = .ok (.dup, 1) := by decide +kernel
theorem dX3_push_42 : decode cX3_push 42 = .ok (.getfield 31, 3) := by decide +kernel
theorem dX3_push_45 : decode cX3_push 45 = .ok (.iconst 1, 1) := by decide +kernel
theorem dX3_push_46 : decode cX3_push 46 = .ok (.iadd, 1) := by decide +kernel
theorem dX3_push_47 : decode cX3_push 47 = .ok (.putfield 31, 3) := by decide +kernel
theorem dX3_push_50 : decode cX3_push 50 = .ok (.return_, 1) := by decide +kernel
theorem dX3_trialFits_0 : decode cX3_trialFits 0 = .ok (.aload_n 0, 1) := by decide +kernel
theorem dX3_trialFits_1 : decode cX3_trialFits 1 = .ok (.getfield 50, 3) := by decide +kernel
theorem dX3_trialFits_4 : decode cX3_trialFits 4 = .ok (.aload_n 0, 1) := by decide +kernel
theorem dX3_trialFits_5 : decode cX3_trialFits 5 = .ok (.getfield 47, 3) := by decide +kernel
theorem dX3_trialFits_8 : decode cX3_trialFits 8 = .ok (.invokevirtual 54, 3) := by decide +kernel
theorem dX3_trialFits_11 : decode cX3_trialFits 11 = .ok (.iconst 0, 1) := by decide +kernel
theorem dX3_trialFits_12 : decode cX3_trialFits 12 = .ok (.istore_n 1, 1) := by decide +kernel
theorem dX3_trialFits_13 : decode cX3_trialFits 13 = .ok (.iload_n 1, 1) := by decide +kernel
theorem dX3_trialFits_14 : decode cX3_trialFits 14 = .ok (.aload_n 0, 1) := by decide +kernel
theorem dX3_trialFits_15 : decode cX3_trialFits 15 = .ok (.getfield 31, 3) := by decide +kernel
theorem dX3_trialFits_18 : decode cX3_trialFits 18 = .ok (.if_icmp .ge 55, 3) := by decide +kernel
theorem dX3_trialFits_21 : decode cX3_trialFits 21 = .ok (.aload_n 0, 1) := by decide +kernel
theorem dX3_trialFits_22 : decode cX3_trialFits 22 = .ok (.getfield 15, 3) := by decide +kernel
theorem dX3_trialFits_25 : decode cX3_trialFits 25 = .ok (.iload_n 1, 1) := by decide +kernel
theorem dX3_trialFits_26 : decode cX3_trialFits 26 = .ok (.iaload, 1) := by decide +kernel
theorem dX3_trialFits_27 : decode cX3_trialFits 27 = .ok (.aload_n 0, 1) := by decide +kernel
theorem dX3_trialFits_28 : decode cX3_trialFits 28 = .ok (.getfield 47, 3) := by decide +kernel
theorem dX3_trialFits_31 : decode cX3_trialFits 31 = .ok (.getfield 60, 3) := by decide +kernel
theorem dX3_trialFits_34 : decode cX3_trialFits 34 = .ok (.if_icmp .ge 31, 3) := by decide +kernel
theorem dX3_trialFits_37 : decode cX3_trialFits 37 = .ok (.aload_n 0, 1) := by decide +kernel
theorem dX3_trialFits_38 : decode cX3_trialFits 38 = .ok (.getfield 50, 3) := by decide +kernel
theorem dX3_trialFits_41 : decode cX3_trialFits 41 = .ok (.aload_n 0, 1) := by decide +kernel
theorem dX3_trialFits_42 : decode cX3_trialFits 42 = .ok (.getfield 15, 3) := by decide +kernel
theorem dX3_trialFits_45 : decode cX3_trialFits 45 = .ok (.iload_n 1, 1) := by decide +kernel
theorem dX3_trialFits_46 : decode cX3_trialFits 46 = .ok (.iaload, 1) := by decide +kernel
theorem dX3_trialFits_47 : decode cX3_trialFits 47 = .ok (.aload_n 0, 1) := by decide +kernel
theorem dX3_trialFits_48 : decode cX3_trialFits 48 = .ok (.getfield 9, 3) := by decide +kernel
theorem dX3_trialFits_51 : decode cX3_trialFits 51 = .ok (.iload_n 1, 1) := by decide +kernel
theorem dX3_trialFits_52 : decode cX3_trialFits 52 = .ok (.iaload, 1) := by decide +kernel
theorem dX3_trialFits_53 : decode cX3_trialFits 53 = .ok (.invokevirtual 63, 3) := by decide +kernel
theorem dX3_trialFits_56 : decode cX3_trialFits 56 = .ok (.aload_n 0, 1) := by decide +kernel
theorem dX3_trialFits_57 : decode cX3_trialFits 57 = .ok (.getfield 18, 3) := by decide +kernel
theorem dX3_trialFits_60 : decode cX3_trialFits 60 = .ok (.iload_n 1, 1) := by decide +kernel
theorem dX3_trialFits_61 : decode cX3_trialFits 61 = .ok (.iaload, 1) := by decide +kernel
theorem dX3_trialFits_62 : decode cX3_trialFits 62 = .ok (.if_icmp .eq 5, 3) := by decide +kernel
theorem dX3_trialFits_65 : decode cX3_trialFits 65 = .ok (.iconst 0, 1) := by decide +kernel
theorem dX3_trialFits_66 : decode cX3_trialFits 66 = .ok (.ireturn, 1) := by decide +kernel
theorem dX3_trialFits_67 : decode cX3_trialFits 67 = .ok (.iinc 1 1, 3) := by decide +kernel
theorem dX3_trialFits_70 : decode cX3_trialFits 70 = .ok (.goto (-57), 3) := by decide +kernel
theorem dX3_trialFits_73 : decode cX3_trialFits 73 = .ok (.iconst 1, 1) := by decide +kernel
theorem dX3_trialFits_74 : decode cX3_trialFits 74 = .ok (.ireturn, 1) := by decide +kernel
theorem dX3_answersThatNeverWere_0 : decode cX3_answersThatNeverWere 0 = .ok (.aload_n 0, 1) := by decide +kernel
theorem dX3_answersThatNeverWere_1 : decode cX3_answersThatNeverWere 1 = .ok (.getfield 47, 3) := by decide +kernel
theorem dX3_answersThatNeverWere_4 : decode cX3_answersThatNeverWere 4 = .ok (.aload_n 0, 1) := by decide +kernel
theorem dX3_answersThatNeverWere_5 : decode cX3_answersThatNeverWere 5 = .ok (.getfield 43, 3) := by decide +kernel
theorem dX3_answersThatNeverWere_8 : decode cX3_answersThatNeverWere 8 = .ok (.invokevirtual 67, 3) := by decide +kernel
theorem dX3_answersThatNeverWere_11 : decode cX3_answersThatNeverWere 11 = .ok (.iconst 0, 1) := by decide +kernel
theorem dX3_answersThatNeverWere_12 : decode cX3_answersThatNeverWere 12 = .ok (.istore_n 1, 1) := by decide +kernel
theorem dX3_answersThatNeverWere_13 : decode cX3_answersThatNeverWere 13 = .ok (.iconst 0, 1) := by decide +kernel
theorem dX3_answersThatNeverWere_14 : decode cX3_answersThatNeverWere 14 = .ok (.istore_n 2, 1) := by decide +kernel
theorem dX3_answersThatNeverWere_15 : decode cX3_answersThatNeverWere 15 = .ok (.iload_n 2, 1) := by decide +kernel
theorem dX3_answersThatNeverWere_16 : decode cX3_answersThatNeverWere 16 = .ok (.aload_n 0, 1) := by decide +kernel
theorem dX3_answersThatNeverWere_17 : decode cX3_answersThatNeverWere 17 = .ok (.getfield 43, 3) := by decide +kernel
theorem dX3_answersThatNeverWere_20 : decode cX3_answersThatNeverWere 20 = .ok (.getfield 70, 3) := by decide +kernel
theorem dX3_answersThatNeverWere_23 : decode cX3_answersThatNeverWere 23 = .ok (.getfield 74, 3) := by decide +kernel
theorem dX3_answersThatNeverWere_26 : decode cX3_answersThatNeverWere 26 = .ok (.if_icmp .ge 32, 3) := by decide +kernel
theorem dX3_answersThatNeverWere_29 : decode cX3_answersThatNeverWere 29 = .ok (.aload_n 0, 1) := by decide +kernel
theorem dX3_answersThatNeverWere_30 : decode cX3_answersThatNeverWere 30 = .ok (.getfield 47, 3) := by decide +kernel
theorem dX3_answersThatNeverWere_33 : decode cX3_answersThatNeverWere 33 = .ok (.iconst 1, 1) := by decide +kernel
theorem dX3_answersThatNeverWere_34 : decode cX3_answersThatNeverWere 34 = .ok (.iload_n 2, 1) := by decide +kernel
theorem dX3_answersThatNeverWere_35 : decode cX3_answersThatNeverWere 35 = .ok (.ishl, 1) := by decide +kernel
theorem dX3_answersThatNeverWere_36 : decode cX3_answersThatNeverWere 36 = .ok (.putfield 77, 3) := by decide +kernel
theorem dX3_answersThatNeverWere_39 : decode cX3_answersThatNeverWere 39 = .ok (.aload_n 0, 1) := by decide +kernel
theorem dX3_answersThatNeverWere_40 : decode cX3_answersThatNeverWere 40 = .ok (.invokevirtual 80, 3) := by decide +kernel
theorem dX3_answersThatNeverWere_43 : decode cX3_answersThatNeverWere 43 = .ok (.ifCond .eq 9, 3) := by decide +kernel
theorem dX3_answersThatNeverWere_46 : decode cX3_answersThatNeverWere 46 = .ok (.iload_n 1, 1) := by decide +kernel
theorem dX3_answersThatNeverWere_47 : decode cX3_answersThatNeverWere 47 = .ok (.iconst 1, 1) := by decide +kernel
theorem dX3_answersThatNeverWere_48 : decode cX3_answersThatNeverWere 48 = .ok (.iload_n 2, 1) := by decide +kernel
theorem dX3_answersThatNeverWere_49 : decode cX3_answersThatNeverWere 49 = .ok (.ishl, 1) := by decide +kernel
theorem dX3_answersThatNeverWere_50 : decode cX3_answersThatNeverWere 50 = .ok (.ior, 1) := by decide +kernel
theorem dX3_answersThatNeverWere_51 : decode cX3_answersThatNeverWere 51 = .ok (.istore_n 1, 1) := by decide +kernel
theorem dX3_answersThatNeverWere_52 : decode cX3_answersThatNeverWere 52 = .ok (.iinc 2 1, 3) := by decide +kernel
theorem dX3_answersThatNeverWere_55 : decode cX3_answersThatNeverWere 55 = .ok (.goto (-40), 3) := by decide +kernel
theorem dX3_answersThatNeverWere_58 : decode cX3_answersThatNeverWere 58 = .ok (.iload_n 1, 1) := by decide +kernel
theorem dX3_answersThatNeverWere_59 : decode cX3_answersThatNeverWere 59 = .ok (.ireturn, 1) := by decide +kernel
theorem dX3_sortsOf_0 : decode cX3_sortsOf 0 = .ok (.aload_n 0, 1) := by decide +kernel
theorem dX3_sortsOf_1 : decode cX3_sortsOf 1 = .ok (.getfield 47, 3) := by decide +kernel
theorem dX3_sortsOf_4 : decode cX3_sortsOf 4 = .ok (.aload_n 0, 1) := by decide +kernel
theorem dX3_sortsOf_5 : decode cX3_sortsOf 5 = .ok (.getfield 43, 3) := by decide +kernel
theorem dX3_sortsOf_8 : decode cX3_sortsOf 8 = .ok (.invokevirtual 67, 3) := by decide +kernel
theorem dX3_sortsOf_11 : decode cX3_sortsOf 11 = .ok (.iconst 0, 1) := by decide +kernel
theorem dX3_sortsOf_12 : decode cX3_sortsOf 12 = .ok (.istore_n 2, 1) := by decide +kernel
theorem dX3_sortsOf_13 : decode cX3_sortsOf 13 = .ok (.aload_n 0, 1) := by decide +kernel
theorem dX3_sortsOf_14 : decode cX3_sortsOf 14 = .ok (.iconst 0, 1) := by decide +kernel
theorem dX3_sortsOf_15 : decode cX3_sortsOf 15 = .ok (.putfield 27, 3) := by decide +kernel
theorem dX3_sortsOf_18 : decode cX3_sortsOf 18 = .ok (.iconst 0, 1) := by decide +kernel
theorem dX3_sortsOf_19 : decode cX3_sortsOf 19 = .ok (.istore_n 3, 1) := by decide +kernel
theorem dX3_sortsOf_20 : decode cX3_sortsOf 20 = .ok (.iload_n 3, 1) := by decide +kernel
theorem dX3_sortsOf_21 : decode cX3_sortsOf 21 = .ok (.iconst 3, 1) := by decide +kernel
theorem dX3_sortsOf_22 : decode cX3_sortsOf 22 = .ok (.if_icmp .ge 78, 3) := by decide +kernel
theorem dX3_sortsOf_25 : decode cX3_sortsOf 25 = .ok (.aload_n 0, 1) := by decide +kernel
theorem dX3_sortsOf_26 : decode cX3_sortsOf 26 = .ok (.getfield 47, 3) := by decide +kernel
theorem dX3_sortsOf_29 : decode cX3_sortsOf 29 = .ok (.getfield 84, 3) := by decide +kernel
theorem dX3_sortsOf_32 : decode cX3_sortsOf 32 = .ok (.iload_n 1, 1) := by decide +kernel
theorem dX3_sortsOf_33 : decode cX3_sortsOf 33 = .ok (.iload_n 3, 1) := by decide +kernel
theorem dX3_sortsOf_34 : decode cX3_sortsOf 34 = .ok (.iastore, 1) := by decide +kernel
theorem dX3_sortsOf_35 : decode cX3_sortsOf 35 = .ok (.aload_n 0, 1) := by decide +kernel
theorem dX3_sortsOf_36 : decode cX3_sortsOf 36 = .ok (.invokevirtual 80, 3) := by decide +kernel
theorem dX3_sortsOf_39 : decode cX3_sortsOf 39 = .ok (.ifCond .eq 55, 3) := by decide +kernel
theorem dX3_sortsOf_42 : decode cX3_sortsOf 42 = .ok (.iload_n 2, 1) := by decide +kernel
theorem dX3_sortsOf_43 : decode cX3_sortsOf 43 = .ok (.iconst 1, 1) := by decide +kernel
theorem dX3_sortsOf_44 : decode cX3_sortsOf 44 = .ok (.iload_n 3, 1) := by decide +kernel
theorem dX3_sortsOf_45 : decode cX3_sortsOf 45 = .ok (.ishl, 1) := by decide +kernel
theorem dX3_sortsOf_46 : decode cX3_sortsOf 46 = .ok (.ior, 1) := by decide +kernel
theorem dX3_sortsOf_47 : decode cX3_sortsOf 47 = .ok (.istore_n 2, 1) := by decide +kernel
theorem dX3_sortsOf_48 : decode cX3_sortsOf 48 = .ok (.aload_n 0, 1) := by decide +kernel
theorem dX3_sortsOf_49 : decode cX3_sortsOf 49 = .ok (.getfield 21, 3) := by decide +kernel
theorem dX3_sortsOf_52 : decode cX3_sortsOf 52 = .ok (.aload_n 0, 1) := by decide +kernel
theorem dX3_sortsOf_53 : decode cX3_sortsOf 53 = .ok (.getfield 27, 3) := by decide +kernel
theorem dX3_sortsOf_56 : decode cX3_sortsOf 56 = .ok (.aload_n 0, 1) := by decide +kernel
theorem dX3_sortsOf_57 : decode cX3_sortsOf 57 = .ok (.getfield 50, 3) := by decide +kernel
theorem dX3_sortsOf_60 : decode cX3_sortsOf 60 = .ok (.getfield 87, 3) := by decide +kernel
theorem dX3_sortsOf_63 : decode cX3_sortsOf 63 = .ok (.iload_n 1, 1) := by decide +kernel
theorem dX3_sortsOf_64 : decode cX3_sortsOf 64 = .ok (.iaload, 1) := by decide +kernel
theorem dX3_sortsOf_65 : decode cX3_sortsOf 65 = .ok (.iastore, 1) := by decide +kernel
theorem dX3_sortsOf_66 : decode cX3_sortsOf 66 = .ok (.aload_n 0, 1) := by decide +kernel
theorem dX3_sortsOf_67 : decode cX3_sortsOf 67 = .ok (.getfield 24, 3) := by decide +kernel
theorem dX3_sortsOf_70 : decode cX3_sortsOf 70 = .ok (.aload_n 0, 1) := by decide +kernel
theorem dX3_sortsOf_71 : decode cX3_sortsOf 71 = .ok (.getfield 27, 3) := by decide +kernel
theorem dX3_sortsOf_74 : decode cX3_sortsOf 74 = .ok (.aload_n 0, 1) := by decide +kernel
theorem dX3_sortsOf_75 : decode cX3_sortsOf 75 = .ok (.getfield 50, 3) := by decide +kernel
theorem dX3_sortsOf_78 : decode cX3_sortsOf 78 = .ok (.getfield 88, 3) := by decide +kernel
theorem dX3_sortsOf_81 : decode cX3_sortsOf 81 = .ok (.iload_n 1, 1) := by decide +kernel
theorem dX3_sortsOf_82 : decode cX3_sortsOf 82 = .ok (.iaload, 1) := by decide +kernel
theorem dX3_sortsOf_83 : decode cX3_sortsOf 83 = .ok (.iastore, 1) := by decide +kernel
theorem dX3_sortsOf_84 : decode cX3_sortsOf 84 = .ok (.aload_n 0, 1) := by decide +kernel
theorem dX3_sortsOf_85 : decode cX3_sortsOf 85 = .ok (.dup, 1) := by decide +kernel
theorem dX3_sortsOf_86 : decode cX3_sortsOf 86 = .ok (.getfield 27, 3) := by decide +kernel
theorem dX3_sortsOf_89 : decode cX3_sortsOf 89 = .ok (.iconst 1, 1) := by decide +kernel
theorem dX3_sortsOf_90 : decode cX3_sortsOf 90 = .ok (.iadd, 1) := by decide +kernel
theorem dX3_sortsOf_91 : decode cX3_sortsOf 91 = .ok (.putfield 27, 3) := by decide +kernel
theorem dX3_sortsOf_94 : decode cX3_sortsOf 94 = .ok (.iinc 3 1, 3) := by decide +kernel
theorem dX3_sortsOf_97 : decode cX3_sortsOf 97 = .ok (.goto (-77), 3) := by decide +kernel
theorem dX3_sortsOf_100 : decode cX3_sortsOf 100 = .ok (.iload_n 2, 1) := by decide +kernel
theorem dX3_sortsOf_101 : decode cX3_sortsOf 101 = .ok (.ireturn, 1) := by decide +kernel
theorem dX3_strengthsOf_0 : decode cX3_strengthsOf 0 = .ok (.aload_n 0, 1) := by decide +kernel
theorem dX3_strengthsOf_1 : decode cX3_strengthsOf 1 = .ok (.getfield 47, 3) := by decide +kernel
theorem dX3_strengthsOf_4 : decode cX3_strengthsOf 4 = .ok (.aload_n 0, 1) := by decide +kernel
theorem dX3_strengthsOf_5 : decode cX3_strengthsOf 5 = .ok (.getfield 43, 3) := by decide +kernel
theorem dX3_strengthsOf_8 : decode cX3_strengthsOf 8 = .ok (.invokevirtual 67, 3) := by decide +kernel
theorem dX3_strengthsOf_11 : decode cX3_strengthsOf 11 = .ok (.aload_n 0, 1) := by decide +kernel
theorem dX3_strengthsOf_12 : decode cX3_strengthsOf 12 = .ok (.iconst 0, 1) := by decide +kernel
theorem dX3_strengthsOf_13 : decode cX3_strengthsOf 13 = .ok (.putfield 34, 3) := by decide +kernel
theorem dX3_strengthsOf_16 : decode cX3_strengthsOf 16 = .ok (.aload_n 0, 1) := by decide +kernel
theorem dX3_strengthsOf_17 : decode cX3_strengthsOf 17 = .ok (.iconst (-1), 1) := by decide +kernel
theorem dX3_strengthsOf_18 : decode cX3_strengthsOf 18 = .ok (.putfield 37, 3) := by decide +kernel
theorem dX3_strengthsOf_21 : decode cX3_strengthsOf 21 = .ok (.aload_n 0, 1) := by decide +kernel
theorem dX3_strengthsOf_22 : decode cX3_strengthsOf 22 = .ok (.iconst (-1), 1) := by decide +kernel
theorem dX3_strengthsOf_23 : decode cX3_strengthsOf 23 = .ok (.putfield 40, 3) := by decide +kernel
theorem dX3_strengthsOf_26 : decode cX3_strengthsOf 26 = .ok (.iconst 0, 1) := by decide +kernel
theorem dX3_strengthsOf_27 : decode cX3_strengthsOf 27 = .ok (.istore_n 2, 1) := by decide +kernel
theorem dX3_strengthsOf_28 : decode cX3_strengthsOf 28 = .ok (.iconst 0, 1) := by decide +kernel
theorem dX3_strengthsOf_29 : decode cX3_strengthsOf 29 = .ok (.istore_n 3, 1) := by decide +kernel
theorem dX3_strengthsOf_30 : decode cX3_strengthsOf 30 = .ok (.iload_n 3, 1) := by decide +kernel
theorem dX3_strengthsOf_31 : decode cX3_strengthsOf 31 = .ok (.bipush 100, 2) := by decide +kernel
theorem dX3_strengthsOf_33 : decode cX3_strengthsOf 33 = .ok (.if_icmp .ge 96, 3) := by decide +kernel
theorem dX3_strengthsOf_36 : decode cX3_strengthsOf 36 = .ok (.iload_n 2, 1) := by decide +kernel
theorem dX3_strengthsOf_37 : decode cX3_strengthsOf 37 = .ok (.bipush 100, 2) := by decide +kernel
theorem dX3_strengthsOf_39 : decode cX3_strengthsOf 39 = .ok (.if_icmp .ge 90, 3) := by decide +kernel
theorem dX3_strengthsOf_42 : decode cX3_strengthsOf 42 = .ok (.aload_n 0, 1) := by decide +kernel
theorem dX3_strengthsOf_43 : decode cX3_strengthsOf 43 = .ok (.getfield 47, 3) := by decide +kernel
theorem dX3_strengthsOf_46 : decode cX3_strengthsOf 46 = .ok (.getfield 91, 3) := by decide +kernel
theorem dX3_strengthsOf_49 : decode cX3_strengthsOf 49 = .ok (.iload_n 1, 1) := by decide +kernel
theorem dX3_strengthsOf_50 : decode cX3_strengthsOf 50 = .ok (.iload_n 2, 1) := by decide +kernel
theorem dX3_strengthsOf_51 : decode cX3_strengthsOf 51 = .ok (.iastore, 1) := by decide +kernel
theorem dX3_strengthsOf_52 : decode cX3_strengthsOf 52 = .ok (.aload_n 0, 1) := by decide +kernel
theorem dX3_strengthsOf_53 : decode cX3_strengthsOf 53 = .ok (.invokevirtual 80, 3) := by decide +kernel
theorem dX3_strengthsOf_56 : decode cX3_strengthsOf 56 = .ok (.istore 4, 2) := by decide +kernel
theorem dX3_strengthsOf_58 : decode cX3_strengthsOf 58 = .ok (.bipush 100, 2) := by decide +kernel
theorem dX3_strengthsOf_60 : decode cX3_strengthsOf 60 = .ok (.aload_n 0, 1) := by decide +kernel
theorem dX3_strengthsOf_61 : decode cX3_strengthsOf 61 = .ok (.getfield 50, 3) := by decide +kernel
theorem dX3_strengthsOf_64 : decode cX3_strengthsOf 64 = .ok (.getfield 94, 3) := by decide +kernel
theorem dX3_strengthsOf_67 : decode cX3_strengthsOf 67 = .ok (.iload_n 1, 1) := by decide +kernel
theorem dX3_strengthsOf_68 : decode cX3_strengthsOf 68 = .ok (.iaload, 1) := by decide +kernel
theorem dX3_strengthsOf_69 : decode cX3_strengthsOf 69 = .ok (.invokestatic 97, 3) := by decide +kernel
theorem dX3_strengthsOf_72 : decode cX3_strengthsOf 72 = .ok (.istore 5, 2) := by decide +kernel
theorem dX3_strengthsOf_74 : decode cX3_strengthsOf 74 = .ok (.iload 4, 2) := by decide +kernel
theorem dX3_strengthsOf_76 : decode cX3_strengthsOf 76 = .ok (.ifCond .eq 44, 3) := by decide +kernel
theorem dX3_strengthsOf_79 : decode cX3_strengthsOf 79 = .ok (.aload_n 0, 1) := by decide +kernel
theorem dX3_strengthsOf_80 : decode cX3_strengthsOf 80 = .ok (.aload_n 0, 1) := by decide +kernel
theorem dX3_strengthsOf_81 : decode cX3_strengthsOf 81 = .ok (.getfield 37, 3) := by decide +kernel
theorem dX3_strengthsOf_84 : decode cX3_strengthsOf 84 = .ok (.iconst (-1), 1) := by decide +kernel
theorem dX3_strengthsOf_85 : decode cX3_strengthsOf 85 = .ok (.if_icmp .ne 7, 3) := by decide +kernel
theorem dX3_strengthsOf_88 : decode cX3_strengthsOf 88 = .ok (.iload_n 2, 1) := by decide +kernel
theorem dX3_strengthsOf_89 : decode cX3_strengthsOf 89 = .ok (.goto 7, 3) := by decide +kernel
theorem dX3_strengthsOf_92 : decode cX3_strengthsOf 92 = .ok (.aload_n 0, 1) := by decide +kernel
theorem dX3_strengthsOf_93 : decode cX3_strengthsOf 93 = .ok (.getfield 37, 3) := by decide +kernel
theorem dX3_strengthsOf_96 : decode cX3_strengthsOf 96 = .ok (.putfield 37, 3) := by decide +kernel
theorem dX3_strengthsOf_99 : decode cX3_strengthsOf 99 = .ok (.aload_n 0, 1) := by decide +kernel
theorem dX3_strengthsOf_100 : decode cX3_strengthsOf 100 = .ok (.iload 5, 2) := by decide +kernel
theorem dX3_strengthsOf_102 : decode cX3_strengthsOf 102 = .ok (.iconst 1, 1) := by decide +kernel
theorem dX3_strengthsOf_103 : decode cX3_strengthsOf 103 = .ok (.isub, 1) := by decide +kernel
theorem dX3_strengthsOf_104 : decode cX3_strengthsOf 104 = .ok (.putfield 40, 3) := by decide +kernel
theorem dX3_strengthsOf_107 : decode cX3_strengthsOf 107 = .ok (.aload_n 0, 1) := by decide +kernel
theorem dX3_strengthsOf_108 : decode cX3_strengthsOf 108 = .ok (.dup, 1) := by decide +kernel
theorem dX3_strengthsOf_109 : decode cX3_strengthsOf 109 = .ok (.getfield 34, 3) := by decide +kernel
theorem dX3_strengthsOf_112 : decode cX3_strengthsOf 112 = .ok (.iload 5, 2) := by decide +kernel
theorem dX3_strengthsOf_114 : decode cX3_strengthsOf 114 = .ok (.iload_n 2, 1) := by decide +kernel
theorem dX3_strengthsOf_115 : decode cX3_strengthsOf 115 = .ok (.isub, 1) := by decide +kernel
theorem dX3_strengthsOf_116 : decode cX3_strengthsOf 116 = .ok (.iadd, 1) := by decide +kernel
theorem dX3_strengthsOf_117 : decode cX3_strengthsOf 117 = .ok (.putfield 34, 3) := by decide +kernel
theorem dX3_strengthsOf_120 : decode cX3_strengthsOf 120 = .ok (.iload 5, 2) := by decide +kernel
theorem dX3_strengthsOf_122 : decode cX3_strengthsOf 122 = .ok (.istore_n 2, 1) := by decide +kernel
theorem dX3_strengthsOf_123 : decode cX3_strengthsOf 123 = .ok (.iinc 3 1, 3) := by decide +kernel
theorem dX3_strengthsOf_126 : decode cX3_strengthsOf 126 = .ok (.goto (-96), 3) := by decide +kernel
theorem dX3_strengthsOf_129 : decode cX3_strengthsOf 129 = .ok (.return_, 1) := by decide +kernel
theorem dX3_hourToLook_0 : decode cX3_hourToLook 0 = .ok (.iconst 0, 1) := by decide +kernel
theorem dX3_hourToLook_1 : decode cX3_hourToLook 1 = .ok (.istore_n 1, 1) := by decide +kernel
theorem dX3_hourToLook_2 : decode cX3_hourToLook 2 = .ok (.iconst 4, 1) := by decide +kernel
theorem dX3_hourToLook_3 : decode cX3_hourToLook 3 = .ok (.istore_n 2, 1) := by decide +kernel
theorem dX3_hourToLook_4 : decode cX3_hourToLook 4 = .ok (.iconst 0, 1) := by decide +kernel
theorem dX3_hourToLook_5 : decode cX3_hourToLook 5 = .ok (.istore_n 3, 1) := by decide +kernel
theorem dX3_hourToLook_6 : decode cX3_hourToLook 6 = .ok (.iload_n 3, 1) := by decide +kernel
theorem dX3_hourToLook_7 : decode cX3_hourToLook 7 = .ok (.bipush 40, 2) := by decide +kernel
theorem dX3_hourToLook_9 : decode cX3_hourToLook 9 = .ok (.if_icmp .ge 27, 3) := by decide +kernel
theorem dX3_hourToLook_12 : decode cX3_hourToLook 12 = .ok (.aload_n 0, 1) := by decide +kernel
theorem dX3_hourToLook_13 : decode cX3_hourToLook 13 = .ok (.iload_n 3, 1) := by decide +kernel
theorem dX3_hourToLook_14 : decode cX3_hourToLook 14 = .ok (.invokevirtual 102, 3) := by decide +kernel
theorem dX3_hourToLook_17 : decode cX3_hourToLook 17 = .ok (.istore 4, 2) := by decide +kernel
theorem dX3_hourToLook_19 : decode cX3_hourToLook 19 = .ok (.iload 4, 2) := by decide +kernel
theorem dX3_hourToLook_21 : decode cX3_hourToLook 21 = .ok (.iload_n 2, 1) := by decide +kernel
theorem dX3_hourToLook_22 : decode cX3_hourToLook 22 = .ok (.if_icmp .ge 8, 3) := by decide +kernel
theorem dX3_hourToLook_25 : decode cX3_hourToLook 25 = .ok (.iload 4, 2) := by decide +kernel
theorem dX3_hourToLook_27 : decode cX3_hourToLook 27 = .ok (.istore_n 2, 1) := by decide +kernel
theorem dX3_hourToLook_28 : decode cX3_hourToLook 28 = .ok (.iload_n 3, 1) := by decide +kernel
theorem dX3_hourToLook_29 : decode cX3_hourToLook 29 = .ok (.istore_n 1, 1) := by decide +kernel
theorem dX3_hourToLook_30 : decode cX3_hourToLook 30 = .ok (.iinc 3 1, 3) := by decide +kernel
theorem dX3_hourToLook_33 : decode cX3_hourToLook 33 = .ok (.goto (-27), 3) := by decide +kernel
theorem dX3_hourToLook_36 : decode cX3_hourToLook 36 = .ok (.iload_n 1, 1) := by decide +kernel
theorem dX3_hourToLook_37 : decode cX3_hourToLook 37 = .ok (.ireturn, 1) := by decide +kernel
theorem dX3_mostAlike_0 : decode cX3_mostAlike 0 = .ok (.iconst 0, 1) := by decide +kernel
theorem dX3_mostAlike_1 : decode cX3_mostAlike 1 = .ok (.istore_n 2, 1) := by decide +kernel
theorem dX3_mostAlike_2 : decode cX3_mostAlike 2 = .ok (.iconst 0, 1) := by decide +kernel
theorem dX3_mostAlike_3 : decode cX3_mostAlike 3 = .ok (.istore_n 3, 1) := by decide +kernel
theorem dX3_mostAlike_4 : decode cX3_mostAlike 4 = .ok (.iload_n 3, 1) := by decide +kernel
theorem dX3_mostAlike_5 : decode cX3_mostAlike 5 = .ok (.aload_n 0, 1) := by decide +kernel
theorem dX3_mostAlike_6 : decode cX3_mostAlike 6 = .ok (.getfield 27, 3) := by decide +kernel
theorem dX3_mostAlike_9 : decode cX3_mostAlike 9 = .ok (.if_icmp .ge 56, 3) := by decide +kernel
theorem dX3_mostAlike_12 : decode cX3_mostAlike 12 = .ok (.iconst 0, 1) := by decide +kernel
theorem dX3_mostAlike_13 : decode cX3_mostAlike 13 = .ok (.istore 4, 2) := by decide +kernel
theorem dX3_mostAlike_15 : decode cX3_mostAlike 15 = .ok (.iconst 0, 1) := by decide +kernel
theorem dX3_mostAlike_16 : decode cX3_mostAlike 16 = .ok (.istore 5, 2) := by decide +kernel
theorem dX3_mostAlike_18 : decode cX3_mostAlike 18 = .ok (.iload 5, 2) := by decide +kernel
theorem dX3_mostAlike_20 : decode cX3_mostAlike 20 = .ok (.aload_n 0, 1) := by decide +kernel
theorem dX3_mostAlike_21 : decode cX3_mostAlike 21 = .ok (.getfield 27, 3) := by decide +kernel
theorem dX3_mostAlike_24 : decode cX3_mostAlike 24 = .ok (.if_icmp .ge 28, 3) := by decide +kernel
theorem dX3_mostAlike_27 : decode cX3_mostAlike 27 = .ok (.aload_n 0, 1) := by decide +kernel
theorem dX3_mostAlike_28 : decode cX3_mostAlike 28 = .ok (.iload_n 3, 1) := by decide +kernel
theorem dX3_mostAlike_29 : decode cX3_mostAlike 29 = .ok (.iload_n 1, 1) := by decide +kernel
theorem dX3_mostAlike_30 : decode cX3_mostAlike 30 = .ok (.invokevirtual 106, 3) := by decide +kernel
theorem dX3_mostAlike_33 : decode cX3_mostAlike 33 = .ok (.aload_n 0, 1) := by decide +kernel
theorem dX3_mostAlike_34 : decode cX3_mostAlike 34 = .ok (.iload 5, 2) := by decide +kernel
theorem dX3_mostAlike_36 : decode cX3_mostAlike 36 = .ok (.iload_n 1, 1) := by decide +kernel
theorem dX3_mostAlike_37 : decode cX3_mostAlike 37 = .ok (.invokevirtual 106, 3) := by decide +kernel
theorem dX3_mostAlike_40 : decode cX3_mostAlike 40 = .ok (.if_icmp .ne 6, 3) := by decide +kernel
theorem dX3_mostAlike_43 : decode cX3_mostAlike 43 = .ok (.iinc 4 1, 3) := by decide +kernel
theorem dX3_mostAlike_46 : decode cX3_mostAlike 46 = .ok (.iinc 5 1, 3) := by decide +kernel
theorem dX3_mostAlike_49 : decode cX3_mostAlike 49 = .ok (.goto (-31), 3) := by decide +kernel
theorem dX3_mostAlike_52 : decode cX3_mostAlike 52 = .ok (.iload_n 2, 1) := by decide +kernel
theorem dX3_mostAlike_53 : decode cX3_mostAlike 53 = .ok (.iload 4, 2) := by decide +kernel
theorem dX3_mostAlike_55 : decode cX3_mostAlike 55 = .ok (.invokestatic 109, 3) := by decide +kernel
theorem dX3_mostAlike_58 : decode cX3_mostAlike 58 = .ok (.istore_n 2, 1) := by decide +kernel
theorem dX3_mostAlike_59 : decode cX3_mostAlike 59 = .ok (.iinc 3 1, 3) := by decide +kernel
theorem dX3_mostAlike_62 : decode cX3_mostAlike 62 = .ok (.goto (-58), 3) := by decide +kernel
theorem dX3_mostAlike_65 : decode cX3_mostAlike 65 = .ok (.iload_n 2, 1) := by decide +kernel
theorem dX3_mostAlike_66 : decode cX3_mostAlike 66 = .ok (.ireturn, 1) := by decide +kernel
theorem dX3_placeOfFitting_0 : decode cX3_placeOfFitting 0 = .ok (.aload_n 0, 1) := by decide +kernel
theorem dX3_placeOfFitting_1 : decode cX3_placeOfFitting 1 = .ok (.getfield 24, 3) := by decide +kernel
theorem dX3_placeOfFitting_4 : decode cX3_placeOfFitting 4 = .ok (.iload_n 1, 1) := by decide +kernel
theorem dX3_placeOfFitting_5 : decode cX3_placeOfFitting 5 = .ok (.iaload, 1) := by decide +kernel
theorem dX3_placeOfFitting_6 : decode cX3_placeOfFitting 6 = .ok (.iconst (-1), 1) := by decide +kernel
theorem dX3_placeOfFitting_7 : decode cX3_placeOfFitting 7 = .ok (.if_icmp .eq 22, 3) := by decide +kernel
theorem dX3_placeOfFitting_10 : decode cX3_placeOfFitting 10 = .ok (.aload_n 0, 1) := by decide +kernel
theorem dX3_placeOfFitting_11 : decode cX3_placeOfFitting 11 = .ok (.getfield 24, 3) := by decide +kernel
theorem dX3_placeOfFitting_14 : decode cX3_placeOfFitting 14 = .ok (.iload_n 1, 1) := by decide +kernel
theorem dX3_placeOfFitting_15 : decode cX3_placeOfFitting 15 = .ok (.iaload, 1) := by decide +kernel
theorem dX3_placeOfFitting_16 : decode cX3_placeOfFitting 16 = .ok (.iload_n 2, 1) := by decide +kernel
theorem dX3_placeOfFitting_17 : decode cX3_placeOfFitting 17 = .ok (.if_icmp .gt 12, 3) := by decide +kernel
theorem dX3_placeOfFitting_20 : decode cX3_placeOfFitting 20 = .ok (.aload_n 0, 1) := by decide +kernel
theorem dX3_placeOfFitting_21 : decode cX3_placeOfFitting 21 = .ok (.getfield 21, 3) := by decide +kernel
theorem dX3_placeOfFitting_24 : decode cX3_placeOfFitting 24 = .ok (.iload_n 1, 1) := by decide +kernel
theorem dX3_placeOfFitting_25 : decode cX3_placeOfFitting 25 = .ok (.iaload, 1) := by decide +kernel
theorem dX3_placeOfFitting_26 : decode cX3_placeOfFitting 26 = .ok (.goto 4, 3) := by decide +kernel
theorem dX3_placeOfFitting_29 : decode cX3_placeOfFitting 29 = .ok (.iconst (-1), 1) := by decide +kernel
theorem dX3_placeOfFitting_30 : decode cX3_placeOfFitting 30 = .ok (.ireturn, 1) := by decide +kernel
theorem dX4_init_0 : decode cX4_init 0 = .ok (.aload_n 0, 1) := by decide +kernel
theorem dX4_init_1 : decode cX4_init 1 = .ok (.invokespecial 3, 3) := by decide +kernel
theorem dX4_init_4 : decode cX4_init 4 = .ok (.aload_n 0, 1) := by decide +kernel
theorem dX4_init_5 : decode cX4_init 5 = .ok (.bipush 8, 2) := by decide +kernel
theorem dX4_init_7 : decode cX4_init 7 = .ok (.newarray .int, 2) := by decide +kernel
theorem dX4_init_9 : decode cX4_init 9 = .ok (.putfield 9, 3) := by decide +kernel
theorem dX4_init_12 : decode cX4_init 12 = .ok (.aload_n 0, 1) := by decide +kernel
theorem dX4_init_13 : decode cX4_init 13 = .ok (.bipush 64, 2) := by decide +kernel
theorem dX4_init_15 : decode cX4_init 15 = .ok (.newarray .int, 2) := by decide +kernel
theorem dX4_init_17 : decode cX4_init 17 = .ok (.putfield 15, 3) := by decide +kernel
theorem dX4_init_20 : decode cX4_init 20 = .ok (.aload_n 0, 1) := by decide +kernel
theorem dX4_init_21 : decode cX4_init 21 = .ok (.bipush 64, 2) := by decide +kernel
theorem dX4_init_23 : decode cX4_init 23 = .ok (.newarray .int, 2) := by decide +kernel
theorem dX4_init_25 : decode cX4_init 25 = .ok (.putfield 18, 3) := by decide +kernel
theorem dX4_init_28 : decode cX4_init 28 = .ok (.aload_n 0, 1) := by decide +kernel
theorem dX4_init_29 : decode cX4_init 29 = .ok (.bipush 64, 2) := by decide +kernel
theorem dX4_init_31 : decode cX4_init 31 = .ok (.newarray .int, 2) := by decide +kernel
theorem dX4_init_33 : decode cX4_init 33 = .ok (.putfield 21, 3) := by decide +kernel
theorem dX4_init_36 : decode cX4_init 36 = .ok (.aload_n 0, 1) := by decide +kernel
theorem dX4_init_37 : decode cX4_init 37 = .ok (.bipush 64, 2) := by decide +kernel
theorem dX4_init_39 : decode cX4_init 39 = .ok (.newarray .int, 2) := by decide +kernel
theorem dX4_init_41 : decode cX4_init 41 = .ok (.putfield 24, 3) := by decide +kernel
theorem dX4_init_44 : decode cX4_init 44 = .ok (.return_, 1) := by decide +kernel
theorem dX4_clear_0 : decode cX4_clear 0 = .ok (.aload_n 0, 1) := by decide +kernel
theorem dX4_clear_1 : decode cX4_clear 1 = .ok (.getfield 9, 3) := by decide +kernel
theorem dX4_clear_4 : decode cX4_clear 4 = .ok (.iload_n 1, 1) := by decide +kernel
theorem dX4_clear_5 : decode cX4_clear 5 = .ok (.iconst 0, 1) := by decide +kernel
theorem dX4_clear_6 : decode cX4_clear 6 = .ok (.iastore, 1) := by decide +kernel
theorem dX4_clear_7 : decode cX4_clear 7 = .ok (.return_, 1) := by decide +kernel
theorem dX4_note_0 : decode cX4_note 0 = .ok (.aload_n 0, 1) := by decide +kernel
theorem dX4_note_1 : decode cX4_note 1 = .ok (.getfield 9, 3) := by decide +kernel
theorem dX4_note_4 : decode cX4_note 4 = .ok (.iload_n 1, 1) := by decide +kernel
theorem dX4_note_5 : decode cX4_note 5 = .ok (.iaload, 1) := by decide +kernel
theorem dX4_note_6 : decode cX4_note 6 = .ok (.bipush 8, 2) := by decide +kernel
theorem dX4_note_8 : decode cX4_note 8 = .ok (.if_icmp .lt 4, 3) := by decide +kernel
theorem dX4_note_11 : decode cX4_note 11 = .ok (.return_, 1) := by decide +kernel
theorem dX4_note_12 : decode cX4_note 12 = .ok (.iload_n 1, 1) := by decide +kernel
theorem dX4_note_13 : decode cX4_note 13 = .ok (.bipush 8, 2) := by decide +kernel
theorem dX4_note_15 : decode cX4_note 15 = .ok (.imul, 1) := by decide +kernel
theorem dX4_note_16 : decode cX4_note 16 = .ok (.aload_n 0, 1) := by decide +kernel
theorem dX4_note_17 : decode cX4_note 17 = .ok (.getfield 9, 3) := by decide +kernel
theorem dX4_note_20 : decode cX4_note 20 = .ok (.iload_n 1, 1) := by decide +kernel
theorem dX4_note_21 : decode cX4_note 21 = .ok (.iaload, 1) := by decide +kernel
theorem dX4_note_22 : decode cX4_note 22 = .ok (.iadd, 1) := by decide +kernel
theorem dX4_note_23 : decode cX4_note 23 = .ok (.istore 6, 2) := by decide +kernel
theorem dX4_note_25 : decode cX4_note 25 = .ok (.aload_n 0, 1) := by decide +kernel
theorem dX4_note_26 : decode cX4_note 26 = .ok (.getfield 15, 3) := by decide +kernel
theorem dX4_note_29 : decode cX4_note 29 = .ok (.iload 6, 2) := by decide +kernel
theorem dX4_note_31 : decode cX4_note 31 = .ok (.iload_n 2, 1) := by decide +kernel
theorem dX4_note_32 : decode cX4_note 32 = .ok (.iastore, 1) := by decide +kernel
theorem dX4_note_33 : decode cX4_note 33 = .ok (.aload_n 0, 1) := by decide +kernel
theorem dX4_note_34 : decode cX4_note 34 = .ok (.getfield 18, 3) := by decide +kernel
theorem dX4_note_37 : decode cX4_note 37 = .ok (.iload 6, 2) := by decide +kernel
theorem dX4_note_39 : decode cX4_note 39 = .ok (.iload_n 3, 1) := by decide +kernel
theorem dX4_note_40 : decode cX4_note 40 = .ok (.iastore, 1) := by decide +kernel
theorem dX4_note_41 : decode cX4_note 41 = .ok (.aload_n 0, 1) := by decide +kernel
theorem dX4_note_42 : decode cX4_note 42 = .ok (.getfield 21, 3) := by decide +kernel
theorem dX4_note_45 : decode cX4_note 45 = .ok (.iload 6, 2) := by decide +kernel
theorem dX4_note_47 : decode cX4_note 47 = .ok (.iload 4, 2) := by decide +kernel
theorem dX4_note_49 : decode cX4_note 49 = .ok (.iastore, 1) := by decide +kernel
theorem dX4_note_50 : decode cX4_note 50 = .ok (.aload_n 0, 1) := by decide +kernel
theorem dX4_note_51 : decode cX4_note 51 = .ok (.getfield 24, 3) := by decide +kernel
theorem dX4_note_54 : decode cX4_note 54 = .ok (.iload 6, 2) := by decide +kernel
theorem dX4_note_56 : decode cX4_note 56 = .ok (.iload 5, 2) := by decide +kernel
theorem dX4_note_58 : decode cX4_note 58 = .ok (.iastore, 1) := by decide +kernel
theorem dX4_note_59 : decode cX4_note 59 = .ok (.aload_n 0, 1) := by decide +kernel
theorem dX4_note_60 : decode cX4_note 60 = .ok (.getfield 9, 3) := by decide +kernel
theorem dX4_note_63 : decode cX4_note 63 = .ok (.iload_n 1, 1) := by decide +kernel
theorem dX4_note_64 : decode cX4_note 64 = .ok (.dup2, 1) := by decide +kernel
theorem dX4_note_65 : decode cX4_note 65 = .ok (.iaload, 1) := by decide +kernel
theorem dX4_note_66 : decode cX4_note 66 = .ok (.iconst 1, 1) := by decide +kernel
theorem dX4_note_67 : decode cX4_note 67 = .ok (.iadd, 1) := by decide +kernel
theorem dX4_note_68 : decode cX4_note 68 = .ok (.iastore, 1) := by decide +kernel
theorem dX4_note_69 : decode cX4_note 69 = .ok (.return_, 1) := by decide +kernel
theorem dX4_lastStep_0 : decode cX4_lastStep 0 = .ok (.iconst (-1), 1) := by decide +kernel
theorem dX4_lastStep_1 : decode cX4_lastStep 1 = .ok (.istore_n 3, 1) := by decide +kernel
theorem dX4_lastStep_2 : decode cX4_lastStep 2 = .ok (.iconst 0, 1) := by decide +kernel
theorem dX4_lastStep_3 : decode cX4_lastStep 3 = .ok (.istore 4, 2) := by decide +kernel
theorem dX4_lastStep_5 : decode cX4_lastStep 5 = .ok (.iload 4, 2) := by decide +kernel
theorem dX4_lastStep_7 : decode cX4_lastStep 7 = .ok (.aload_n 0, 1) := by decide +kernel
theorem dX4_lastStep_8 : decode cX4_lastStep 8 = .ok (.getfield 9, 3) := by decide +kernel
theorem dX4_lastStep_11 : decode cX4_lastStep 11 = .ok (.iload_n 1, 1) := by decide +kernel
theorem dX4_lastStep_12 : decode cX4_lastStep 12 = .ok (.iaload, 1) := by decide +kernel
theorem dX4_lastStep_13 : decode cX4_lastStep 13 = .ok (.if_icmp .ge 33, 3) := by decide +kernel
theorem dX4_lastStep_16 : decode cX4_lastStep 16 = .ok (.aload_n 0, 1) := by decide +kernel
theorem dX4_lastStep_17 : decode cX4_lastStep 17 = .ok (.getfield 15, 3) := by decide +kernel
theorem dX4_lastStep_20 : decode cX4_lastStep 20 = .ok (.iload_n 1, 1) := by decide +kernel
theorem dX4_lastStep_21 : decode cX4_lastStep 21 = .ok (.bipush 8, 2) := by decide +kernel
theorem dX4_lastStep_23 : decode cX4_lastStep 23 = .ok (.imul, 1) := by decide +kernel
theorem dX4_lastStep_24 : decode cX4_lastStep 24 = .ok (.iload 4, 2) := by decide +kernel
theorem dX4_lastStep_26 : decode cX4_lastStep 26 = .ok (.iadd, 1) := by decide +kernel
theorem dX4_lastStep_27 : decode cX4_lastStep 27 = .ok (.iaload, 1) := by decide +kernel
theorem dX4_lastStep_28 : decode cX4_lastStep 28 = .ok (.iload_n 2, 1) := by decide +kernel
theorem dX4_lastStep_29 : decode cX4_lastStep 29 = .ok (.if_icmp .gt 11, 3) := by decide +kernel
theorem dX4_lastStep_32 : decode cX4_lastStep 32 = .ok (.iload_n 1, 1) := by decide +kernel
theorem dX4_lastStep_33 : decode cX4_lastStep 33 = .ok (.bipush 8, 2) := by decide +kernel
theorem dX4_lastStep_35 : decode cX4_lastStep 35 = .ok (.imul, 1) := by decide +kernel
theorem dX4_lastStep_36 : decode cX4_lastStep 36 = .ok (.iload 4, 2) := by decide +kernel
theorem dX4_lastStep_38 : decode cX4_lastStep 38 = .ok (.iadd, 1) := by decide +kernel
theorem dX4_lastStep_39 : decode cX4_lastStep 39 = .ok (.istore_n 3, 1) := by decide +kernel
theorem dX4_lastStep_40 : decode cX4_lastStep 40 = .ok (.iinc 4 1, 3) := by decide +kernel
theorem dX4_lastStep_43 : decode cX4_lastStep 43 = .ok (.goto (-38), 3) := by decide +kernel
theorem dX4_lastStep_46 : decode cX4_lastStep 46 = .ok (.iload_n 3, 1) := by decide +kernel
theorem dX4_lastStep_47 : decode cX4_lastStep 47 = .ok (.ireturn, 1) := by decide +kernel
