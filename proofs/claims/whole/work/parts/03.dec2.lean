theorem dX8_renew_36 : decode cX8_renew 36 = .ok (.return_, 1) := by decide +kernel
theorem dX8_put_0 : decode cX8_put 0 = .ok (.aload_n 0, 1) := by decide +kernel
theorem dX8_put_1 : decode cX8_put 1 = .ok (.getfield 9, 3) := by decide +kernel
theorem dX8_put_4 : decode cX8_put 4 = .ok (.iload_n 1, 1) := by decide +kernel
theorem dX8_put_5 : decode cX8_put 5 = .ok (.aload_n 0, 1) := by decide +kernel
theorem dX8_put_6 : decode cX8_put 6 = .ok (.getfield 15, 3) := by decide +kernel
theorem dX8_put_9 : decode cX8_put 9 = .ok (.ifCond .ne 8, 3) := by decide +kernel
theorem dX8_put_12 : decode cX8_put 12 = .ok (.iload_n 2, 1) := by decide +kernel
theorem dX8_put_13 : decode cX8_put 13 = .ok (.i2b, 1) := by decide +kernel
theorem dX8_put_14 : decode cX8_put 14 = .ok (.goto 17, 3) := by decide +kernel
theorem dX8_put_17 : decode cX8_put 17 = .ok (.aload_n 0, 1) := by decide +kernel
theorem dX8_put_18 : decode cX8_put 18 = .ok (.getfield 15, 3) := by decide +kernel
theorem dX8_put_21 : decode cX8_put 21 = .ok (.iconst 1, 1) := by decide +kernel
theorem dX8_put_22 : decode cX8_put 22 = .ok (.if_icmp .ne 8, 3) := by decide +kernel
theorem dX8_put_25 : decode cX8_put 25 = .ok (.iload_n 2, 1) := by decide +kernel
theorem dX8_put_26 : decode cX8_put 26 = .ok (.i2s, 1) := by decide +kernel
theorem dX8_put_27 : decode cX8_put 27 = .ok (.goto 4, 3) := by decide +kernel
theorem dX8_put_30 : decode cX8_put 30 = .ok (.iload_n 2, 1) := by decide +kernel
theorem dX8_put_31 : decode cX8_put 31 = .ok (.iastore, 1) := by decide +kernel
theorem dX8_put_32 : decode cX8_put 32 = .ok (.return_, 1) := by decide +kernel
theorem dX8_has_0 : decode cX8_has 0 = .ok (.iload_n 1, 1) := by decide +kernel
theorem dX8_has_1 : decode cX8_has 1 = .ok (.ifCond .lt 29, 3) := by decide +kernel
theorem dX8_has_4 : decode cX8_has 4 = .ok (.iload_n 2, 1) := by decide +kernel
theorem dX8_has_5 : decode cX8_has 5 = .ok (.ifCond .lt 25, 3) := by decide +kernel
theorem dX8_has_8 : decode cX8_has 8 = .ok (.iload_n 2, 1) := by decide +kernel
theorem dX8_has_9 : decode cX8_has 9 = .ok (.aload_n 0, 1) := by decide +kernel
theorem dX8_has_10 : decode cX8_has 10 = .ok (.getfield 19, 3) := by decide +kernel
theorem dX8_has_13 : decode cX8_has 13 = .ok (.if_icmp .gt 17, 3) := by decide +kernel
theorem dX8_has_16 : decode cX8_has 16 = .ok (.iload_n 1, 1) := by decide +kernel
theorem dX8_has_17 : decode cX8_has 17 = .ok (.aload_n 0, 1) := by decide +kernel
theorem dX8_has_18 : decode cX8_has 18 = .ok (.getfield 19, 3) := by decide +kernel
theorem dX8_has_21 : decode cX8_has 21 = .ok (.iload_n 2, 1) := by decide +kernel
theorem dX8_has_22 : decode cX8_has 22 = .ok (.isub, 1) := by decide +kernel
theorem dX8_has_23 : decode cX8_has 23 = .ok (.if_icmp .gt 7, 3) := by decide +kernel
theorem dX8_has_26 : decode cX8_has 26 = .ok (.iconst 1, 1) := by decide +kernel
theorem dX8_has_27 : decode cX8_has 27 = .ok (.goto 4, 3) := by decide +kernel
theorem dX8_has_30 : decode cX8_has 30 = .ok (.iconst 0, 1) := by decide +kernel
theorem dX8_has_31 : decode cX8_has 31 = .ok (.ireturn, 1) := by decide +kernel
theorem dX9_init_0 : decode cX9_init 0 = .ok (.aload_n 0, 1) := by decide +kernel
theorem dX9_init_1 : decode cX9_init 1 = .ok (.invokespecial 3, 3) := by decide +kernel
theorem dX9_init_4 : decode cX9_init 4 = .ok (.aload_n 0, 1) := by decide +kernel
theorem dX9_init_5 : decode cX9_init 5 = .ok (.iconst 0, 1) := by decide +kernel
theorem dX9_init_6 : decode cX9_init 6 = .ok (.putfield 9, 3) := by decide +kernel
theorem dX9_init_9 : decode cX9_init 9 = .ok (.aload_n 0, 1) := by decide +kernel
theorem dX9_init_10 : decode cX9_init 10 = .ok (.iconst (-1), 1) := by decide +kernel
theorem dX9_init_11 : decode cX9_init 11 = .ok (.putfield 15, 3) := by decide +kernel
theorem dX9_init_14 : decode cX9_init 14 = .ok (.aload_n 0, 1) := by decide +kernel
theorem dX9_init_15 : decode cX9_init 15 = .ok (.iconst 0, 1) := by decide +kernel
theorem dX9_init_16 : decode cX9_init 16 = .ok (.putfield 18, 3) := by decide +kernel
theorem dX9_init_19 : decode cX9_init 19 = .ok (.aload_n 0, 1) := by decide +kernel
theorem dX9_init_20 : decode cX9_init 20 = .ok (.aload_n 1, 1) := by decide +kernel
theorem dX9_init_21 : decode cX9_init 21 = .ok (.putfield 21, 3) := by decide +kernel
theorem dX9_init_24 : decode cX9_init 24 = .ok (.aload_n 0, 1) := by decide +kernel
theorem dX9_init_25 : decode cX9_init 25 = .ok (.iload_n 2, 1) := by decide +kernel
theorem dX9_init_26 : decode cX9_init 26 = .ok (.putfield 25, 3) := by decide +kernel
theorem dX9_init_29 : decode cX9_init 29 = .ok (.aload_n 0, 1) := by decide +kernel
theorem dX9_init_30 : decode cX9_init 30 = .ok (.iconst 0, 1) := by decide +kernel
theorem dX9_init_31 : decode cX9_init 31 = .ok (.aload_n 1, 1) := by decide +kernel
theorem dX9_init_32 : decode cX9_init 32 = .ok (.arraylength, 1) := by decide +kernel
theorem dX9_init_33 : decode cX9_init 33 = .ok (.iload_n 2, 1) := by decide +kernel
theorem dX9_init_34 : decode cX9_init 34 = .ok (.imul, 1) := by decide +kernel
theorem dX9_init_35 : decode cX9_init 35 = .ok (.iconst 1, 1) := by decide +kernel
theorem dX9_init_36 : decode cX9_init 36 = .ok (.isub, 1) := by decide +kernel
theorem dX9_init_37 : decode cX9_init 37 = .ok (.invokestatic 28, 3) := by decide +kernel
theorem dX9_init_40 : decode cX9_init 40 = .ok (.newarray .int, 2) := by decide +kernel
theorem dX9_init_42 : decode cX9_init 42 = .ok (.putfield 34, 3) := by decide +kernel
theorem dX9_init_45 : decode cX9_init 45 = .ok (.return_, 1) := by decide +kernel
theorem dX9_isFull_0 : decode cX9_isFull 0 = .ok (.aload_n 0, 1) := by decide +kernel
theorem dX9_isFull_1 : decode cX9_isFull 1 = .ok (.getfield 9, 3) := by decide +kernel
theorem dX9_isFull_4 : decode cX9_isFull 4 = .ok (.aload_n 0, 1) := by decide +kernel
theorem dX9_isFull_5 : decode cX9_isFull 5 = .ok (.getfield 34, 3) := by decide +kernel
theorem dX9_isFull_8 : decode cX9_isFull 8 = .ok (.arraylength, 1) := by decide +kernel
theorem dX9_isFull_9 : decode cX9_isFull 9 = .ok (.if_icmp .lt 7, 3) := by decide +kernel
theorem dX9_isFull_12 : decode cX9_isFull 12 = .ok (.iconst 1, 1) := by decide +kernel
theorem dX9_isFull_13 : decode cX9_isFull 13 = .ok (.goto 4, 3) := by decide +kernel
theorem dX9_isFull_16 : decode cX9_isFull 16 = .ok (.iconst 0, 1) := by decide +kernel
theorem dX9_isFull_17 : decode cX9_isFull 17 = .ok (.ireturn, 1) := by decide +kernel
theorem dX9_push_0 : decode cX9_push 0 = .ok (.aload_n 0, 1) := by decide +kernel
theorem dX9_push_1 : decode cX9_push 1 = .ok (.getfield 34, 3) := by decide +kernel
theorem dX9_push_4 : decode cX9_push 4 = .ok (.aload_n 0, 1) := by decide +kernel
theorem dX9_push_5 : decode cX9_push 5 = .ok (.getfield 9, 3) := by decide +kernel
theorem dX9_push_8 : decode cX9_push 8 = .ok (.iload_n 1, 1) := by decide +kernel
theorem dX9_push_9 : decode cX9_push 9 = .ok (.iastore, 1) := by decide +kernel
theorem dX9_push_10 : decode cX9_push 10 = .ok (.aload_n 0, 1) := by decide +kernel
theorem dX9_push_11 : decode cX9_push 11 = .ok (.dup, 1) := by decide +kernel
theorem dX9_push_12 : decode cX9_push 12 = .ok (.getfield 9, 3) := by decide +kernel
theorem dX9_push_15 : decode cX9_push 15 = .ok (.iconst 1, 1) := by decide +kernel
theorem dX9_push_16 : decode cX9_push 16 = .ok (.iadd, 1) := by decide +kernel
theorem dX9_push_17 : decode cX9_push 17 = .ok (.putfield 9, 3) := by decide +kernel
theorem dX9_push_20 : decode cX9_push 20 = .ok (.aload_n 0, 1) := by decide +kernel
theorem dX9_push_21 : decode cX9_push 21 = .ok (.invokevirtual 37, 3) := by decide +kernel
theorem dX9_push_24 : decode cX9_push 24 = .ok (.return_, 1) := by decide +kernel
theorem dX9_cutTo_0 : decode cX9_cutTo 0 = .ok (.aload_n 0, 1) := by decide +kernel
theorem dX9_cutTo_1 : decode cX9_cutTo 1 = .ok (.iload_n 1, 1) := by decide +kernel
theorem dX9_cutTo_2 : decode cX9_cutTo 2 = .ok (.putfield 9, 3) := by decide +kernel
theorem dX9_cutTo_5 : decode cX9_cutTo 5 = .ok (.aload_n 0, 1) := by decide +kernel
theorem dX9_cutTo_6 : decode cX9_cutTo 6 = .ok (.invokevirtual 37, 3) := by decide +kernel
theorem dX9_cutTo_9 : decode cX9_cutTo 9 = .ok (.return_, 1) := by decide +kernel
theorem dX9_judge_0 : decode cX9_judge 0 = .ok (.iconst 0, 1) := by decide +kernel
theorem dX9_judge_1 : decode cX9_judge 1 = .ok (.istore_n 1, 1) := by decide +kernel
theorem dX9_judge_2 : decode cX9_judge 2 = .ok (.iconst 0, 1) := by decide +kernel
theorem dX9_judge_3 : decode cX9_judge 3 = .ok (.istore_n 2, 1) := by decide +kernel
theorem dX9_judge_4 : decode cX9_judge 4 = .ok (.aload_n 0, 1) := by decide +kernel
theorem dX9_judge_5 : decode cX9_judge 5 = .ok (.iconst 0, 1) := by decide +kernel
theorem dX9_judge_6 : decode cX9_judge 6 = .ok (.putfield 18, 3) := by decide +kernel
theorem dX9_judge_9 : decode cX9_judge 9 = .ok (.iconst 0, 1) := by decide +kernel
theorem dX9_judge_10 : decode cX9_judge 10 = .ok (.istore_n 3, 1) := by decide +kernel
theorem dX9_judge_11 : decode cX9_judge 11 = .ok (.iload_n 3, 1) := by decide +kernel
theorem dX9_judge_12 : decode cX9_judge 12 = .ok (.aload_n 0, 1) := by decide +kernel
theorem dX9_judge_13 : decode cX9_judge 13 = .ok (.getfield 9, 3) := by decide +kernel
theorem dX9_judge_16 : decode cX9_judge 16 = .ok (.if_icmp .ge 49, 3) := by decide +kernel
theorem dX9_judge_19 : decode cX9_judge 19 = .ok (.iload_n 2, 1) := by decide +kernel
theorem dX9_judge_20 : decode cX9_judge 20 = .ok (.aload_n 0, 1) := by decide +kernel
theorem dX9_judge_21 : decode cX9_judge 21 = .ok (.getfield 25, 3) := by decide +kernel
theorem dX9_judge_24 : decode cX9_judge 24 = .ok (.if_icmp .ge 12, 3) := by decide +kernel
theorem dX9_judge_27 : decode cX9_judge 27 = .ok (.aload_n 0, 1) := by decide +kernel
theorem dX9_judge_28 : decode cX9_judge 28 = .ok (.iload_n 1, 1) := by decide +kernel
theorem dX9_judge_29 : decode cX9_judge 29 = .ok (.iload_n 3, 1) := by decide +kernel
theorem dX9_judge_30 : decode cX9_judge 30 = .ok (.invokevirtual 40, 3) := by decide +kernel
theorem dX9_judge_33 : decode cX9_judge 33 = .ok (.ifCond .ne 9, 3) := by decide +kernel
theorem dX9_judge_36 : decode cX9_judge 36 = .ok (.aload_n 0, 1) := by decide +kernel
theorem dX9_judge_37 : decode cX9_judge 37 = .ok (.iload_n 3, 1) := by decide +kernel
theorem dX9_judge_38 : decode cX9_judge 38 = .ok (.putfield 15, 3) := by decide +kernel
theorem dX9_judge_41 : decode cX9_judge 41 = .ok (.return_, 1) := by decide +kernel
theorem dX9_judge_42 : decode cX9_judge 42 = .ok (.iinc 1 1, 3) := by decide +kernel
theorem dX9_judge_45 : decode cX9_judge 45 = .ok (.iload_n 1, 1) := by decide +kernel
theorem dX9_judge_46 : decode cX9_judge 46 = .ok (.aload_n 0, 1) := by decide +kernel
theorem dX9_judge_47 : decode cX9_judge 47 = .ok (.getfield 21, 3) := by decide +kernel
theorem dX9_judge_50 : decode cX9_judge 50 = .ok (.arraylength, 1) := by decide +kernel
theorem dX9_judge_51 : decode cX9_judge 51 = .ok (.if_icmp .ne 8, 3) := by decide +kernel
theorem dX9_judge_54 : decode cX9_judge 54 = .ok (.iconst 0, 1) := by decide +kernel
theorem dX9_judge_55 : decode cX9_judge 55 = .ok (.istore_n 1, 1) := by decide +kernel
theorem dX9_judge_56 : decode cX9_judge 56 = .ok (.iinc 2 1, 3) := by decide +kernel
theorem dX9_judge_59 : decode cX9_judge 59 = .ok (.iinc 3 1, 3) := by decide +kernel
theorem dX9_judge_62 : decode cX9_judge 62 = .ok (.goto (-51), 3) := by decide +kernel
theorem dX9_judge_65 : decode cX9_judge 65 = .ok (.iload_n 1, 1) := by decide +kernel
theorem dX9_judge_66 : decode cX9_judge 66 = .ok (.aload_n 0, 1) := by decide +kernel
theorem dX9_judge_67 : decode cX9_judge 67 = .ok (.getfield 21, 3) := by decide +kernel
theorem dX9_judge_70 : decode cX9_judge 70 = .ok (.arraylength, 1) := by decide +kernel
theorem dX9_judge_71 : decode cX9_judge 71 = .ok (.iconst 1, 1) := by decide +kernel
theorem dX9_judge_72 : decode cX9_judge 72 = .ok (.isub, 1) := by decide +kernel
theorem dX9_judge_73 : decode cX9_judge 73 = .ok (.if_icmp .ne 7, 3) := by decide +kernel
theorem dX9_judge_76 : decode cX9_judge 76 = .ok (.iconst 1, 1) := by decide +kernel
theorem dX9_judge_77 : decode cX9_judge 77 = .ok (.goto 4, 3) := by decide +kernel
theorem dX9_judge_80 : decode cX9_judge 80 = .ok (.iconst 0, 1) := by decide +kernel
theorem dX9_judge_81 : decode cX9_judge 81 = .ok (.istore_n 3, 1) := by decide +kernel
theorem dX9_judge_82 : decode cX9_judge 82 = .ok (.aload_n 0, 1) := by decide +kernel
theorem dX9_judge_83 : decode cX9_judge 83 = .ok (.aload_n 0, 1) := by decide +kernel
theorem dX9_judge_84 : decode cX9_judge 84 = .ok (.getfield 9, 3) := by decide +kernel
theorem dX9_judge_87 : decode cX9_judge 87 = .ok (.ifCond .eq 7, 3) := by decide +kernel
theorem dX9_judge_90 : decode cX9_judge 90 = .ok (.iload_n 3, 1) := by decide +kernel
theorem dX9_judge_91 : decode cX9_judge 91 = .ok (.ifCond .eq 7, 3) := by decide +kernel
theorem dX9_judge_94 : decode cX9_judge 94 = .ok (.iconst (-1), 1) := by decide +kernel
theorem dX9_judge_95 : decode cX9_judge 95 = .ok (.goto 7, 3) := by decide +kernel
theorem dX9_judge_98 : decode cX9_judge 98 = .ok (.aload_n 0, 1) := by decide +kernel
theorem dX9_judge_99 : decode cX9_judge 99 = .ok (.getfield 9, 3) := by decide +kernel
theorem dX9_judge_102 : decode cX9_judge 102 = .ok (.putfield 15, 3) := by decide +kernel
theorem dX9_judge_105 : decode cX9_judge 105 = .ok (.aload_n 0, 1) := by decide +kernel
theorem dX9_judge_106 : decode cX9_judge 106 = .ok (.iload_n 3, 1) := by decide +kernel
theorem dX9_judge_107 : decode cX9_judge 107 = .ok (.ifCond .eq 9, 3) := by decide +kernel
theorem dX9_judge_110 : decode cX9_judge 110 = .ok (.iload_n 2, 1) := by decide +kernel
theorem dX9_judge_111 : decode cX9_judge 111 = .ok (.iconst 1, 1) := by decide +kernel
theorem dX9_judge_112 : decode cX9_judge 112 = .ok (.iadd, 1) := by decide +kernel
theorem dX9_judge_113 : decode cX9_judge 113 = .ok (.goto 4, 3) := by decide +kernel
theorem dX9_judge_116 : decode cX9_judge 116 = .ok (.iconst 0, 1) := by decide +kernel
theorem dX9_judge_117 : decode cX9_judge 117 = .ok (.putfield 18, 3) := by decide +kernel
theorem dX9_judge_120 : decode cX9_judge 120 = .ok (.return_, 1) := by decide +kernel
theorem dX9_fits_0 : decode cX9_fits 0 = .ok (.aload_n 0, 1) := by decide +kernel
theorem dX9_fits_1 : decode cX9_fits 1 = .ok (.getfield 34, 3) := by decide +kernel
theorem dX9_fits_4 : decode cX9_fits 4 = .ok (.iload_n 2, 1) := by decide +kernel
theorem dX9_fits_5 : decode cX9_fits 5 = .ok (.iaload, 1) := by decide +kernel
theorem dX9_fits_6 : decode cX9_fits 6 = .ok (.istore_n 3, 1) := by decide +kernel
theorem dX9_fits_7 : decode cX9_fits 7 = .ok (.iload_n 3, 1) := by decide +kernel
theorem dX9_fits_8 : decode cX9_fits 8 = .ok (.bipush 97, 2) := by decide +kernel
theorem dX9_fits_10 : decode cX9_fits 10 = .ok (.if_icmp .lt 13, 3) := by decide +kernel
theorem dX9_fits_13 : decode cX9_fits 13 = .ok (.iload_n 3, 1) := by decide +kernel
theorem dX9_fits_14 : decode cX9_fits 14 = .ok (.bipush 105, 2) := by decide +kernel
theorem dX9_fits_16 : decode cX9_fits 16 = .ok (.if_icmp .ge 7, 3) := by decide +kernel
theorem dX9_fits_19 : decode cX9_fits 19 = .ok (.iconst 1, 1) := by decide +kernel
theorem dX9_fits_20 : decode cX9_fits 20 = .ok (.goto 4, 3) := by decide +kernel
theorem dX9_fits_23 : decode cX9_fits 23 = .ok (.iconst 0, 1) := by decide +kernel
theorem dX9_fits_24 : decode cX9_fits 24 = .ok (.istore 4, 2) := by decide +kernel
theorem dX9_fits_26 : decode cX9_fits 26 = .ok (.iload_n 3, 1) := by decide +kernel
theorem dX9_fits_27 : decode cX9_fits 27 = .ok (.bipush 48, 2) := by decide +kernel
theorem dX9_fits_29 : decode cX9_fits 29 = .ok (.if_icmp .lt 13, 3) := by decide +kernel
theorem dX9_fits_32 : decode cX9_fits 32 = .ok (.iload_n 3, 1) := by decide +kernel
theorem dX9_fits_33 : decode cX9_fits 33 = .ok (.bipush 57, 2) := by decide +kernel
theorem dX9_fits_35 : decode cX9_fits 35 = .ok (.if_icmp .gt 7, 3) := by decide +kernel
theorem dX9_fits_38 : decode cX9_fits 38 = .ok (.iconst 1, 1) := by decide +kernel
theorem dX9_fits_39 : decode cX9_fits 39 = .ok (.goto 4, 3) := by decide +kernel
theorem dX9_fits_42 : decode cX9_fits 42 = .ok (.iconst 0, 1) := by decide +kernel
theorem dX9_fits_43 : decode cX9_fits 43 = .ok (.istore 5, 2) := by decide +kernel
theorem dX9_fits_45 : decode cX9_fits 45 = .ok (.aload_n 0, 1) := by decide +kernel
theorem dX9_fits_46 : decode cX9_fits 46 = .ok (.getfield 21, 3) := by decide +kernel
theorem dX9_fits_49 : decode cX9_fits 49 = .ok (.iload_n 1, 1) := by decide +kernel
theorem dX9_fits_50 : decode cX9_fits 50 = .ok (.iaload, 1) := by decide +kernel
theorem dX9_fits_51 : decode cX9_fits 51 = .ok (.tableswitch 135 0 5 #[37, 40, 67, 84, 87, 111], 37) := by decide +kernel
theorem dX9_fits_88 : decode cX9_fits 88 = .ok (.iload 4, 2) := by decide +kernel
theorem dX9_fits_90 : decode cX9_fits 90 = .ok (.ireturn, 1) := by decide +kernel
theorem dX9_fits_91 : decode cX9_fits 91 = .ok (.iload 4, 2) := by decide +kernel
theorem dX9_fits_93 : decode cX9_fits 93 = .ok (.ifCond .eq 23, 3) := by decide +kernel
theorem dX9_fits_96 : decode cX9_fits 96 = .ok (.iload_n 2, 1) := by decide +kernel
theorem dX9_fits_97 : decode cX9_fits 97 = .ok (.ifCond .le 19, 3) := by decide +kernel
theorem dX9_fits_100 : decode cX9_fits 100 = .ok (.iload_n 3, 1) := by decide +kernel
theorem dX9_fits_101 : decode cX9_fits 101 = .ok (.aload_n 0, 1) := by decide +kernel
theorem dX9_fits_102 : decode cX9_fits 102 = .ok (.getfield 34, 3) := by decide +kernel
theorem dX9_fits_105 : decode cX9_fits 105 = .ok (.iload_n 2, 1) := by decide +kernel
theorem dX9_fits_106 : decode cX9_fits 106 = .ok (.iconst 1, 1) := by decide +kernel
theorem dX9_fits_107 : decode cX9_fits 107 = .ok (.isub, 1) := by decide +kernel
theorem dX9_fits_108 : decode cX9_fits 108 = .ok (.iaload, 1) := by decide +kernel
theorem dX9_fits_109 : decode cX9_fits 109 = .ok (.if_icmp .eq 7, 3) := by decide +kernel
theorem dX9_fits_112 : decode cX9_fits 112 = .ok (.iconst 1, 1) := by decide +kernel
theorem dX9_fits_113 : decode cX9_fits 113 = .ok (.goto 4, 3) := by decide +kernel
theorem dX9_fits_116 : decode cX9_fits 116 = .ok (.iconst 0, 1) := by decide +kernel
theorem dX9_fits_117 : decode cX9_fits 117 = .ok (.ireturn, 1) := by decide +kernel
theorem dX9_fits_118 : decode cX9_fits 118 = .ok (.iload 5, 2) := by decide +kernel
theorem dX9_fits_120 : decode cX9_fits 120 = .ok (.ifCond .eq 13, 3) := by decide +kernel
theorem dX9_fits_123 : decode cX9_fits 123 = .ok (.iload_n 3, 1) := by decide +kernel
theorem dX9_fits_124 : decode cX9_fits 124 = .ok (.bipush 48, 2) := by decide +kernel
theorem dX9_fits_126 : decode cX9_fits 126 = .ok (.if_icmp .eq 7, 3) := by decide +kernel
theorem dX9_fits_129 : decode cX9_fits 129 = .ok (.iconst 1, 1) := by decide +kernel
theorem dX9_fits_130 : decode cX9_fits 130 = .ok (.goto 4, 3) := by decide +kernel
theorem dX9_fits_133 : decode cX9_fits 133 = .ok (.iconst 0, 1) := by decide +kernel
theorem dX9_fits_134 : decode cX9_fits 134 = .ok (.ireturn, 1) := by decide +kernel
theorem dX9_fits_135 : decode cX9_fits 135 = .ok (.iload 5, 2) := by decide +kernel
theorem dX9_fits_137 : decode cX9_fits 137 = .ok (.ireturn, 1) := by decide +kernel
theorem dX9_fits_138 : decode cX9_fits 138 = .ok (.iload_n 3, 1) := by decide +kernel
theorem dX9_fits_139 : decode cX9_fits 139 = .ok (.bipush 117, 2) := by decide +kernel
theorem dX9_fits_141 : decode cX9_fits 141 = .ok (.if_icmp .eq 15, 3) := by decide +kernel
theorem dX9_fits_144 : decode cX9_fits 144 = .ok (.iload_n 3, 1) := by decide +kernel
theorem dX9_fits_145 : decode cX9_fits 145 = .ok (.bipush 102, 2) := by decide +kernel
theorem dX9_fits_147 : decode cX9_fits 147 = .ok (.if_icmp .eq 9, 3) := by decide +kernel
theorem dX9_fits_150 : decode cX9_fits 150 = .ok (.iload_n 3, 1) := by decide +kernel
theorem dX9_fits_151 : decode cX9_fits 151 = .ok (.bipush 100, 2) := by decide +kernel
theorem dX9_fits_153 : decode cX9_fits 153 = .ok (.if_icmp .ne 7, 3) := by decide +kernel
theorem dX9_fits_156 : decode cX9_fits 156 = .ok (.iconst 1, 1) := by decide +kernel
theorem dX9_fits_157 : decode cX9_fits 157 = .ok (.goto 4, 3) := by decide +kernel
theorem dX9_fits_160 : decode cX9_fits 160 = .ok (.iconst 0, 1) := by decide +kernel
theorem dX9_fits_161 : decode cX9_fits 161 = .ok (.ireturn, 1) := by decide +kernel
theorem dX9_fits_162 : decode cX9_fits 162 = .ok (.iload_n 3, 1) := by decide +kernel
theorem dX9_fits_163 : decode cX9_fits 163 = .ok (.bipush 111, 2) := by decide +kernel
theorem dX9_fits_165 : decode cX9_fits 165 = .ok (.if_icmp .eq 15, 3) := by decide +kernel
theorem dX9_fits_168 : decode cX9_fits 168 = .ok (.iload_n 3, 1) := by decide +kernel
theorem dX9_fits_169 : decode cX9_fits 169 = .ok (.bipush 99, 2) := by decide +kernel
theorem dX9_fits_171 : decode cX9_fits 171 = .ok (.if_icmp .eq 9, 3) := by decide +kernel
theorem dX9_fits_174 : decode cX9_fits 174 = .ok (.iload_n 3, 1) := by decide +kernel
theorem dX9_fits_175 : decode cX9_fits 175 = .ok (.bipush 114, 2) := by decide +kernel
theorem dX9_fits_177 : decode cX9_fits 177 = .ok (.if_icmp .ne 7, 3) := by decide +kernel
theorem dX9_fits_180 : decode cX9_fits 180 = .ok (.iconst 1, 1) := by decide +kernel
theorem dX9_fits_181 : decode cX9_fits 181 = .ok (.goto 4, 3) := by decide +kernel
theorem dX9_fits_184 : decode cX9_fits 184 = .ok (.iconst 0, 1) := by decide +kernel
theorem dX9_fits_185 : decode cX9_fits 185 = .ok (.ireturn, 1) := by decide +kernel
theorem dX9_fits_186 : decode cX9_fits 186 = .ok (.iload_n 3, 1) := by decide +kernel
theorem dX9_fits_187 : decode cX9_fits 187 = .ok (.bipush 59, 2) := by decide +kernel
theorem dX9_fits_189 : decode cX9_fits 189 = .ok (.if_icmp .ne 7, 3) := by decide +kernel
theorem dX9_fits_192 : decode cX9_fits 192 = .ok (.iconst 1, 1) := by decide +kernel
theorem dX9_fits_193 : decode cX9_fits 193 = .ok (.goto 4, 3) := by decide +kernel
theorem dX9_fits_196 : decode cX9_fits 196 = .ok (.iconst 0, 1) := by decide +kernel
theorem dX9_fits_197 : decode cX9_fits 197 = .ok (.ireturn, 1) := by decide +kernel
theorem dX9_number_0 : decode cX9_number 0 = .ok (.aload_n 0, 1) := by decide +kernel
theorem dX9_number_1 : decode cX9_number 1 = .ok (.getfield 34, 3) := by decide +kernel
theorem dX9_number_4 : decode cX9_number 4 = .ok (.iload_n 1, 1) := by decide +kernel
theorem dX9_number_5 : decode cX9_number 5 = .ok (.aload_n 0, 1) := by decide +kernel
theorem dX9_number_6 : decode cX9_number 6 = .ok (.getfield 21, 3) := by decide +kernel
theorem dX9_number_9 : decode cX9_number 9 = .ok (.arraylength, 1) := by decide +kernel
theorem dX9_number_10 : decode cX9_number 10 = .ok (.imul, 1) := by decide +kernel
theorem dX9_number_11 : decode cX9_number 11 = .ok (.iload_n 2, 1) := by decide +kernel
theorem dX9_number_12 : decode cX9_number 12 = .ok (.iadd, 1) := by decide +kernel
theorem dX9_number_13 : decode cX9_number 13 = .ok (.iaload, 1) := by decide +kernel
theorem dX9_number_14 : decode cX9_number 14 = .ok (.istore_n 3, 1) := by decide +kernel
theorem dX9_number_15 : decode cX9_number 15 = .ok (.aload_n 0, 1) := by decide +kernel
theorem dX9_number_16 : decode cX9_number 16 = .ok (.getfield 21, 3) := by decide +kernel
theorem dX9_number_19 : decode cX9_number 19 = .ok (.iload_n 2, 1) := by decide +kernel
theorem dX9_number_20 : decode cX9_number 20 = .ok (.iaload, 1) := by decide +kernel
theorem dX9_number_21 : decode cX9_number 21 = .ok (.tableswitch 67 0 4 #[35, 35, 40, 40, 45], 35) := by decide +kernel
theorem dX9_number_56 : decode cX9_number 56 = .ok (.iload_n 3, 1) := by decide +kernel
theorem dX9_number_57 : decode cX9_number 57 = .ok (.bipush 97, 2) := by decide +kernel
theorem dX9_number_59 : decode cX9_number 59 = .ok (.isub, 1) := by decide +kernel
theorem dX9_number_60 : decode cX9_number 60 = .ok (.ireturn, 1) := by decide +kernel
theorem dX9_number_61 : decode cX9_number 61 = .ok (.iload_n 3, 1) := by decide +kernel
theorem dX9_number_62 : decode cX9_number 62 = .ok (.bipush 48, 2) := by decide +kernel
theorem dX9_number_64 : decode cX9_number 64 = .ok (.isub, 1) := by decide +kernel
theorem dX9_number_65 : decode cX9_number 65 = .ok (.ireturn, 1) := by decide +kernel
theorem dX9_number_66 : decode cX9_number 66 = .ok (.iload_n 3, 1) := by decide +kernel
theorem dX9_number_67 : decode cX9_number 67 = .ok (.bipush 117, 2) := by decide +kernel
theorem dX9_number_69 : decode cX9_number 69 = .ok (.if_icmp .ne 7, 3) := by decide +kernel
theorem dX9_number_72 : decode cX9_number 72 = .ok (.iconst 0, 1) := by decide +kernel
theorem dX9_number_73 : decode cX9_number 73 = .ok (.goto 14, 3) := by decide +kernel
theorem dX9_number_76 : decode cX9_number 76 = .ok (.iload_n 3, 1) := by decide +kernel
theorem dX9_number_77 : decode cX9_number 77 = .ok (.bipush 102, 2) := by decide +kernel
theorem dX9_number_79 : decode cX9_number 79 = .ok (.if_icmp .ne 7, 3) := by decide +kernel
theorem dX9_number_82 : decode cX9_number 82 = .ok (.iconst 1, 1) := by decide +kernel
theorem dX9_number_83 : decode cX9_number 83 = .ok (.goto 4, 3) := by decide +kernel
theorem dX9_number_86 : decode cX9_number 86 = .ok (.iconst 2, 1) := by decide +kernel
theorem dX9_number_87 : decode cX9_number 87 = .ok (.ireturn, 1) := by decide +kernel
theorem dX9_number_88 : decode cX9_number 88 = .ok (.iload_n 3, 1) := by decide +kernel
theorem dX9_number_89 : decode cX9_number 89 = .ok (.bipush 111, 2) := by decide +kernel
theorem dX9_number_91 : decode cX9_number 91 = .ok (.if_icmp .ne 7, 3) := by decide +kernel
theorem dX9_number_94 : decode cX9_number 94 = .ok (.iconst 0, 1) := by decide +kernel
theorem dX9_number_95 : decode cX9_number 95 = .ok (.goto 14, 3) := by decide +kernel
theorem dX9_number_98 : decode cX9_number 98 = .ok (.iload_n 3, 1) := by decide +kernel
theorem dX9_number_99 : decode cX9_number 99 = .ok (.bipush 99, 2) := by decide +kernel
theorem dX9_number_101 : decode cX9_number 101 = .ok (.if_icmp .ne 7, 3) := by decide +kernel
theorem dX9_number_104 : decode cX9_number 104 = .ok (.iconst 1, 1) := by decide +kernel
theorem dX9_number_105 : decode cX9_number 105 = .ok (.goto 4, 3) := by decide +kernel
theorem dX9_number_108 : decode cX9_number 108 = .ok (.iconst 2, 1) := by decide +kernel
theorem dX9_number_109 : decode cX9_number 109 = .ok (.ireturn, 1) := by decide +kernel
theorem dX10_init_0 : decode cX10_init 0 = .ok (.aload_n 0, 1) := by decide +kernel
theorem dX10_init_1 : decode cX10_init 1 = .ok (.invokespecial 1, 3) := by decide +kernel
theorem dX10_init_4 : decode cX10_init 4 = .ok (.aload_n 0, 1) := by decide +kernel
theorem dX10_init_5 : decode cX10_init 5 = .ok (.new 7, 3) := by decide +kernel
theorem dX10_init_8 : decode cX10_init 8 = .ok (.dup, 1) := by decide +kernel
theorem dX10_init_9 : decode cX10_init 9 = .ok (.getstatic 9, 3) := by decide +kernel
theorem dX10_init_12 : decode cX10_init 12 = .ok (.bipush 10, 2) := by decide +kernel
theorem dX10_init_14 : decode cX10_init 14 = .ok (.invokespecial 15, 3) := by decide +kernel
theorem dX10_init_17 : decode cX10_init 17 = .ok (.putfield 18, 3) := by decide +kernel
theorem dX10_init_20 : decode cX10_init 20 = .ok (.aload_n 0, 1) := by decide +kernel
theorem dX10_init_21 : decode cX10_init 21 = .ok (.new 7, 3) := by decide +kernel
theorem dX10_init_24 : decode cX10_init 24 = .ok (.dup, 1) := by decide +kernel
theorem dX10_init_25 : decode cX10_init 25 = .ok (.getstatic 22, 3) := by decide +kernel
theorem dX10_init_28 : decode cX10_init 28 = .ok (.bipush 8, 2) := by decide +kernel
theorem dX10_init_30 : decode cX10_init 30 = .ok (.invokespecial 15, 3) := by decide +kernel
theorem dX10_init_33 : decode cX10_init 33 = .ok (.putfield 25, 3) := by decide +kernel
theorem dX10_init_36 : decode cX10_init 36 = .ok (.aload_n 0, 1) := by decide +kernel
theorem dX10_init_37 : decode cX10_init 37 = .ok (.new 28, 3) := by decide +kernel
theorem dX10_init_40 : decode cX10_init 40 = .ok (.dup, 1) := by decide +kernel
theorem dX10_init_41 : decode cX10_init 41 = .ok (.invokespecial 30, 3) := by decide +kernel
theorem dX10_init_44 : decode cX10_init 44 = .ok (.putfield 31, 3) := by decide +kernel
theorem dX10_init_47 : decode cX10_init 47 = .ok (.aload_n 0, 1) := by decide +kernel
theorem dX10_init_48 : decode cX10_init 48 = .ok (.new 35, 3) := by decide +kernel
theorem dX10_init_51 : decode cX10_init 51 = .ok (.dup, 1) := by decide +kernel
theorem dX10_init_52 : decode cX10_init 52 = .ok (.aload_n 0, 1) := by decide +kernel
theorem dX10_init_53 : decode cX10_init 53 = .ok (.getfield 31, 3) := by decide +kernel
theorem dX10_init_56 : decode cX10_init 56 = .ok (.new 37, 3) := by decide +kernel
theorem dX10_init_59 : decode cX10_init 59 = .ok (.dup, 1) := by decide +kernel
theorem dX10_init_60 : decode cX10_init 60 = .ok (.invokespecial 39, 3) := by decide +kernel
theorem dX10_init_63 : decode cX10_init 63 = .ok (.invokespecial 40, 3) := by decide +kernel
theorem dX10_init_66 : decode cX10_init 66 = .ok (.putfield 43, 3) := by decide +kernel
theorem dX10_init_69 : decode cX10_init 69 = .ok (.aload_n 0, 1) := by decide +kernel
theorem dX10_init_70 : decode cX10_init 70 = .ok (.getfield 43, 3) := by decide +kernel
theorem dX10_init_73 : decode cX10_init 73 = .ok (.getfield 47, 3) := by decide +kernel
theorem dX10_init_76 : decode cX10_init 76 = .ok (.aload_n 0, 1) := by decide +kernel
theorem dX10_init_77 : decode cX10_init 77 = .ok (.getfield 18, 3) := by decide +kernel
theorem dX10_init_80 : decode cX10_init 80 = .ok (.iconst (-1), 1) := by decide +kernel
theorem dX10_init_81 : decode cX10_init 81 = .ok (.invokevirtual 51, 3) := by decide +kernel
theorem dX10_init_84 : decode cX10_init 84 = .ok (.aload_n 0, 1) := by decide +kernel
theorem dX10_init_85 : decode cX10_init 85 = .ok (.new 55, 3) := by decide +kernel
theorem dX10_init_88 : decode cX10_init 88 = .ok (.dup, 1) := by decide +kernel
theorem dX10_init_89 : decode cX10_init 89 = .ok (.invokespecial 57, 3) := by decide +kernel
theorem dX10_init_92 : decode cX10_init 92 = .ok (.putfield 58, 3) := by decide +kernel
theorem dX10_init_95 : decode cX10_init 95 = .ok (.aload_n 0, 1) := by decide +kernel
theorem dX10_init_96 : decode cX10_init 96 = .ok (.getfield 58, 3) := by decide +kernel
theorem dX10_init_99 : decode cX10_init 99 = .ok (.aload_n 0, 1) := by decide +kernel
theorem dX10_init_100 : decode cX10_init 100 = .ok (.getfield 43, 3) := by decide +kernel
theorem dX10_init_103 : decode cX10_init 103 = .ok (.invokevirtual 62, 3) := by decide +kernel
theorem dX10_init_106 : decode cX10_init 106 = .ok (.new 35, 3) := by decide +kernel
theorem dX10_init_109 : decode cX10_init 109 = .ok (.dup, 1) := by decide +kernel
theorem dX10_init_110 : decode cX10_init 110 = .ok (.aload_n 0, 1) := by decide +kernel
theorem dX10_init_111 : decode cX10_init 111 = .ok (.getfield 31, 3) := by decide +kernel
theorem dX10_init_114 : decode cX10_init 114 = .ok (.aload_n 0, 1) := by decide +kernel
theorem dX10_init_115 : decode cX10_init 115 = .ok (.getfield 43, 3) := by decide +kernel
theorem dX10_init_118 : decode cX10_init 118 = .ok (.getfield 47, 3) := by decide +kernel
theorem dX10_init_121 : decode cX10_init 121 = .ok (.invokespecial 40, 3) := by decide +kernel
theorem dX10_init_124 : decode cX10_init 124 = .ok (.astore_n 1, 1) := by decide +kernel
theorem dX10_init_125 : decode cX10_init 125 = .ok (.new 55, 3) := by decide +kernel
theorem dX10_init_128 : decode cX10_init 128 = .ok (.dup, 1) := by decide +kernel
theorem dX10_init_129 : decode cX10_init 129 = .ok (.invokespecial 57, 3) := by decide +kernel
theorem dX10_init_132 : decode cX10_init 132 = .ok (.astore_n 2, 1) := by decide +kernel
theorem dX10_init_133 : decode cX10_init 133 = .ok (.aload_n 0, 1) := by decide +kernel
theorem dX10_init_134 : decode cX10_init 134 = .ok (.new 66, 3) := by decide +kernel
theorem dX10_init_137 : decode cX10_init 137 = .ok (.dup, 1) := by decide +kernel
theorem dX10_init_138 : decode cX10_init 138 = .ok (.aload_n 0, 1) := by decide +kernel
theorem dX10_init_139 : decode cX10_init 139 = .ok (.getfield 43, 3) := by decide +kernel
theorem dX10_init_142 : decode cX10_init 142 = .ok (.aload_n 1, 1) := by decide +kernel
theorem dX10_init_143 : decode cX10_init 143 = .ok (.aload_n 2, 1) := by decide +kernel
theorem dX10_init_144 : decode cX10_init 144 = .ok (.invokespecial 68, 3) := by decide +kernel
theorem dX10_init_147 : decode cX10_init 147 = .ok (.putfield 71, 3) := by decide +kernel
theorem dX10_init_150 : decode cX10_init 150 = .ok (.aload_n 0, 1) := by decide +kernel
theorem dX10_init_151 : decode cX10_init 151 = .ok (.new 75, 3) := by decide +kernel
theorem dX10_init_154 : decode cX10_init 154 = .ok (.dup, 1) := by decide +kernel
theorem dX10_init_155 : decode cX10_init 155 = .ok (.aload_n 0, 1) := by decide +kernel
theorem dX10_init_156 : decode cX10_init 156 = .ok (.getfield 43, 3) := by decide +kernel
theorem dX10_init_159 : decode cX10_init 159 = .ok (.aload_n 1, 1) := by decide +kernel
theorem dX10_init_160 : decode cX10_init 160 = .ok (.aload_n 2, 1) := by decide +kernel
theorem dX10_init_161 : decode cX10_init 161 = .ok (.invokespecial 77, 3) := by decide +kernel
theorem dX10_init_164 : decode cX10_init 164 = .ok (.putfield 78, 3) := by decide +kernel
theorem dX10_init_167 : decode cX10_init 167 = .ok (.aload_n 0, 1) := by decide +kernel
theorem dX10_init_168 : decode cX10_init 168 = .ok (.new 82, 3) := by decide +kernel
theorem dX10_init_171 : decode cX10_init 171 = .ok (.dup, 1) := by decide +kernel
theorem dX10_init_172 : decode cX10_init 172 = .ok (.aload_n 0, 1) := by decide +kernel
theorem dX10_init_173 : decode cX10_init 173 = .ok (.getfield 43, 3) := by decide +kernel
theorem dX10_init_176 : decode cX10_init 176 = .ok (.aload_n 1, 1) := by decide +kernel
theorem dX10_init_177 : decode cX10_init 177 = .ok (.aload_n 2, 1) := by decide +kernel
theorem dX10_init_178 : decode cX10_init 178 = .ok (.invokespecial 84, 3) := by decide +kernel
theorem dX10_init_181 : decode cX10_init 181 = .ok (.putfield 85, 3) := by decide +kernel
theorem dX10_init_184 : decode cX10_init 184 = .ok (.aload_n 0, 1) := by decide +kernel
theorem dX10_init_185 : decode cX10_init 185 = .ok (.iconst 4, 1) := by decide +kernel
theorem dX10_init_186 : decode cX10_init 186 = .ok (.anewarray 89, 3) := by decide +kernel
theorem dX10_init_189 : decode cX10_init 189 = .ok (.putfield 91, 3) := by decide +kernel
theorem dX10_init_192 : decode cX10_init 192 = .ok (.iconst 0, 1) := by decide +kernel
theorem dX10_init_193 : decode cX10_init 193 = .ok (.istore_n 3, 1) := by decide +kernel
theorem dX10_init_194 : decode cX10_init 194 = .ok (.iload_n 3, 1) := by decide +kernel
theorem dX10_init_195 : decode cX10_init 195 = .ok (.iconst 4, 1) := by decide +kernel
theorem dX10_init_196 : decode cX10_init 196 = .ok (.if_icmp .ge 22, 3) := by decide +kernel
theorem dX10_init_199 : decode cX10_init 199 = .ok (.aload_n 0, 1) := by decide +kernel
theorem dX10_init_200 : decode cX10_init 200 = .ok (.getfield 91, 3) := by decide +kernel
theorem dX10_init_203 : decode cX10_init 203 = .ok (.iload_n 3, 1) := by decide +kernel
theorem dX10_init_204 : decode cX10_init 204 = .ok (.new 89, 3) := by decide +kernel
theorem dX10_init_207 : decode cX10_init 207 = .ok (.dup, 1) := by decide +kernel
theorem dX10_init_208 : decode cX10_init 208 = .ok (.invokespecial 95, 3) := by decide +kernel
theorem dX10_init_211 : decode cX10_init 211 = .ok (.aastore, 1) := by decide +kernel
theorem dX10_init_212 : decode cX10_init 212 = .ok (.iinc 3 1, 3) := by decide +kernel
theorem dX10_init_215 : decode cX10_init 215 = .ok (.goto (-21), 3) := by decide +kernel
theorem dX10_init_218 : decode cX10_init 218 = .ok (.aload_n 0, 1) := by decide +kernel
theorem dX10_init_219 : decode cX10_init 219 = .ok (.iconst 0, 1) := by decide +kernel
theorem dX10_init_220 : decode cX10_init 220 = .ok (.putfield 96, 3) := by decide +kernel
theorem dX10_init_223 : decode cX10_init 223 = .ok (.return_, 1) := by decide +kernel
theorem dX10_type_0 : decode cX10_type 0 = .ok (.iload_n 1, 1) := by decide +kernel
theorem dX10_type_1 : decode cX10_type 1 = .ok (.iconst 2, 1) := by decide +kernel
theorem dX10_type_2 : decode cX10_type 2 = .ok (.invokestatic 100, 3) := by decide +kernel
theorem dX10_type_5 : decode cX10_type 5 = .ok (.ifCond .eq 13, 3) := by decide +kernel
theorem dX10_type_8 : decode cX10_type 8 = .ok (.iload_n 2, 1) := by decide +kernel
theorem dX10_type_9 : decode cX10_type 9 = .ok (.sipush 256, 3) := by decide +kernel
theorem dX10_type_12 : decode cX10_type 12 = .ok (.invokestatic 100, 3) := by decide +kernel
theorem dX10_type_15 : decode cX10_type 15 = .ok (.ifCond .ne 6, 3) := by decide +kernel
theorem dX10_type_18 : decode cX10_type 18 = .ok (.bipush (-2), 2) := by decide +kernel
theorem dX10_type_20 : decode cX10_type 20 = .ok (.ireturn, 1) := by decide +kernel
theorem dX10_type_21 : decode cX10_type 21 = .ok (.aload_n 0, 1) := by decide +kernel
theorem dX10_type_22 : decode cX10_type 22 = .ok (.iload_n 1, 1) := by decide +kernel
theorem dX10_type_23 : decode cX10_type 23 = .ok (.invokevirtual 104, 3) := by decide +kernel
theorem dX10_type_26 : decode cX10_type 26 = .ok (.astore_n 3, 1) := by decide +kernel
theorem dX10_type_27 : decode cX10_type 27 = .ok (.aload_n 3, 1) := by decide +kernel
theorem dX10_type_28 : decode cX10_type 28 = .ok (.invokevirtual 108, 3) := by decide +kernel
theorem dX10_type_31 : decode cX10_type 31 = .ok (.ifCond .eq 6, 3) := by decide +kernel
theorem dX10_type_34 : decode cX10_type 34 = .ok (.bipush (-4), 2) := by decide +kernel
theorem dX10_type_36 : decode cX10_type 36 = .ok (.ireturn, 1) := by decide +kernel
theorem dX10_type_37 : decode cX10_type 37 = .ok (.aload_n 3, 1) := by decide +kernel
theorem dX10_type_38 : decode cX10_type 38 = .ok (.iload_n 2, 1) := by decide +kernel
theorem dX10_type_39 : decode cX10_type 39 = .ok (.invokevirtual 112, 3) := by decide +kernel
theorem dX10_type_42 : decode cX10_type 42 = .ok (.aload_n 0, 1) := by decide +kernel
theorem dX10_type_43 : decode cX10_type 43 = .ok (.iload_n 1, 1) := by decide +kernel
theorem dX10_type_44 : decode cX10_type 44 = .ok (.invokevirtual 116, 3) := by decide +kernel
theorem dX10_type_47 : decode cX10_type 47 = .ok (.aload_n 3, 1) := by decide +kernel
theorem dX10_type_48 : decode cX10_type 48 = .ok (.getfield 119, 3) := by decide +kernel
theorem dX10_type_51 : decode cX10_type 51 = .ok (.ireturn, 1) := by decide +kernel
theorem dX10_wipe_0 : decode cX10_wipe 0 = .ok (.iload_n 1, 1) := by decide +kernel
theorem dX10_wipe_1 : decode cX10_wipe 1 = .ok (.iconst 2, 1) := by decide +kernel
theorem dX10_wipe_2 : decode cX10_wipe 2 = .ok (.invokestatic 100, 3) := by decide +kernel
theorem dX10_wipe_5 : decode cX10_wipe 5 = .ok (.ifCond .ne 6, 3) := by decide +kernel
theorem dX10_wipe_8 : decode cX10_wipe 8 = .ok (.bipush (-2), 2) := by decide +kernel
theorem dX10_wipe_10 : decode cX10_wipe 10 = .ok (.ireturn, 1) := by decide +kernel
theorem dX10_wipe_11 : decode cX10_wipe 11 = .ok (.aload_n 0, 1) := by decide +kernel
theorem dX10_wipe_12 : decode cX10_wipe 12 = .ok (.iload_n 1, 1) := by decide +kernel
theorem dX10_wipe_13 : decode cX10_wipe 13 = .ok (.invokevirtual 104, 3) := by decide +kernel
theorem dX10_wipe_16 : decode cX10_wipe 16 = .ok (.astore_n 2, 1) := by decide +kernel
theorem dX10_wipe_17 : decode cX10_wipe 17 = .ok (.aload_n 2, 1) := by decide +kernel
theorem dX10_wipe_18 : decode cX10_wipe 18 = .ok (.getfield 119, 3) := by decide +kernel
theorem dX10_wipe_21 : decode cX10_wipe 21 = .ok (.istore_n 3, 1) := by decide +kernel
theorem dX10_wipe_22 : decode cX10_wipe 22 = .ok (.aload_n 2, 1) := by decide +kernel
theorem dX10_wipe_23 : decode cX10_wipe 23 = .ok (.iconst 0, 1) := by decide +kernel
theorem dX10_wipe_24 : decode cX10_wipe 24 = .ok (.invokevirtual 122, 3) := by decide +kernel
theorem dX10_wipe_27 : decode cX10_wipe 27 = .ok (.aload_n 0, 1) := by decide +kernel
theorem dX10_wipe_28 : decode cX10_wipe 28 = .ok (.iload_n 1, 1) := by decide +kernel
theorem dX10_wipe_29 : decode cX10_wipe 29 = .ok (.invokevirtual 116, 3) := by decide +kernel
theorem dX10_wipe_32 : decode cX10_wipe 32 = .ok (.iload_n 3, 1) := by decide +kernel
theorem dX10_wipe_33 : decode cX10_wipe 33 = .ok (.ireturn, 1) := by decide +kernel
theorem dX10_undo_0 : decode cX10_undo 0 = .ok (.iload_n 1, 1) := by decide +kernel
theorem dX10_undo_1 : decode cX10_undo 1 = .ok (.iconst 2, 1) := by decide +kernel
theorem dX10_undo_2 : decode cX10_undo 2 = .ok (.invokestatic 100, 3) := by decide +kernel
theorem dX10_undo_5 : decode cX10_undo 5 = .ok (.ifCond .ne 6, 3) := by decide +kernel
theorem dX10_undo_8 : decode cX10_undo 8 = .ok (.bipush (-2), 2) := by decide +kernel
theorem dX10_undo_10 : decode cX10_undo 10 = .ok (.ireturn, 1) := by decide +kernel
theorem dX10_undo_11 : decode cX10_undo 11 = .ok (.aload_n 0, 1) := by decide +kernel
theorem dX10_undo_12 : decode cX10_undo 12 = .ok (.iload_n 1, 1) := by decide +kernel
theorem dX10_undo_13 : decode cX10_undo 13 = .ok (.invokevirtual 104, 3) := by decide +kernel
theorem dX10_undo_16 : decode cX10_undo 16 = .ok (.astore_n 2, 1) := by decide +kernel
theorem dX10_undo_17 : decode cX10_undo 17 = .ok (.aload_n 2, 1) := by decide +kernel
theorem dX10_undo_18 : decode cX10_undo 18 = .ok (.getfield 119, 3) := by decide +kernel
theorem dX10_undo_21 : decode cX10_undo 21 = .ok (.ifCond .ne 6, 3) := by decide +kernel
theorem dX10_undo_24 : decode cX10_undo 24 = .ok (.bipush (-3), 2) := by decide +kernel
theorem dX10_undo_26 : decode cX10_undo 26 = .ok (.ireturn, 1) := by decide +kernel
theorem dX10_undo_27 : decode cX10_undo 27 = .ok (.aload_n 2, 1) := by decide +kernel
theorem dX10_undo_28 : decode cX10_undo 28 = .ok (.aload_n 2, 1) := by decide +kernel
theorem dX10_undo_29 : decode cX10_undo 29 = .ok (.getfield 119, 3) := by decide +kernel
theorem dX10_undo_32 : decode cX10_undo 32 = .ok (.iconst 1, 1) := by decide +kernel
theorem dX10_undo_33 : decode cX10_undo 33 = .ok (.isub, 1) := by decide +kernel
theorem dX10_undo_34 : decode cX10_undo 34 = .ok (.invokevirtual 122, 3) := by decide +kernel
theorem dX10_undo_37 : decode cX10_undo 37 = .ok (.aload_n 0, 1) := by decide +kernel
theorem dX10_undo_38 : decode cX10_undo 38 = .ok (.iload_n 1, 1) := by decide +kernel
theorem dX10_undo_39 : decode cX10_undo 39 = .ok (.invokevirtual 116, 3) := by decide +kernel
theorem dX10_undo_42 : decode cX10_undo 42 = .ok (.aload_n 2, 1) := by decide +kernel
theorem dX10_undo_43 : decode cX10_undo 43 = .ok (.getfield 119, 3) := by decide +kernel
theorem dX10_undo_46 : decode cX10_undo 46 = .ok (.ireturn, 1) := by decide +kernel
theorem dX10_fault_0 : decode cX10_fault 0 = .ok (.iload_n 1, 1) := by decide +kernel
theorem dX10_fault_1 : decode cX10_fault 1 = .ok (.iconst 2, 1) := by decide +kernel
theorem dX10_fault_2 : decode cX10_fault 2 = .ok (.invokestatic 100, 3) := by decide +kernel
theorem dX10_fault_5 : decode cX10_fault 5 = .ok (.ifCond .eq 14, 3) := by decide +kernel
theorem dX10_fault_8 : decode cX10_fault 8 = .ok (.aload_n 0, 1) := by decide +kernel
theorem dX10_fault_9 : decode cX10_fault 9 = .ok (.iload_n 1, 1) := by decide +kernel
theorem dX10_fault_10 : decode cX10_fault 10 = .ok (.invokevirtual 104, 3) := by decide +kernel
theorem dX10_fault_13 : decode cX10_fault 13 = .ok (.getfield 125, 3) := by decide +kernel
theorem dX10_fault_16 : decode cX10_fault 16 = .ok (.goto 5, 3) := by decide +kernel
theorem dX10_fault_19 : decode cX10_fault 19 = .ok (.bipush (-2), 2) := by decide +kernel
theorem dX10_fault_21 : decode cX10_fault 21 = .ok (.ireturn, 1) := by decide +kernel
theorem dX10_way_0 : decode cX10_way 0 = .ok (.iload_n 1, 1) := by decide +kernel
theorem dX10_way_1 : decode cX10_way 1 = .ok (.aload_n 0, 1) := by decide +kernel
theorem dX10_way_2 : decode cX10_way 2 = .ok (.getfield 18, 3) := by decide +kernel
theorem dX10_way_5 : decode cX10_way 5 = .ok (.getfield 128, 3) := by decide +kernel
theorem dX10_way_8 : decode cX10_way 8 = .ok (.invokestatic 100, 3) := by decide +kernel
theorem dX10_way_11 : decode cX10_way 11 = .ok (.ifCond .eq 23, 3) := by decide +kernel
theorem dX10_way_14 : decode cX10_way 14 = .ok (.iload_n 2, 1) := by decide +kernel
theorem dX10_way_15 : decode cX10_way 15 = .ok (.iconst 4, 1) := by decide +kernel
theorem dX10_way_16 : decode cX10_way 16 = .ok (.invokestatic 100, 3) := by decide +kernel
theorem dX10_way_19 : decode cX10_way 19 = .ok (.ifCond .eq 15, 3) := by decide +kernel
theorem dX10_way_22 : decode cX10_way 22 = .ok (.aload_n 0, 1) := by decide +kernel
theorem dX10_way_23 : decode cX10_way 23 = .ok (.getfield 18, 3) := by decide +kernel
theorem dX10_way_26 : decode cX10_way 26 = .ok (.iload_n 1, 1) := by decide +kernel
theorem dX10_way_27 : decode cX10_way 27 = .ok (.iload_n 2, 1) := by decide +kernel
theorem dX10_way_28 : decode cX10_way 28 = .ok (.invokevirtual 131, 3) := by decide +kernel
theorem dX10_way_31 : decode cX10_way 31 = .ok (.goto 5, 3) := by decide +kernel
theorem dX10_way_34 : decode cX10_way 34 = .ok (.bipush (-2), 2) := by decide +kernel
theorem dX10_way_36 : decode cX10_way 36 = .ok (.ireturn, 1) := by decide +kernel
theorem dX10_carter_0 : decode cX10_carter 0 = .ok (.aload_n 0, 1) := by decide +kernel
theorem dX10_carter_1 : decode cX10_carter 1 = .ok (.iload_n 1, 1) := by decide +kernel
theorem dX10_carter_2 : decode cX10_carter 2 = .ok (.invokevirtual 135, 3) := by decide +kernel
theorem dX10_carter_5 : decode cX10_carter 5 = .ok (.ifCond .eq 23, 3) := by decide +kernel
theorem dX10_carter_8 : decode cX10_carter 8 = .ok (.iload_n 2, 1) := by decide +kernel
theorem dX10_carter_9 : decode cX10_carter 9 = .ok (.iconst 5, 1) := by decide +kernel
theorem dX10_carter_10 : decode cX10_carter 10 = .ok (.invokestatic 100, 3) := by decide +kernel
theorem dX10_carter_13 : decode cX10_carter 13 = .ok (.ifCond .eq 15, 3) := by decide +kernel
theorem dX10_carter_16 : decode cX10_carter 16 = .ok (.aload_n 0, 1) := by decide +kernel
theorem dX10_carter_17 : decode cX10_carter 17 = .ok (.getfield 43, 3) := by decide +kernel
theorem dX10_carter_20 : decode cX10_carter 20 = .ok (.iload_n 1, 1) := by decide +kernel
theorem dX10_carter_21 : decode cX10_carter 21 = .ok (.iload_n 2, 1) := by decide +kernel
theorem dX10_carter_22 : decode cX10_carter 22 = .ok (.invokevirtual 139, 3) := by decide +kernel
theorem dX10_carter_25 : decode cX10_carter 25 = .ok (.goto 5, 3) := by decide +kernel
theorem dX10_carter_28 : decode cX10_carter 28 = .ok (.bipush (-2), 2) := by decide +kernel
theorem dX10_carter_30 : decode cX10_carter 30 = .ok (.ireturn, 1) := by decide +kernel
theorem dX10_late_0 : decode cX10_late 0 = .ok (.iload_n 1, 1) := by decide +kernel
theorem dX10_late_1 : decode cX10_late 1 = .ok (.bipush 8, 2) := by decide +kernel
theorem dX10_late_3 : decode cX10_late 3 = .ok (.invokestatic 100, 3) := by decide +kernel
theorem dX10_late_6 : decode cX10_late 6 = .ok (.ifCond .eq 12, 3) := by decide +kernel
theorem dX10_late_9 : decode cX10_late 9 = .ok (.iload_n 2, 1) := by decide +kernel
theorem dX10_late_10 : decode cX10_late 10 = .ok (.bipush 10, 2) := by decide +kernel
theorem dX10_late_12 : decode cX10_late 12 = .ok (.invokestatic 100, 3) := by decide +kernel
theorem dX10_late_15 : decode cX10_late 15 = .ok (.ifCond .ne 6, 3) := by decide +kernel
theorem dX10_late_18 : decode cX10_late 18 = .ok (.bipush (-2), 2) := by decide +kernel
theorem dX10_late_20 : decode cX10_late 20 = .ok (.ireturn, 1) := by decide +kernel
theorem dX10_late_21 : decode cX10_late 21 = .ok (.aload_n 0, 1) := by decide +kernel
theorem dX10_late_22 : decode cX10_late 22 = .ok (.getfield 43, 3) := by decide +kernel
theorem dX10_late_25 : decode cX10_late 25 = .ok (.getfield 142, 3) := by decide +kernel
theorem dX10_late_28 : decode cX10_late 28 = .ok (.iload_n 1, 1) := by decide +kernel
theorem dX10_late_29 : decode cX10_late 29 = .ok (.iaload, 1) := by decide +kernel
theorem dX10_late_30 : decode cX10_late 30 = .ok (.istore_n 3, 1) := by decide +kernel
theorem dX10_late_31 : decode cX10_late 31 = .ok (.aload_n 0, 1) := by decide +kernel
theorem dX10_late_32 : decode cX10_late 32 = .ok (.getfield 43, 3) := by decide +kernel
theorem dX10_late_35 : decode cX10_late 35 = .ok (.getfield 142, 3) := by decide +kernel
theorem dX10_late_38 : decode cX10_late 38 = .ok (.iload_n 1, 1) := by decide +kernel
theorem dX10_late_39 : decode cX10_late 39 = .ok (.iload_n 2, 1) := by decide +kernel
theorem dX10_late_40 : decode cX10_late 40 = .ok (.iastore, 1) := by decide +kernel
theorem dX10_late_41 : decode cX10_late 41 = .ok (.aload_n 0, 1) := by decide +kernel
theorem dX10_late_42 : decode cX10_late 42 = .ok (.getfield 58, 3) := by decide +kernel
theorem dX10_late_45 : decode cX10_late 45 = .ok (.aload_n 0, 1) := by decide +kernel
theorem dX10_late_46 : decode cX10_late 46 = .ok (.getfield 43, 3) := by decide +kernel
theorem dX10_late_49 : decode cX10_late 49 = .ok (.invokevirtual 62, 3) := by decide +kernel
theorem dX10_late_52 : decode cX10_late 52 = .ok (.iload_n 3, 1) := by decide +kernel
theorem dX10_late_53 : decode cX10_late 53 = .ok (.ireturn, 1) := by decide +kernel
theorem dX10_answer_0 : decode cX10_answer 0 = .ok (.iload_n 1, 1) := by decide +kernel
theorem dX10_answer_1 : decode cX10_answer 1 = .ok (.bipush 40, 2) := by decide +kernel
theorem dX10_answer_3 : decode cX10_answer 3 = .ok (.invokestatic 100, 3) := by decide +kernel
theorem dX10_answer_6 : decode cX10_answer 6 = .ok (.ifCond .eq 12, 3) := by decide +kernel
theorem dX10_answer_9 : decode cX10_answer 9 = .ok (.iload_n 2, 1) := by decide +kernel
theorem dX10_answer_10 : decode cX10_answer 10 = .ok (.bipush 8, 2) := by decide +kernel
theorem dX10_answer_12 : decode cX10_answer 12 = .ok (.invokestatic 100, 3) := by decide +kernel
theorem dX10_answer_15 : decode cX10_answer 15 = .ok (.ifCond .ne 6, 3) := by decide +kernel
theorem dX10_answer_18 : decode cX10_answer 18 = .ok (.bipush (-2), 2) := by decide +kernel
theorem dX10_answer_20 : decode cX10_answer 20 = .ok (.ireturn, 1) := by decide +kernel
theorem dX10_answer_21 : decode cX10_answer 21 = .ok (.aload_n 0, 1) := by decide +kernel
theorem dX10_answer_22 : decode cX10_answer 22 = .ok (.getfield 31, 3) := by decide +kernel
theorem dX10_answer_25 : decode cX10_answer 25 = .ok (.getfield 145, 3) := by decide +kernel
theorem dX10_answer_28 : decode cX10_answer 28 = .ok (.bipush 8, 2) := by decide +kernel
theorem dX10_answer_30 : decode cX10_answer 30 = .ok (.if_icmp .lt 6, 3) := by decide +kernel
theorem dX10_answer_33 : decode cX10_answer 33 = .ok (.bipush (-4), 2) := by decide +kernel
theorem dX10_answer_35 : decode cX10_answer 35 = .ok (.ireturn, 1) := by decide +kernel
theorem dX10_answer_36 : decode cX10_answer 36 = .ok (.aload_n 0, 1) := by decide +kernel
theorem dX10_answer_37 : decode cX10_answer 37 = .ok (.getfield 31, 3) := by decide +kernel
theorem dX10_answer_40 : decode cX10_answer 40 = .ok (.iload_n 1, 1) := by decide +kernel
theorem dX10_answer_41 : decode cX10_answer 41 = .ok (.iload_n 2, 1) := by decide +kernel
theorem dX10_answer_42 : decode cX10_answer 42 = .ok (.invokevirtual 147, 3) := by decide +kernel
theorem dX10_answer_45 : decode cX10_answer 45 = .ok (.aload_n 0, 1) := by decide +kernel
theorem dX10_answer_46 : decode cX10_answer 46 = .ok (.getfield 58, 3) := by decide +kernel
theorem dX10_answer_49 : decode cX10_answer 49 = .ok (.aload_n 0, 1) := by decide +kernel
theorem dX10_answer_50 : decode cX10_answer 50 = .ok (.getfield 43, 3) := by decide +kernel
theorem dX10_answer_53 : decode cX10_answer 53 = .ok (.invokevirtual 62, 3) := by decide +kernel
theorem dX10_answer_56 : decode cX10_answer 56 = .ok (.aload_n 0, 1) := by decide +kernel
theorem dX10_answer_57 : decode cX10_answer 57 = .ok (.getfield 31, 3) := by decide +kernel
theorem dX10_answer_60 : decode cX10_answer 60 = .ok (.getfield 145, 3) := by decide +kernel
theorem dX10_answer_63 : decode cX10_answer 63 = .ok (.ireturn, 1) := by decide +kernel
theorem dX10_back_0 : decode cX10_back 0 = .ok (.aload_n 0, 1) := by decide +kernel
theorem dX10_back_1 : decode cX10_back 1 = .ok (.getfield 31, 3) := by decide +kernel
theorem dX10_back_4 : decode cX10_back 4 = .ok (.getfield 145, 3) := by decide +kernel
theorem dX10_back_7 : decode cX10_back 7 = .ok (.ifCond .ne 6, 3) := by decide +kernel
theorem dX10_back_10 : decode cX10_back 10 = .ok (.bipush (-3), 2) := by decide +kernel
theorem dX10_back_12 : decode cX10_back 12 = .ok (.ireturn, 1) := by decide +kernel
theorem dX10_back_13 : decode cX10_back 13 = .ok (.aload_n 0, 1) := by decide +kernel
theorem dX10_back_14 : decode cX10_back 14 = .ok (.getfield 31, 3) := by decide +kernel
theorem dX10_back_17 : decode cX10_back 17 = .ok (.dup, 1) := by decide +kernel
theorem dX10_back_18 : decode cX10_back 18 = .ok (.getfield 145, 3) := by decide +kernel
theorem dX10_back_21 : decode cX10_back 21 = .ok (.iconst 1, 1) := by decide +kernel
theorem dX10_back_22 : decode cX10_back 22 = .ok (.isub, 1) := by decide +kernel
theorem dX10_back_23 : decode cX10_back 23 = .ok (.putfield 145, 3) := by decide +kernel
theorem dX10_back_26 : decode cX10_back 26 = .ok (.aload_n 0, 1) := by decide +kernel
theorem dX10_back_27 : decode cX10_back 27 = .ok (.getfield 58, 3) := by decide +kernel
theorem dX10_back_30 : decode cX10_back 30 = .ok (.aload_n 0, 1) := by decide +kernel
theorem dX10_back_31 : decode cX10_back 31 = .ok (.getfield 43, 3) := by decide +kernel
theorem dX10_back_34 : decode cX10_back 34 = .ok (.invokevirtual 62, 3) := by decide +kernel
theorem dX10_back_37 : decode cX10_back 37 = .ok (.aload_n 0, 1) := by decide +kernel
theorem dX10_back_38 : decode cX10_back 38 = .ok (.getfield 31, 3) := by decide +kernel
theorem dX10_back_41 : decode cX10_back 41 = .ok (.getfield 145, 3) := by decide +kernel
theorem dX10_back_44 : decode cX10_back 44 = .ok (.ireturn, 1) := by decide +kernel
theorem dX10_read_0 : decode cX10_read 0 = .ok (.iload_n 1, 1) := by decide +kernel
theorem dX10_read_1 : decode cX10_read 1 = .ok (.iconst 4, 1) := by decide +kernel
theorem dX10_read_2 : decode cX10_read 2 = .ok (.invokestatic 100, 3) := by decide +kernel
theorem dX10_read_5 : decode cX10_read 5 = .ok (.ifCond .ne 6, 3) := by decide +kernel
theorem dX10_read_8 : decode cX10_read 8 = .ok (.bipush (-2), 2) := by decide +kernel
theorem dX10_read_10 : decode cX10_read 10 = .ok (.ireturn, 1) := by decide +kernel
theorem dX10_read_11 : decode cX10_read 11 = .ok (.aload_n 0, 1) := by decide +kernel
theorem dX10_read_12 : decode cX10_read 12 = .ok (.getfield 91, 3) := by decide +kernel
theorem dX10_read_15 : decode cX10_read 15 = .ok (.iload_n 1, 1) := by decide +kernel
theorem dX10_read_16 : decode cX10_read 16 = .ok (.aaload, 1) := by decide +kernel
theorem dX10_read_17 : decode cX10_read 17 = .ok (.astore_n 2, 1) := by decide +kernel
theorem dX10_read_18 : decode cX10_read 18 = .ok (.aload_n 2, 1) := by decide +kernel
theorem dX10_read_19 : decode cX10_read 19 = .ok (.getfield 150, 3) := by decide +kernel
theorem dX10_read_22 : decode cX10_read 22 = .ok (.ifCond .eq 9, 3) := by decide +kernel
theorem dX10_read_25 : decode cX10_read 25 = .ok (.aload_n 0, 1) := by decide +kernel
theorem dX10_read_26 : decode cX10_read 26 = .ok (.iconst 1, 1) := by decide +kernel
theorem dX10_read_27 : decode cX10_read 27 = .ok (.invokevirtual 154, 3) := by decide +kernel
theorem dX10_read_30 : decode cX10_read 30 = .ok (.ireturn, 1) := by decide +kernel
theorem dX10_read_31 : decode cX10_read 31 = .ok (.aload_n 0, 1) := by decide +kernel
theorem dX10_read_32 : decode cX10_read 32 = .ok (.getfield 31, 3) := by decide +kernel
theorem dX10_read_35 : decode cX10_read 35 = .ok (.getfield 145, 3) := by decide +kernel
theorem dX10_read_38 : decode cX10_read 38 = .ok (.istore_n 3, 1) := by decide +kernel
theorem dX10_read_39 : decode cX10_read 39 = .ok (.iconst 0, 1) := by decide +kernel
theorem dX10_read_40 : decode cX10_read 40 = .ok (.istore 4, 2) := by decide +kernel
theorem dX10_read_42 : decode cX10_read 42 = .ok (.iload 4, 2) := by decide +kernel
theorem dX10_read_44 : decode cX10_read 44 = .ok (.iconst 1, 1) := by decide +kernel
theorem dX10_read_45 : decode cX10_read 45 = .ok (.iadd, 1) := by decide +kernel
theorem dX10_read_46 : decode cX10_read 46 = .ok (.aload_n 2, 1) := by decide +kernel
theorem dX10_read_47 : decode cX10_read 47 = .ok (.getfield 158, 3) := by decide +kernel
theorem dX10_read_50 : decode cX10_read 50 = .ok (.if_icmp .ge 75, 3) := by decide +kernel
theorem dX10_read_53 : decode cX10_read 53 = .ok (.aload_n 0, 1) := by decide +kernel
theorem dX10_read_54 : decode cX10_read 54 = .ok (.getfield 31, 3) := by decide +kernel
theorem dX10_read_57 : decode cX10_read 57 = .ok (.getfield 145, 3) := by decide +kernel
theorem dX10_read_60 : decode cX10_read 60 = .ok (.bipush 8, 2) := by decide +kernel
theorem dX10_read_62 : decode cX10_read 62 = .ok (.if_icmp .ge 63, 3) := by decide +kernel
theorem dX10_read_65 : decode cX10_read 65 = .ok (.aload_n 2, 1) := by decide +kernel
theorem dX10_read_66 : decode cX10_read 66 = .ok (.getfield 159, 3) := by decide +kernel
theorem dX10_read_69 : decode cX10_read 69 = .ok (.iload 4, 2) := by decide +kernel
theorem dX10_read_71 : decode cX10_read 71 = .ok (.iaload, 1) := by decide +kernel
theorem dX10_read_72 : decode cX10_read 72 = .ok (.istore 5, 2) := by decide +kernel
theorem dX10_read_74 : decode cX10_read 74 = .ok (.aload_n 2, 1) := by decide +kernel
theorem dX10_read_75 : decode cX10_read 75 = .ok (.getfield 159, 3) := by decide +kernel
theorem dX10_read_78 : decode cX10_read 78 = .ok (.iload 4, 2) := by decide +kernel
theorem dX10_read_80 : decode cX10_read 80 = .ok (.iconst 1, 1) := by decide +kernel
theorem dX10_read_81 : decode cX10_read 81 = .ok (.iadd, 1) := by decide +kernel
theorem dX10_read_82 : decode cX10_read 82 = .ok (.iaload, 1) := by decide +kernel
theorem dX10_read_83 : decode cX10_read 83 = .ok (.istore 6, 2) := by decide +kernel
theorem dX10_read_85 : decode cX10_read 85 = .ok (.iload 5, 2) := by decide +kernel
theorem dX10_read_87 : decode cX10_read 87 = .ok (.bipush 40, 2) := by decide +kernel
theorem dX10_read_89 : decode cX10_read 89 = .ok (.invokestatic 100, 3) := by decide +kernel
theorem dX10_read_92 : decode cX10_read 92 = .ok (.ifCond .eq 33, 3) := by decide +kernel
theorem dX10_read_95 : decode cX10_read 95 = .ok (.iload 6, 2) := by decide +kernel
theorem dX10_read_97 : decode cX10_read 97 = .ok (.bipush 8, 2) := by decide +kernel
theorem dX10_read_99 : decode cX10_read 99 = .ok (.invokestatic 100, 3) := by decide +kernel
theorem dX10_read_102 : decode cX10_read 102 = .ok (.ifCond .ne 6, 3) := by decide +kernel
theorem dX10_read_105 : decode cX10_read 105 = .ok (.goto 20, 3) := by decide +kernel
theorem dX10_read_108 : decode cX10_read 108 = .ok (.aload_n 0, 1) := by decide +kernel
theorem dX10_read_109 : decode cX10_read 109 = .ok (.getfield 31, 3) := by decide +kernel
theorem dX10_read_112 : decode cX10_read 112 = .ok (.iload 5, 2) := by decide +kernel
theorem dX10_read_114 : decode cX10_read 114 = .ok (.iload 6, 2) := by decide +kernel
theorem dX10_read_116 : decode cX10_read 116 = .ok (.invokevirtual 147, 3) := by decide +kernel
theorem dX10_read_119 : decode cX10_read 119 = .ok (.iinc 4 2, 3) := by decide +kernel
theorem dX10_read_122 : decode cX10_read 122 = .ok (.goto (-80), 3) := by decide +kernel
theorem dX10_read_125 : decode cX10_read 125 = .ok (.aload_n 0, 1) := by decide +kernel
theorem dX10_read_126 : decode cX10_read 126 = .ok (.getfield 58, 3) := by decide +kernel
theorem dX10_read_129 : decode cX10_read 129 = .ok (.aload_n 0, 1) := by decide +kernel
theorem dX10_read_130 : decode cX10_read 130 = .ok (.getfield 43, 3) := by decide +kernel
theorem dX10_read_133 : decode cX10_read 133 = .ok (.invokevirtual 62, 3) := by decide +kernel
theorem dX10_read_136 : decode cX10_read 136 = .ok (.aload_n 0, 1) := by decide +kernel
theorem dX10_read_137 : decode cX10_read 137 = .ok (.getfield 31, 3) := by decide +kernel
theorem dX10_read_140 : decode cX10_read 140 = .ok (.getfield 145, 3) := by decide +kernel
theorem dX10_read_143 : decode cX10_read 143 = .ok (.iload_n 3, 1) := by decide +kernel
theorem dX10_read_144 : decode cX10_read 144 = .ok (.isub, 1) := by decide +kernel
theorem dX10_read_145 : decode cX10_read 145 = .ok (.ireturn, 1) := by decide +kernel
theorem dX10_at_0 : decode cX10_at 0 = .ok (.iload_n 1, 1) := by decide +kernel
theorem dX10_at_1 : decode cX10_at 1 = .ok (.bipush 40, 2) := by decide +kernel
theorem dX10_at_3 : decode cX10_at 3 = .ok (.invokestatic 100, 3) := by decide +kernel
theorem dX10_at_6 : decode cX10_at 6 = .ok (.ifCond .eq 19, 3) := by decide +kernel
theorem dX10_at_9 : decode cX10_at 9 = .ok (.aload_n 0, 1) := by decide +kernel
theorem dX10_at_10 : decode cX10_at 10 = .ok (.iload_n 2, 1) := by decide +kernel
theorem dX10_at_11 : decode cX10_at 11 = .ok (.invokevirtual 135, 3) := by decide +kernel
theorem dX10_at_14 : decode cX10_at 14 = .ok (.ifCond .eq 11, 3) := by decide +kernel
theorem dX10_at_17 : decode cX10_at 17 = .ok (.iload_n 3, 1) := by decide +kernel
theorem dX10_at_18 : decode cX10_at 18 = .ok (.iconst 4, 1) := by decide +kernel
theorem dX10_at_19 : decode cX10_at 19 = .ok (.invokestatic 100, 3) := by decide +kernel
theorem dX10_at_22 : decode cX10_at 22 = .ok (.ifCond .ne 6, 3) := by decide +kernel
theorem dX10_at_25 : decode cX10_at 25 = .ok (.bipush (-2), 2) := by decide +kernel
theorem dX10_at_27 : decode cX10_at 27 = .ok (.ireturn, 1) := by decide +kernel
theorem dX10_at_28 : decode cX10_at 28 = .ok (.aload_n 0, 1) := by decide +kernel
theorem dX10_at_29 : decode cX10_at 29 = .ok (.iload_n 1, 1) := by decide +kernel
theorem dX10_at_30 : decode cX10_at 30 = .ok (.iload_n 2, 1) := by decide +kernel
theorem dX10_at_31 : decode cX10_at 31 = .ok (.iload_n 3, 1) := by decide +kernel
theorem dX10_at_32 : decode cX10_at 32 = .ok (.invokevirtual 161, 3) := by decide +kernel
theorem dX10_at_35 : decode cX10_at 35 = .ok (.ireturn, 1) := by decide +kernel
theorem dX10_ends_0 : decode cX10_ends 0 = .ok (.aload_n 0, 1) := by decide +kernel
theorem dX10_ends_1 : decode cX10_ends 1 = .ok (.iload_n 1, 1) := by decide +kernel
theorem dX10_ends_2 : decode cX10_ends 2 = .ok (.invokevirtual 135, 3) := by decide +kernel
theorem dX10_ends_5 : decode cX10_ends 5 = .ok (.ifCond .eq 15, 3) := by decide +kernel
theorem dX10_ends_8 : decode cX10_ends 8 = .ok (.aload_n 0, 1) := by decide +kernel
theorem dX10_ends_9 : decode cX10_ends 9 = .ok (.getfield 58, 3) := by decide +kernel
theorem dX10_ends_12 : decode cX10_ends 12 = .ok (.getfield 165, 3) := by decide +kernel
theorem dX10_ends_15 : decode cX10_ends 15 = .ok (.iload_n 1, 1) := by decide +kernel
theorem dX10_ends_16 : decode cX10_ends 16 = .ok (.iaload, 1) := by decide +kernel
theorem dX10_ends_17 : decode cX10_ends 17 = .ok (.goto 5, 3) := by decide +kernel
theorem dX10_ends_20 : decode cX10_ends 20 = .ok (.bipush (-2), 2) := by decide +kernel
theorem dX10_ends_22 : decode cX10_ends 22 = .ok (.ireturn, 1) := by decide +kernel
theorem dX10_far_0 : decode cX10_far 0 = .ok (.iload_n 1, 1) := by decide +kernel
theorem dX10_far_1 : decode cX10_far 1 = .ok (.bipush 8, 2) := by decide +kernel
theorem dX10_far_3 : decode cX10_far 3 = .ok (.invokestatic 100, 3) := by decide +kernel
theorem dX10_far_6 : decode cX10_far 6 = .ok (.ifCond .eq 27, 3) := by decide +kernel
theorem dX10_far_9 : decode cX10_far 9 = .ok (.iload_n 2, 1) := by decide +kernel
theorem dX10_far_10 : decode cX10_far 10 = .ok (.bipush 8, 2) := by decide +kernel
theorem dX10_far_12 : decode cX10_far 12 = .ok (.invokestatic 100, 3) := by decide +kernel
theorem dX10_far_15 : decode cX10_far 15 = .ok (.ifCond .eq 18, 3) := by decide +kernel
theorem dX10_far_18 : decode cX10_far 18 = .ok (.aload_n 0, 1) := by decide +kernel
theorem dX10_far_19 : decode cX10_far 19 = .ok (.getfield 43, 3) := by decide +kernel
theorem dX10_far_22 : decode cX10_far 22 = .ok (.getfield 47, 3) := by decide +kernel
theorem dX10_far_25 : decode cX10_far 25 = .ok (.iload_n 1, 1) := by decide +kernel
theorem dX10_far_26 : decode cX10_far 26 = .ok (.iload_n 2, 1) := by decide +kernel
theorem dX10_far_27 : decode cX10_far 27 = .ok (.invokevirtual 168, 3) := by decide +kernel
theorem dX10_far_30 : decode cX10_far 30 = .ok (.goto 5, 3) := by decide +kernel
theorem dX10_far_33 : decode cX10_far 33 = .ok (.bipush (-2), 2) := by decide +kernel
theorem dX10_far_35 : decode cX10_far 35 = .ok (.ireturn, 1) := by decide +kernel
theorem dX10_who_0 : decode cX10_who 0 = .ok (.iload_n 1, 1) := by decide +kernel
theorem dX10_who_1 : decode cX10_who 1 = .ok (.iconst 2, 1) := by decide +kernel
theorem dX10_who_2 : decode cX10_who 2 = .ok (.if_icmp .lt 8, 3) := by decide +kernel
theorem dX10_who_5 : decode cX10_who 5 = .ok (.iload_n 1, 1) := by decide +kernel
theorem dX10_who_6 : decode cX10_who 6 = .ok (.iconst 5, 1) := by decide +kernel
theorem dX10_who_7 : decode cX10_who 7 = .ok (.if_icmp .le 8, 3) := by decide +kernel
theorem dX10_who_10 : decode cX10_who 10 = .ok (.bipush (-2), 2) := by decide +kernel
theorem dX10_who_12 : decode cX10_who 12 = .ok (.goto 11, 3) := by decide +kernel
theorem dX10_who_15 : decode cX10_who 15 = .ok (.aload_n 0, 1) := by decide +kernel
theorem dX10_who_16 : decode cX10_who 16 = .ok (.getfield 58, 3) := by decide +kernel
theorem dX10_who_19 : decode cX10_who 19 = .ok (.iload_n 1, 1) := by decide +kernel
theorem dX10_who_20 : decode cX10_who 20 = .ok (.invokevirtual 171, 3) := by decide +kernel
theorem dX10_who_23 : decode cX10_who 23 = .ok (.ireturn, 1) := by decide +kernel
theorem dX10_met_0 : decode cX10_met 0 = .ok (.iload_n 1, 1) := by decide +kernel
theorem dX10_met_1 : decode cX10_met 1 = .ok (.iconst 2, 1) := by decide +kernel
theorem dX10_met_2 : decode cX10_met 2 = .ok (.invokestatic 100, 3) := by decide +kernel
theorem dX10_met_5 : decode cX10_met 5 = .ok (.ifCond .ne 6, 3) := by decide +kernel
theorem dX10_met_8 : decode cX10_met 8 = .ok (.bipush (-2), 2) := by decide +kernel
theorem dX10_met_10 : decode cX10_met 10 = .ok (.ireturn, 1) := by decide +kernel
theorem dX10_met_11 : decode cX10_met 11 = .ok (.iload_n 1, 1) := by decide +kernel
theorem dX10_met_12 : decode cX10_met 12 = .ok (.ifCond .ne 13, 3) := by decide +kernel
theorem dX10_met_15 : decode cX10_met 15 = .ok (.aload_n 0, 1) := by decide +kernel
theorem dX10_met_16 : decode cX10_met 16 = .ok (.getfield 58, 3) := by decide +kernel
theorem dX10_met_19 : decode cX10_met 19 = .ok (.getfield 174, 3) := by decide +kernel
theorem dX10_met_22 : decode cX10_met 22 = .ok (.goto 10, 3) := by decide +kernel
theorem dX10_met_25 : decode cX10_met 25 = .ok (.aload_n 0, 1) := by decide +kernel
theorem dX10_met_26 : decode cX10_met 26 = .ok (.getfield 58, 3) := by decide +kernel
theorem dX10_met_29 : decode cX10_met 29 = .ok (.getfield 177, 3) := by decide +kernel
theorem dX10_met_32 : decode cX10_met 32 = .ok (.ireturn, 1) := by decide +kernel
theorem dX10_busiest_0 : decode cX10_busiest 0 = .ok (.aload_n 0, 1) := by decide +kernel
theorem dX10_busiest_1 : decode cX10_busiest 1 = .ok (.getfield 58, 3) := by decide +kernel
theorem dX10_busiest_4 : decode cX10_busiest 4 = .ok (.invokevirtual 180, 3) := by decide +kernel
theorem dX10_busiest_7 : decode cX10_busiest 7 = .ok (.ireturn, 1) := by decide +kernel
theorem dX10_needs_0 : decode cX10_needs 0 = .ok (.aload_n 0, 1) := by decide +kernel
theorem dX10_needs_1 : decode cX10_needs 1 = .ok (.iload_n 1, 1) := by decide +kernel
theorem dX10_needs_2 : decode cX10_needs 2 = .ok (.invokevirtual 135, 3) := by decide +kernel
theorem dX10_needs_5 : decode cX10_needs 5 = .ok (.ifCond .eq 14, 3) := by decide +kernel
theorem dX10_needs_8 : decode cX10_needs 8 = .ok (.aload_n 0, 1) := by decide +kernel
theorem dX10_needs_9 : decode cX10_needs 9 = .ok (.getfield 71, 3) := by decide +kernel
theorem dX10_needs_12 : decode cX10_needs 12 = .ok (.iload_n 1, 1) := by decide +kernel
theorem dX10_needs_13 : decode cX10_needs 13 = .ok (.invokevirtual 184, 3) := by decide +kernel
theorem dX10_needs_16 : decode cX10_needs 16 = .ok (.goto 5, 3) := by decide +kernel
theorem dX10_needs_19 : decode cX10_needs 19 = .ok (.bipush (-2), 2) := by decide +kernel
theorem dX10_needs_21 : decode cX10_needs 21 = .ok (.ireturn, 1) := by decide +kernel
theorem dX10_lend_0 : decode cX10_lend 0 = .ok (.iload_n 1, 1) := by decide +kernel
theorem dX10_lend_1 : decode cX10_lend 1 = .ok (.iconst 3, 1) := by decide +kernel
theorem dX10_lend_2 : decode cX10_lend 2 = .ok (.invokestatic 100, 3) := by decide +kernel
theorem dX10_lend_5 : decode cX10_lend 5 = .ok (.ifCond .ne 6, 3) := by decide +kernel
theorem dX10_lend_8 : decode cX10_lend 8 = .ok (.bipush (-2), 2) := by decide +kernel
theorem dX10_lend_10 : decode cX10_lend 10 = .ok (.ireturn, 1) := by decide +kernel
theorem dX10_lend_11 : decode cX10_lend 11 = .ok (.aload_n 0, 1) := by decide +kernel
theorem dX10_lend_12 : decode cX10_lend 12 = .ok (.getfield 71, 3) := by decide +kernel
theorem dX10_lend_15 : decode cX10_lend 15 = .ok (.invokevirtual 187, 3) := by decide +kernel
theorem dX10_lend_18 : decode cX10_lend 18 = .ok (.iload_n 1, 1) := by decide +kernel
theorem dX10_lend_19 : decode cX10_lend 19 = .ok (.iconst 2, 1) := by decide +kernel
theorem dX10_lend_20 : decode cX10_lend 20 = .ok (.if_icmp .ne 11, 3) := by decide +kernel
theorem dX10_lend_23 : decode cX10_lend 23 = .ok (.aload_n 0, 1) := by decide +kernel
theorem dX10_lend_24 : decode cX10_lend 24 = .ok (.getfield 71, 3) := by decide +kernel
theorem dX10_lend_27 : decode cX10_lend 27 = .ok (.getfield 190, 3) := by decide +kernel
theorem dX10_lend_30 : decode cX10_lend 30 = .ok (.ireturn, 1) := by decide +kernel
theorem dX10_lend_31 : decode cX10_lend 31 = .ok (.iload_n 1, 1) := by decide +kernel
theorem dX10_lend_32 : decode cX10_lend 32 = .ok (.ifCond .ne 13, 3) := by decide +kernel
theorem dX10_lend_35 : decode cX10_lend 35 = .ok (.aload_n 0, 1) := by decide +kernel
theorem dX10_lend_36 : decode cX10_lend 36 = .ok (.getfield 71, 3) := by decide +kernel
theorem dX10_lend_39 : decode cX10_lend 39 = .ok (.getfield 193, 3) := by decide +kernel
theorem dX10_lend_42 : decode cX10_lend 42 = .ok (.goto 10, 3) := by decide +kernel
theorem dX10_lend_45 : decode cX10_lend 45 = .ok (.aload_n 0, 1) := by decide +kernel
theorem dX10_lend_46 : decode cX10_lend 46 = .ok (.getfield 71, 3) := by decide +kernel
theorem dX10_lend_49 : decode cX10_lend 49 = .ok (.getfield 196, 3) := by decide +kernel
theorem dX10_lend_52 : decode cX10_lend 52 = .ok (.ireturn, 1) := by decide +kernel
theorem dX10_delay_0 : decode cX10_delay 0 = .ok (.aload_n 0, 1) := by decide +kernel
theorem dX10_delay_1 : decode cX10_delay 1 = .ok (.iload_n 1, 1) := by decide +kernel
theorem dX10_delay_2 : decode cX10_delay 2 = .ok (.invokevirtual 135, 3) := by decide +kernel
theorem dX10_delay_5 : decode cX10_delay 5 = .ok (.ifCond .eq 11, 3) := by decide +kernel
theorem dX10_delay_8 : decode cX10_delay 8 = .ok (.iload_n 2, 1) := by decide +kernel
theorem dX10_delay_9 : decode cX10_delay 9 = .ok (.iconst 2, 1) := by decide +kernel
theorem dX10_delay_10 : decode cX10_delay 10 = .ok (.invokestatic 100, 3) := by decide +kernel
theorem dX10_delay_13 : decode cX10_delay 13 = .ok (.ifCond .ne 6, 3) := by decide +kernel
theorem dX10_delay_16 : decode cX10_delay 16 = .ok (.bipush (-2), 2) := by decide +kernel
theorem dX10_delay_18 : decode cX10_delay 18 = .ok (.ireturn, 1) := by decide +kernel
theorem dX10_delay_19 : decode cX10_delay 19 = .ok (.aload_n 0, 1) := by decide +kernel
theorem dX10_delay_20 : decode cX10_delay 20 = .ok (.getfield 71, 3) := by decide +kernel
theorem dX10_delay_23 : decode cX10_delay 23 = .ok (.iload_n 1, 1) := by decide +kernel
theorem dX10_delay_24 : decode cX10_delay 24 = .ok (.invokevirtual 199, 3) := by decide +kernel
theorem dX10_delay_27 : decode cX10_delay 27 = .ok (.iload_n 2, 1) := by decide +kernel
theorem dX10_delay_28 : decode cX10_delay 28 = .ok (.ifCond .ne 13, 3) := by decide +kernel
theorem dX10_delay_31 : decode cX10_delay 31 = .ok (.aload_n 0, 1) := by decide +kernel
theorem dX10_delay_32 : decode cX10_delay 32 = .ok (.getfield 71, 3) := by decide +kernel
theorem dX10_delay_35 : decode cX10_delay 35 = .ok (.getfield 193, 3) := by decide +kernel
theorem dX10_delay_38 : decode cX10_delay 38 = .ok (.goto 10, 3) := by decide +kernel
theorem dX10_delay_41 : decode cX10_delay 41 = .ok (.aload_n 0, 1) := by decide +kernel
theorem dX10_delay_42 : decode cX10_delay 42 = .ok (.getfield 71, 3) := by decide +kernel
theorem dX10_delay_45 : decode cX10_delay 45 = .ok (.getfield 190, 3) := by decide +kernel
theorem dX10_delay_48 : decode cX10_delay 48 = .ok (.ireturn, 1) := by decide +kernel
theorem dX10_level_0 : decode cX10_level 0 = .ok (.iload_n 1, 1) := by decide +kernel
theorem dX10_level_1 : decode cX10_level 1 = .ok (.iconst 2, 1) := by decide +kernel
theorem dX10_level_2 : decode cX10_level 2 = .ok (.invokestatic 100, 3) := by decide +kernel
theorem dX10_level_5 : decode cX10_level 5 = .ok (.ifCond .ne 6, 3) := by decide +kernel
theorem dX10_level_8 : decode cX10_level 8 = .ok (.bipush (-2), 2) := by decide +kernel
theorem dX10_level_10 : decode cX10_level 10 = .ok (.ireturn, 1) := by decide +kernel
theorem dX10_level_11 : decode cX10_level 11 = .ok (.aload_n 0, 1) := by decide +kernel
theorem dX10_level_12 : decode cX10_level 12 = .ok (.getfield 71, 3) := by decide +kernel
theorem dX10_level_15 : decode cX10_level 15 = .ok (.aload_n 0, 1) := by decide +kernel
theorem dX10_level_16 : decode cX10_level 16 = .ok (.getfield 18, 3) := by decide +kernel
theorem dX10_level_19 : decode cX10_level 19 = .ok (.invokevirtual 202, 3) := by decide +kernel
theorem dX10_level_22 : decode cX10_level 22 = .ok (.iload_n 1, 1) := by decide +kernel
theorem dX10_level_23 : decode cX10_level 23 = .ok (.ifCond .ne 13, 3) := by decide +kernel
theorem dX10_level_26 : decode cX10_level 26 = .ok (.aload_n 0, 1) := by decide +kernel
theorem dX10_level_27 : decode cX10_level 27 = .ok (.getfield 71, 3) := by decide +kernel
theorem dX10_level_30 : decode cX10_level 30 = .ok (.getfield 193, 3) := by decide +kernel
theorem dX10_level_33 : decode cX10_level 33 = .ok (.goto 10, 3) := by decide +kernel
theorem dX10_level_36 : decode cX10_level 36 = .ok (.aload_n 0, 1) := by decide +kernel
theorem dX10_level_37 : decode cX10_level 37 = .ok (.getfield 71, 3) := by decide +kernel
theorem dX10_level_40 : decode cX10_level 40 = .ok (.getfield 190, 3) := by decide +kernel
theorem dX10_level_43 : decode cX10_level 43 = .ok (.ireturn, 1) := by decide +kernel
theorem dX10_seen_0 : decode cX10_seen 0 = .ok (.iload_n 1, 1) := by decide +kernel
theorem dX10_seen_1 : decode cX10_seen 1 = .ok (.bipush 40, 2) := by decide +kernel
theorem dX10_seen_3 : decode cX10_seen 3 = .ok (.invokestatic 100, 3) := by decide +kernel
theorem dX10_seen_6 : decode cX10_seen 6 = .ok (.ifCond .eq 21, 3) := by decide +kernel
theorem dX10_seen_9 : decode cX10_seen 9 = .ok (.iload_n 2, 1) := by decide +kernel
theorem dX10_seen_10 : decode cX10_seen 10 = .ok (.bipush 8, 2) := by decide +kernel
theorem dX10_seen_12 : decode cX10_seen 12 = .ok (.invokestatic 100, 3) := by decide +kernel
theorem dX10_seen_15 : decode cX10_seen 15 = .ok (.ifCond .eq 12, 3) := by decide +kernel
theorem dX10_seen_18 : decode cX10_seen 18 = .ok (.iload_n 3, 1) := by decide +kernel
theorem dX10_seen_19 : decode cX10_seen 19 = .ok (.bipush 9, 2) := by decide +kernel
theorem dX10_seen_21 : decode cX10_seen 21 = .ok (.invokestatic 100, 3) := by decide +kernel
theorem dX10_seen_24 : decode cX10_seen 24 = .ok (.ifCond .ne 6, 3) := by decide +kernel
theorem dX10_seen_27 : decode cX10_seen 27 = .ok (.bipush (-2), 2) := by decide +kernel
theorem dX10_seen_29 : decode cX10_seen 29 = .ok (.ireturn, 1) := by decide +kernel
theorem dX10_seen_30 : decode cX10_seen 30 = .ok (.aload_n 0, 1) := by decide +kernel
theorem dX10_seen_31 : decode cX10_seen 31 = .ok (.getfield 78, 3) := by decide +kernel
theorem dX10_seen_34 : decode cX10_seen 34 = .ok (.getfield 206, 3) := by decide +kernel
theorem dX10_seen_37 : decode cX10_seen 37 = .ok (.bipush 8, 2) := by decide +kernel
theorem dX10_seen_39 : decode cX10_seen 39 = .ok (.if_icmp .lt 6, 3) := by decide +kernel
theorem dX10_seen_42 : decode cX10_seen 42 = .ok (.bipush (-4), 2) := by decide +kernel
theorem dX10_seen_44 : decode cX10_seen 44 = .ok (.ireturn, 1) := by decide +kernel
theorem dX10_seen_45 : decode cX10_seen 45 = .ok (.aload_n 0, 1) := by decide +kernel
theorem dX10_seen_46 : decode cX10_seen 46 = .ok (.getfield 78, 3) := by decide +kernel
theorem dX10_seen_49 : decode cX10_seen 49 = .ok (.iload_n 1, 1) := by decide +kernel
theorem dX10_seen_50 : decode cX10_seen 50 = .ok (.iload_n 2, 1) := by decide +kernel
theorem dX10_seen_51 : decode cX10_seen 51 = .ok (.iload_n 3, 1) := by decide +kernel
theorem dX10_seen_52 : decode cX10_seen 52 = .ok (.invokevirtual 207, 3) := by decide +kernel
theorem dX10_seen_55 : decode cX10_seen 55 = .ok (.aload_n 0, 1) := by decide +kernel
theorem dX10_seen_56 : decode cX10_seen 56 = .ok (.getfield 78, 3) := by decide +kernel
theorem dX10_seen_59 : decode cX10_seen 59 = .ok (.getfield 206, 3) := by decide +kernel
theorem dX10_seen_62 : decode cX10_seen 62 = .ok (.ireturn, 1) := by decide +kernel
theorem dX10_forget_0 : decode cX10_forget 0 = .ok (.aload_n 0, 1) := by decide +kernel
theorem dX10_forget_1 : decode cX10_forget 1 = .ok (.getfield 78, 3) := by decide +kernel
theorem dX10_forget_4 : decode cX10_forget 4 = .ok (.getfield 206, 3) := by decide +kernel
theorem dX10_forget_7 : decode cX10_forget 7 = .ok (.istore_n 1, 1) := by decide +kernel
theorem dX10_forget_8 : decode cX10_forget 8 = .ok (.aload_n 0, 1) := by decide +kernel
theorem dX10_forget_9 : decode cX10_forget 9 = .ok (.getfield 78, 3) := by decide +kernel
theorem dX10_forget_12 : decode cX10_forget 12 = .ok (.iconst 0, 1) := by decide +kernel
theorem dX10_forget_13 : decode cX10_forget 13 = .ok (.putfield 206, 3) := by decide +kernel
theorem dX10_forget_16 : decode cX10_forget 16 = .ok (.iload_n 1, 1) := by decide +kernel
theorem dX10_forget_17 : decode cX10_forget 17 = .ok (.ireturn, 1) := by decide +kernel
theorem dX10_never_0 : decode cX10_never 0 = .ok (.aload_n 0, 1) := by decide +kernel
theorem dX10_never_1 : decode cX10_never 1 = .ok (.getfield 78, 3) := by decide +kernel
theorem dX10_never_4 : decode cX10_never 4 = .ok (.invokevirtual 210, 3) := by decide +kernel
theorem dX10_never_7 : decode cX10_never 7 = .ok (.ireturn, 1) := by decide +kernel
theorem dX10_sort_0 : decode cX10_sort 0 = .ok (.aload_n 0, 1) := by decide +kernel
theorem dX10_sort_1 : decode cX10_sort 1 = .ok (.iload_n 1, 1) := by decide +kernel
theorem dX10_sort_2 : decode cX10_sort 2 = .ok (.invokevirtual 135, 3) := by decide +kernel
theorem dX10_sort_5 : decode cX10_sort 5 = .ok (.ifCond .eq 14, 3) := by decide +kernel
theorem dX10_sort_8 : decode cX10_sort 8 = .ok (.aload_n 0, 1) := by decide +kernel
theorem dX10_sort_9 : decode cX10_sort 9 = .ok (.getfield 78, 3) := by decide +kernel
theorem dX10_sort_12 : decode cX10_sort 12 = .ok (.iload_n 1, 1) := by decide +kernel
theorem dX10_sort_13 : decode cX10_sort 13 = .ok (.invokevirtual 213, 3) := by decide +kernel
theorem dX10_sort_16 : decode cX10_sort 16 = .ok (.goto 5, 3) := by decide +kernel
theorem dX10_sort_19 : decode cX10_sort 19 = .ok (.bipush (-2), 2) := by decide +kernel
theorem dX10_sort_21 : decode cX10_sort 21 = .ok (.ireturn, 1) := by decide +kernel
theorem dX10_force_0 : decode cX10_force 0 = .ok (.aload_n 0, 1) := by decide +kernel
theorem dX10_force_1 : decode cX10_force 1 = .ok (.iload_n 1, 1) := by decide +kernel
theorem dX10_force_2 : decode cX10_force 2 = .ok (.invokevirtual 135, 3) := by decide +kernel
theorem dX10_force_5 : decode cX10_force 5 = .ok (.ifCond .eq 11, 3) := by decide +kernel
theorem dX10_force_8 : decode cX10_force 8 = .ok (.iload_n 2, 1) := by decide +kernel
theorem dX10_force_9 : decode cX10_force 9 = .ok (.iconst 3, 1) := by decide +kernel
theorem dX10_force_10 : decode cX10_force 10 = .ok (.invokestatic 100, 3) := by decide +kernel
theorem dX10_force_13 : decode cX10_force 13 = .ok (.ifCond .ne 6, 3) := by decide +kernel
theorem dX10_force_16 : decode cX10_force 16 = .ok (.bipush (-2), 2) := by decide +kernel
theorem dX10_force_18 : decode cX10_force 18 = .ok (.ireturn, 1) := by decide +kernel
theorem dX10_force_19 : decode cX10_force 19 = .ok (.aload_n 0, 1) := by decide +kernel
theorem dX10_force_20 : decode cX10_force 20 = .ok (.getfield 78, 3) := by decide +kernel
theorem dX10_force_23 : decode cX10_force 23 = .ok (.iload_n 1, 1) := by decide +kernel
theorem dX10_force_24 : decode cX10_force 24 = .ok (.invokevirtual 216, 3) := by decide +kernel
theorem dX10_force_27 : decode cX10_force 27 = .ok (.iload_n 2, 1) := by decide +kernel
theorem dX10_force_28 : decode cX10_force 28 = .ok (.ifCond .ne 11, 3) := by decide +kernel
theorem dX10_force_31 : decode cX10_force 31 = .ok (.aload_n 0, 1) := by decide +kernel
theorem dX10_force_32 : decode cX10_force 32 = .ok (.getfield 78, 3) := by decide +kernel
theorem dX10_force_35 : decode cX10_force 35 = .ok (.getfield 219, 3) := by decide +kernel
theorem dX10_force_38 : decode cX10_force 38 = .ok (.ireturn, 1) := by decide +kernel
theorem dX10_force_39 : decode cX10_force 39 = .ok (.iload_n 2, 1) := by decide +kernel
theorem dX10_force_40 : decode cX10_force 40 = .ok (.iconst 1, 1) := by decide +kernel
theorem dX10_force_41 : decode cX10_force 41 = .ok (.if_icmp .ne 13, 3) := by decide +kernel
theorem dX10_force_44 : decode cX10_force 44 = .ok (.aload_n 0, 1) := by decide +kernel
theorem dX10_force_45 : decode cX10_force 45 = .ok (.getfield 78, 3) := by decide +kernel
theorem dX10_force_48 : decode cX10_force 48 = .ok (.getfield 222, 3) := by decide +kernel
theorem dX10_force_51 : decode cX10_force 51 = .ok (.goto 10, 3) := by decide +kernel
theorem dX10_force_54 : decode cX10_force 54 = .ok (.aload_n 0, 1) := by decide +kernel
theorem dX10_force_55 : decode cX10_force 55 = .ok (.getfield 78, 3) := by decide +kernel
theorem dX10_force_58 : decode cX10_force 58 = .ok (.getfield 225, 3) := by decide +kernel
theorem dX10_force_61 : decode cX10_force 61 = .ok (.ireturn, 1) := by decide +kernel
theorem dX10_ask_0 : decode cX10_ask 0 = .ok (.aload_n 0, 1) := by decide +kernel
theorem dX10_ask_1 : decode cX10_ask 1 = .ok (.iload_n 1, 1) := by decide +kernel
theorem dX10_ask_2 : decode cX10_ask 2 = .ok (.invokevirtual 135, 3) := by decide +kernel
theorem dX10_ask_5 : decode cX10_ask 5 = .ok (.ifCond .ne 6, 3) := by decide +kernel
theorem dX10_ask_8 : decode cX10_ask 8 = .ok (.bipush (-2), 2) := by decide +kernel
theorem dX10_ask_10 : decode cX10_ask 10 = .ok (.ireturn, 1) := by decide +kernel
theorem dX10_ask_11 : decode cX10_ask 11 = .ok (.aload_n 0, 1) := by decide +kernel
theorem dX10_ask_12 : decode cX10_ask 12 = .ok (.getfield 78, 3) := by decide +kernel
theorem dX10_ask_15 : decode cX10_ask 15 = .ok (.iload_n 1, 1) := by decide +kernel
theorem dX10_ask_16 : decode cX10_ask 16 = .ok (.invokevirtual 213, 3) := by decide +kernel
theorem dX10_ask_19 : decode cX10_ask 19 = .ok (.pop, 1) := by decide +kernel
theorem dX10_ask_20 : decode cX10_ask 20 = .ok (.aload_n 0, 1) := by decide +kernel
theorem dX10_ask_21 : decode cX10_ask 21 = .ok (.getfield 78, 3) := by decide +kernel
theorem dX10_ask_24 : decode cX10_ask 24 = .ok (.invokevirtual 228, 3) := by decide +kernel
theorem dX10_ask_27 : decode cX10_ask 27 = .ok (.ireturn, 1) := by decide +kernel
theorem dX10_rumour_0 : decode cX10_rumour 0 = .ok (.iload_n 1, 1) := by decide +kernel
theorem dX10_rumour_1 : decode cX10_rumour 1 = .ok (.bipush 17, 2) := by decide +kernel
theorem dX10_rumour_3 : decode cX10_rumour 3 = .ok (.invokestatic 100, 3) := by decide +kernel
theorem dX10_rumour_6 : decode cX10_rumour 6 = .ok (.ifCond .eq 19, 3) := by decide +kernel
theorem dX10_rumour_9 : decode cX10_rumour 9 = .ok (.aload_n 0, 1) := by decide +kernel
theorem dX10_rumour_10 : decode cX10_rumour 10 = .ok (.iload_n 2, 1) := by decide +kernel
theorem dX10_rumour_11 : decode cX10_rumour 11 = .ok (.invokevirtual 135, 3) := by decide +kernel
theorem dX10_rumour_14 : decode cX10_rumour 14 = .ok (.ifCond .eq 11, 3) := by decide +kernel
theorem dX10_rumour_17 : decode cX10_rumour 17 = .ok (.iload_n 3, 1) := by decide +kernel
theorem dX10_rumour_18 : decode cX10_rumour 18 = .ok (.iconst 2, 1) := by decide +kernel
theorem dX10_rumour_19 : decode cX10_rumour 19 = .ok (.invokestatic 100, 3) := by decide +kernel
theorem dX10_rumour_22 : decode cX10_rumour 22 = .ok (.ifCond .ne 7, 3) := by decide +kernel
theorem dX10_rumour_25 : decode cX10_rumour 25 = .ok (.ldc2_w 231, 3) := by decide +kernel
theorem dX10_rumour_28 : decode cX10_rumour 28 = .ok (.lreturn, 1) := by decide +kernel
theorem dX10_rumour_29 : decode cX10_rumour 29 = .ok (.aload_n 0, 1) := by decide +kernel
theorem dX10_rumour_30 : decode cX10_rumour 30 = .ok (.getfield 85, 3) := by decide +kernel
theorem dX10_rumour_33 : decode cX10_rumour 33 = .ok (.iload_n 1, 1) := by decide +kernel
theorem dX10_rumour_34 : decode cX10_rumour 34 = .ok (.invokevirtual 233, 3) := by decide +kernel
theorem dX10_rumour_37 : decode cX10_rumour 37 = .ok (.aload_n 0, 1) := by decide +kernel
theorem dX10_rumour_38 : decode cX10_rumour 38 = .ok (.getfield 85, 3) := by decide +kernel
theorem dX10_rumour_41 : decode cX10_rumour 41 = .ok (.iload_n 2, 1) := by decide +kernel
theorem dX10_rumour_42 : decode cX10_rumour 42 = .ok (.invokevirtual 236, 3) := by decide +kernel
theorem dX10_rumour_45 : decode cX10_rumour 45 = .ok (.iload_n 3, 1) := by decide +kernel
theorem dX10_rumour_46 : decode cX10_rumour 46 = .ok (.ifCond .ne 13, 3) := by decide +kernel
theorem dX10_rumour_49 : decode cX10_rumour 49 = .ok (.aload_n 0, 1) := by decide +kernel
theorem dX10_rumour_50 : decode cX10_rumour 50 = .ok (.getfield 85, 3) := by decide +kernel
theorem dX10_rumour_53 : decode cX10_rumour 53 = .ok (.getfield 239, 3) := by decide +kernel
theorem dX10_rumour_56 : decode cX10_rumour 56 = .ok (.goto 10, 3) := by decide +kernel
theorem dX10_rumour_59 : decode cX10_rumour 59 = .ok (.aload_n 0, 1) := by decide +kernel
theorem dX10_rumour_60 : decode cX10_rumour 60 = .ok (.getfield 85, 3) := by decide +kernel
theorem dX10_rumour_63 : decode cX10_rumour 63 = .ok (.getfield 243, 3) := by decide +kernel
theorem dX10_rumour_66 : decode cX10_rumour 66 = .ok (.lreturn, 1) := by decide +kernel
theorem dX10_market_0 : decode cX10_market 0 = .ok (.iload_n 2, 1) := by decide +kernel
theorem dX10_market_1 : decode cX10_market 1 = .ok (.iconst 2, 1) := by decide +kernel
theorem dX10_market_2 : decode cX10_market 2 = .ok (.invokestatic 100, 3) := by decide +kernel
theorem dX10_market_5 : decode cX10_market 5 = .ok (.ifCond .ne 6, 3) := by decide +kernel
theorem dX10_market_8 : decode cX10_market 8 = .ok (.bipush (-2), 2) := by decide +kernel
theorem dX10_market_10 : decode cX10_market 10 = .ok (.ireturn, 1) := by decide +kernel
theorem dX10_market_11 : decode cX10_market 11 = .ok (.aload_n 0, 1) := by decide +kernel
theorem dX10_market_12 : decode cX10_market 12 = .ok (.getfield 85, 3) := by decide +kernel
theorem dX10_market_15 : decode cX10_market 15 = .ok (.iload_n 1, 1) := by decide +kernel
theorem dX10_market_16 : decode cX10_market 16 = .ok (.iload_n 2, 1) := by decide +kernel
theorem dX10_market_17 : decode cX10_market 17 = .ok (.ifCond .ne 7, 3) := by decide +kernel
theorem dX10_market_20 : decode cX10_market 20 = .ok (.iconst 2, 1) := by decide +kernel
theorem dX10_market_21 : decode cX10_market 21 = .ok (.goto 4, 3) := by decide +kernel
theorem dX10_market_24 : decode cX10_market 24 = .ok (.iconst 4, 1) := by decide +kernel
theorem dX10_market_25 : decode cX10_market 25 = .ok (.invokevirtual 246, 3) := by decide +kernel
theorem dX10_market_28 : decode cX10_market 28 = .ok (.ireturn, 1) := by decide +kernel
theorem dX10_sheet_0 : decode cX10_sheet 0 = .ok (.iload_n 1, 1) := by decide +kernel
theorem dX10_sheet_1 : decode cX10_sheet 1 = .ok (.iconst 4, 1) := by decide +kernel
theorem dX10_sheet_2 : decode cX10_sheet 2 = .ok (.invokestatic 100, 3) := by decide +kernel
theorem dX10_sheet_5 : decode cX10_sheet 5 = .ok (.ifCond .eq 17, 3) := by decide +kernel
theorem dX10_sheet_8 : decode cX10_sheet 8 = .ok (.iload_n 2, 1) := by decide +kernel
theorem dX10_sheet_9 : decode cX10_sheet 9 = .ok (.iconst 3, 1) := by decide +kernel
theorem dX10_sheet_10 : decode cX10_sheet 10 = .ok (.invokestatic 100, 3) := by decide +kernel
theorem dX10_sheet_13 : decode cX10_sheet 13 = .ok (.ifCond .eq 9, 3) := by decide +kernel
theorem dX10_sheet_16 : decode cX10_sheet 16 = .ok (.iload_n 3, 1) := by decide +kernel
theorem dX10_sheet_17 : decode cX10_sheet 17 = .ok (.bipush 60, 2) := by decide +kernel
theorem dX10_sheet_19 : decode cX10_sheet 19 = .ok (.if_icmp .le 6, 3) := by decide +kernel
theorem dX10_sheet_22 : decode cX10_sheet 22 = .ok (.bipush (-2), 2) := by decide +kernel
theorem dX10_sheet_24 : decode cX10_sheet 24 = .ok (.ireturn, 1) := by decide +kernel
theorem dX10_sheet_25 : decode cX10_sheet 25 = .ok (.iload_n 3, 1) := by decide +kernel
theorem dX10_sheet_26 : decode cX10_sheet 26 = .ok (.ifCond .ge 9, 3) := by decide +kernel
theorem dX10_sheet_29 : decode cX10_sheet 29 = .ok (.aload_n 0, 1) := by decide +kernel
theorem dX10_sheet_30 : decode cX10_sheet 30 = .ok (.iconst 5, 1) := by decide +kernel
theorem dX10_sheet_31 : decode cX10_sheet 31 = .ok (.invokevirtual 154, 3) := by decide +kernel
theorem dX10_sheet_34 : decode cX10_sheet 34 = .ok (.ireturn, 1) := by decide +kernel
