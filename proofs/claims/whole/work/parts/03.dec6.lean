theorem dX11_levelBy_37 : decode cX11_levelBy 37 = .ok (.iconst 3, 1) := by decide +kernel
theorem dX11_levelBy_38 : decode cX11_levelBy 38 = .ok (.iadd, 1) := by decide +kernel
theorem dX11_levelBy_39 : decode cX11_levelBy 39 = .ok (.iconst 1, 1) := by decide +kernel
theorem dX11_levelBy_40 : decode cX11_levelBy 40 = .ok (.iastore, 1) := by decide +kernel
theorem dX11_levelBy_41 : decode cX11_levelBy 41 = .ok (.aload_n 0, 1) := by decide +kernel
theorem dX11_levelBy_42 : decode cX11_levelBy 42 = .ok (.invokevirtual 212, 3) := by decide +kernel
theorem dX11_levelBy_45 : decode cX11_levelBy 45 = .ok (.aload_n 0, 1) := by decide +kernel
theorem dX11_levelBy_46 : decode cX11_levelBy 46 = .ok (.invokevirtual 215, 3) := by decide +kernel
theorem dX11_levelBy_49 : decode cX11_levelBy 49 = .ok (.aload_n 0, 1) := by decide +kernel
theorem dX11_levelBy_50 : decode cX11_levelBy 50 = .ok (.invokevirtual 244, 3) := by decide +kernel
theorem dX11_levelBy_53 : decode cX11_levelBy 53 = .ok (.istore 6, 2) := by decide +kernel
theorem dX11_levelBy_55 : decode cX11_levelBy 55 = .ok (.iload 6, 2) := by decide +kernel
theorem dX11_levelBy_57 : decode cX11_levelBy 57 = .ok (.iload_n 3, 1) := by decide +kernel
theorem dX11_levelBy_58 : decode cX11_levelBy 58 = .ok (.if_icmp .le 8, 3) := by decide +kernel
theorem dX11_levelBy_61 : decode cX11_levelBy 61 = .ok (.iload 4, 2) := by decide +kernel
theorem dX11_levelBy_63 : decode cX11_levelBy 63 = .ok (.goto 4, 3) := by decide +kernel
theorem dX11_levelBy_66 : decode cX11_levelBy 66 = .ok (.iload_n 2, 1) := by decide +kernel
theorem dX11_levelBy_67 : decode cX11_levelBy 67 = .ok (.istore_n 2, 1) := by decide +kernel
theorem dX11_levelBy_68 : decode cX11_levelBy 68 = .ok (.iload 6, 2) := by decide +kernel
theorem dX11_levelBy_70 : decode cX11_levelBy 70 = .ok (.iload_n 3, 1) := by decide +kernel
theorem dX11_levelBy_71 : decode cX11_levelBy 71 = .ok (.invokestatic 229, 3) := by decide +kernel
theorem dX11_levelBy_74 : decode cX11_levelBy 74 = .ok (.istore_n 3, 1) := by decide +kernel
theorem dX11_levelBy_75 : decode cX11_levelBy 75 = .ok (.aload_n 0, 1) := by decide +kernel
theorem dX11_levelBy_76 : decode cX11_levelBy 76 = .ok (.getfield 28, 3) := by decide +kernel
theorem dX11_levelBy_79 : decode cX11_levelBy 79 = .ok (.iconst 4, 1) := by decide +kernel
theorem dX11_levelBy_80 : decode cX11_levelBy 80 = .ok (.iload 4, 2) := by decide +kernel
theorem dX11_levelBy_82 : decode cX11_levelBy 82 = .ok (.imul, 1) := by decide +kernel
theorem dX11_levelBy_83 : decode cX11_levelBy 83 = .ok (.iconst 3, 1) := by decide +kernel
theorem dX11_levelBy_84 : decode cX11_levelBy 84 = .ok (.iadd, 1) := by decide +kernel
theorem dX11_levelBy_85 : decode cX11_levelBy 85 = .ok (.iload 5, 2) := by decide +kernel
theorem dX11_levelBy_87 : decode cX11_levelBy 87 = .ok (.iastore, 1) := by decide +kernel
theorem dX11_levelBy_88 : decode cX11_levelBy 88 = .ok (.iinc 4 1, 3) := by decide +kernel
theorem dX11_levelBy_91 : decode cX11_levelBy 91 = .ok (.goto (-84), 3) := by decide +kernel
theorem dX11_levelBy_94 : decode cX11_levelBy 94 = .ok (.aload_n 0, 1) := by decide +kernel
theorem dX11_levelBy_95 : decode cX11_levelBy 95 = .ok (.invokevirtual 212, 3) := by decide +kernel
theorem dX11_levelBy_98 : decode cX11_levelBy 98 = .ok (.iload_n 1, 1) := by decide +kernel
theorem dX11_levelBy_99 : decode cX11_levelBy 99 = .ok (.ifCond .ne 7, 3) := by decide +kernel
theorem dX11_levelBy_102 : decode cX11_levelBy 102 = .ok (.iload_n 2, 1) := by decide +kernel
theorem dX11_levelBy_103 : decode cX11_levelBy 103 = .ok (.goto 4, 3) := by decide +kernel
theorem dX11_levelBy_106 : decode cX11_levelBy 106 = .ok (.iload_n 3, 1) := by decide +kernel
theorem dX11_levelBy_107 : decode cX11_levelBy 107 = .ok (.ireturn, 1) := by decide +kernel
theorem dX11_level_0 : decode cX11_level 0 = .ok (.aload_n 0, 1) := by decide +kernel
theorem dX11_level_1 : decode cX11_level 1 = .ok (.invokevirtual 218, 3) := by decide +kernel
theorem dX11_level_4 : decode cX11_level 4 = .ok (.iload_n 1, 1) := by decide +kernel
theorem dX11_level_5 : decode cX11_level 5 = .ok (.invokestatic 110, 3) := by decide +kernel
theorem dX11_level_8 : decode cX11_level 8 = .ok (.ifCond .eq 11, 3) := by decide +kernel
theorem dX11_level_11 : decode cX11_level 11 = .ok (.aload_n 0, 1) := by decide +kernel
theorem dX11_level_12 : decode cX11_level 12 = .ok (.iload_n 1, 1) := by decide +kernel
theorem dX11_level_13 : decode cX11_level 13 = .ok (.invokevirtual 253, 3) := by decide +kernel
theorem dX11_level_16 : decode cX11_level 16 = .ok (.goto 5, 3) := by decide +kernel
theorem dX11_level_19 : decode cX11_level 19 = .ok (.bipush (-2), 2) := by decide +kernel
theorem dX11_level_21 : decode cX11_level 21 = .ok (.ireturn, 1) := by decide +kernel
theorem dX11_seen_0 : decode cX11_seen 0 = .ok (.iload_n 1, 1) := by decide +kernel
theorem dX11_seen_1 : decode cX11_seen 1 = .ok (.invokestatic 160, 3) := by decide +kernel
theorem dX11_seen_4 : decode cX11_seen 4 = .ok (.ifCond .eq 27, 3) := by decide +kernel
theorem dX11_seen_7 : decode cX11_seen 7 = .ok (.iload_n 2, 1) := by decide +kernel
theorem dX11_seen_8 : decode cX11_seen 8 = .ok (.i2l, 1) := by decide +kernel
theorem dX11_seen_9 : decode cX11_seen 9 = .ok (.lconst 0, 1) := by decide +kernel
theorem dX11_seen_10 : decode cX11_seen 10 = .ok (.ldc2_w 151, 3) := by decide +kernel
theorem dX11_seen_13 : decode cX11_seen 13 = .ok (.invokestatic 81, 3) := by decide +kernel
theorem dX11_seen_16 : decode cX11_seen 16 = .ok (.ifCond .eq 15, 3) := by decide +kernel
theorem dX11_seen_19 : decode cX11_seen 19 = .ok (.iload_n 3, 1) := by decide +kernel
theorem dX11_seen_20 : decode cX11_seen 20 = .ok (.i2l, 1) := by decide +kernel
theorem dX11_seen_21 : decode cX11_seen 21 = .ok (.lconst 0, 1) := by decide +kernel
theorem dX11_seen_22 : decode cX11_seen 22 = .ok (.ldc2_w 256, 3) := by decide +kernel
theorem dX11_seen_25 : decode cX11_seen 25 = .ok (.invokestatic 81, 3) := by decide +kernel
theorem dX11_seen_28 : decode cX11_seen 28 = .ok (.ifCond .ne 6, 3) := by decide +kernel
theorem dX11_seen_31 : decode cX11_seen 31 = .ok (.bipush (-2), 2) := by decide +kernel
theorem dX11_seen_33 : decode cX11_seen 33 = .ok (.ireturn, 1) := by decide +kernel
theorem dX11_seen_34 : decode cX11_seen 34 = .ok (.aload_n 0, 1) := by decide +kernel
theorem dX11_seen_35 : decode cX11_seen 35 = .ok (.getfield 258, 3) := by decide +kernel
theorem dX11_seen_38 : decode cX11_seen 38 = .ok (.bipush 8, 2) := by decide +kernel
theorem dX11_seen_40 : decode cX11_seen 40 = .ok (.if_icmp .ne 6, 3) := by decide +kernel
theorem dX11_seen_43 : decode cX11_seen 43 = .ok (.bipush (-4), 2) := by decide +kernel
theorem dX11_seen_45 : decode cX11_seen 45 = .ok (.ireturn, 1) := by decide +kernel
theorem dX11_seen_46 : decode cX11_seen 46 = .ok (.aload_n 0, 1) := by decide +kernel
theorem dX11_seen_47 : decode cX11_seen 47 = .ok (.getfield 73, 3) := by decide +kernel
theorem dX11_seen_50 : decode cX11_seen 50 = .ok (.iconst 3, 1) := by decide +kernel
theorem dX11_seen_51 : decode cX11_seen 51 = .ok (.aload_n 0, 1) := by decide +kernel
theorem dX11_seen_52 : decode cX11_seen 52 = .ok (.getfield 258, 3) := by decide +kernel
theorem dX11_seen_55 : decode cX11_seen 55 = .ok (.imul, 1) := by decide +kernel
theorem dX11_seen_56 : decode cX11_seen 56 = .ok (.iload_n 1, 1) := by decide +kernel
theorem dX11_seen_57 : decode cX11_seen 57 = .ok (.iastore, 1) := by decide +kernel
theorem dX11_seen_58 : decode cX11_seen 58 = .ok (.aload_n 0, 1) := by decide +kernel
theorem dX11_seen_59 : decode cX11_seen 59 = .ok (.getfield 73, 3) := by decide +kernel
theorem dX11_seen_62 : decode cX11_seen 62 = .ok (.iconst 3, 1) := by decide +kernel
theorem dX11_seen_63 : decode cX11_seen 63 = .ok (.aload_n 0, 1) := by decide +kernel
theorem dX11_seen_64 : decode cX11_seen 64 = .ok (.getfield 258, 3) := by decide +kernel
theorem dX11_seen_67 : decode cX11_seen 67 = .ok (.imul, 1) := by decide +kernel
theorem dX11_seen_68 : decode cX11_seen 68 = .ok (.iconst 1, 1) := by decide +kernel
theorem dX11_seen_69 : decode cX11_seen 69 = .ok (.iadd, 1) := by decide +kernel
theorem dX11_seen_70 : decode cX11_seen 70 = .ok (.iload_n 2, 1) := by decide +kernel
theorem dX11_seen_71 : decode cX11_seen 71 = .ok (.iastore, 1) := by decide +kernel
theorem dX11_seen_72 : decode cX11_seen 72 = .ok (.aload_n 0, 1) := by decide +kernel
theorem dX11_seen_73 : decode cX11_seen 73 = .ok (.getfield 73, 3) := by decide +kernel
theorem dX11_seen_76 : decode cX11_seen 76 = .ok (.iconst 3, 1) := by decide +kernel
theorem dX11_seen_77 : decode cX11_seen 77 = .ok (.aload_n 0, 1) := by decide +kernel
theorem dX11_seen_78 : decode cX11_seen 78 = .ok (.getfield 258, 3) := by decide +kernel
theorem dX11_seen_81 : decode cX11_seen 81 = .ok (.imul, 1) := by decide +kernel
theorem dX11_seen_82 : decode cX11_seen 82 = .ok (.iconst 2, 1) := by decide +kernel
theorem dX11_seen_83 : decode cX11_seen 83 = .ok (.iadd, 1) := by decide +kernel
theorem dX11_seen_84 : decode cX11_seen 84 = .ok (.iload_n 3, 1) := by decide +kernel
theorem dX11_seen_85 : decode cX11_seen 85 = .ok (.iastore, 1) := by decide +kernel
theorem dX11_seen_86 : decode cX11_seen 86 = .ok (.aload_n 0, 1) := by decide +kernel
theorem dX11_seen_87 : decode cX11_seen 87 = .ok (.dup, 1) := by decide +kernel
theorem dX11_seen_88 : decode cX11_seen 88 = .ok (.getfield 258, 3) := by decide +kernel
theorem dX11_seen_91 : decode cX11_seen 91 = .ok (.iconst 1, 1) := by decide +kernel
theorem dX11_seen_92 : decode cX11_seen 92 = .ok (.iadd, 1) := by decide +kernel
theorem dX11_seen_93 : decode cX11_seen 93 = .ok (.putfield 258, 3) := by decide +kernel
theorem dX11_seen_96 : decode cX11_seen 96 = .ok (.aload_n 0, 1) := by decide +kernel
theorem dX11_seen_97 : decode cX11_seen 97 = .ok (.getfield 258, 3) := by decide +kernel
theorem dX11_seen_100 : decode cX11_seen 100 = .ok (.ireturn, 1) := by decide +kernel
theorem dX11_forget_0 : decode cX11_forget 0 = .ok (.aload_n 0, 1) := by decide +kernel
theorem dX11_forget_1 : decode cX11_forget 1 = .ok (.getfield 258, 3) := by decide +kernel
theorem dX11_forget_4 : decode cX11_forget 4 = .ok (.istore_n 1, 1) := by decide +kernel
theorem dX11_forget_5 : decode cX11_forget 5 = .ok (.aload_n 0, 1) := by decide +kernel
theorem dX11_forget_6 : decode cX11_forget 6 = .ok (.iconst 0, 1) := by decide +kernel
theorem dX11_forget_7 : decode cX11_forget 7 = .ok (.putfield 258, 3) := by decide +kernel
theorem dX11_forget_10 : decode cX11_forget 10 = .ok (.iload_n 1, 1) := by decide +kernel
theorem dX11_forget_11 : decode cX11_forget 11 = .ok (.ireturn, 1) := by decide +kernel
theorem dX11_isSeen_0 : decode cX11_isSeen 0 = .ok (.aload_n 0, 1) := by decide +kernel
theorem dX11_isSeen_1 : decode cX11_isSeen 1 = .ok (.invokevirtual 215, 3) := by decide +kernel
theorem dX11_isSeen_4 : decode cX11_isSeen 4 = .ok (.iconst 1, 1) := by decide +kernel
theorem dX11_isSeen_5 : decode cX11_isSeen 5 = .ok (.istore_n 1, 1) := by decide +kernel
theorem dX11_isSeen_6 : decode cX11_isSeen 6 = .ok (.iconst 0, 1) := by decide +kernel
theorem dX11_isSeen_7 : decode cX11_isSeen 7 = .ok (.istore_n 2, 1) := by decide +kernel
theorem dX11_isSeen_8 : decode cX11_isSeen 8 = .ok (.iload_n 2, 1) := by decide +kernel
theorem dX11_isSeen_9 : decode cX11_isSeen 9 = .ok (.aload_n 0, 1) := by decide +kernel
theorem dX11_isSeen_10 : decode cX11_isSeen 10 = .ok (.getfield 258, 3) := by decide +kernel
theorem dX11_isSeen_13 : decode cX11_isSeen 13 = .ok (.if_icmp .ge 92, 3) := by decide +kernel
theorem dX11_isSeen_16 : decode cX11_isSeen 16 = .ok (.iload_n 1, 1) := by decide +kernel
theorem dX11_isSeen_17 : decode cX11_isSeen 17 = .ok (.ifCond .eq 88, 3) := by decide +kernel
theorem dX11_isSeen_20 : decode cX11_isSeen 20 = .ok (.aload_n 0, 1) := by decide +kernel
theorem dX11_isSeen_21 : decode cX11_isSeen 21 = .ok (.getfield 73, 3) := by decide +kernel
theorem dX11_isSeen_24 : decode cX11_isSeen 24 = .ok (.iconst 3, 1) := by decide +kernel
theorem dX11_isSeen_25 : decode cX11_isSeen 25 = .ok (.iload_n 2, 1) := by decide +kernel
theorem dX11_isSeen_26 : decode cX11_isSeen 26 = .ok (.imul, 1) := by decide +kernel
theorem dX11_isSeen_27 : decode cX11_isSeen 27 = .ok (.iconst 1, 1) := by decide +kernel
theorem dX11_isSeen_28 : decode cX11_isSeen 28 = .ok (.iadd, 1) := by decide +kernel
theorem dX11_isSeen_29 : decode cX11_isSeen 29 = .ok (.iaload, 1) := by decide +kernel
theorem dX11_isSeen_30 : decode cX11_isSeen 30 = .ok (.istore_n 3, 1) := by decide +kernel
theorem dX11_isSeen_31 : decode cX11_isSeen 31 = .ok (.aload_n 0, 1) := by decide +kernel
theorem dX11_isSeen_32 : decode cX11_isSeen 32 = .ok (.iload_n 3, 1) := by decide +kernel
theorem dX11_isSeen_33 : decode cX11_isSeen 33 = .ok (.invokevirtual 153, 3) := by decide +kernel
theorem dX11_isSeen_36 : decode cX11_isSeen 36 = .ok (.ifCond .eq 61, 3) := by decide +kernel
theorem dX11_isSeen_39 : decode cX11_isSeen 39 = .ok (.aload_n 0, 1) := by decide +kernel
theorem dX11_isSeen_40 : decode cX11_isSeen 40 = .ok (.getfield 64, 3) := by decide +kernel
theorem dX11_isSeen_43 : decode cX11_isSeen 43 = .ok (.bipush 32, 2) := by decide +kernel
theorem dX11_isSeen_45 : decode cX11_isSeen 45 = .ok (.aload_n 0, 1) := by decide +kernel
theorem dX11_isSeen_46 : decode cX11_isSeen 46 = .ok (.getfield 73, 3) := by decide +kernel
theorem dX11_isSeen_49 : decode cX11_isSeen 49 = .ok (.iconst 3, 1) := by decide +kernel
theorem dX11_isSeen_50 : decode cX11_isSeen 50 = .ok (.iload_n 2, 1) := by decide +kernel
theorem dX11_isSeen_51 : decode cX11_isSeen 51 = .ok (.imul, 1) := by decide +kernel
theorem dX11_isSeen_52 : decode cX11_isSeen 52 = .ok (.iaload, 1) := by decide +kernel
theorem dX11_isSeen_53 : decode cX11_isSeen 53 = .ok (.imul, 1) := by decide +kernel
theorem dX11_isSeen_54 : decode cX11_isSeen 54 = .ok (.iconst 4, 1) := by decide +kernel
theorem dX11_isSeen_55 : decode cX11_isSeen 55 = .ok (.iload_n 3, 1) := by decide +kernel
theorem dX11_isSeen_56 : decode cX11_isSeen 56 = .ok (.imul, 1) := by decide +kernel
theorem dX11_isSeen_57 : decode cX11_isSeen 57 = .ok (.iadd, 1) := by decide +kernel
theorem dX11_isSeen_58 : decode cX11_isSeen 58 = .ok (.iconst 1, 1) := by decide +kernel
theorem dX11_isSeen_59 : decode cX11_isSeen 59 = .ok (.iadd, 1) := by decide +kernel
theorem dX11_isSeen_60 : decode cX11_isSeen 60 = .ok (.iaload, 1) := by decide +kernel
theorem dX11_isSeen_61 : decode cX11_isSeen 61 = .ok (.aload_n 0, 1) := by decide +kernel
theorem dX11_isSeen_62 : decode cX11_isSeen 62 = .ok (.getfield 73, 3) := by decide +kernel
theorem dX11_isSeen_65 : decode cX11_isSeen 65 = .ok (.iconst 3, 1) := by decide +kernel
theorem dX11_isSeen_66 : decode cX11_isSeen 66 = .ok (.iload_n 2, 1) := by decide +kernel
theorem dX11_isSeen_67 : decode cX11_isSeen 67 = .ok (.imul, 1) := by decide +kernel
theorem dX11_isSeen_68 : decode cX11_isSeen 68 = .ok (.iconst 2, 1) := by decide +kernel
theorem dX11_isSeen_69 : decode cX11_isSeen 69 = .ok (.iadd, 1) := by decide +kernel
theorem dX11_isSeen_70 : decode cX11_isSeen 70 = .ok (.iaload, 1) := by decide +kernel
theorem dX11_isSeen_71 : decode cX11_isSeen 71 = .ok (.bipush 8, 2) := by decide +kernel
theorem dX11_isSeen_73 : decode cX11_isSeen 73 = .ok (.if_icmp .ne 7, 3) := by decide +kernel
theorem dX11_isSeen_76 : decode cX11_isSeen 76 = .ok (.iconst (-1), 1) := by decide +kernel
theorem dX11_isSeen_77 : decode cX11_isSeen 77 = .ok (.goto 13, 3) := by decide +kernel
theorem dX11_isSeen_80 : decode cX11_isSeen 80 = .ok (.aload_n 0, 1) := by decide +kernel
theorem dX11_isSeen_81 : decode cX11_isSeen 81 = .ok (.getfield 73, 3) := by decide +kernel
theorem dX11_isSeen_84 : decode cX11_isSeen 84 = .ok (.iconst 3, 1) := by decide +kernel
theorem dX11_isSeen_85 : decode cX11_isSeen 85 = .ok (.iload_n 2, 1) := by decide +kernel
theorem dX11_isSeen_86 : decode cX11_isSeen 86 = .ok (.imul, 1) := by decide +kernel
theorem dX11_isSeen_87 : decode cX11_isSeen 87 = .ok (.iconst 2, 1) := by decide +kernel
theorem dX11_isSeen_88 : decode cX11_isSeen 88 = .ok (.iadd, 1) := by decide +kernel
theorem dX11_isSeen_89 : decode cX11_isSeen 89 = .ok (.iaload, 1) := by decide +kernel
theorem dX11_isSeen_90 : decode cX11_isSeen 90 = .ok (.if_icmp .ne 7, 3) := by decide +kernel
theorem dX11_isSeen_93 : decode cX11_isSeen 93 = .ok (.iconst 1, 1) := by decide +kernel
theorem dX11_isSeen_94 : decode cX11_isSeen 94 = .ok (.goto 4, 3) := by decide +kernel
theorem dX11_isSeen_97 : decode cX11_isSeen 97 = .ok (.iconst 0, 1) := by decide +kernel
theorem dX11_isSeen_98 : decode cX11_isSeen 98 = .ok (.istore_n 1, 1) := by decide +kernel
theorem dX11_isSeen_99 : decode cX11_isSeen 99 = .ok (.iinc 2 1, 3) := by decide +kernel
theorem dX11_isSeen_102 : decode cX11_isSeen 102 = .ok (.goto (-94), 3) := by decide +kernel
theorem dX11_isSeen_105 : decode cX11_isSeen 105 = .ok (.iload_n 1, 1) := by decide +kernel
theorem dX11_isSeen_106 : decode cX11_isSeen 106 = .ok (.ireturn, 1) := by decide +kernel
theorem dX11_neverNow_0 : decode cX11_neverNow 0 = .ok (.iconst 0, 1) := by decide +kernel
theorem dX11_neverNow_1 : decode cX11_neverNow 1 = .ok (.istore_n 1, 1) := by decide +kernel
theorem dX11_neverNow_2 : decode cX11_neverNow 2 = .ok (.iconst 0, 1) := by decide +kernel
theorem dX11_neverNow_3 : decode cX11_neverNow 3 = .ok (.istore_n 2, 1) := by decide +kernel
theorem dX11_neverNow_4 : decode cX11_neverNow 4 = .ok (.iload_n 2, 1) := by decide +kernel
theorem dX11_neverNow_5 : decode cX11_neverNow 5 = .ok (.aload_n 0, 1) := by decide +kernel
theorem dX11_neverNow_6 : decode cX11_neverNow 6 = .ok (.getfield 166, 3) := by decide +kernel
theorem dX11_neverNow_9 : decode cX11_neverNow 9 = .ok (.if_icmp .ge 33, 3) := by decide +kernel
theorem dX11_neverNow_12 : decode cX11_neverNow 12 = .ok (.aload_n 0, 1) := by decide +kernel
theorem dX11_neverNow_13 : decode cX11_neverNow 13 = .ok (.iconst 1, 1) := by decide +kernel
theorem dX11_neverNow_14 : decode cX11_neverNow 14 = .ok (.iload_n 2, 1) := by decide +kernel
theorem dX11_neverNow_15 : decode cX11_neverNow 15 = .ok (.ishl, 1) := by decide +kernel
theorem dX11_neverNow_16 : decode cX11_neverNow 16 = .ok (.putfield 174, 3) := by decide +kernel
theorem dX11_neverNow_19 : decode cX11_neverNow 19 = .ok (.iload_n 1, 1) := by decide +kernel
theorem dX11_neverNow_20 : decode cX11_neverNow 20 = .ok (.aload_n 0, 1) := by decide +kernel
theorem dX11_neverNow_21 : decode cX11_neverNow 21 = .ok (.invokevirtual 261, 3) := by decide +kernel
theorem dX11_neverNow_24 : decode cX11_neverNow 24 = .ok (.ifCond .eq 9, 3) := by decide +kernel
theorem dX11_neverNow_27 : decode cX11_neverNow 27 = .ok (.iconst 1, 1) := by decide +kernel
theorem dX11_neverNow_28 : decode cX11_neverNow 28 = .ok (.iload_n 2, 1) := by decide +kernel
theorem dX11_neverNow_29 : decode cX11_neverNow 29 = .ok (.ishl, 1) := by decide +kernel
theorem dX11_neverNow_30 : decode cX11_neverNow 30 = .ok (.goto 4, 3) := by decide +kernel
theorem dX11_neverNow_33 : decode cX11_neverNow 33 = .ok (.iconst 0, 1) := by decide +kernel
theorem dX11_neverNow_34 : decode cX11_neverNow 34 = .ok (.ior, 1) := by decide +kernel
theorem dX11_neverNow_35 : decode cX11_neverNow 35 = .ok (.istore_n 1, 1) := by decide +kernel
theorem dX11_neverNow_36 : decode cX11_neverNow 36 = .ok (.iinc 2 1, 3) := by decide +kernel
theorem dX11_neverNow_39 : decode cX11_neverNow 39 = .ok (.goto (-35), 3) := by decide +kernel
theorem dX11_neverNow_42 : decode cX11_neverNow 42 = .ok (.aload_n 0, 1) := by decide +kernel
theorem dX11_neverNow_43 : decode cX11_neverNow 43 = .ok (.iconst 0, 1) := by decide +kernel
theorem dX11_neverNow_44 : decode cX11_neverNow 44 = .ok (.putfield 174, 3) := by decide +kernel
theorem dX11_neverNow_47 : decode cX11_neverNow 47 = .ok (.iload_n 1, 1) := by decide +kernel
theorem dX11_neverNow_48 : decode cX11_neverNow 48 = .ok (.ireturn, 1) := by decide +kernel
theorem dX11_never_0 : decode cX11_never 0 = .ok (.aload_n 0, 1) := by decide +kernel
theorem dX11_never_1 : decode cX11_never 1 = .ok (.invokevirtual 218, 3) := by decide +kernel
theorem dX11_never_4 : decode cX11_never 4 = .ok (.aload_n 0, 1) := by decide +kernel
theorem dX11_never_5 : decode cX11_never 5 = .ok (.invokevirtual 265, 3) := by decide +kernel
theorem dX11_never_8 : decode cX11_never 8 = .ok (.ireturn, 1) := by decide +kernel
theorem dX11_sortOf_0 : decode cX11_sortOf 0 = .ok (.aload_n 0, 1) := by decide +kernel
theorem dX11_sortOf_1 : decode cX11_sortOf 1 = .ok (.getfield 31, 3) := by decide +kernel
theorem dX11_sortOf_4 : decode cX11_sortOf 4 = .ok (.iconst 5, 1) := by decide +kernel
theorem dX11_sortOf_5 : decode cX11_sortOf 5 = .ok (.iload_n 1, 1) := by decide +kernel
theorem dX11_sortOf_6 : decode cX11_sortOf 6 = .ok (.imul, 1) := by decide +kernel
theorem dX11_sortOf_7 : decode cX11_sortOf 7 = .ok (.iconst 2, 1) := by decide +kernel
theorem dX11_sortOf_8 : decode cX11_sortOf 8 = .ok (.iadd, 1) := by decide +kernel
theorem dX11_sortOf_9 : decode cX11_sortOf 9 = .ok (.iaload, 1) := by decide +kernel
theorem dX11_sortOf_10 : decode cX11_sortOf 10 = .ok (.istore_n 2, 1) := by decide +kernel
theorem dX11_sortOf_11 : decode cX11_sortOf 11 = .ok (.iconst 0, 1) := by decide +kernel
theorem dX11_sortOf_12 : decode cX11_sortOf 12 = .ok (.istore_n 3, 1) := by decide +kernel
theorem dX11_sortOf_13 : decode cX11_sortOf 13 = .ok (.iconst 0, 1) := by decide +kernel
theorem dX11_sortOf_14 : decode cX11_sortOf 14 = .ok (.istore 4, 2) := by decide +kernel
theorem dX11_sortOf_16 : decode cX11_sortOf 16 = .ok (.iload 4, 2) := by decide +kernel
theorem dX11_sortOf_18 : decode cX11_sortOf 18 = .ok (.iconst 3, 1) := by decide +kernel
theorem dX11_sortOf_19 : decode cX11_sortOf 19 = .ok (.if_icmp .ge 84, 3) := by decide +kernel
theorem dX11_sortOf_22 : decode cX11_sortOf 22 = .ok (.aload_n 0, 1) := by decide +kernel
theorem dX11_sortOf_23 : decode cX11_sortOf 23 = .ok (.getfield 31, 3) := by decide +kernel
theorem dX11_sortOf_26 : decode cX11_sortOf 26 = .ok (.iconst 5, 1) := by decide +kernel
theorem dX11_sortOf_27 : decode cX11_sortOf 27 = .ok (.iload_n 1, 1) := by decide +kernel
theorem dX11_sortOf_28 : decode cX11_sortOf 28 = .ok (.imul, 1) := by decide +kernel
theorem dX11_sortOf_29 : decode cX11_sortOf 29 = .ok (.iconst 2, 1) := by decide +kernel
theorem dX11_sortOf_30 : decode cX11_sortOf 30 = .ok (.iadd, 1) := by decide +kernel
theorem dX11_sortOf_31 : decode cX11_sortOf 31 = .ok (.iload 4, 2) := by decide +kernel
theorem dX11_sortOf_33 : decode cX11_sortOf 33 = .ok (.iastore, 1) := by decide +kernel
theorem dX11_sortOf_34 : decode cX11_sortOf 34 = .ok (.iload_n 3, 1) := by decide +kernel
theorem dX11_sortOf_35 : decode cX11_sortOf 35 = .ok (.aload_n 0, 1) := by decide +kernel
theorem dX11_sortOf_36 : decode cX11_sortOf 36 = .ok (.invokevirtual 261, 3) := by decide +kernel
theorem dX11_sortOf_39 : decode cX11_sortOf 39 = .ok (.ifCond .eq 10, 3) := by decide +kernel
theorem dX11_sortOf_42 : decode cX11_sortOf 42 = .ok (.iconst 1, 1) := by decide +kernel
theorem dX11_sortOf_43 : decode cX11_sortOf 43 = .ok (.iload 4, 2) := by decide +kernel
theorem dX11_sortOf_45 : decode cX11_sortOf 45 = .ok (.ishl, 1) := by decide +kernel
theorem dX11_sortOf_46 : decode cX11_sortOf 46 = .ok (.goto 4, 3) := by decide +kernel
theorem dX11_sortOf_49 : decode cX11_sortOf 49 = .ok (.iconst 0, 1) := by decide +kernel
theorem dX11_sortOf_50 : decode cX11_sortOf 50 = .ok (.ior, 1) := by decide +kernel
theorem dX11_sortOf_51 : decode cX11_sortOf 51 = .ok (.istore_n 3, 1) := by decide +kernel
theorem dX11_sortOf_52 : decode cX11_sortOf 52 = .ok (.iconst 0, 1) := by decide +kernel
theorem dX11_sortOf_53 : decode cX11_sortOf 53 = .ok (.istore 5, 2) := by decide +kernel
theorem dX11_sortOf_55 : decode cX11_sortOf 55 = .ok (.iload 5, 2) := by decide +kernel
theorem dX11_sortOf_57 : decode cX11_sortOf 57 = .ok (.bipush 40, 2) := by decide +kernel
theorem dX11_sortOf_59 : decode cX11_sortOf 59 = .ok (.if_icmp .ge 38, 3) := by decide +kernel
theorem dX11_sortOf_62 : decode cX11_sortOf 62 = .ok (.aload_n 0, 1) := by decide +kernel
theorem dX11_sortOf_63 : decode cX11_sortOf 63 = .ok (.getfield 76, 3) := by decide +kernel
theorem dX11_sortOf_66 : decode cX11_sortOf 66 = .ok (.bipush 40, 2) := by decide +kernel
theorem dX11_sortOf_68 : decode cX11_sortOf 68 = .ok (.iload 4, 2) := by decide +kernel
theorem dX11_sortOf_70 : decode cX11_sortOf 70 = .ok (.imul, 1) := by decide +kernel
theorem dX11_sortOf_71 : decode cX11_sortOf 71 = .ok (.iload 5, 2) := by decide +kernel
theorem dX11_sortOf_73 : decode cX11_sortOf 73 = .ok (.iadd, 1) := by decide +kernel
theorem dX11_sortOf_74 : decode cX11_sortOf 74 = .ok (.aload_n 0, 1) := by decide +kernel
theorem dX11_sortOf_75 : decode cX11_sortOf 75 = .ok (.getfield 64, 3) := by decide +kernel
theorem dX11_sortOf_78 : decode cX11_sortOf 78 = .ok (.bipush 32, 2) := by decide +kernel
theorem dX11_sortOf_80 : decode cX11_sortOf 80 = .ok (.iload 5, 2) := by decide +kernel
theorem dX11_sortOf_82 : decode cX11_sortOf 82 = .ok (.imul, 1) := by decide +kernel
theorem dX11_sortOf_83 : decode cX11_sortOf 83 = .ok (.iconst 4, 1) := by decide +kernel
theorem dX11_sortOf_84 : decode cX11_sortOf 84 = .ok (.iload_n 1, 1) := by decide +kernel
theorem dX11_sortOf_85 : decode cX11_sortOf 85 = .ok (.imul, 1) := by decide +kernel
theorem dX11_sortOf_86 : decode cX11_sortOf 86 = .ok (.iadd, 1) := by decide +kernel
theorem dX11_sortOf_87 : decode cX11_sortOf 87 = .ok (.iconst 1, 1) := by decide +kernel
theorem dX11_sortOf_88 : decode cX11_sortOf 88 = .ok (.iadd, 1) := by decide +kernel
theorem dX11_sortOf_89 : decode cX11_sortOf 89 = .ok (.iaload, 1) := by decide +kernel
theorem dX11_sortOf_90 : decode cX11_sortOf 90 = .ok (.iastore, 1) := by decide +kernel
theorem dX11_sortOf_91 : decode cX11_sortOf 91 = .ok (.iinc 5 1, 3) := by decide +kernel
theorem dX11_sortOf_94 : decode cX11_sortOf 94 = .ok (.goto (-39), 3) := by decide +kernel
theorem dX11_sortOf_97 : decode cX11_sortOf 97 = .ok (.iinc 4 1, 3) := by decide +kernel
theorem dX11_sortOf_100 : decode cX11_sortOf 100 = .ok (.goto (-84), 3) := by decide +kernel
theorem dX11_sortOf_103 : decode cX11_sortOf 103 = .ok (.aload_n 0, 1) := by decide +kernel
theorem dX11_sortOf_104 : decode cX11_sortOf 104 = .ok (.getfield 31, 3) := by decide +kernel
theorem dX11_sortOf_107 : decode cX11_sortOf 107 = .ok (.iconst 5, 1) := by decide +kernel
theorem dX11_sortOf_108 : decode cX11_sortOf 108 = .ok (.iload_n 1, 1) := by decide +kernel
theorem dX11_sortOf_109 : decode cX11_sortOf 109 = .ok (.imul, 1) := by decide +kernel
theorem dX11_sortOf_110 : decode cX11_sortOf 110 = .ok (.iconst 2, 1) := by decide +kernel
theorem dX11_sortOf_111 : decode cX11_sortOf 111 = .ok (.iadd, 1) := by decide +kernel
theorem dX11_sortOf_112 : decode cX11_sortOf 112 = .ok (.iload_n 2, 1) := by decide +kernel
theorem dX11_sortOf_113 : decode cX11_sortOf 113 = .ok (.iastore, 1) := by decide +kernel
theorem dX11_sortOf_114 : decode cX11_sortOf 114 = .ok (.iload_n 3, 1) := by decide +kernel
theorem dX11_sortOf_115 : decode cX11_sortOf 115 = .ok (.ireturn, 1) := by decide +kernel
theorem dX11_sort_0 : decode cX11_sort 0 = .ok (.aload_n 0, 1) := by decide +kernel
theorem dX11_sort_1 : decode cX11_sort 1 = .ok (.invokevirtual 218, 3) := by decide +kernel
theorem dX11_sort_4 : decode cX11_sort 4 = .ok (.aload_n 0, 1) := by decide +kernel
theorem dX11_sort_5 : decode cX11_sort 5 = .ok (.iload_n 1, 1) := by decide +kernel
theorem dX11_sort_6 : decode cX11_sort 6 = .ok (.invokevirtual 153, 3) := by decide +kernel
theorem dX11_sort_9 : decode cX11_sort 9 = .ok (.ifCond .eq 11, 3) := by decide +kernel
theorem dX11_sort_12 : decode cX11_sort 12 = .ok (.aload_n 0, 1) := by decide +kernel
theorem dX11_sort_13 : decode cX11_sort 13 = .ok (.iload_n 1, 1) := by decide +kernel
theorem dX11_sort_14 : decode cX11_sort 14 = .ok (.invokevirtual 268, 3) := by decide +kernel
theorem dX11_sort_17 : decode cX11_sort 17 = .ok (.goto 5, 3) := by decide +kernel
theorem dX11_sort_20 : decode cX11_sort 20 = .ok (.bipush (-2), 2) := by decide +kernel
theorem dX11_sort_22 : decode cX11_sort 22 = .ok (.ireturn, 1) := by decide +kernel
theorem dX11_forceOf_0 : decode cX11_forceOf 0 = .ok (.aload_n 0, 1) := by decide +kernel
theorem dX11_forceOf_1 : decode cX11_forceOf 1 = .ok (.getfield 31, 3) := by decide +kernel
theorem dX11_forceOf_4 : decode cX11_forceOf 4 = .ok (.iconst 5, 1) := by decide +kernel
theorem dX11_forceOf_5 : decode cX11_forceOf 5 = .ok (.iload_n 1, 1) := by decide +kernel
theorem dX11_forceOf_6 : decode cX11_forceOf 6 = .ok (.imul, 1) := by decide +kernel
theorem dX11_forceOf_7 : decode cX11_forceOf 7 = .ok (.iconst 3, 1) := by decide +kernel
theorem dX11_forceOf_8 : decode cX11_forceOf 8 = .ok (.iadd, 1) := by decide +kernel
theorem dX11_forceOf_9 : decode cX11_forceOf 9 = .ok (.iaload, 1) := by decide +kernel
theorem dX11_forceOf_10 : decode cX11_forceOf 10 = .ok (.istore_n 3, 1) := by decide +kernel
theorem dX11_forceOf_11 : decode cX11_forceOf 11 = .ok (.iconst 0, 1) := by decide +kernel
theorem dX11_forceOf_12 : decode cX11_forceOf 12 = .ok (.istore 4, 2) := by decide +kernel
theorem dX11_forceOf_14 : decode cX11_forceOf 14 = .ok (.iconst (-1), 1) := by decide +kernel
theorem dX11_forceOf_15 : decode cX11_forceOf 15 = .ok (.istore 5, 2) := by decide +kernel
theorem dX11_forceOf_17 : decode cX11_forceOf 17 = .ok (.iconst (-1), 1) := by decide +kernel
theorem dX11_forceOf_18 : decode cX11_forceOf 18 = .ok (.istore 6, 2) := by decide +kernel
theorem dX11_forceOf_20 : decode cX11_forceOf 20 = .ok (.iconst 0, 1) := by decide +kernel
theorem dX11_forceOf_21 : decode cX11_forceOf 21 = .ok (.istore 7, 2) := by decide +kernel
theorem dX11_forceOf_23 : decode cX11_forceOf 23 = .ok (.iload 7, 2) := by decide +kernel
theorem dX11_forceOf_25 : decode cX11_forceOf 25 = .ok (.bipush 100, 2) := by decide +kernel
theorem dX11_forceOf_27 : decode cX11_forceOf 27 = .ok (.if_icmp .ge 76, 3) := by decide +kernel
theorem dX11_forceOf_30 : decode cX11_forceOf 30 = .ok (.aload_n 0, 1) := by decide +kernel
theorem dX11_forceOf_31 : decode cX11_forceOf 31 = .ok (.getfield 31, 3) := by decide +kernel
theorem dX11_forceOf_34 : decode cX11_forceOf 34 = .ok (.iconst 5, 1) := by decide +kernel
theorem dX11_forceOf_35 : decode cX11_forceOf 35 = .ok (.iload_n 1, 1) := by decide +kernel
theorem dX11_forceOf_36 : decode cX11_forceOf 36 = .ok (.imul, 1) := by decide +kernel
theorem dX11_forceOf_37 : decode cX11_forceOf 37 = .ok (.iconst 3, 1) := by decide +kernel
theorem dX11_forceOf_38 : decode cX11_forceOf 38 = .ok (.iadd, 1) := by decide +kernel
theorem dX11_forceOf_39 : decode cX11_forceOf 39 = .ok (.iload 7, 2) := by decide +kernel
theorem dX11_forceOf_41 : decode cX11_forceOf 41 = .ok (.iastore, 1) := by decide +kernel
theorem dX11_forceOf_42 : decode cX11_forceOf 42 = .ok (.aload_n 0, 1) := by decide +kernel
theorem dX11_forceOf_43 : decode cX11_forceOf 43 = .ok (.invokevirtual 261, 3) := by decide +kernel
theorem dX11_forceOf_46 : decode cX11_forceOf 46 = .ok (.istore 8, 2) := by decide +kernel
theorem dX11_forceOf_48 : decode cX11_forceOf 48 = .ok (.iload 4, 2) := by decide +kernel
theorem dX11_forceOf_50 : decode cX11_forceOf 50 = .ok (.iload 8, 2) := by decide +kernel
theorem dX11_forceOf_52 : decode cX11_forceOf 52 = .ok (.ifCond .eq 7, 3) := by decide +kernel
theorem dX11_forceOf_55 : decode cX11_forceOf 55 = .ok (.iconst 1, 1) := by decide +kernel
theorem dX11_forceOf_56 : decode cX11_forceOf 56 = .ok (.goto 4, 3) := by decide +kernel
theorem dX11_forceOf_59 : decode cX11_forceOf 59 = .ok (.iconst 0, 1) := by decide +kernel
theorem dX11_forceOf_60 : decode cX11_forceOf 60 = .ok (.iadd, 1) := by decide +kernel
theorem dX11_forceOf_61 : decode cX11_forceOf 61 = .ok (.istore 4, 2) := by decide +kernel
theorem dX11_forceOf_63 : decode cX11_forceOf 63 = .ok (.iload 8, 2) := by decide +kernel
theorem dX11_forceOf_65 : decode cX11_forceOf 65 = .ok (.ifCond .eq 14, 3) := by decide +kernel
theorem dX11_forceOf_68 : decode cX11_forceOf 68 = .ok (.iload 5, 2) := by decide +kernel
theorem dX11_forceOf_70 : decode cX11_forceOf 70 = .ok (.iconst (-1), 1) := by decide +kernel
theorem dX11_forceOf_71 : decode cX11_forceOf 71 = .ok (.if_icmp .ne 8, 3) := by decide +kernel
theorem dX11_forceOf_74 : decode cX11_forceOf 74 = .ok (.iload 7, 2) := by decide +kernel
theorem dX11_forceOf_76 : decode cX11_forceOf 76 = .ok (.goto 5, 3) := by decide +kernel
theorem dX11_forceOf_79 : decode cX11_forceOf 79 = .ok (.iload 5, 2) := by decide +kernel
theorem dX11_forceOf_81 : decode cX11_forceOf 81 = .ok (.istore 5, 2) := by decide +kernel
theorem dX11_forceOf_83 : decode cX11_forceOf 83 = .ok (.iload 8, 2) := by decide +kernel
theorem dX11_forceOf_85 : decode cX11_forceOf 85 = .ok (.ifCond .eq 8, 3) := by decide +kernel
theorem dX11_forceOf_88 : decode cX11_forceOf 88 = .ok (.iload 7, 2) := by decide +kernel
theorem dX11_forceOf_90 : decode cX11_forceOf 90 = .ok (.goto 5, 3) := by decide +kernel
theorem dX11_forceOf_93 : decode cX11_forceOf 93 = .ok (.iload 6, 2) := by decide +kernel
theorem dX11_forceOf_95 : decode cX11_forceOf 95 = .ok (.istore 6, 2) := by decide +kernel
theorem dX11_forceOf_97 : decode cX11_forceOf 97 = .ok (.iinc 7 1, 3) := by decide +kernel
theorem dX11_forceOf_100 : decode cX11_forceOf 100 = .ok (.goto (-77), 3) := by decide +kernel
theorem dX11_forceOf_103 : decode cX11_forceOf 103 = .ok (.aload_n 0, 1) := by decide +kernel
theorem dX11_forceOf_104 : decode cX11_forceOf 104 = .ok (.getfield 31, 3) := by decide +kernel
theorem dX11_forceOf_107 : decode cX11_forceOf 107 = .ok (.iconst 5, 1) := by decide +kernel
theorem dX11_forceOf_108 : decode cX11_forceOf 108 = .ok (.iload_n 1, 1) := by decide +kernel
theorem dX11_forceOf_109 : decode cX11_forceOf 109 = .ok (.imul, 1) := by decide +kernel
theorem dX11_forceOf_110 : decode cX11_forceOf 110 = .ok (.iconst 3, 1) := by decide +kernel
theorem dX11_forceOf_111 : decode cX11_forceOf 111 = .ok (.iadd, 1) := by decide +kernel
theorem dX11_forceOf_112 : decode cX11_forceOf 112 = .ok (.iload_n 3, 1) := by decide +kernel
theorem dX11_forceOf_113 : decode cX11_forceOf 113 = .ok (.iastore, 1) := by decide +kernel
theorem dX11_forceOf_114 : decode cX11_forceOf 114 = .ok (.iload_n 2, 1) := by decide +kernel
theorem dX11_forceOf_115 : decode cX11_forceOf 115 = .ok (.ifCond .ne 8, 3) := by decide +kernel
theorem dX11_forceOf_118 : decode cX11_forceOf 118 = .ok (.iload 4, 2) := by decide +kernel
theorem dX11_forceOf_120 : decode cX11_forceOf 120 = .ok (.goto 15, 3) := by decide +kernel
theorem dX11_forceOf_123 : decode cX11_forceOf 123 = .ok (.iload_n 2, 1) := by decide +kernel
theorem dX11_forceOf_124 : decode cX11_forceOf 124 = .ok (.iconst 1, 1) := by decide +kernel
theorem dX11_forceOf_125 : decode cX11_forceOf 125 = .ok (.if_icmp .ne 8, 3) := by decide +kernel
theorem dX11_forceOf_128 : decode cX11_forceOf 128 = .ok (.iload 5, 2) := by decide +kernel
theorem dX11_forceOf_130 : decode cX11_forceOf 130 = .ok (.goto 5, 3) := by decide +kernel
theorem dX11_forceOf_133 : decode cX11_forceOf 133 = .ok (.iload 6, 2) := by decide +kernel
theorem dX11_forceOf_135 : decode cX11_forceOf 135 = .ok (.ireturn, 1) := by decide +kernel
theorem dX11_force_0 : decode cX11_force 0 = .ok (.aload_n 0, 1) := by decide +kernel
theorem dX11_force_1 : decode cX11_force 1 = .ok (.invokevirtual 218, 3) := by decide +kernel
theorem dX11_force_4 : decode cX11_force 4 = .ok (.aload_n 0, 1) := by decide +kernel
theorem dX11_force_5 : decode cX11_force 5 = .ok (.iload_n 1, 1) := by decide +kernel
theorem dX11_force_6 : decode cX11_force 6 = .ok (.invokevirtual 153, 3) := by decide +kernel
theorem dX11_force_9 : decode cX11_force 9 = .ok (.ifCond .eq 24, 3) := by decide +kernel
theorem dX11_force_12 : decode cX11_force 12 = .ok (.iload_n 2, 1) := by decide +kernel
theorem dX11_force_13 : decode cX11_force 13 = .ok (.i2l, 1) := by decide +kernel
theorem dX11_force_14 : decode cX11_force 14 = .ok (.lconst 0, 1) := by decide +kernel
theorem dX11_force_15 : decode cX11_force 15 = .ok (.ldc2_w 95, 3) := by decide +kernel
theorem dX11_force_18 : decode cX11_force 18 = .ok (.invokestatic 81, 3) := by decide +kernel
theorem dX11_force_21 : decode cX11_force 21 = .ok (.ifCond .eq 12, 3) := by decide +kernel
theorem dX11_force_24 : decode cX11_force 24 = .ok (.aload_n 0, 1) := by decide +kernel
theorem dX11_force_25 : decode cX11_force 25 = .ok (.iload_n 1, 1) := by decide +kernel
theorem dX11_force_26 : decode cX11_force 26 = .ok (.iload_n 2, 1) := by decide +kernel
theorem dX11_force_27 : decode cX11_force 27 = .ok (.invokevirtual 271, 3) := by decide +kernel
theorem dX11_force_30 : decode cX11_force 30 = .ok (.goto 5, 3) := by decide +kernel
theorem dX11_force_33 : decode cX11_force 33 = .ok (.bipush (-2), 2) := by decide +kernel
theorem dX11_force_35 : decode cX11_force 35 = .ok (.ireturn, 1) := by decide +kernel
theorem dX11_alike_0 : decode cX11_alike 0 = .ok (.iconst 0, 1) := by decide +kernel
theorem dX11_alike_1 : decode cX11_alike 1 = .ok (.istore_n 3, 1) := by decide +kernel
theorem dX11_alike_2 : decode cX11_alike 2 = .ok (.iconst 0, 1) := by decide +kernel
theorem dX11_alike_3 : decode cX11_alike 3 = .ok (.istore 4, 2) := by decide +kernel
theorem dX11_alike_5 : decode cX11_alike 5 = .ok (.iload 4, 2) := by decide +kernel
theorem dX11_alike_7 : decode cX11_alike 7 = .ok (.iconst 3, 1) := by decide +kernel
theorem dX11_alike_8 : decode cX11_alike 8 = .ok (.if_icmp .ge 89, 3) := by decide +kernel
theorem dX11_alike_11 : decode cX11_alike 11 = .ok (.iconst 0, 1) := by decide +kernel
theorem dX11_alike_12 : decode cX11_alike 12 = .ok (.istore 5, 2) := by decide +kernel
theorem dX11_alike_14 : decode cX11_alike 14 = .ok (.iconst 0, 1) := by decide +kernel
theorem dX11_alike_15 : decode cX11_alike 15 = .ok (.istore 6, 2) := by decide +kernel
theorem dX11_alike_17 : decode cX11_alike 17 = .ok (.iload 6, 2) := by decide +kernel
theorem dX11_alike_19 : decode cX11_alike 19 = .ok (.iconst 3, 1) := by decide +kernel
theorem dX11_alike_20 : decode cX11_alike 20 = .ok (.if_icmp .ge 64, 3) := by decide +kernel
theorem dX11_alike_23 : decode cX11_alike 23 = .ok (.iload 5, 2) := by decide +kernel
theorem dX11_alike_25 : decode cX11_alike 25 = .ok (.iload_n 1, 1) := by decide +kernel
theorem dX11_alike_26 : decode cX11_alike 26 = .ok (.iload 4, 2) := by decide +kernel
theorem dX11_alike_28 : decode cX11_alike 28 = .ok (.invokestatic 177, 3) := by decide +kernel
theorem dX11_alike_31 : decode cX11_alike 31 = .ok (.ifCond .eq 43, 3) := by decide +kernel
theorem dX11_alike_34 : decode cX11_alike 34 = .ok (.iload_n 1, 1) := by decide +kernel
theorem dX11_alike_35 : decode cX11_alike 35 = .ok (.iload 6, 2) := by decide +kernel
theorem dX11_alike_37 : decode cX11_alike 37 = .ok (.invokestatic 177, 3) := by decide +kernel
theorem dX11_alike_40 : decode cX11_alike 40 = .ok (.ifCond .eq 34, 3) := by decide +kernel
theorem dX11_alike_43 : decode cX11_alike 43 = .ok (.aload_n 0, 1) := by decide +kernel
theorem dX11_alike_44 : decode cX11_alike 44 = .ok (.getfield 76, 3) := by decide +kernel
theorem dX11_alike_47 : decode cX11_alike 47 = .ok (.bipush 40, 2) := by decide +kernel
theorem dX11_alike_49 : decode cX11_alike 49 = .ok (.iload 4, 2) := by decide +kernel
theorem dX11_alike_51 : decode cX11_alike 51 = .ok (.imul, 1) := by decide +kernel
theorem dX11_alike_52 : decode cX11_alike 52 = .ok (.iload_n 2, 1) := by decide +kernel
theorem dX11_alike_53 : decode cX11_alike 53 = .ok (.iadd, 1) := by decide +kernel
theorem dX11_alike_54 : decode cX11_alike 54 = .ok (.iaload, 1) := by decide +kernel
theorem dX11_alike_55 : decode cX11_alike 55 = .ok (.aload_n 0, 1) := by decide +kernel
theorem dX11_alike_56 : decode cX11_alike 56 = .ok (.getfield 76, 3) := by decide +kernel
theorem dX11_alike_59 : decode cX11_alike 59 = .ok (.bipush 40, 2) := by decide +kernel
theorem dX11_alike_61 : decode cX11_alike 61 = .ok (.iload 6, 2) := by decide +kernel
theorem dX11_alike_63 : decode cX11_alike 63 = .ok (.imul, 1) := by decide +kernel
theorem dX11_alike_64 : decode cX11_alike 64 = .ok (.iload_n 2, 1) := by decide +kernel
theorem dX11_alike_65 : decode cX11_alike 65 = .ok (.iadd, 1) := by decide +kernel
theorem dX11_alike_66 : decode cX11_alike 66 = .ok (.iaload, 1) := by decide +kernel
theorem dX11_alike_67 : decode cX11_alike 67 = .ok (.if_icmp .ne 7, 3) := by decide +kernel
theorem dX11_alike_70 : decode cX11_alike 70 = .ok (.iconst 1, 1) := by decide +kernel
theorem dX11_alike_71 : decode cX11_alike 71 = .ok (.goto 4, 3) := by decide +kernel
theorem dX11_alike_74 : decode cX11_alike 74 = .ok (.iconst 0, 1) := by decide +kernel
theorem dX11_alike_75 : decode cX11_alike 75 = .ok (.iadd, 1) := by decide +kernel
theorem dX11_alike_76 : decode cX11_alike 76 = .ok (.istore 5, 2) := by decide +kernel
theorem dX11_alike_78 : decode cX11_alike 78 = .ok (.iinc 6 1, 3) := by decide +kernel
theorem dX11_alike_81 : decode cX11_alike 81 = .ok (.goto (-64), 3) := by decide +kernel
theorem dX11_alike_84 : decode cX11_alike 84 = .ok (.iload 5, 2) := by decide +kernel
theorem dX11_alike_86 : decode cX11_alike 86 = .ok (.iload_n 3, 1) := by decide +kernel
theorem dX11_alike_87 : decode cX11_alike 87 = .ok (.invokestatic 229, 3) := by decide +kernel
theorem dX11_alike_90 : decode cX11_alike 90 = .ok (.istore_n 3, 1) := by decide +kernel
theorem dX11_alike_91 : decode cX11_alike 91 = .ok (.iinc 4 1, 3) := by decide +kernel
theorem dX11_alike_94 : decode cX11_alike 94 = .ok (.goto (-89), 3) := by decide +kernel
theorem dX11_alike_97 : decode cX11_alike 97 = .ok (.iload_n 3, 1) := by decide +kernel
theorem dX11_alike_98 : decode cX11_alike 98 = .ok (.ireturn, 1) := by decide +kernel
theorem dX11_askOf_0 : decode cX11_askOf 0 = .ok (.aload_n 0, 1) := by decide +kernel
theorem dX11_askOf_1 : decode cX11_askOf 1 = .ok (.iload_n 1, 1) := by decide +kernel
theorem dX11_askOf_2 : decode cX11_askOf 2 = .ok (.invokevirtual 268, 3) := by decide +kernel
theorem dX11_askOf_5 : decode cX11_askOf 5 = .ok (.istore_n 2, 1) := by decide +kernel
theorem dX11_askOf_6 : decode cX11_askOf 6 = .ok (.iconst 0, 1) := by decide +kernel
theorem dX11_askOf_7 : decode cX11_askOf 7 = .ok (.istore_n 3, 1) := by decide +kernel
theorem dX11_askOf_8 : decode cX11_askOf 8 = .ok (.iconst 1, 1) := by decide +kernel
theorem dX11_askOf_9 : decode cX11_askOf 9 = .ok (.istore 4, 2) := by decide +kernel
theorem dX11_askOf_11 : decode cX11_askOf 11 = .ok (.iload 4, 2) := by decide +kernel
theorem dX11_askOf_13 : decode cX11_askOf 13 = .ok (.bipush 40, 2) := by decide +kernel
theorem dX11_askOf_15 : decode cX11_askOf 15 = .ok (.if_icmp .ge 32, 3) := by decide +kernel
theorem dX11_askOf_18 : decode cX11_askOf 18 = .ok (.aload_n 0, 1) := by decide +kernel
theorem dX11_askOf_19 : decode cX11_askOf 19 = .ok (.iload_n 2, 1) := by decide +kernel
theorem dX11_askOf_20 : decode cX11_askOf 20 = .ok (.iload 4, 2) := by decide +kernel
theorem dX11_askOf_22 : decode cX11_askOf 22 = .ok (.invokevirtual 274, 3) := by decide +kernel
theorem dX11_askOf_25 : decode cX11_askOf 25 = .ok (.aload_n 0, 1) := by decide +kernel
theorem dX11_askOf_26 : decode cX11_askOf 26 = .ok (.iload_n 2, 1) := by decide +kernel
theorem dX11_askOf_27 : decode cX11_askOf 27 = .ok (.iload_n 3, 1) := by decide +kernel
theorem dX11_askOf_28 : decode cX11_askOf 28 = .ok (.invokevirtual 274, 3) := by decide +kernel
theorem dX11_askOf_31 : decode cX11_askOf 31 = .ok (.if_icmp .ge 8, 3) := by decide +kernel
theorem dX11_askOf_34 : decode cX11_askOf 34 = .ok (.iload 4, 2) := by decide +kernel
theorem dX11_askOf_36 : decode cX11_askOf 36 = .ok (.goto 4, 3) := by decide +kernel
theorem dX11_askOf_39 : decode cX11_askOf 39 = .ok (.iload_n 3, 1) := by decide +kernel
theorem dX11_askOf_40 : decode cX11_askOf 40 = .ok (.istore_n 3, 1) := by decide +kernel
theorem dX11_askOf_41 : decode cX11_askOf 41 = .ok (.iinc 4 1, 3) := by decide +kernel
theorem dX11_askOf_44 : decode cX11_askOf 44 = .ok (.goto (-33), 3) := by decide +kernel
theorem dX11_askOf_47 : decode cX11_askOf 47 = .ok (.iload_n 3, 1) := by decide +kernel
theorem dX11_askOf_48 : decode cX11_askOf 48 = .ok (.ireturn, 1) := by decide +kernel
theorem dX11_ask_0 : decode cX11_ask 0 = .ok (.aload_n 0, 1) := by decide +kernel
theorem dX11_ask_1 : decode cX11_ask 1 = .ok (.invokevirtual 218, 3) := by decide +kernel
theorem dX11_ask_4 : decode cX11_ask 4 = .ok (.aload_n 0, 1) := by decide +kernel
theorem dX11_ask_5 : decode cX11_ask 5 = .ok (.iload_n 1, 1) := by decide +kernel
theorem dX11_ask_6 : decode cX11_ask 6 = .ok (.invokevirtual 153, 3) := by decide +kernel
theorem dX11_ask_9 : decode cX11_ask 9 = .ok (.ifCond .eq 11, 3) := by decide +kernel
theorem dX11_ask_12 : decode cX11_ask 12 = .ok (.aload_n 0, 1) := by decide +kernel
theorem dX11_ask_13 : decode cX11_ask 13 = .ok (.iload_n 1, 1) := by decide +kernel
theorem dX11_ask_14 : decode cX11_ask 14 = .ok (.invokevirtual 277, 3) := by decide +kernel
theorem dX11_ask_17 : decode cX11_ask 17 = .ok (.goto 5, 3) := by decide +kernel
theorem dX11_ask_20 : decode cX11_ask 20 = .ok (.bipush (-2), 2) := by decide +kernel
theorem dX11_ask_22 : decode cX11_ask 22 = .ok (.ireturn, 1) := by decide +kernel
theorem dX11_rumourOf_0 : decode cX11_rumourOf 0 = .ok (.lconst 0, 1) := by decide +kernel
theorem dX11_rumourOf_1 : decode cX11_rumourOf 1 = .ok (.lstore 4, 2) := by decide +kernel
theorem dX11_rumourOf_3 : decode cX11_rumourOf 3 = .ok (.iconst 0, 1) := by decide +kernel
theorem dX11_rumourOf_4 : decode cX11_rumourOf 4 = .ok (.istore 6, 2) := by decide +kernel
theorem dX11_rumourOf_6 : decode cX11_rumourOf 6 = .ok (.iload 6, 2) := by decide +kernel
theorem dX11_rumourOf_8 : decode cX11_rumourOf 8 = .ok (.iconst 1, 1) := by decide +kernel
theorem dX11_rumourOf_9 : decode cX11_rumourOf 9 = .ok (.aload_n 0, 1) := by decide +kernel
theorem dX11_rumourOf_10 : decode cX11_rumourOf 10 = .ok (.getfield 166, 3) := by decide +kernel
theorem dX11_rumourOf_13 : decode cX11_rumourOf 13 = .ok (.ishl, 1) := by decide +kernel
theorem dX11_rumourOf_14 : decode cX11_rumourOf 14 = .ok (.if_icmp .ge 82, 3) := by decide +kernel
theorem dX11_rumourOf_17 : decode cX11_rumourOf 17 = .ok (.aload_n 0, 1) := by decide +kernel
theorem dX11_rumourOf_18 : decode cX11_rumourOf 18 = .ok (.iload 6, 2) := by decide +kernel
theorem dX11_rumourOf_20 : decode cX11_rumourOf 20 = .ok (.putfield 174, 3) := by decide +kernel
theorem dX11_rumourOf_23 : decode cX11_rumourOf 23 = .ok (.aload_n 0, 1) := by decide +kernel
theorem dX11_rumourOf_24 : decode cX11_rumourOf 24 = .ok (.invokevirtual 215, 3) := by decide +kernel
theorem dX11_rumourOf_27 : decode cX11_rumourOf 27 = .ok (.aload_n 0, 1) := by decide +kernel
theorem dX11_rumourOf_28 : decode cX11_rumourOf 28 = .ok (.getfield 46, 3) := by decide +kernel
theorem dX11_rumourOf_31 : decode cX11_rumourOf 31 = .ok (.iload_n 2, 1) := by decide +kernel
theorem dX11_rumourOf_32 : decode cX11_rumourOf 32 = .ok (.iaload, 1) := by decide +kernel
theorem dX11_rumourOf_33 : decode cX11_rumourOf 33 = .ok (.iconst 2, 1) := by decide +kernel
theorem dX11_rumourOf_34 : decode cX11_rumourOf 34 = .ok (.if_icmp .ne 56, 3) := by decide +kernel
theorem dX11_rumourOf_37 : decode cX11_rumourOf 37 = .ok (.lconst 1, 1) := by decide +kernel
theorem dX11_rumourOf_38 : decode cX11_rumourOf 38 = .ok (.lstore 7, 2) := by decide +kernel
theorem dX11_rumourOf_40 : decode cX11_rumourOf 40 = .ok (.iconst 0, 1) := by decide +kernel
theorem dX11_rumourOf_41 : decode cX11_rumourOf 41 = .ok (.istore 9, 2) := by decide +kernel
theorem dX11_rumourOf_43 : decode cX11_rumourOf 43 = .ok (.iload 9, 2) := by decide +kernel
theorem dX11_rumourOf_45 : decode cX11_rumourOf 45 = .ok (.aload_n 0, 1) := by decide +kernel
theorem dX11_rumourOf_46 : decode cX11_rumourOf 46 = .ok (.getfield 166, 3) := by decide +kernel
theorem dX11_rumourOf_49 : decode cX11_rumourOf 49 = .ok (.if_icmp .ge 34, 3) := by decide +kernel
theorem dX11_rumourOf_52 : decode cX11_rumourOf 52 = .ok (.lload 7, 2) := by decide +kernel
theorem dX11_rumourOf_54 : decode cX11_rumourOf 54 = .ok (.iload 6, 2) := by decide +kernel
theorem dX11_rumourOf_56 : decode cX11_rumourOf 56 = .ok (.iload 9, 2) := by decide +kernel
theorem dX11_rumourOf_58 : decode cX11_rumourOf 58 = .ok (.invokestatic 177, 3) := by decide +kernel
theorem dX11_rumourOf_61 : decode cX11_rumourOf 61 = .ok (.ifCond .eq 11, 3) := by decide +kernel
theorem dX11_rumourOf_64 : decode cX11_rumourOf 64 = .ok (.bipush 16, 2) := by decide +kernel
theorem dX11_rumourOf_66 : decode cX11_rumourOf 66 = .ok (.iload_n 1, 1) := by decide +kernel
theorem dX11_rumourOf_67 : decode cX11_rumourOf 67 = .ok (.isub, 1) := by decide +kernel
theorem dX11_rumourOf_68 : decode cX11_rumourOf 68 = .ok (.i2l, 1) := by decide +kernel
theorem dX11_rumourOf_69 : decode cX11_rumourOf 69 = .ok (.goto 5, 3) := by decide +kernel
theorem dX11_rumourOf_72 : decode cX11_rumourOf 72 = .ok (.iload_n 1, 1) := by decide +kernel
theorem dX11_rumourOf_73 : decode cX11_rumourOf 73 = .ok (.i2l, 1) := by decide +kernel
theorem dX11_rumourOf_74 : decode cX11_rumourOf 74 = .ok (.lmul, 1) := by decide +kernel
theorem dX11_rumourOf_75 : decode cX11_rumourOf 75 = .ok (.lstore 7, 2) := by decide +kernel
theorem dX11_rumourOf_77 : decode cX11_rumourOf 77 = .ok (.iinc 9 1, 3) := by decide +kernel
theorem dX11_rumourOf_80 : decode cX11_rumourOf 80 = .ok (.goto (-37), 3) := by decide +kernel
theorem dX11_rumourOf_83 : decode cX11_rumourOf 83 = .ok (.lload 4, 2) := by decide +kernel
theorem dX11_rumourOf_85 : decode cX11_rumourOf 85 = .ok (.lload 7, 2) := by decide +kernel
theorem dX11_rumourOf_87 : decode cX11_rumourOf 87 = .ok (.ladd, 1) := by decide +kernel
theorem dX11_rumourOf_88 : decode cX11_rumourOf 88 = .ok (.lstore 4, 2) := by decide +kernel
theorem dX11_rumourOf_90 : decode cX11_rumourOf 90 = .ok (.iinc 6 1, 3) := by decide +kernel
theorem dX11_rumourOf_93 : decode cX11_rumourOf 93 = .ok (.goto (-87), 3) := by decide +kernel
theorem dX11_rumourOf_96 : decode cX11_rumourOf 96 = .ok (.aload_n 0, 1) := by decide +kernel
theorem dX11_rumourOf_97 : decode cX11_rumourOf 97 = .ok (.iconst 0, 1) := by decide +kernel
theorem dX11_rumourOf_98 : decode cX11_rumourOf 98 = .ok (.putfield 174, 3) := by decide +kernel
theorem dX11_rumourOf_101 : decode cX11_rumourOf 101 = .ok (.lload 4, 2) := by decide +kernel
theorem dX11_rumourOf_103 : decode cX11_rumourOf 103 = .ok (.lconst 1, 1) := by decide +kernel
theorem dX11_rumourOf_104 : decode cX11_rumourOf 104 = .ok (.iconst 4, 1) := by decide +kernel
theorem dX11_rumourOf_105 : decode cX11_rumourOf 105 = .ok (.aload_n 0, 1) := by decide +kernel
theorem dX11_rumourOf_106 : decode cX11_rumourOf 106 = .ok (.getfield 166, 3) := by decide +kernel
theorem dX11_rumourOf_109 : decode cX11_rumourOf 109 = .ok (.imul, 1) := by decide +kernel
theorem dX11_rumourOf_110 : decode cX11_rumourOf 110 = .ok (.lshl, 1) := by decide +kernel
theorem dX11_rumourOf_111 : decode cX11_rumourOf 111 = .ok (.iload_n 3, 1) := by decide +kernel
theorem dX11_rumourOf_112 : decode cX11_rumourOf 112 = .ok (.invokestatic 280, 3) := by decide +kernel
theorem dX11_rumourOf_115 : decode cX11_rumourOf 115 = .ok (.lreturn, 1) := by decide +kernel
theorem dX11_rumour_0 : decode cX11_rumour 0 = .ok (.aload_n 0, 1) := by decide +kernel
theorem dX11_rumour_1 : decode cX11_rumour 1 = .ok (.invokevirtual 218, 3) := by decide +kernel
theorem dX11_rumour_4 : decode cX11_rumour 4 = .ok (.iload_n 1, 1) := by decide +kernel
theorem dX11_rumour_5 : decode cX11_rumour 5 = .ok (.i2l, 1) := by decide +kernel
theorem dX11_rumour_6 : decode cX11_rumour 6 = .ok (.lconst 0, 1) := by decide +kernel
theorem dX11_rumour_7 : decode cX11_rumour 7 = .ok (.ldc2_w 284, 3) := by decide +kernel
theorem dX11_rumour_10 : decode cX11_rumour 10 = .ok (.invokestatic 81, 3) := by decide +kernel
theorem dX11_rumour_13 : decode cX11_rumour 13 = .ok (.ifCond .eq 28, 3) := by decide +kernel
theorem dX11_rumour_16 : decode cX11_rumour 16 = .ok (.aload_n 0, 1) := by decide +kernel
theorem dX11_rumour_17 : decode cX11_rumour 17 = .ok (.iload_n 2, 1) := by decide +kernel
theorem dX11_rumour_18 : decode cX11_rumour 18 = .ok (.invokevirtual 153, 3) := by decide +kernel
theorem dX11_rumour_21 : decode cX11_rumour 21 = .ok (.ifCond .eq 20, 3) := by decide +kernel
theorem dX11_rumour_24 : decode cX11_rumour 24 = .ok (.iload_n 3, 1) := by decide +kernel
theorem dX11_rumour_25 : decode cX11_rumour 25 = .ok (.invokestatic 110, 3) := by decide +kernel
theorem dX11_rumour_28 : decode cX11_rumour 28 = .ok (.ifCond .eq 13, 3) := by decide +kernel
theorem dX11_rumour_31 : decode cX11_rumour 31 = .ok (.aload_n 0, 1) := by decide +kernel
theorem dX11_rumour_32 : decode cX11_rumour 32 = .ok (.iload_n 1, 1) := by decide +kernel
theorem dX11_rumour_33 : decode cX11_rumour 33 = .ok (.iload_n 2, 1) := by decide +kernel
theorem dX11_rumour_34 : decode cX11_rumour 34 = .ok (.iload_n 3, 1) := by decide +kernel
theorem dX11_rumour_35 : decode cX11_rumour 35 = .ok (.invokevirtual 286, 3) := by decide +kernel
theorem dX11_rumour_38 : decode cX11_rumour 38 = .ok (.goto 8, 3) := by decide +kernel
theorem dX11_rumour_41 : decode cX11_rumour 41 = .ok (.bipush (-2), 2) := by decide +kernel
theorem dX11_rumour_43 : decode cX11_rumour 43 = .ok (.invokestatic 290, 3) := by decide +kernel
theorem dX11_rumour_46 : decode cX11_rumour 46 = .ok (.lreturn, 1) := by decide +kernel
theorem dX11_lot_0 : decode cX11_lot 0 = .ok (.aload_n 0, 1) := by decide +kernel
theorem dX11_lot_1 : decode cX11_lot 1 = .ok (.ldc_w 294, 3) := by decide +kernel
theorem dX11_lot_4 : decode cX11_lot 4 = .ok (.aload_n 0, 1) := by decide +kernel
theorem dX11_lot_5 : decode cX11_lot 5 = .ok (.getfield 295, 3) := by decide +kernel
theorem dX11_lot_8 : decode cX11_lot 8 = .ok (.imul, 1) := by decide +kernel
theorem dX11_lot_9 : decode cX11_lot 9 = .ok (.sipush 12345, 3) := by decide +kernel
theorem dX11_lot_12 : decode cX11_lot 12 = .ok (.iadd, 1) := by decide +kernel
theorem dX11_lot_13 : decode cX11_lot 13 = .ok (.putfield 295, 3) := by decide +kernel
theorem dX11_lot_16 : decode cX11_lot 16 = .ok (.aload_n 0, 1) := by decide +kernel
theorem dX11_lot_17 : decode cX11_lot 17 = .ok (.getfield 295, 3) := by decide +kernel
theorem dX11_lot_20 : decode cX11_lot 20 = .ok (.bipush 16, 2) := by decide +kernel
theorem dX11_lot_22 : decode cX11_lot 22 = .ok (.iushr, 1) := by decide +kernel
theorem dX11_lot_23 : decode cX11_lot 23 = .ok (.iload_n 1, 1) := by decide +kernel
theorem dX11_lot_24 : decode cX11_lot 24 = .ok (.irem, 1) := by decide +kernel
theorem dX11_lot_25 : decode cX11_lot 25 = .ok (.ireturn, 1) := by decide +kernel
theorem dX11_marketOf_0 : decode cX11_marketOf 0 = .ok (.aload_n 0, 1) := by decide +kernel
theorem dX11_marketOf_1 : decode cX11_marketOf 1 = .ok (.iload_n 1, 1) := by decide +kernel
theorem dX11_marketOf_2 : decode cX11_marketOf 2 = .ok (.putfield 295, 3) := by decide +kernel
theorem dX11_marketOf_5 : decode cX11_marketOf 5 = .ok (.iconst 0, 1) := by decide +kernel
theorem dX11_marketOf_6 : decode cX11_marketOf 6 = .ok (.istore_n 3, 1) := by decide +kernel
theorem dX11_marketOf_7 : decode cX11_marketOf 7 = .ok (.iload_n 3, 1) := by decide +kernel
theorem dX11_marketOf_8 : decode cX11_marketOf 8 = .ok (.aload_n 0, 1) := by decide +kernel
theorem dX11_marketOf_9 : decode cX11_marketOf 9 = .ok (.getfield 133, 3) := by decide +kernel
theorem dX11_marketOf_12 : decode cX11_marketOf 12 = .ok (.if_icmp .ge 25, 3) := by decide +kernel
theorem dX11_marketOf_15 : decode cX11_marketOf 15 = .ok (.aload_n 0, 1) := by decide +kernel
theorem dX11_marketOf_16 : decode cX11_marketOf 16 = .ok (.getfield 31, 3) := by decide +kernel
theorem dX11_marketOf_19 : decode cX11_marketOf 19 = .ok (.iconst 5, 1) := by decide +kernel
theorem dX11_marketOf_20 : decode cX11_marketOf 20 = .ok (.iload_n 3, 1) := by decide +kernel
theorem dX11_marketOf_21 : decode cX11_marketOf 21 = .ok (.imul, 1) := by decide +kernel
theorem dX11_marketOf_22 : decode cX11_marketOf 22 = .ok (.iconst 3, 1) := by decide +kernel
theorem dX11_marketOf_23 : decode cX11_marketOf 23 = .ok (.iadd, 1) := by decide +kernel
theorem dX11_marketOf_24 : decode cX11_marketOf 24 = .ok (.aload_n 0, 1) := by decide +kernel
theorem dX11_marketOf_25 : decode cX11_marketOf 25 = .ok (.bipush 100, 2) := by decide +kernel
theorem dX11_marketOf_27 : decode cX11_marketOf 27 = .ok (.invokevirtual 298, 3) := by decide +kernel
theorem dX11_marketOf_30 : decode cX11_marketOf 30 = .ok (.iastore, 1) := by decide +kernel
theorem dX11_marketOf_31 : decode cX11_marketOf 31 = .ok (.iinc 3 1, 3) := by decide +kernel
theorem dX11_marketOf_34 : decode cX11_marketOf 34 = .ok (.goto (-27), 3) := by decide +kernel
theorem dX11_marketOf_37 : decode cX11_marketOf 37 = .ok (.aload_n 0, 1) := by decide +kernel
theorem dX11_marketOf_38 : decode cX11_marketOf 38 = .ok (.invokevirtual 215, 3) := by decide +kernel
theorem dX11_marketOf_41 : decode cX11_marketOf 41 = .ok (.aload_n 0, 1) := by decide +kernel
theorem dX11_marketOf_42 : decode cX11_marketOf 42 = .ok (.invokevirtual 143, 3) := by decide +kernel
theorem dX11_marketOf_45 : decode cX11_marketOf 45 = .ok (.pop, 1) := by decide +kernel
theorem dX11_marketOf_46 : decode cX11_marketOf 46 = .ok (.aload_n 0, 1) := by decide +kernel
theorem dX11_marketOf_47 : decode cX11_marketOf 47 = .ok (.iload_n 2, 1) := by decide +kernel
theorem dX11_marketOf_48 : decode cX11_marketOf 48 = .ok (.ifCond .ne 7, 3) := by decide +kernel
theorem dX11_marketOf_51 : decode cX11_marketOf 51 = .ok (.iconst 2, 1) := by decide +kernel
theorem dX11_marketOf_52 : decode cX11_marketOf 52 = .ok (.goto 4, 3) := by decide +kernel
theorem dX11_marketOf_55 : decode cX11_marketOf 55 = .ok (.iconst 4, 1) := by decide +kernel
theorem dX11_marketOf_56 : decode cX11_marketOf 56 = .ok (.invokevirtual 226, 3) := by decide +kernel
theorem dX11_marketOf_59 : decode cX11_marketOf 59 = .ok (.invokestatic 235, 3) := by decide +kernel
theorem dX11_marketOf_62 : decode cX11_marketOf 62 = .ok (.ireturn, 1) := by decide +kernel
theorem dX11_market_0 : decode cX11_market 0 = .ok (.aload_n 0, 1) := by decide +kernel
theorem dX11_market_1 : decode cX11_market 1 = .ok (.invokevirtual 218, 3) := by decide +kernel
theorem dX11_market_4 : decode cX11_market 4 = .ok (.iload_n 2, 1) := by decide +kernel
theorem dX11_market_5 : decode cX11_market 5 = .ok (.invokestatic 110, 3) := by decide +kernel
theorem dX11_market_8 : decode cX11_market 8 = .ok (.ifCond .eq 12, 3) := by decide +kernel
theorem dX11_market_11 : decode cX11_market 11 = .ok (.aload_n 0, 1) := by decide +kernel
theorem dX11_market_12 : decode cX11_market 12 = .ok (.iload_n 1, 1) := by decide +kernel
theorem dX11_market_13 : decode cX11_market 13 = .ok (.iload_n 2, 1) := by decide +kernel
theorem dX11_market_14 : decode cX11_market 14 = .ok (.invokevirtual 301, 3) := by decide +kernel
theorem dX11_market_17 : decode cX11_market 17 = .ok (.goto 5, 3) := by decide +kernel
theorem dX11_market_20 : decode cX11_market 20 = .ok (.bipush (-2), 2) := by decide +kernel
theorem dX11_market_22 : decode cX11_market 22 = .ok (.ireturn, 1) := by decide +kernel
theorem dX11_write_0 : decode cX11_write 0 = .ok (.aload_n 0, 1) := by decide +kernel
theorem dX11_write_1 : decode cX11_write 1 = .ok (.invokevirtual 218, 3) := by decide +kernel
theorem dX11_write_4 : decode cX11_write 4 = .ok (.aload_n 0, 1) := by decide +kernel
theorem dX11_write_5 : decode cX11_write 5 = .ok (.iload_n 1, 1) := by decide +kernel
theorem dX11_write_6 : decode cX11_write 6 = .ok (.invokevirtual 153, 3) := by decide +kernel
theorem dX11_write_9 : decode cX11_write 9 = .ok (.ifCond .eq 10, 3) := by decide +kernel
theorem dX11_write_12 : decode cX11_write 12 = .ok (.iload_n 2, 1) := by decide +kernel
theorem dX11_write_13 : decode cX11_write 13 = .ok (.invokestatic 91, 3) := by decide +kernel
theorem dX11_write_16 : decode cX11_write 16 = .ok (.ifCond .ne 6, 3) := by decide +kernel
theorem dX11_write_19 : decode cX11_write 19 = .ok (.bipush (-2), 2) := by decide +kernel
theorem dX11_write_21 : decode cX11_write 21 = .ok (.ireturn, 1) := by decide +kernel
theorem dX11_write_22 : decode cX11_write 22 = .ok (.aload_n 0, 1) := by decide +kernel
theorem dX11_write_23 : decode cX11_write 23 = .ok (.getfield 7, 3) := by decide +kernel
theorem dX11_write_26 : decode cX11_write 26 = .ok (.iload_n 2, 1) := by decide +kernel
theorem dX11_write_27 : decode cX11_write 27 = .ok (.iaload, 1) := by decide +kernel
theorem dX11_write_28 : decode cX11_write 28 = .ok (.ifCond .ge 9, 3) := by decide +kernel
theorem dX11_write_31 : decode cX11_write 31 = .ok (.aload_n 0, 1) := by decide +kernel
theorem dX11_write_32 : decode cX11_write 32 = .ok (.iconst 1, 1) := by decide +kernel
theorem dX11_write_33 : decode cX11_write 33 = .ok (.invokevirtual 97, 3) := by decide +kernel
theorem dX11_write_36 : decode cX11_write 36 = .ok (.ireturn, 1) := by decide +kernel
theorem dX11_write_37 : decode cX11_write 37 = .ok (.aload_n 0, 1) := by decide +kernel
theorem dX11_write_38 : decode cX11_write 38 = .ok (.getfield 13, 3) := by decide +kernel
theorem dX11_write_41 : decode cX11_write 41 = .ok (.iload_n 2, 1) := by decide +kernel
theorem dX11_write_42 : decode cX11_write 42 = .ok (.iaload, 1) := by decide +kernel
theorem dX11_write_43 : decode cX11_write 43 = .ok (.bipush 40, 2) := by decide +kernel
theorem dX11_write_45 : decode cX11_write 45 = .ok (.invokestatic 171, 3) := by decide +kernel
theorem dX11_write_48 : decode cX11_write 48 = .ok (.istore_n 3, 1) := by decide +kernel
theorem dX11_write_49 : decode cX11_write 49 = .ok (.iconst 0, 1) := by decide +kernel
theorem dX11_write_50 : decode cX11_write 50 = .ok (.istore 4, 2) := by decide +kernel
theorem dX11_write_52 : decode cX11_write 52 = .ok (.iload 4, 2) := by decide +kernel
theorem dX11_write_54 : decode cX11_write 54 = .ok (.iload_n 3, 1) := by decide +kernel
theorem dX11_write_55 : decode cX11_write 55 = .ok (.if_icmp .ge 46, 3) := by decide +kernel
theorem dX11_write_58 : decode cX11_write 58 = .ok (.aload_n 0, 1) := by decide +kernel
theorem dX11_write_59 : decode cX11_write 59 = .ok (.getfield 16, 3) := by decide +kernel
theorem dX11_write_62 : decode cX11_write 62 = .ok (.bipush 60, 2) := by decide +kernel
theorem dX11_write_64 : decode cX11_write 64 = .ok (.iload_n 2, 1) := by decide +kernel
theorem dX11_write_65 : decode cX11_write 65 = .ok (.imul, 1) := by decide +kernel
theorem dX11_write_66 : decode cX11_write 66 = .ok (.iload 4, 2) := by decide +kernel
theorem dX11_write_68 : decode cX11_write 68 = .ok (.iadd, 1) := by decide +kernel
theorem dX11_write_69 : decode cX11_write 69 = .ok (.aload_n 0, 1) := by decide +kernel
theorem dX11_write_70 : decode cX11_write 70 = .ok (.getfield 7, 3) := by decide +kernel
theorem dX11_write_73 : decode cX11_write 73 = .ok (.iload_n 2, 1) := by decide +kernel
theorem dX11_write_74 : decode cX11_write 74 = .ok (.iaload, 1) := by decide +kernel
theorem dX11_write_75 : decode cX11_write 75 = .ok (.aload_n 0, 1) := by decide +kernel
theorem dX11_write_76 : decode cX11_write 76 = .ok (.getfield 64, 3) := by decide +kernel
theorem dX11_write_79 : decode cX11_write 79 = .ok (.bipush 32, 2) := by decide +kernel
theorem dX11_write_81 : decode cX11_write 81 = .ok (.iload 4, 2) := by decide +kernel
theorem dX11_write_83 : decode cX11_write 83 = .ok (.imul, 1) := by decide +kernel
theorem dX11_write_84 : decode cX11_write 84 = .ok (.iconst 4, 1) := by decide +kernel
theorem dX11_write_85 : decode cX11_write 85 = .ok (.iload_n 1, 1) := by decide +kernel
theorem dX11_write_86 : decode cX11_write 86 = .ok (.imul, 1) := by decide +kernel
theorem dX11_write_87 : decode cX11_write 87 = .ok (.iadd, 1) := by decide +kernel
theorem dX11_write_88 : decode cX11_write 88 = .ok (.iconst 1, 1) := by decide +kernel
theorem dX11_write_89 : decode cX11_write 89 = .ok (.iadd, 1) := by decide +kernel
theorem dX11_write_90 : decode cX11_write 90 = .ok (.iaload, 1) := by decide +kernel
theorem dX11_write_91 : decode cX11_write 91 = .ok (.invokestatic 105, 3) := by decide +kernel
theorem dX11_write_94 : decode cX11_write 94 = .ok (.iastore, 1) := by decide +kernel
theorem dX11_write_95 : decode cX11_write 95 = .ok (.iinc 4 1, 3) := by decide +kernel
theorem dX11_write_98 : decode cX11_write 98 = .ok (.goto (-46), 3) := by decide +kernel
theorem dX11_write_101 : decode cX11_write 101 = .ok (.iload_n 3, 1) := by decide +kernel
theorem dX11_write_102 : decode cX11_write 102 = .ok (.ireturn, 1) := by decide +kernel
theorem dX11_allArrivals_0 : decode cX11_allArrivals 0 = .ok (.iconst 0, 1) := by decide +kernel
theorem dX11_allArrivals_1 : decode cX11_allArrivals 1 = .ok (.istore_n 1, 1) := by decide +kernel
theorem dX11_allArrivals_2 : decode cX11_allArrivals 2 = .ok (.iconst 0, 1) := by decide +kernel
theorem dX11_allArrivals_3 : decode cX11_allArrivals 3 = .ok (.istore_n 2, 1) := by decide +kernel
theorem dX11_allArrivals_4 : decode cX11_allArrivals 4 = .ok (.iload_n 2, 1) := by decide +kernel
theorem dX11_allArrivals_5 : decode cX11_allArrivals 5 = .ok (.bipush 8, 2) := by decide +kernel
theorem dX11_allArrivals_7 : decode cX11_allArrivals 7 = .ok (.if_icmp .ge 18, 3) := by decide +kernel
theorem dX11_allArrivals_10 : decode cX11_allArrivals 10 = .ok (.iload_n 1, 1) := by decide +kernel
theorem dX11_allArrivals_11 : decode cX11_allArrivals 11 = .ok (.aload_n 0, 1) := by decide +kernel
theorem dX11_allArrivals_12 : decode cX11_allArrivals 12 = .ok (.getfield 70, 3) := by decide +kernel
theorem dX11_allArrivals_15 : decode cX11_allArrivals 15 = .ok (.iload_n 2, 1) := by decide +kernel
theorem dX11_allArrivals_16 : decode cX11_allArrivals 16 = .ok (.iaload, 1) := by decide +kernel
theorem dX11_allArrivals_17 : decode cX11_allArrivals 17 = .ok (.iadd, 1) := by decide +kernel
theorem dX11_allArrivals_18 : decode cX11_allArrivals 18 = .ok (.istore_n 1, 1) := by decide +kernel
theorem dX11_allArrivals_19 : decode cX11_allArrivals 19 = .ok (.iinc 2 1, 3) := by decide +kernel
theorem dX11_allArrivals_22 : decode cX11_allArrivals 22 = .ok (.goto (-18), 3) := by decide +kernel
theorem dX11_allArrivals_25 : decode cX11_allArrivals 25 = .ok (.iload_n 1, 1) := by decide +kernel
theorem dX11_allArrivals_26 : decode cX11_allArrivals 26 = .ok (.ireturn, 1) := by decide +kernel
theorem dX11_count_0 : decode cX11_count 0 = .ok (.aload_n 0, 1) := by decide +kernel
theorem dX11_count_1 : decode cX11_count 1 = .ok (.invokevirtual 218, 3) := by decide +kernel
theorem dX11_count_4 : decode cX11_count 4 = .ok (.iload_n 1, 1) := by decide +kernel
theorem dX11_count_5 : decode cX11_count 5 = .ok (.tableswitch 95 0 8 #[51, 56, 61, 61, 70, 75, 80, 85, 90], 51) := by decide +kernel
theorem dX11_count_56 : decode cX11_count 56 = .ok (.aload_n 0, 1) := by decide +kernel
theorem dX11_count_57 : decode cX11_count 57 = .ok (.getfield 127, 3) := by decide +kernel
theorem dX11_count_60 : decode cX11_count 60 = .ok (.ireturn, 1) := by decide +kernel
theorem dX11_count_61 : decode cX11_count 61 = .ok (.aload_n 0, 1) := by decide +kernel
theorem dX11_count_62 : decode cX11_count 62 = .ok (.getfield 133, 3) := by decide +kernel
theorem dX11_count_65 : decode cX11_count 65 = .ok (.ireturn, 1) := by decide +kernel
theorem dX11_count_66 : decode cX11_count 66 = .ok (.aload_n 0, 1) := by decide +kernel
theorem dX11_count_67 : decode cX11_count 67 = .ok (.getfield 25, 3) := by decide +kernel
theorem dX11_count_70 : decode cX11_count 70 = .ok (.iload_n 1, 1) := by decide +kernel
theorem dX11_count_71 : decode cX11_count 71 = .ok (.iconst 2, 1) := by decide +kernel
theorem dX11_count_72 : decode cX11_count 72 = .ok (.isub, 1) := by decide +kernel
theorem dX11_count_73 : decode cX11_count 73 = .ok (.iaload, 1) := by decide +kernel
theorem dX11_count_74 : decode cX11_count 74 = .ok (.ireturn, 1) := by decide +kernel
theorem dX11_count_75 : decode cX11_count 75 = .ok (.aload_n 0, 1) := by decide +kernel
theorem dX11_count_76 : decode cX11_count 76 = .ok (.getfield 166, 3) := by decide +kernel
theorem dX11_count_79 : decode cX11_count 79 = .ok (.ireturn, 1) := by decide +kernel
theorem dX11_count_80 : decode cX11_count 80 = .ok (.aload_n 0, 1) := by decide +kernel
theorem dX11_count_81 : decode cX11_count 81 = .ok (.invokevirtual 244, 3) := by decide +kernel
theorem dX11_count_84 : decode cX11_count 84 = .ok (.ireturn, 1) := by decide +kernel
theorem dX11_count_85 : decode cX11_count 85 = .ok (.aload_n 0, 1) := by decide +kernel
theorem dX11_count_86 : decode cX11_count 86 = .ok (.invokevirtual 304, 3) := by decide +kernel
theorem dX11_count_89 : decode cX11_count 89 = .ok (.ireturn, 1) := by decide +kernel
theorem dX11_count_90 : decode cX11_count 90 = .ok (.aload_n 0, 1) := by decide +kernel
theorem dX11_count_91 : decode cX11_count 91 = .ok (.getfield 258, 3) := by decide +kernel
theorem dX11_count_94 : decode cX11_count 94 = .ok (.ireturn, 1) := by decide +kernel
theorem dX11_count_95 : decode cX11_count 95 = .ok (.aload_n 0, 1) := by decide +kernel
theorem dX11_count_96 : decode cX11_count 96 = .ok (.getfield 85, 3) := by decide +kernel
theorem dX11_count_99 : decode cX11_count 99 = .ok (.ireturn, 1) := by decide +kernel
theorem dX11_count_100 : decode cX11_count 100 = .ok (.bipush (-2), 2) := by decide +kernel
theorem dX11_count_102 : decode cX11_count 102 = .ok (.ireturn, 1) := by decide +kernel
theorem dX11_tellsHour_0 : decode cX11_tellsHour 0 = .ok (.lload_n 1, 1) := by decide +kernel
theorem dX11_tellsHour_1 : decode cX11_tellsHour 1 = .ok (.lstore 5, 2) := by decide +kernel
theorem dX11_tellsHour_3 : decode cX11_tellsHour 3 = .ok (.iconst 0, 1) := by decide +kernel
theorem dX11_tellsHour_4 : decode cX11_tellsHour 4 = .ok (.istore 7, 2) := by decide +kernel
theorem dX11_tellsHour_6 : decode cX11_tellsHour 6 = .ok (.iload 7, 2) := by decide +kernel
theorem dX11_tellsHour_8 : decode cX11_tellsHour 8 = .ok (.iconst 4, 1) := by decide +kernel
theorem dX11_tellsHour_9 : decode cX11_tellsHour 9 = .ok (.if_icmp .ge 36, 3) := by decide +kernel
theorem dX11_tellsHour_12 : decode cX11_tellsHour 12 = .ok (.ldc2_w 307, 3) := by decide +kernel
theorem dX11_tellsHour_15 : decode cX11_tellsHour 15 = .ok (.lload 5, 2) := by decide +kernel
theorem dX11_tellsHour_17 : decode cX11_tellsHour 17 = .ok (.lmul, 1) := by decide +kernel
theorem dX11_tellsHour_18 : decode cX11_tellsHour 18 = .ok (.aload_n 0, 1) := by decide +kernel
theorem dX11_tellsHour_19 : decode cX11_tellsHour 19 = .ok (.getfield 64, 3) := by decide +kernel
theorem dX11_tellsHour_22 : decode cX11_tellsHour 22 = .ok (.bipush 32, 2) := by decide +kernel
theorem dX11_tellsHour_24 : decode cX11_tellsHour 24 = .ok (.iload 4, 2) := by decide +kernel
theorem dX11_tellsHour_26 : decode cX11_tellsHour 26 = .ok (.imul, 1) := by decide +kernel
theorem dX11_tellsHour_27 : decode cX11_tellsHour 27 = .ok (.iconst 4, 1) := by decide +kernel
theorem dX11_tellsHour_28 : decode cX11_tellsHour 28 = .ok (.iload_n 3, 1) := by decide +kernel
theorem dX11_tellsHour_29 : decode cX11_tellsHour 29 = .ok (.imul, 1) := by decide +kernel
theorem dX11_tellsHour_30 : decode cX11_tellsHour 30 = .ok (.iadd, 1) := by decide +kernel
theorem dX11_tellsHour_31 : decode cX11_tellsHour 31 = .ok (.iload 7, 2) := by decide +kernel
theorem dX11_tellsHour_33 : decode cX11_tellsHour 33 = .ok (.iadd, 1) := by decide +kernel
theorem dX11_tellsHour_34 : decode cX11_tellsHour 34 = .ok (.iaload, 1) := by decide +kernel
theorem dX11_tellsHour_35 : decode cX11_tellsHour 35 = .ok (.i2l, 1) := by decide +kernel
theorem dX11_tellsHour_36 : decode cX11_tellsHour 36 = .ok (.ladd, 1) := by decide +kernel
theorem dX11_tellsHour_37 : decode cX11_tellsHour 37 = .ok (.lstore 5, 2) := by decide +kernel
theorem dX11_tellsHour_39 : decode cX11_tellsHour 39 = .ok (.iinc 7 1, 3) := by decide +kernel
theorem dX11_tellsHour_42 : decode cX11_tellsHour 42 = .ok (.goto (-36), 3) := by decide +kernel
theorem dX11_tellsHour_45 : decode cX11_tellsHour 45 = .ok (.lload 5, 2) := by decide +kernel
theorem dX11_tellsHour_47 : decode cX11_tellsHour 47 = .ok (.lreturn, 1) := by decide +kernel
theorem dX11_tellsCarter_0 : decode cX11_tellsCarter 0 = .ok (.aload_n 0, 1) := by decide +kernel
theorem dX11_tellsCarter_1 : decode cX11_tellsCarter 1 = .ok (.invokevirtual 215, 3) := by decide +kernel
theorem dX11_tellsCarter_4 : decode cX11_tellsCarter 4 = .ok (.lload_n 1, 1) := by decide +kernel
theorem dX11_tellsCarter_5 : decode cX11_tellsCarter 5 = .ok (.lstore 4, 2) := by decide +kernel
theorem dX11_tellsCarter_7 : decode cX11_tellsCarter 7 = .ok (.iconst 0, 1) := by decide +kernel
theorem dX11_tellsCarter_8 : decode cX11_tellsCarter 8 = .ok (.istore 6, 2) := by decide +kernel
theorem dX11_tellsCarter_10 : decode cX11_tellsCarter 10 = .ok (.iload 6, 2) := by decide +kernel
theorem dX11_tellsCarter_12 : decode cX11_tellsCarter 12 = .ok (.iconst 5, 1) := by decide +kernel
theorem dX11_tellsCarter_13 : decode cX11_tellsCarter 13 = .ok (.if_icmp .ge 30, 3) := by decide +kernel
theorem dX11_tellsCarter_16 : decode cX11_tellsCarter 16 = .ok (.ldc2_w 307, 3) := by decide +kernel
theorem dX11_tellsCarter_19 : decode cX11_tellsCarter 19 = .ok (.lload 4, 2) := by decide +kernel
theorem dX11_tellsCarter_21 : decode cX11_tellsCarter 21 = .ok (.lmul, 1) := by decide +kernel
theorem dX11_tellsCarter_22 : decode cX11_tellsCarter 22 = .ok (.aload_n 0, 1) := by decide +kernel
theorem dX11_tellsCarter_23 : decode cX11_tellsCarter 23 = .ok (.getfield 31, 3) := by decide +kernel
theorem dX11_tellsCarter_26 : decode cX11_tellsCarter 26 = .ok (.iconst 5, 1) := by decide +kernel
theorem dX11_tellsCarter_27 : decode cX11_tellsCarter 27 = .ok (.iload_n 3, 1) := by decide +kernel
theorem dX11_tellsCarter_28 : decode cX11_tellsCarter 28 = .ok (.imul, 1) := by decide +kernel
theorem dX11_tellsCarter_29 : decode cX11_tellsCarter 29 = .ok (.iload 6, 2) := by decide +kernel
theorem dX11_tellsCarter_31 : decode cX11_tellsCarter 31 = .ok (.iadd, 1) := by decide +kernel
theorem dX11_tellsCarter_32 : decode cX11_tellsCarter 32 = .ok (.iaload, 1) := by decide +kernel
theorem dX11_tellsCarter_33 : decode cX11_tellsCarter 33 = .ok (.i2l, 1) := by decide +kernel
theorem dX11_tellsCarter_34 : decode cX11_tellsCarter 34 = .ok (.ladd, 1) := by decide +kernel
theorem dX11_tellsCarter_35 : decode cX11_tellsCarter 35 = .ok (.lstore 4, 2) := by decide +kernel
theorem dX11_tellsCarter_37 : decode cX11_tellsCarter 37 = .ok (.iinc 6 1, 3) := by decide +kernel
theorem dX11_tellsCarter_40 : decode cX11_tellsCarter 40 = .ok (.goto (-30), 3) := by decide +kernel
theorem dX11_tellsCarter_43 : decode cX11_tellsCarter 43 = .ok (.aload_n 0, 1) := by decide +kernel
theorem dX11_tellsCarter_44 : decode cX11_tellsCarter 44 = .ok (.aload_n 0, 1) := by decide +kernel
theorem dX11_tellsCarter_45 : decode cX11_tellsCarter 45 = .ok (.aload_n 0, 1) := by decide +kernel
theorem dX11_tellsCarter_46 : decode cX11_tellsCarter 46 = .ok (.aload_n 0, 1) := by decide +kernel
theorem dX11_tellsCarter_47 : decode cX11_tellsCarter 47 = .ok (.lload 4, 2) := by decide +kernel
theorem dX11_tellsCarter_49 : decode cX11_tellsCarter 49 = .ok (.iload_n 3, 1) := by decide +kernel
theorem dX11_tellsCarter_50 : decode cX11_tellsCarter 50 = .ok (.iconst 0, 1) := by decide +kernel
theorem dX11_tellsCarter_51 : decode cX11_tellsCarter 51 = .ok (.invokevirtual 309, 3) := by decide +kernel
theorem dX11_tellsCarter_54 : decode cX11_tellsCarter 54 = .ok (.iload_n 3, 1) := by decide +kernel
theorem dX11_tellsCarter_55 : decode cX11_tellsCarter 55 = .ok (.iconst 5, 1) := by decide +kernel
theorem dX11_tellsCarter_56 : decode cX11_tellsCarter 56 = .ok (.invokevirtual 309, 3) := by decide +kernel
theorem dX11_tellsCarter_59 : decode cX11_tellsCarter 59 = .ok (.iload_n 3, 1) := by decide +kernel
theorem dX11_tellsCarter_60 : decode cX11_tellsCarter 60 = .ok (.bipush 15, 2) := by decide +kernel
theorem dX11_tellsCarter_62 : decode cX11_tellsCarter 62 = .ok (.invokevirtual 309, 3) := by decide +kernel
theorem dX11_tellsCarter_65 : decode cX11_tellsCarter 65 = .ok (.iload_n 3, 1) := by decide +kernel
theorem dX11_tellsCarter_66 : decode cX11_tellsCarter 66 = .ok (.bipush 39, 2) := by decide +kernel
theorem dX11_tellsCarter_68 : decode cX11_tellsCarter 68 = .ok (.invokevirtual 309, 3) := by decide +kernel
theorem dX11_tellsCarter_71 : decode cX11_tellsCarter 71 = .ok (.lstore 4, 2) := by decide +kernel
theorem dX11_tellsCarter_73 : decode cX11_tellsCarter 73 = .ok (.ldc2_w 307, 3) := by decide +kernel
theorem dX11_tellsCarter_76 : decode cX11_tellsCarter 76 = .ok (.lload 4, 2) := by decide +kernel
theorem dX11_tellsCarter_78 : decode cX11_tellsCarter 78 = .ok (.lmul, 1) := by decide +kernel
theorem dX11_tellsCarter_79 : decode cX11_tellsCarter 79 = .ok (.aload_n 0, 1) := by decide +kernel
theorem dX11_tellsCarter_80 : decode cX11_tellsCarter 80 = .ok (.getfield 61, 3) := by decide +kernel
theorem dX11_tellsCarter_83 : decode cX11_tellsCarter 83 = .ok (.iload_n 3, 1) := by decide +kernel
theorem dX11_tellsCarter_84 : decode cX11_tellsCarter 84 = .ok (.iaload, 1) := by decide +kernel
theorem dX11_tellsCarter_85 : decode cX11_tellsCarter 85 = .ok (.i2l, 1) := by decide +kernel
theorem dX11_tellsCarter_86 : decode cX11_tellsCarter 86 = .ok (.ladd, 1) := by decide +kernel
theorem dX11_tellsCarter_87 : decode cX11_tellsCarter 87 = .ok (.lstore 4, 2) := by decide +kernel
theorem dX11_tellsCarter_89 : decode cX11_tellsCarter 89 = .ok (.ldc2_w 307, 3) := by decide +kernel
theorem dX11_tellsCarter_92 : decode cX11_tellsCarter 92 = .ok (.lload 4, 2) := by decide +kernel
theorem dX11_tellsCarter_94 : decode cX11_tellsCarter 94 = .ok (.lmul, 1) := by decide +kernel
theorem dX11_tellsCarter_95 : decode cX11_tellsCarter 95 = .ok (.aload_n 0, 1) := by decide +kernel
theorem dX11_tellsCarter_96 : decode cX11_tellsCarter 96 = .ok (.iload_n 3, 1) := by decide +kernel
theorem dX11_tellsCarter_97 : decode cX11_tellsCarter 97 = .ok (.invokevirtual 238, 3) := by decide +kernel
theorem dX11_tellsCarter_100 : decode cX11_tellsCarter 100 = .ok (.i2l, 1) := by decide +kernel
theorem dX11_tellsCarter_101 : decode cX11_tellsCarter 101 = .ok (.ladd, 1) := by decide +kernel
theorem dX11_tellsCarter_102 : decode cX11_tellsCarter 102 = .ok (.lstore 4, 2) := by decide +kernel
theorem dX11_tellsCarter_104 : decode cX11_tellsCarter 104 = .ok (.ldc2_w 307, 3) := by decide +kernel
theorem dX11_tellsCarter_107 : decode cX11_tellsCarter 107 = .ok (.lload 4, 2) := by decide +kernel
theorem dX11_tellsCarter_109 : decode cX11_tellsCarter 109 = .ok (.lmul, 1) := by decide +kernel
theorem dX11_tellsCarter_110 : decode cX11_tellsCarter 110 = .ok (.aload_n 0, 1) := by decide +kernel
theorem dX11_tellsCarter_111 : decode cX11_tellsCarter 111 = .ok (.iload_n 3, 1) := by decide +kernel
theorem dX11_tellsCarter_112 : decode cX11_tellsCarter 112 = .ok (.iconst 0, 1) := by decide +kernel
theorem dX11_tellsCarter_113 : decode cX11_tellsCarter 113 = .ok (.invokevirtual 250, 3) := by decide +kernel
theorem dX11_tellsCarter_116 : decode cX11_tellsCarter 116 = .ok (.i2l, 1) := by decide +kernel
theorem dX11_tellsCarter_117 : decode cX11_tellsCarter 117 = .ok (.ladd, 1) := by decide +kernel
theorem dX11_tellsCarter_118 : decode cX11_tellsCarter 118 = .ok (.lstore 4, 2) := by decide +kernel
theorem dX11_tellsCarter_120 : decode cX11_tellsCarter 120 = .ok (.ldc2_w 307, 3) := by decide +kernel
theorem dX11_tellsCarter_123 : decode cX11_tellsCarter 123 = .ok (.lload 4, 2) := by decide +kernel
theorem dX11_tellsCarter_125 : decode cX11_tellsCarter 125 = .ok (.lmul, 1) := by decide +kernel
theorem dX11_tellsCarter_126 : decode cX11_tellsCarter 126 = .ok (.aload_n 0, 1) := by decide +kernel
theorem dX11_tellsCarter_127 : decode cX11_tellsCarter 127 = .ok (.iload_n 3, 1) := by decide +kernel
theorem dX11_tellsCarter_128 : decode cX11_tellsCarter 128 = .ok (.iconst 1, 1) := by decide +kernel
theorem dX11_tellsCarter_129 : decode cX11_tellsCarter 129 = .ok (.invokevirtual 250, 3) := by decide +kernel
theorem dX11_tellsCarter_132 : decode cX11_tellsCarter 132 = .ok (.i2l, 1) := by decide +kernel
theorem dX11_tellsCarter_133 : decode cX11_tellsCarter 133 = .ok (.ladd, 1) := by decide +kernel
theorem dX11_tellsCarter_134 : decode cX11_tellsCarter 134 = .ok (.lstore 4, 2) := by decide +kernel
theorem dX11_tellsCarter_136 : decode cX11_tellsCarter 136 = .ok (.ldc2_w 307, 3) := by decide +kernel
theorem dX11_tellsCarter_139 : decode cX11_tellsCarter 139 = .ok (.lload 4, 2) := by decide +kernel
theorem dX11_tellsCarter_141 : decode cX11_tellsCarter 141 = .ok (.lmul, 1) := by decide +kernel
theorem dX11_tellsCarter_142 : decode cX11_tellsCarter 142 = .ok (.aload_n 0, 1) := by decide +kernel
theorem dX11_tellsCarter_143 : decode cX11_tellsCarter 143 = .ok (.iload_n 3, 1) := by decide +kernel
theorem dX11_tellsCarter_144 : decode cX11_tellsCarter 144 = .ok (.invokevirtual 268, 3) := by decide +kernel
theorem dX11_tellsCarter_147 : decode cX11_tellsCarter 147 = .ok (.i2l, 1) := by decide +kernel
theorem dX11_tellsCarter_148 : decode cX11_tellsCarter 148 = .ok (.ladd, 1) := by decide +kernel
theorem dX11_tellsCarter_149 : decode cX11_tellsCarter 149 = .ok (.lstore 4, 2) := by decide +kernel
theorem dX11_tellsCarter_151 : decode cX11_tellsCarter 151 = .ok (.iconst 0, 1) := by decide +kernel
theorem dX11_tellsCarter_152 : decode cX11_tellsCarter 152 = .ok (.istore 6, 2) := by decide +kernel
theorem dX11_tellsCarter_154 : decode cX11_tellsCarter 154 = .ok (.iload 6, 2) := by decide +kernel
theorem dX11_tellsCarter_156 : decode cX11_tellsCarter 156 = .ok (.iconst 3, 1) := by decide +kernel
theorem dX11_tellsCarter_157 : decode cX11_tellsCarter 157 = .ok (.if_icmp .ge 26, 3) := by decide +kernel
theorem dX11_tellsCarter_160 : decode cX11_tellsCarter 160 = .ok (.ldc2_w 307, 3) := by decide +kernel
theorem dX11_tellsCarter_163 : decode cX11_tellsCarter 163 = .ok (.lload 4, 2) := by decide +kernel
theorem dX11_tellsCarter_165 : decode cX11_tellsCarter 165 = .ok (.lmul, 1) := by decide +kernel
theorem dX11_tellsCarter_166 : decode cX11_tellsCarter 166 = .ok (.aload_n 0, 1) := by decide +kernel
theorem dX11_tellsCarter_167 : decode cX11_tellsCarter 167 = .ok (.iload_n 3, 1) := by decide +kernel
theorem dX11_tellsCarter_168 : decode cX11_tellsCarter 168 = .ok (.iload 6, 2) := by decide +kernel
theorem dX11_tellsCarter_170 : decode cX11_tellsCarter 170 = .ok (.invokevirtual 271, 3) := by decide +kernel
theorem dX11_tellsCarter_173 : decode cX11_tellsCarter 173 = .ok (.i2l, 1) := by decide +kernel
theorem dX11_tellsCarter_174 : decode cX11_tellsCarter 174 = .ok (.ladd, 1) := by decide +kernel
theorem dX11_tellsCarter_175 : decode cX11_tellsCarter 175 = .ok (.lstore 4, 2) := by decide +kernel
theorem dX11_tellsCarter_177 : decode cX11_tellsCarter 177 = .ok (.iinc 6 1, 3) := by decide +kernel
theorem dX11_tellsCarter_180 : decode cX11_tellsCarter 180 = .ok (.goto (-26), 3) := by decide +kernel
theorem dX11_tellsCarter_183 : decode cX11_tellsCarter 183 = .ok (.ldc2_w 307, 3) := by decide +kernel
theorem dX11_tellsCarter_186 : decode cX11_tellsCarter 186 = .ok (.lload 4, 2) := by decide +kernel
theorem dX11_tellsCarter_188 : decode cX11_tellsCarter 188 = .ok (.lmul, 1) := by decide +kernel
theorem dX11_tellsCarter_189 : decode cX11_tellsCarter 189 = .ok (.aload_n 0, 1) := by decide +kernel
theorem dX11_tellsCarter_190 : decode cX11_tellsCarter 190 = .ok (.iload_n 3, 1) := by decide +kernel
theorem dX11_tellsCarter_191 : decode cX11_tellsCarter 191 = .ok (.invokevirtual 277, 3) := by decide +kernel
theorem dX11_tellsCarter_194 : decode cX11_tellsCarter 194 = .ok (.i2l, 1) := by decide +kernel
theorem dX11_tellsCarter_195 : decode cX11_tellsCarter 195 = .ok (.ladd, 1) := by decide +kernel
theorem dX11_tellsCarter_196 : decode cX11_tellsCarter 196 = .ok (.lstore 4, 2) := by decide +kernel
theorem dX11_tellsCarter_198 : decode cX11_tellsCarter 198 = .ok (.ldc2_w 307, 3) := by decide +kernel
theorem dX11_tellsCarter_201 : decode cX11_tellsCarter 201 = .ok (.lload 4, 2) := by decide +kernel
theorem dX11_tellsCarter_203 : decode cX11_tellsCarter 203 = .ok (.lmul, 1) := by decide +kernel
theorem dX11_tellsCarter_204 : decode cX11_tellsCarter 204 = .ok (.aload_n 0, 1) := by decide +kernel
theorem dX11_tellsCarter_205 : decode cX11_tellsCarter 205 = .ok (.iconst 5, 1) := by decide +kernel
theorem dX11_tellsCarter_206 : decode cX11_tellsCarter 206 = .ok (.iload_n 3, 1) := by decide +kernel
theorem dX11_tellsCarter_207 : decode cX11_tellsCarter 207 = .ok (.iconst 0, 1) := by decide +kernel
theorem dX11_tellsCarter_208 : decode cX11_tellsCarter 208 = .ok (.invokevirtual 286, 3) := by decide +kernel
theorem dX11_tellsCarter_211 : decode cX11_tellsCarter 211 = .ok (.ladd, 1) := by decide +kernel
theorem dX11_tellsCarter_212 : decode cX11_tellsCarter 212 = .ok (.lstore 4, 2) := by decide +kernel
theorem dX11_tellsCarter_214 : decode cX11_tellsCarter 214 = .ok (.ldc2_w 307, 3) := by decide +kernel
theorem dX11_tellsCarter_217 : decode cX11_tellsCarter 217 = .ok (.lload 4, 2) := by decide +kernel
theorem dX11_tellsCarter_219 : decode cX11_tellsCarter 219 = .ok (.lmul, 1) := by decide +kernel
theorem dX11_tellsCarter_220 : decode cX11_tellsCarter 220 = .ok (.aload_n 0, 1) := by decide +kernel
theorem dX11_tellsCarter_221 : decode cX11_tellsCarter 221 = .ok (.iconst 5, 1) := by decide +kernel
theorem dX11_tellsCarter_222 : decode cX11_tellsCarter 222 = .ok (.iload_n 3, 1) := by decide +kernel
theorem dX11_tellsCarter_223 : decode cX11_tellsCarter 223 = .ok (.iconst 1, 1) := by decide +kernel
theorem dX11_tellsCarter_224 : decode cX11_tellsCarter 224 = .ok (.invokevirtual 286, 3) := by decide +kernel
theorem dX11_tellsCarter_227 : decode cX11_tellsCarter 227 = .ok (.ladd, 1) := by decide +kernel
theorem dX11_tellsCarter_228 : decode cX11_tellsCarter 228 = .ok (.lreturn, 1) := by decide +kernel
theorem dX11_digest_0 : decode cX11_digest 0 = .ok (.ldc2_w 313, 3) := by decide +kernel
theorem dX11_digest_3 : decode cX11_digest 3 = .ok (.lstore_n 1, 1) := by decide +kernel
theorem dX11_digest_4 : decode cX11_digest 4 = .ok (.iconst 0, 1) := by decide +kernel
theorem dX11_digest_5 : decode cX11_digest 5 = .ok (.istore_n 3, 1) := by decide +kernel
theorem dX11_digest_6 : decode cX11_digest 6 = .ok (.iload_n 3, 1) := by decide +kernel
theorem dX11_digest_7 : decode cX11_digest 7 = .ok (.bipush 8, 2) := by decide +kernel
theorem dX11_digest_9 : decode cX11_digest 9 = .ok (.if_icmp .ge 22, 3) := by decide +kernel
theorem dX11_digest_12 : decode cX11_digest 12 = .ok (.ldc2_w 307, 3) := by decide +kernel
theorem dX11_digest_15 : decode cX11_digest 15 = .ok (.lload_n 1, 1) := by decide +kernel
theorem dX11_digest_16 : decode cX11_digest 16 = .ok (.lmul, 1) := by decide +kernel
theorem dX11_digest_17 : decode cX11_digest 17 = .ok (.aload_n 0, 1) := by decide +kernel
theorem dX11_digest_18 : decode cX11_digest 18 = .ok (.iload_n 3, 1) := by decide +kernel
theorem dX11_digest_19 : decode cX11_digest 19 = .ok (.invokevirtual 315, 3) := by decide +kernel
theorem dX11_digest_22 : decode cX11_digest 22 = .ok (.i2l, 1) := by decide +kernel
theorem dX11_digest_23 : decode cX11_digest 23 = .ok (.ladd, 1) := by decide +kernel
theorem dX11_digest_24 : decode cX11_digest 24 = .ok (.lstore_n 1, 1) := by decide +kernel
theorem dX11_digest_25 : decode cX11_digest 25 = .ok (.iinc 3 1, 3) := by decide +kernel
theorem dX11_digest_28 : decode cX11_digest 28 = .ok (.goto (-22), 3) := by decide +kernel
theorem dX11_digest_31 : decode cX11_digest 31 = .ok (.ldc2_w 307, 3) := by decide +kernel
theorem dX11_digest_34 : decode cX11_digest 34 = .ok (.lload_n 1, 1) := by decide +kernel
theorem dX11_digest_35 : decode cX11_digest 35 = .ok (.lmul, 1) := by decide +kernel
theorem dX11_digest_36 : decode cX11_digest 36 = .ok (.aload_n 0, 1) := by decide +kernel
theorem dX11_digest_37 : decode cX11_digest 37 = .ok (.iconst 0, 1) := by decide +kernel
theorem dX11_digest_38 : decode cX11_digest 38 = .ok (.invokevirtual 146, 3) := by decide +kernel
theorem dX11_digest_41 : decode cX11_digest 41 = .ok (.i2l, 1) := by decide +kernel
theorem dX11_digest_42 : decode cX11_digest 42 = .ok (.ladd, 1) := by decide +kernel
theorem dX11_digest_43 : decode cX11_digest 43 = .ok (.lstore_n 1, 1) := by decide +kernel
theorem dX11_digest_44 : decode cX11_digest 44 = .ok (.ldc2_w 307, 3) := by decide +kernel
theorem dX11_digest_47 : decode cX11_digest 47 = .ok (.lload_n 1, 1) := by decide +kernel
theorem dX11_digest_48 : decode cX11_digest 48 = .ok (.lmul, 1) := by decide +kernel
theorem dX11_digest_49 : decode cX11_digest 49 = .ok (.aload_n 0, 1) := by decide +kernel
theorem dX11_digest_50 : decode cX11_digest 50 = .ok (.iconst 1, 1) := by decide +kernel
theorem dX11_digest_51 : decode cX11_digest 51 = .ok (.invokevirtual 146, 3) := by decide +kernel
theorem dX11_digest_54 : decode cX11_digest 54 = .ok (.i2l, 1) := by decide +kernel
theorem dX11_digest_55 : decode cX11_digest 55 = .ok (.ladd, 1) := by decide +kernel
theorem dX11_digest_56 : decode cX11_digest 56 = .ok (.lstore_n 1, 1) := by decide +kernel
theorem dX11_digest_57 : decode cX11_digest 57 = .ok (.iconst 0, 1) := by decide +kernel
theorem dX11_digest_58 : decode cX11_digest 58 = .ok (.istore_n 3, 1) := by decide +kernel
theorem dX11_digest_59 : decode cX11_digest 59 = .ok (.iload_n 3, 1) := by decide +kernel
theorem dX11_digest_60 : decode cX11_digest 60 = .ok (.iconst 4, 1) := by decide +kernel
theorem dX11_digest_61 : decode cX11_digest 61 = .ok (.aload_n 0, 1) := by decide +kernel
theorem dX11_digest_62 : decode cX11_digest 62 = .ok (.getfield 127, 3) := by decide +kernel
theorem dX11_digest_65 : decode cX11_digest 65 = .ok (.imul, 1) := by decide +kernel
theorem dX11_digest_66 : decode cX11_digest 66 = .ok (.if_icmp .ge 23, 3) := by decide +kernel
theorem dX11_digest_69 : decode cX11_digest 69 = .ok (.ldc2_w 307, 3) := by decide +kernel
theorem dX11_digest_72 : decode cX11_digest 72 = .ok (.lload_n 1, 1) := by decide +kernel
theorem dX11_digest_73 : decode cX11_digest 73 = .ok (.lmul, 1) := by decide +kernel
theorem dX11_digest_74 : decode cX11_digest 74 = .ok (.aload_n 0, 1) := by decide +kernel
theorem dX11_digest_75 : decode cX11_digest 75 = .ok (.getfield 28, 3) := by decide +kernel
theorem dX11_digest_78 : decode cX11_digest 78 = .ok (.iload_n 3, 1) := by decide +kernel
theorem dX11_digest_79 : decode cX11_digest 79 = .ok (.iaload, 1) := by decide +kernel
theorem dX11_digest_80 : decode cX11_digest 80 = .ok (.i2l, 1) := by decide +kernel
theorem dX11_digest_81 : decode cX11_digest 81 = .ok (.ladd, 1) := by decide +kernel
theorem dX11_digest_82 : decode cX11_digest 82 = .ok (.lstore_n 1, 1) := by decide +kernel
theorem dX11_digest_83 : decode cX11_digest 83 = .ok (.iinc 3 1, 3) := by decide +kernel
theorem dX11_digest_86 : decode cX11_digest 86 = .ok (.goto (-27), 3) := by decide +kernel
theorem dX11_digest_89 : decode cX11_digest 89 = .ok (.iconst 0, 1) := by decide +kernel
theorem dX11_digest_90 : decode cX11_digest 90 = .ok (.istore_n 3, 1) := by decide +kernel
theorem dX11_digest_91 : decode cX11_digest 91 = .ok (.iload_n 3, 1) := by decide +kernel
theorem dX11_digest_92 : decode cX11_digest 92 = .ok (.bipush 8, 2) := by decide +kernel
theorem dX11_digest_94 : decode cX11_digest 94 = .ok (.if_icmp .ge 37, 3) := by decide +kernel
theorem dX11_digest_97 : decode cX11_digest 97 = .ok (.ldc2_w 307, 3) := by decide +kernel
theorem dX11_digest_100 : decode cX11_digest 100 = .ok (.lload_n 1, 1) := by decide +kernel
theorem dX11_digest_101 : decode cX11_digest 101 = .ok (.lmul, 1) := by decide +kernel
theorem dX11_digest_102 : decode cX11_digest 102 = .ok (.aload_n 0, 1) := by decide +kernel
theorem dX11_digest_103 : decode cX11_digest 103 = .ok (.iconst 0, 1) := by decide +kernel
theorem dX11_digest_104 : decode cX11_digest 104 = .ok (.iload_n 3, 1) := by decide +kernel
theorem dX11_digest_105 : decode cX11_digest 105 = .ok (.invokevirtual 221, 3) := by decide +kernel
theorem dX11_digest_108 : decode cX11_digest 108 = .ok (.i2l, 1) := by decide +kernel
theorem dX11_digest_109 : decode cX11_digest 109 = .ok (.ladd, 1) := by decide +kernel
theorem dX11_digest_110 : decode cX11_digest 110 = .ok (.lstore_n 1, 1) := by decide +kernel
theorem dX11_digest_111 : decode cX11_digest 111 = .ok (.ldc2_w 307, 3) := by decide +kernel
theorem dX11_digest_114 : decode cX11_digest 114 = .ok (.lload_n 1, 1) := by decide +kernel
theorem dX11_digest_115 : decode cX11_digest 115 = .ok (.lmul, 1) := by decide +kernel
theorem dX11_digest_116 : decode cX11_digest 116 = .ok (.aload_n 0, 1) := by decide +kernel
theorem dX11_digest_117 : decode cX11_digest 117 = .ok (.iload_n 3, 1) := by decide +kernel
theorem dX11_digest_118 : decode cX11_digest 118 = .ok (.iconst 3, 1) := by decide +kernel
theorem dX11_digest_119 : decode cX11_digest 119 = .ok (.invokevirtual 221, 3) := by decide +kernel
theorem dX11_digest_122 : decode cX11_digest 122 = .ok (.i2l, 1) := by decide +kernel
theorem dX11_digest_123 : decode cX11_digest 123 = .ok (.ladd, 1) := by decide +kernel
theorem dX11_digest_124 : decode cX11_digest 124 = .ok (.lstore_n 1, 1) := by decide +kernel
theorem dX11_digest_125 : decode cX11_digest 125 = .ok (.iinc 3 1, 3) := by decide +kernel
theorem dX11_digest_128 : decode cX11_digest 128 = .ok (.goto (-37), 3) := by decide +kernel
theorem dX11_digest_131 : decode cX11_digest 131 = .ok (.iconst 0, 1) := by decide +kernel
theorem dX11_digest_132 : decode cX11_digest 132 = .ok (.istore_n 3, 1) := by decide +kernel
theorem dX11_digest_133 : decode cX11_digest 133 = .ok (.iload_n 3, 1) := by decide +kernel
theorem dX11_digest_134 : decode cX11_digest 134 = .ok (.aload_n 0, 1) := by decide +kernel
theorem dX11_digest_135 : decode cX11_digest 135 = .ok (.getfield 133, 3) := by decide +kernel
theorem dX11_digest_138 : decode cX11_digest 138 = .ok (.if_icmp .ge 16, 3) := by decide +kernel
theorem dX11_digest_141 : decode cX11_digest 141 = .ok (.aload_n 0, 1) := by decide +kernel
theorem dX11_digest_142 : decode cX11_digest 142 = .ok (.lload_n 1, 1) := by decide +kernel
