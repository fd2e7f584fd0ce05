theorem dX10_sheet_35 : decode cX10_sheet 35 = .ok (.aload_n 0, 1) := by decide +kernel
theorem dX10_sheet_36 : decode cX10_sheet 36 = .ok (.getfield 91, 3) := by decide +kernel
theorem dX10_sheet_39 : decode cX10_sheet 39 = .ok (.iload_n 1, 1) := by decide +kernel
theorem dX10_sheet_40 : decode cX10_sheet 40 = .ok (.aaload, 1) := by decide +kernel
theorem dX10_sheet_41 : decode cX10_sheet 41 = .ok (.iload_n 2, 1) := by decide +kernel
theorem dX10_sheet_42 : decode cX10_sheet 42 = .ok (.iload_n 3, 1) := by decide +kernel
theorem dX10_sheet_43 : decode cX10_sheet 43 = .ok (.invokevirtual 249, 3) := by decide +kernel
theorem dX10_sheet_46 : decode cX10_sheet 46 = .ok (.iload_n 3, 1) := by decide +kernel
theorem dX10_sheet_47 : decode cX10_sheet 47 = .ok (.ireturn, 1) := by decide +kernel
theorem dX10_lose_0 : decode cX10_lose 0 = .ok (.iload_n 1, 1) := by decide +kernel
theorem dX10_lose_1 : decode cX10_lose 1 = .ok (.iconst 4, 1) := by decide +kernel
theorem dX10_lose_2 : decode cX10_lose 2 = .ok (.invokestatic 100, 3) := by decide +kernel
theorem dX10_lose_5 : decode cX10_lose 5 = .ok (.ifCond .ne 6, 3) := by decide +kernel
theorem dX10_lose_8 : decode cX10_lose 8 = .ok (.bipush (-2), 2) := by decide +kernel
theorem dX10_lose_10 : decode cX10_lose 10 = .ok (.ireturn, 1) := by decide +kernel
theorem dX10_lose_11 : decode cX10_lose 11 = .ok (.aload_n 0, 1) := by decide +kernel
theorem dX10_lose_12 : decode cX10_lose 12 = .ok (.getfield 91, 3) := by decide +kernel
theorem dX10_lose_15 : decode cX10_lose 15 = .ok (.iload_n 1, 1) := by decide +kernel
theorem dX10_lose_16 : decode cX10_lose 16 = .ok (.aaload, 1) := by decide +kernel
theorem dX10_lose_17 : decode cX10_lose 17 = .ok (.getfield 150, 3) := by decide +kernel
theorem dX10_lose_20 : decode cX10_lose 20 = .ok (.ifCond .eq 9, 3) := by decide +kernel
theorem dX10_lose_23 : decode cX10_lose 23 = .ok (.aload_n 0, 1) := by decide +kernel
theorem dX10_lose_24 : decode cX10_lose 24 = .ok (.iconst 1, 1) := by decide +kernel
theorem dX10_lose_25 : decode cX10_lose 25 = .ok (.invokevirtual 154, 3) := by decide +kernel
theorem dX10_lose_28 : decode cX10_lose 28 = .ok (.ireturn, 1) := by decide +kernel
theorem dX10_lose_29 : decode cX10_lose 29 = .ok (.aload_n 0, 1) := by decide +kernel
theorem dX10_lose_30 : decode cX10_lose 30 = .ok (.getfield 91, 3) := by decide +kernel
theorem dX10_lose_33 : decode cX10_lose 33 = .ok (.iload_n 1, 1) := by decide +kernel
theorem dX10_lose_34 : decode cX10_lose 34 = .ok (.aaload, 1) := by decide +kernel
theorem dX10_lose_35 : decode cX10_lose 35 = .ok (.iconst 1, 1) := by decide +kernel
theorem dX10_lose_36 : decode cX10_lose 36 = .ok (.putfield 150, 3) := by decide +kernel
theorem dX10_lose_39 : decode cX10_lose 39 = .ok (.aload_n 0, 1) := by decide +kernel
theorem dX10_lose_40 : decode cX10_lose 40 = .ok (.getfield 91, 3) := by decide +kernel
theorem dX10_lose_43 : decode cX10_lose 43 = .ok (.iload_n 1, 1) := by decide +kernel
theorem dX10_lose_44 : decode cX10_lose 44 = .ok (.aaload, 1) := by decide +kernel
theorem dX10_lose_45 : decode cX10_lose 45 = .ok (.getfield 158, 3) := by decide +kernel
theorem dX10_lose_48 : decode cX10_lose 48 = .ok (.ireturn, 1) := by decide +kernel
theorem dX10_lay_0 : decode cX10_lay 0 = .ok (.aload_n 0, 1) := by decide +kernel
theorem dX10_lay_1 : decode cX10_lay 1 = .ok (.iload_n 1, 1) := by decide +kernel
theorem dX10_lay_2 : decode cX10_lay 2 = .ok (.iload_n 2, 1) := by decide +kernel
theorem dX10_lay_3 : decode cX10_lay 3 = .ok (.iload_n 3, 1) := by decide +kernel
theorem dX10_lay_4 : decode cX10_lay 4 = .ok (.invokevirtual 252, 3) := by decide +kernel
theorem dX10_lay_7 : decode cX10_lay 7 = .ok (.istore 5, 2) := by decide +kernel
theorem dX10_lay_9 : decode cX10_lay 9 = .ok (.iload 5, 2) := by decide +kernel
theorem dX10_lay_11 : decode cX10_lay 11 = .ok (.ifCond .eq 6, 3) := by decide +kernel
theorem dX10_lay_14 : decode cX10_lay 14 = .ok (.iload 5, 2) := by decide +kernel
theorem dX10_lay_16 : decode cX10_lay 16 = .ok (.ireturn, 1) := by decide +kernel
theorem dX10_lay_17 : decode cX10_lay 17 = .ok (.aload_n 0, 1) := by decide +kernel
theorem dX10_lay_18 : decode cX10_lay 18 = .ok (.getfield 91, 3) := by decide +kernel
theorem dX10_lay_21 : decode cX10_lay 21 = .ok (.iload_n 1, 1) := by decide +kernel
theorem dX10_lay_22 : decode cX10_lay 22 = .ok (.aaload, 1) := by decide +kernel
theorem dX10_lay_23 : decode cX10_lay 23 = .ok (.iload_n 3, 1) := by decide +kernel
theorem dX10_lay_24 : decode cX10_lay 24 = .ok (.iload 4, 2) := by decide +kernel
theorem dX10_lay_26 : decode cX10_lay 26 = .ok (.invokevirtual 255, 3) := by decide +kernel
theorem dX10_lay_29 : decode cX10_lay 29 = .ok (.iconst 1, 1) := by decide +kernel
theorem dX10_lay_30 : decode cX10_lay 30 = .ok (.ireturn, 1) := by decide +kernel
theorem dX10_get_0 : decode cX10_get 0 = .ok (.aload_n 0, 1) := by decide +kernel
theorem dX10_get_1 : decode cX10_get 1 = .ok (.iload_n 1, 1) := by decide +kernel
theorem dX10_get_2 : decode cX10_get 2 = .ok (.iload_n 2, 1) := by decide +kernel
theorem dX10_get_3 : decode cX10_get 3 = .ok (.iload_n 3, 1) := by decide +kernel
theorem dX10_get_4 : decode cX10_get 4 = .ok (.invokevirtual 252, 3) := by decide +kernel
theorem dX10_get_7 : decode cX10_get 7 = .ok (.ifCond .eq 9, 3) := by decide +kernel
theorem dX10_get_10 : decode cX10_get 10 = .ok (.ldc_w 258, 3) := by decide +kernel
theorem dX10_get_13 : decode cX10_get 13 = .ok (.goto 14, 3) := by decide +kernel
theorem dX10_get_16 : decode cX10_get 16 = .ok (.aload_n 0, 1) := by decide +kernel
theorem dX10_get_17 : decode cX10_get 17 = .ok (.getfield 91, 3) := by decide +kernel
theorem dX10_get_20 : decode cX10_get 20 = .ok (.iload_n 1, 1) := by decide +kernel
theorem dX10_get_21 : decode cX10_get 21 = .ok (.aaload, 1) := by decide +kernel
theorem dX10_get_22 : decode cX10_get 22 = .ok (.getfield 159, 3) := by decide +kernel
theorem dX10_get_25 : decode cX10_get 25 = .ok (.iload_n 3, 1) := by decide +kernel
theorem dX10_get_26 : decode cX10_get 26 = .ok (.iaload, 1) := by decide +kernel
theorem dX10_get_27 : decode cX10_get 27 = .ok (.ireturn, 1) := by decide +kernel
theorem dX10_copy_0 : decode cX10_copy 0 = .ok (.iload_n 1, 1) := by decide +kernel
theorem dX10_copy_1 : decode cX10_copy 1 = .ok (.iconst 4, 1) := by decide +kernel
theorem dX10_copy_2 : decode cX10_copy 2 = .ok (.invokestatic 100, 3) := by decide +kernel
theorem dX10_copy_5 : decode cX10_copy 5 = .ok (.ifCond .eq 11, 3) := by decide +kernel
theorem dX10_copy_8 : decode cX10_copy 8 = .ok (.iload_n 3, 1) := by decide +kernel
theorem dX10_copy_9 : decode cX10_copy 9 = .ok (.iconst 4, 1) := by decide +kernel
theorem dX10_copy_10 : decode cX10_copy 10 = .ok (.invokestatic 100, 3) := by decide +kernel
theorem dX10_copy_13 : decode cX10_copy 13 = .ok (.ifCond .ne 6, 3) := by decide +kernel
theorem dX10_copy_16 : decode cX10_copy 16 = .ok (.bipush (-2), 2) := by decide +kernel
theorem dX10_copy_18 : decode cX10_copy 18 = .ok (.ireturn, 1) := by decide +kernel
theorem dX10_copy_19 : decode cX10_copy 19 = .ok (.aload_n 0, 1) := by decide +kernel
theorem dX10_copy_20 : decode cX10_copy 20 = .ok (.getfield 91, 3) := by decide +kernel
theorem dX10_copy_23 : decode cX10_copy 23 = .ok (.iload_n 1, 1) := by decide +kernel
theorem dX10_copy_24 : decode cX10_copy 24 = .ok (.aaload, 1) := by decide +kernel
theorem dX10_copy_25 : decode cX10_copy 25 = .ok (.astore 6, 2) := by decide +kernel
theorem dX10_copy_27 : decode cX10_copy 27 = .ok (.aload_n 0, 1) := by decide +kernel
theorem dX10_copy_28 : decode cX10_copy 28 = .ok (.getfield 91, 3) := by decide +kernel
theorem dX10_copy_31 : decode cX10_copy 31 = .ok (.iload_n 3, 1) := by decide +kernel
theorem dX10_copy_32 : decode cX10_copy 32 = .ok (.aaload, 1) := by decide +kernel
theorem dX10_copy_33 : decode cX10_copy 33 = .ok (.astore 7, 2) := by decide +kernel
theorem dX10_copy_35 : decode cX10_copy 35 = .ok (.aload 6, 2) := by decide +kernel
theorem dX10_copy_37 : decode cX10_copy 37 = .ok (.getfield 150, 3) := by decide +kernel
theorem dX10_copy_40 : decode cX10_copy 40 = .ok (.ifCond .ne 11, 3) := by decide +kernel
theorem dX10_copy_43 : decode cX10_copy 43 = .ok (.aload 7, 2) := by decide +kernel
theorem dX10_copy_45 : decode cX10_copy 45 = .ok (.getfield 150, 3) := by decide +kernel
theorem dX10_copy_48 : decode cX10_copy 48 = .ok (.ifCond .eq 9, 3) := by decide +kernel
theorem dX10_copy_51 : decode cX10_copy 51 = .ok (.aload_n 0, 1) := by decide +kernel
theorem dX10_copy_52 : decode cX10_copy 52 = .ok (.iconst 1, 1) := by decide +kernel
theorem dX10_copy_53 : decode cX10_copy 53 = .ok (.invokevirtual 154, 3) := by decide +kernel
theorem dX10_copy_56 : decode cX10_copy 56 = .ok (.ireturn, 1) := by decide +kernel
theorem dX10_copy_57 : decode cX10_copy 57 = .ok (.aload 6, 2) := by decide +kernel
theorem dX10_copy_59 : decode cX10_copy 59 = .ok (.getfield 259, 3) := by decide +kernel
theorem dX10_copy_62 : decode cX10_copy 62 = .ok (.aload 7, 2) := by decide +kernel
theorem dX10_copy_64 : decode cX10_copy 64 = .ok (.getfield 259, 3) := by decide +kernel
theorem dX10_copy_67 : decode cX10_copy 67 = .ok (.if_icmp .eq 9, 3) := by decide +kernel
theorem dX10_copy_70 : decode cX10_copy 70 = .ok (.aload_n 0, 1) := by decide +kernel
theorem dX10_copy_71 : decode cX10_copy 71 = .ok (.iconst 4, 1) := by decide +kernel
theorem dX10_copy_72 : decode cX10_copy 72 = .ok (.invokevirtual 154, 3) := by decide +kernel
theorem dX10_copy_75 : decode cX10_copy 75 = .ok (.ireturn, 1) := by decide +kernel
theorem dX10_copy_76 : decode cX10_copy 76 = .ok (.aload 6, 2) := by decide +kernel
theorem dX10_copy_78 : decode cX10_copy 78 = .ok (.iload_n 2, 1) := by decide +kernel
theorem dX10_copy_79 : decode cX10_copy 79 = .ok (.iload 5, 2) := by decide +kernel
theorem dX10_copy_81 : decode cX10_copy 81 = .ok (.invokevirtual 262, 3) := by decide +kernel
theorem dX10_copy_84 : decode cX10_copy 84 = .ok (.ifCond .eq 15, 3) := by decide +kernel
theorem dX10_copy_87 : decode cX10_copy 87 = .ok (.aload 7, 2) := by decide +kernel
theorem dX10_copy_89 : decode cX10_copy 89 = .ok (.iload 4, 2) := by decide +kernel
theorem dX10_copy_91 : decode cX10_copy 91 = .ok (.iload 5, 2) := by decide +kernel
theorem dX10_copy_93 : decode cX10_copy 93 = .ok (.invokevirtual 262, 3) := by decide +kernel
theorem dX10_copy_96 : decode cX10_copy 96 = .ok (.ifCond .ne 9, 3) := by decide +kernel
theorem dX10_copy_99 : decode cX10_copy 99 = .ok (.aload_n 0, 1) := by decide +kernel
theorem dX10_copy_100 : decode cX10_copy 100 = .ok (.iconst 2, 1) := by decide +kernel
theorem dX10_copy_101 : decode cX10_copy 101 = .ok (.invokevirtual 154, 3) := by decide +kernel
theorem dX10_copy_104 : decode cX10_copy 104 = .ok (.ireturn, 1) := by decide +kernel
theorem dX10_copy_105 : decode cX10_copy 105 = .ok (.aload 6, 2) := by decide +kernel
theorem dX10_copy_107 : decode cX10_copy 107 = .ok (.getfield 159, 3) := by decide +kernel
theorem dX10_copy_110 : decode cX10_copy 110 = .ok (.iload_n 2, 1) := by decide +kernel
theorem dX10_copy_111 : decode cX10_copy 111 = .ok (.aload 7, 2) := by decide +kernel
theorem dX10_copy_113 : decode cX10_copy 113 = .ok (.getfield 159, 3) := by decide +kernel
theorem dX10_copy_116 : decode cX10_copy 116 = .ok (.iload 4, 2) := by decide +kernel
theorem dX10_copy_118 : decode cX10_copy 118 = .ok (.iload 5, 2) := by decide +kernel
theorem dX10_copy_120 : decode cX10_copy 120 = .ok (.invokestatic 265, 3) := by decide +kernel
theorem dX10_copy_123 : decode cX10_copy 123 = .ok (.iconst 1, 1) := by decide +kernel
theorem dX10_copy_124 : decode cX10_copy 124 = .ok (.ireturn, 1) := by decide +kernel
theorem dX10_write_0 : decode cX10_write 0 = .ok (.aload_n 0, 1) := by decide +kernel
theorem dX10_write_1 : decode cX10_write 1 = .ok (.iload_n 1, 1) := by decide +kernel
theorem dX10_write_2 : decode cX10_write 2 = .ok (.invokevirtual 135, 3) := by decide +kernel
theorem dX10_write_5 : decode cX10_write 5 = .ok (.ifCond .eq 11, 3) := by decide +kernel
theorem dX10_write_8 : decode cX10_write 8 = .ok (.iload_n 2, 1) := by decide +kernel
theorem dX10_write_9 : decode cX10_write 9 = .ok (.iconst 4, 1) := by decide +kernel
theorem dX10_write_10 : decode cX10_write 10 = .ok (.invokestatic 100, 3) := by decide +kernel
theorem dX10_write_13 : decode cX10_write 13 = .ok (.ifCond .ne 6, 3) := by decide +kernel
theorem dX10_write_16 : decode cX10_write 16 = .ok (.bipush (-2), 2) := by decide +kernel
theorem dX10_write_18 : decode cX10_write 18 = .ok (.ireturn, 1) := by decide +kernel
theorem dX10_write_19 : decode cX10_write 19 = .ok (.aload_n 0, 1) := by decide +kernel
theorem dX10_write_20 : decode cX10_write 20 = .ok (.getfield 91, 3) := by decide +kernel
theorem dX10_write_23 : decode cX10_write 23 = .ok (.iload_n 2, 1) := by decide +kernel
theorem dX10_write_24 : decode cX10_write 24 = .ok (.aaload, 1) := by decide +kernel
theorem dX10_write_25 : decode cX10_write 25 = .ok (.astore_n 3, 1) := by decide +kernel
theorem dX10_write_26 : decode cX10_write 26 = .ok (.aload_n 3, 1) := by decide +kernel
theorem dX10_write_27 : decode cX10_write 27 = .ok (.getfield 150, 3) := by decide +kernel
theorem dX10_write_30 : decode cX10_write 30 = .ok (.ifCond .eq 9, 3) := by decide +kernel
theorem dX10_write_33 : decode cX10_write 33 = .ok (.aload_n 0, 1) := by decide +kernel
theorem dX10_write_34 : decode cX10_write 34 = .ok (.iconst 1, 1) := by decide +kernel
theorem dX10_write_35 : decode cX10_write 35 = .ok (.invokevirtual 154, 3) := by decide +kernel
theorem dX10_write_38 : decode cX10_write 38 = .ok (.ireturn, 1) := by decide +kernel
theorem dX10_write_39 : decode cX10_write 39 = .ok (.aload_n 3, 1) := by decide +kernel
theorem dX10_write_40 : decode cX10_write 40 = .ok (.getfield 158, 3) := by decide +kernel
theorem dX10_write_43 : decode cX10_write 43 = .ok (.bipush 40, 2) := by decide +kernel
theorem dX10_write_45 : decode cX10_write 45 = .ok (.invokestatic 271, 3) := by decide +kernel
theorem dX10_write_48 : decode cX10_write 48 = .ok (.istore 4, 2) := by decide +kernel
theorem dX10_write_50 : decode cX10_write 50 = .ok (.iconst 0, 1) := by decide +kernel
theorem dX10_write_51 : decode cX10_write 51 = .ok (.istore 5, 2) := by decide +kernel
theorem dX10_write_53 : decode cX10_write 53 = .ok (.iload 5, 2) := by decide +kernel
theorem dX10_write_55 : decode cX10_write 55 = .ok (.iload 4, 2) := by decide +kernel
theorem dX10_write_57 : decode cX10_write 57 = .ok (.if_icmp .ge 25, 3) := by decide +kernel
theorem dX10_write_60 : decode cX10_write 60 = .ok (.aload_n 3, 1) := by decide +kernel
theorem dX10_write_61 : decode cX10_write 61 = .ok (.iload 5, 2) := by decide +kernel
theorem dX10_write_63 : decode cX10_write 63 = .ok (.aload_n 0, 1) := by decide +kernel
theorem dX10_write_64 : decode cX10_write 64 = .ok (.getfield 58, 3) := by decide +kernel
theorem dX10_write_67 : decode cX10_write 67 = .ok (.iload_n 1, 1) := by decide +kernel
theorem dX10_write_68 : decode cX10_write 68 = .ok (.iload 5, 2) := by decide +kernel
theorem dX10_write_70 : decode cX10_write 70 = .ok (.invokevirtual 276, 3) := by decide +kernel
theorem dX10_write_73 : decode cX10_write 73 = .ok (.invokevirtual 255, 3) := by decide +kernel
theorem dX10_write_76 : decode cX10_write 76 = .ok (.iinc 5 1, 3) := by decide +kernel
theorem dX10_write_79 : decode cX10_write 79 = .ok (.goto (-26), 3) := by decide +kernel
theorem dX10_write_82 : decode cX10_write 82 = .ok (.iload 4, 2) := by decide +kernel
theorem dX10_write_84 : decode cX10_write 84 = .ok (.ireturn, 1) := by decide +kernel
theorem dX10_count_0 : decode cX10_count 0 = .ok (.iload_n 1, 1) := by decide +kernel
theorem dX10_count_1 : decode cX10_count 1 = .ok (.tableswitch 121 0 8 #[51, 59, 67, 75, 83, 91, 100, 108, 116], 51) := by decide +kernel
theorem dX10_count_52 : decode cX10_count 52 = .ok (.aload_n 0, 1) := by decide +kernel
theorem dX10_count_53 : decode cX10_count 53 = .ok (.getfield 18, 3) := by decide +kernel
theorem dX10_count_56 : decode cX10_count 56 = .ok (.getfield 128, 3) := by decide +kernel
theorem dX10_count_59 : decode cX10_count 59 = .ok (.ireturn, 1) := by decide +kernel
theorem dX10_count_60 : decode cX10_count 60 = .ok (.aload_n 0, 1) := by decide +kernel
theorem dX10_count_61 : decode cX10_count 61 = .ok (.getfield 25, 3) := by decide +kernel
theorem dX10_count_64 : decode cX10_count 64 = .ok (.getfield 128, 3) := by decide +kernel
theorem dX10_count_67 : decode cX10_count 67 = .ok (.ireturn, 1) := by decide +kernel
theorem dX10_count_68 : decode cX10_count 68 = .ok (.aload_n 0, 1) := by decide +kernel
theorem dX10_count_69 : decode cX10_count 69 = .ok (.getfield 18, 3) := by decide +kernel
theorem dX10_count_72 : decode cX10_count 72 = .ok (.getfield 119, 3) := by decide +kernel
theorem dX10_count_75 : decode cX10_count 75 = .ok (.ireturn, 1) := by decide +kernel
theorem dX10_count_76 : decode cX10_count 76 = .ok (.aload_n 0, 1) := by decide +kernel
theorem dX10_count_77 : decode cX10_count 77 = .ok (.getfield 25, 3) := by decide +kernel
theorem dX10_count_80 : decode cX10_count 80 = .ok (.getfield 119, 3) := by decide +kernel
theorem dX10_count_83 : decode cX10_count 83 = .ok (.ireturn, 1) := by decide +kernel
theorem dX10_count_84 : decode cX10_count 84 = .ok (.aload_n 0, 1) := by decide +kernel
theorem dX10_count_85 : decode cX10_count 85 = .ok (.getfield 31, 3) := by decide +kernel
theorem dX10_count_88 : decode cX10_count 88 = .ok (.getfield 145, 3) := by decide +kernel
theorem dX10_count_91 : decode cX10_count 91 = .ok (.ireturn, 1) := by decide +kernel
theorem dX10_count_92 : decode cX10_count 92 = .ok (.aload_n 0, 1) := by decide +kernel
theorem dX10_count_93 : decode cX10_count 93 = .ok (.getfield 58, 3) := by decide +kernel
theorem dX10_count_96 : decode cX10_count 96 = .ok (.iconst 2, 1) := by decide +kernel
theorem dX10_count_97 : decode cX10_count 97 = .ok (.invokevirtual 279, 3) := by decide +kernel
theorem dX10_count_100 : decode cX10_count 100 = .ok (.ireturn, 1) := by decide +kernel
theorem dX10_count_101 : decode cX10_count 101 = .ok (.aload_n 0, 1) := by decide +kernel
theorem dX10_count_102 : decode cX10_count 102 = .ok (.getfield 58, 3) := by decide +kernel
theorem dX10_count_105 : decode cX10_count 105 = .ok (.invokevirtual 282, 3) := by decide +kernel
theorem dX10_count_108 : decode cX10_count 108 = .ok (.ireturn, 1) := by decide +kernel
theorem dX10_count_109 : decode cX10_count 109 = .ok (.aload_n 0, 1) := by decide +kernel
theorem dX10_count_110 : decode cX10_count 110 = .ok (.getfield 78, 3) := by decide +kernel
theorem dX10_count_113 : decode cX10_count 113 = .ok (.getfield 206, 3) := by decide +kernel
theorem dX10_count_116 : decode cX10_count 116 = .ok (.ireturn, 1) := by decide +kernel
theorem dX10_count_117 : decode cX10_count 117 = .ok (.aload_n 0, 1) := by decide +kernel
theorem dX10_count_118 : decode cX10_count 118 = .ok (.getfield 96, 3) := by decide +kernel
theorem dX10_count_121 : decode cX10_count 121 = .ok (.ireturn, 1) := by decide +kernel
theorem dX10_count_122 : decode cX10_count 122 = .ok (.bipush (-2), 2) := by decide +kernel
theorem dX10_count_124 : decode cX10_count 124 = .ok (.ireturn, 1) := by decide +kernel
theorem dX10_digest_0 : decode cX10_digest 0 = .ok (.aload_n 0, 1) := by decide +kernel
theorem dX10_digest_1 : decode cX10_digest 1 = .ok (.ldc2_w 285, 3) := by decide +kernel
theorem dX10_digest_4 : decode cX10_digest 4 = .ok (.invokevirtual 287, 3) := by decide +kernel
theorem dX10_digest_7 : decode cX10_digest 7 = .ok (.lstore_n 1, 1) := by decide +kernel
theorem dX10_digest_8 : decode cX10_digest 8 = .ok (.aload_n 0, 1) := by decide +kernel
theorem dX10_digest_9 : decode cX10_digest 9 = .ok (.getfield 85, 3) := by decide +kernel
theorem dX10_digest_12 : decode cX10_digest 12 = .ok (.iconst 5, 1) := by decide +kernel
theorem dX10_digest_13 : decode cX10_digest 13 = .ok (.invokevirtual 233, 3) := by decide +kernel
theorem dX10_digest_16 : decode cX10_digest 16 = .ok (.iconst 0, 1) := by decide +kernel
theorem dX10_digest_17 : decode cX10_digest 17 = .ok (.istore_n 3, 1) := by decide +kernel
theorem dX10_digest_18 : decode cX10_digest 18 = .ok (.iload_n 3, 1) := by decide +kernel
theorem dX10_digest_19 : decode cX10_digest 19 = .ok (.aload_n 0, 1) := by decide +kernel
theorem dX10_digest_20 : decode cX10_digest 20 = .ok (.getfield 25, 3) := by decide +kernel
theorem dX10_digest_23 : decode cX10_digest 23 = .ok (.getfield 128, 3) := by decide +kernel
theorem dX10_digest_26 : decode cX10_digest 26 = .ok (.if_icmp .ge 23, 3) := by decide +kernel
theorem dX10_digest_29 : decode cX10_digest 29 = .ok (.aload_n 0, 1) := by decide +kernel
theorem dX10_digest_30 : decode cX10_digest 30 = .ok (.lload_n 1, 1) := by decide +kernel
theorem dX10_digest_31 : decode cX10_digest 31 = .ok (.iload_n 3, 1) := by decide +kernel
theorem dX10_digest_32 : decode cX10_digest 32 = .ok (.invokevirtual 291, 3) := by decide +kernel
theorem dX10_digest_35 : decode cX10_digest 35 = .ok (.lstore_n 1, 1) := by decide +kernel
theorem dX10_digest_36 : decode cX10_digest 36 = .ok (.aload_n 0, 1) := by decide +kernel
theorem dX10_digest_37 : decode cX10_digest 37 = .ok (.lload_n 1, 1) := by decide +kernel
theorem dX10_digest_38 : decode cX10_digest 38 = .ok (.iload_n 3, 1) := by decide +kernel
theorem dX10_digest_39 : decode cX10_digest 39 = .ok (.invokevirtual 295, 3) := by decide +kernel
theorem dX10_digest_42 : decode cX10_digest 42 = .ok (.lstore_n 1, 1) := by decide +kernel
theorem dX10_digest_43 : decode cX10_digest 43 = .ok (.iinc 3 1, 3) := by decide +kernel
theorem dX10_digest_46 : decode cX10_digest 46 = .ok (.goto (-28), 3) := by decide +kernel
theorem dX10_digest_49 : decode cX10_digest 49 = .ok (.aload_n 0, 1) := by decide +kernel
theorem dX10_digest_50 : decode cX10_digest 50 = .ok (.lload_n 1, 1) := by decide +kernel
theorem dX10_digest_51 : decode cX10_digest 51 = .ok (.invokevirtual 298, 3) := by decide +kernel
theorem dX10_digest_54 : decode cX10_digest 54 = .ok (.lreturn, 1) := by decide +kernel
theorem dX10_digestOfTexts_0 : decode cX10_digestOfTexts 0 = .ok (.lload_n 1, 1) := by decide +kernel
theorem dX10_digestOfTexts_1 : decode cX10_digestOfTexts 1 = .ok (.lstore_n 3, 1) := by decide +kernel
theorem dX10_digestOfTexts_2 : decode cX10_digestOfTexts 2 = .ok (.iconst 0, 1) := by decide +kernel
theorem dX10_digestOfTexts_3 : decode cX10_digestOfTexts 3 = .ok (.istore 5, 2) := by decide +kernel
theorem dX10_digestOfTexts_5 : decode cX10_digestOfTexts 5 = .ok (.iload 5, 2) := by decide +kernel
theorem dX10_digestOfTexts_7 : decode cX10_digestOfTexts 7 = .ok (.bipush 8, 2) := by decide +kernel
theorem dX10_digestOfTexts_9 : decode cX10_digestOfTexts 9 = .ok (.if_icmp .ge 21, 3) := by decide +kernel
theorem dX10_digestOfTexts_12 : decode cX10_digestOfTexts 12 = .ok (.lload_n 3, 1) := by decide +kernel
theorem dX10_digestOfTexts_13 : decode cX10_digestOfTexts 13 = .ok (.aload_n 0, 1) := by decide +kernel
theorem dX10_digestOfTexts_14 : decode cX10_digestOfTexts 14 = .ok (.iload 5, 2) := by decide +kernel
theorem dX10_digestOfTexts_16 : decode cX10_digestOfTexts 16 = .ok (.invokevirtual 301, 3) := by decide +kernel
theorem dX10_digestOfTexts_19 : decode cX10_digestOfTexts 19 = .ok (.i2l, 1) := by decide +kernel
theorem dX10_digestOfTexts_20 : decode cX10_digestOfTexts 20 = .ok (.invokestatic 304, 3) := by decide +kernel
theorem dX10_digestOfTexts_23 : decode cX10_digestOfTexts 23 = .ok (.lstore_n 3, 1) := by decide +kernel
theorem dX10_digestOfTexts_24 : decode cX10_digestOfTexts 24 = .ok (.iinc 5 1, 3) := by decide +kernel
theorem dX10_digestOfTexts_27 : decode cX10_digestOfTexts 27 = .ok (.goto (-22), 3) := by decide +kernel
theorem dX10_digestOfTexts_30 : decode cX10_digestOfTexts 30 = .ok (.lload_n 3, 1) := by decide +kernel
theorem dX10_digestOfTexts_31 : decode cX10_digestOfTexts 31 = .ok (.aload_n 0, 1) := by decide +kernel
theorem dX10_digestOfTexts_32 : decode cX10_digestOfTexts 32 = .ok (.getfield 18, 3) := by decide +kernel
theorem dX10_digestOfTexts_35 : decode cX10_digestOfTexts 35 = .ok (.getfield 125, 3) := by decide +kernel
theorem dX10_digestOfTexts_38 : decode cX10_digestOfTexts 38 = .ok (.i2l, 1) := by decide +kernel
theorem dX10_digestOfTexts_39 : decode cX10_digestOfTexts 39 = .ok (.invokestatic 304, 3) := by decide +kernel
theorem dX10_digestOfTexts_42 : decode cX10_digestOfTexts 42 = .ok (.lstore_n 3, 1) := by decide +kernel
theorem dX10_digestOfTexts_43 : decode cX10_digestOfTexts 43 = .ok (.lload_n 3, 1) := by decide +kernel
theorem dX10_digestOfTexts_44 : decode cX10_digestOfTexts 44 = .ok (.aload_n 0, 1) := by decide +kernel
theorem dX10_digestOfTexts_45 : decode cX10_digestOfTexts 45 = .ok (.getfield 25, 3) := by decide +kernel
theorem dX10_digestOfTexts_48 : decode cX10_digestOfTexts 48 = .ok (.getfield 125, 3) := by decide +kernel
theorem dX10_digestOfTexts_51 : decode cX10_digestOfTexts 51 = .ok (.i2l, 1) := by decide +kernel
theorem dX10_digestOfTexts_52 : decode cX10_digestOfTexts 52 = .ok (.invokestatic 304, 3) := by decide +kernel
theorem dX10_digestOfTexts_55 : decode cX10_digestOfTexts 55 = .ok (.lstore_n 3, 1) := by decide +kernel
theorem dX10_digestOfTexts_56 : decode cX10_digestOfTexts 56 = .ok (.iconst 0, 1) := by decide +kernel
theorem dX10_digestOfTexts_57 : decode cX10_digestOfTexts 57 = .ok (.istore 5, 2) := by decide +kernel
theorem dX10_digestOfTexts_59 : decode cX10_digestOfTexts 59 = .ok (.iload 5, 2) := by decide +kernel
theorem dX10_digestOfTexts_61 : decode cX10_digestOfTexts 61 = .ok (.aload_n 0, 1) := by decide +kernel
theorem dX10_digestOfTexts_62 : decode cX10_digestOfTexts 62 = .ok (.getfield 18, 3) := by decide +kernel
theorem dX10_digestOfTexts_65 : decode cX10_digestOfTexts 65 = .ok (.getfield 128, 3) := by decide +kernel
theorem dX10_digestOfTexts_68 : decode cX10_digestOfTexts 68 = .ok (.if_icmp .ge 41, 3) := by decide +kernel
theorem dX10_digestOfTexts_71 : decode cX10_digestOfTexts 71 = .ok (.iconst 0, 1) := by decide +kernel
theorem dX10_digestOfTexts_72 : decode cX10_digestOfTexts 72 = .ok (.istore 6, 2) := by decide +kernel
theorem dX10_digestOfTexts_74 : decode cX10_digestOfTexts 74 = .ok (.iload 6, 2) := by decide +kernel
theorem dX10_digestOfTexts_76 : decode cX10_digestOfTexts 76 = .ok (.iconst 4, 1) := by decide +kernel
theorem dX10_digestOfTexts_77 : decode cX10_digestOfTexts 77 = .ok (.if_icmp .ge 26, 3) := by decide +kernel
theorem dX10_digestOfTexts_80 : decode cX10_digestOfTexts 80 = .ok (.lload_n 3, 1) := by decide +kernel
theorem dX10_digestOfTexts_81 : decode cX10_digestOfTexts 81 = .ok (.aload_n 0, 1) := by decide +kernel
theorem dX10_digestOfTexts_82 : decode cX10_digestOfTexts 82 = .ok (.getfield 18, 3) := by decide +kernel
theorem dX10_digestOfTexts_85 : decode cX10_digestOfTexts 85 = .ok (.iload 5, 2) := by decide +kernel
theorem dX10_digestOfTexts_87 : decode cX10_digestOfTexts 87 = .ok (.iload 6, 2) := by decide +kernel
theorem dX10_digestOfTexts_89 : decode cX10_digestOfTexts 89 = .ok (.invokevirtual 131, 3) := by decide +kernel
theorem dX10_digestOfTexts_92 : decode cX10_digestOfTexts 92 = .ok (.i2l, 1) := by decide +kernel
theorem dX10_digestOfTexts_93 : decode cX10_digestOfTexts 93 = .ok (.invokestatic 304, 3) := by decide +kernel
theorem dX10_digestOfTexts_96 : decode cX10_digestOfTexts 96 = .ok (.lstore_n 3, 1) := by decide +kernel
theorem dX10_digestOfTexts_97 : decode cX10_digestOfTexts 97 = .ok (.iinc 6 1, 3) := by decide +kernel
theorem dX10_digestOfTexts_100 : decode cX10_digestOfTexts 100 = .ok (.goto (-26), 3) := by decide +kernel
theorem dX10_digestOfTexts_103 : decode cX10_digestOfTexts 103 = .ok (.iinc 5 1, 3) := by decide +kernel
theorem dX10_digestOfTexts_106 : decode cX10_digestOfTexts 106 = .ok (.goto (-47), 3) := by decide +kernel
theorem dX10_digestOfTexts_109 : decode cX10_digestOfTexts 109 = .ok (.iconst 0, 1) := by decide +kernel
theorem dX10_digestOfTexts_110 : decode cX10_digestOfTexts 110 = .ok (.istore 5, 2) := by decide +kernel
theorem dX10_digestOfTexts_112 : decode cX10_digestOfTexts 112 = .ok (.iload 5, 2) := by decide +kernel
theorem dX10_digestOfTexts_114 : decode cX10_digestOfTexts 114 = .ok (.bipush 8, 2) := by decide +kernel
theorem dX10_digestOfTexts_116 : decode cX10_digestOfTexts 116 = .ok (.if_icmp .ge 47, 3) := by decide +kernel
theorem dX10_digestOfTexts_119 : decode cX10_digestOfTexts 119 = .ok (.lload_n 3, 1) := by decide +kernel
theorem dX10_digestOfTexts_120 : decode cX10_digestOfTexts 120 = .ok (.aload_n 0, 1) := by decide +kernel
theorem dX10_digestOfTexts_121 : decode cX10_digestOfTexts 121 = .ok (.getfield 43, 3) := by decide +kernel
theorem dX10_digestOfTexts_124 : decode cX10_digestOfTexts 124 = .ok (.getfield 47, 3) := by decide +kernel
theorem dX10_digestOfTexts_127 : decode cX10_digestOfTexts 127 = .ok (.iconst 0, 1) := by decide +kernel
theorem dX10_digestOfTexts_128 : decode cX10_digestOfTexts 128 = .ok (.iload 5, 2) := by decide +kernel
theorem dX10_digestOfTexts_130 : decode cX10_digestOfTexts 130 = .ok (.invokevirtual 168, 3) := by decide +kernel
theorem dX10_digestOfTexts_133 : decode cX10_digestOfTexts 133 = .ok (.i2l, 1) := by decide +kernel
theorem dX10_digestOfTexts_134 : decode cX10_digestOfTexts 134 = .ok (.invokestatic 304, 3) := by decide +kernel
theorem dX10_digestOfTexts_137 : decode cX10_digestOfTexts 137 = .ok (.lstore_n 3, 1) := by decide +kernel
theorem dX10_digestOfTexts_138 : decode cX10_digestOfTexts 138 = .ok (.lload_n 3, 1) := by decide +kernel
theorem dX10_digestOfTexts_139 : decode cX10_digestOfTexts 139 = .ok (.aload_n 0, 1) := by decide +kernel
theorem dX10_digestOfTexts_140 : decode cX10_digestOfTexts 140 = .ok (.getfield 43, 3) := by decide +kernel
theorem dX10_digestOfTexts_143 : decode cX10_digestOfTexts 143 = .ok (.getfield 47, 3) := by decide +kernel
theorem dX10_digestOfTexts_146 : decode cX10_digestOfTexts 146 = .ok (.iload 5, 2) := by decide +kernel
theorem dX10_digestOfTexts_148 : decode cX10_digestOfTexts 148 = .ok (.iconst 3, 1) := by decide +kernel
theorem dX10_digestOfTexts_149 : decode cX10_digestOfTexts 149 = .ok (.invokevirtual 168, 3) := by decide +kernel
theorem dX10_digestOfTexts_152 : decode cX10_digestOfTexts 152 = .ok (.i2l, 1) := by decide +kernel
theorem dX10_digestOfTexts_153 : decode cX10_digestOfTexts 153 = .ok (.invokestatic 304, 3) := by decide +kernel
theorem dX10_digestOfTexts_156 : decode cX10_digestOfTexts 156 = .ok (.lstore_n 3, 1) := by decide +kernel
theorem dX10_digestOfTexts_157 : decode cX10_digestOfTexts 157 = .ok (.iinc 5 1, 3) := by decide +kernel
theorem dX10_digestOfTexts_160 : decode cX10_digestOfTexts 160 = .ok (.goto (-48), 3) := by decide +kernel
theorem dX10_digestOfTexts_163 : decode cX10_digestOfTexts 163 = .ok (.lload_n 3, 1) := by decide +kernel
theorem dX10_digestOfTexts_164 : decode cX10_digestOfTexts 164 = .ok (.lreturn, 1) := by decide +kernel
theorem dX10_digestOfHours_0 : decode cX10_digestOfHours 0 = .ok (.lload_n 1, 1) := by decide +kernel
theorem dX10_digestOfHours_1 : decode cX10_digestOfHours 1 = .ok (.lstore 4, 2) := by decide +kernel
theorem dX10_digestOfHours_3 : decode cX10_digestOfHours 3 = .ok (.iconst 0, 1) := by decide +kernel
theorem dX10_digestOfHours_4 : decode cX10_digestOfHours 4 = .ok (.istore 6, 2) := by decide +kernel
theorem dX10_digestOfHours_6 : decode cX10_digestOfHours 6 = .ok (.iload 6, 2) := by decide +kernel
theorem dX10_digestOfHours_8 : decode cX10_digestOfHours 8 = .ok (.iconst 5, 1) := by decide +kernel
theorem dX10_digestOfHours_9 : decode cX10_digestOfHours 9 = .ok (.if_icmp .ge 27, 3) := by decide +kernel
theorem dX10_digestOfHours_12 : decode cX10_digestOfHours 12 = .ok (.lload 4, 2) := by decide +kernel
theorem dX10_digestOfHours_14 : decode cX10_digestOfHours 14 = .ok (.aload_n 0, 1) := by decide +kernel
theorem dX10_digestOfHours_15 : decode cX10_digestOfHours 15 = .ok (.getfield 43, 3) := by decide +kernel
theorem dX10_digestOfHours_18 : decode cX10_digestOfHours 18 = .ok (.iload_n 3, 1) := by decide +kernel
theorem dX10_digestOfHours_19 : decode cX10_digestOfHours 19 = .ok (.iload 6, 2) := by decide +kernel
theorem dX10_digestOfHours_21 : decode cX10_digestOfHours 21 = .ok (.invokevirtual 139, 3) := by decide +kernel
theorem dX10_digestOfHours_24 : decode cX10_digestOfHours 24 = .ok (.i2l, 1) := by decide +kernel
theorem dX10_digestOfHours_25 : decode cX10_digestOfHours 25 = .ok (.invokestatic 304, 3) := by decide +kernel
theorem dX10_digestOfHours_28 : decode cX10_digestOfHours 28 = .ok (.lstore 4, 2) := by decide +kernel
theorem dX10_digestOfHours_30 : decode cX10_digestOfHours 30 = .ok (.iinc 6 1, 3) := by decide +kernel
theorem dX10_digestOfHours_33 : decode cX10_digestOfHours 33 = .ok (.goto (-27), 3) := by decide +kernel
theorem dX10_digestOfHours_36 : decode cX10_digestOfHours 36 = .ok (.aload_n 0, 1) := by decide +kernel
theorem dX10_digestOfHours_37 : decode cX10_digestOfHours 37 = .ok (.lload 4, 2) := by decide +kernel
theorem dX10_digestOfHours_39 : decode cX10_digestOfHours 39 = .ok (.iconst 0, 1) := by decide +kernel
theorem dX10_digestOfHours_40 : decode cX10_digestOfHours 40 = .ok (.iload_n 3, 1) := by decide +kernel
theorem dX10_digestOfHours_41 : decode cX10_digestOfHours 41 = .ok (.invokevirtual 308, 3) := by decide +kernel
theorem dX10_digestOfHours_44 : decode cX10_digestOfHours 44 = .ok (.lstore 4, 2) := by decide +kernel
theorem dX10_digestOfHours_46 : decode cX10_digestOfHours 46 = .ok (.aload_n 0, 1) := by decide +kernel
theorem dX10_digestOfHours_47 : decode cX10_digestOfHours 47 = .ok (.lload 4, 2) := by decide +kernel
theorem dX10_digestOfHours_49 : decode cX10_digestOfHours 49 = .ok (.iconst 5, 1) := by decide +kernel
theorem dX10_digestOfHours_50 : decode cX10_digestOfHours 50 = .ok (.iload_n 3, 1) := by decide +kernel
theorem dX10_digestOfHours_51 : decode cX10_digestOfHours 51 = .ok (.invokevirtual 308, 3) := by decide +kernel
theorem dX10_digestOfHours_54 : decode cX10_digestOfHours 54 = .ok (.lstore 4, 2) := by decide +kernel
theorem dX10_digestOfHours_56 : decode cX10_digestOfHours 56 = .ok (.aload_n 0, 1) := by decide +kernel
theorem dX10_digestOfHours_57 : decode cX10_digestOfHours 57 = .ok (.lload 4, 2) := by decide +kernel
theorem dX10_digestOfHours_59 : decode cX10_digestOfHours 59 = .ok (.bipush 15, 2) := by decide +kernel
theorem dX10_digestOfHours_61 : decode cX10_digestOfHours 61 = .ok (.iload_n 3, 1) := by decide +kernel
theorem dX10_digestOfHours_62 : decode cX10_digestOfHours 62 = .ok (.invokevirtual 308, 3) := by decide +kernel
theorem dX10_digestOfHours_65 : decode cX10_digestOfHours 65 = .ok (.lstore 4, 2) := by decide +kernel
theorem dX10_digestOfHours_67 : decode cX10_digestOfHours 67 = .ok (.aload_n 0, 1) := by decide +kernel
theorem dX10_digestOfHours_68 : decode cX10_digestOfHours 68 = .ok (.lload 4, 2) := by decide +kernel
theorem dX10_digestOfHours_70 : decode cX10_digestOfHours 70 = .ok (.bipush 39, 2) := by decide +kernel
theorem dX10_digestOfHours_72 : decode cX10_digestOfHours 72 = .ok (.iload_n 3, 1) := by decide +kernel
theorem dX10_digestOfHours_73 : decode cX10_digestOfHours 73 = .ok (.invokevirtual 308, 3) := by decide +kernel
theorem dX10_digestOfHours_76 : decode cX10_digestOfHours 76 = .ok (.lstore 4, 2) := by decide +kernel
theorem dX10_digestOfHours_78 : decode cX10_digestOfHours 78 = .ok (.lload 4, 2) := by decide +kernel
theorem dX10_digestOfHours_80 : decode cX10_digestOfHours 80 = .ok (.aload_n 0, 1) := by decide +kernel
theorem dX10_digestOfHours_81 : decode cX10_digestOfHours 81 = .ok (.getfield 58, 3) := by decide +kernel
theorem dX10_digestOfHours_84 : decode cX10_digestOfHours 84 = .ok (.getfield 165, 3) := by decide +kernel
theorem dX10_digestOfHours_87 : decode cX10_digestOfHours 87 = .ok (.iload_n 3, 1) := by decide +kernel
theorem dX10_digestOfHours_88 : decode cX10_digestOfHours 88 = .ok (.iaload, 1) := by decide +kernel
theorem dX10_digestOfHours_89 : decode cX10_digestOfHours 89 = .ok (.i2l, 1) := by decide +kernel
theorem dX10_digestOfHours_90 : decode cX10_digestOfHours 90 = .ok (.invokestatic 304, 3) := by decide +kernel
theorem dX10_digestOfHours_93 : decode cX10_digestOfHours 93 = .ok (.lreturn, 1) := by decide +kernel
theorem dX10_digestOfHour_0 : decode cX10_digestOfHour 0 = .ok (.lload_n 1, 1) := by decide +kernel
theorem dX10_digestOfHour_1 : decode cX10_digestOfHour 1 = .ok (.lstore 5, 2) := by decide +kernel
theorem dX10_digestOfHour_3 : decode cX10_digestOfHour 3 = .ok (.iconst 0, 1) := by decide +kernel
theorem dX10_digestOfHour_4 : decode cX10_digestOfHour 4 = .ok (.istore 7, 2) := by decide +kernel
theorem dX10_digestOfHour_6 : decode cX10_digestOfHour 6 = .ok (.iload 7, 2) := by decide +kernel
theorem dX10_digestOfHour_8 : decode cX10_digestOfHour 8 = .ok (.iconst 4, 1) := by decide +kernel
theorem dX10_digestOfHour_9 : decode cX10_digestOfHour 9 = .ok (.if_icmp .ge 26, 3) := by decide +kernel
theorem dX10_digestOfHour_12 : decode cX10_digestOfHour 12 = .ok (.lload 5, 2) := by decide +kernel
theorem dX10_digestOfHour_14 : decode cX10_digestOfHour 14 = .ok (.aload_n 0, 1) := by decide +kernel
theorem dX10_digestOfHour_15 : decode cX10_digestOfHour 15 = .ok (.iload_n 3, 1) := by decide +kernel
theorem dX10_digestOfHour_16 : decode cX10_digestOfHour 16 = .ok (.iload 4, 2) := by decide +kernel
theorem dX10_digestOfHour_18 : decode cX10_digestOfHour 18 = .ok (.iload 7, 2) := by decide +kernel
theorem dX10_digestOfHour_20 : decode cX10_digestOfHour 20 = .ok (.invokevirtual 161, 3) := by decide +kernel
theorem dX10_digestOfHour_23 : decode cX10_digestOfHour 23 = .ok (.i2l, 1) := by decide +kernel
theorem dX10_digestOfHour_24 : decode cX10_digestOfHour 24 = .ok (.invokestatic 304, 3) := by decide +kernel
theorem dX10_digestOfHour_27 : decode cX10_digestOfHour 27 = .ok (.lstore 5, 2) := by decide +kernel
theorem dX10_digestOfHour_29 : decode cX10_digestOfHour 29 = .ok (.iinc 7 1, 3) := by decide +kernel
theorem dX10_digestOfHour_32 : decode cX10_digestOfHour 32 = .ok (.goto (-26), 3) := by decide +kernel
theorem dX10_digestOfHour_35 : decode cX10_digestOfHour 35 = .ok (.lload 5, 2) := by decide +kernel
theorem dX10_digestOfHour_37 : decode cX10_digestOfHour 37 = .ok (.lreturn, 1) := by decide +kernel
theorem dX10_digestOfTrials_0 : decode cX10_digestOfTrials 0 = .ok (.lload_n 1, 1) := by decide +kernel
theorem dX10_digestOfTrials_1 : decode cX10_digestOfTrials 1 = .ok (.aload_n 0, 1) := by decide +kernel
theorem dX10_digestOfTrials_2 : decode cX10_digestOfTrials 2 = .ok (.getfield 71, 3) := by decide +kernel
theorem dX10_digestOfTrials_5 : decode cX10_digestOfTrials 5 = .ok (.iload_n 3, 1) := by decide +kernel
theorem dX10_digestOfTrials_6 : decode cX10_digestOfTrials 6 = .ok (.invokevirtual 184, 3) := by decide +kernel
theorem dX10_digestOfTrials_9 : decode cX10_digestOfTrials 9 = .ok (.i2l, 1) := by decide +kernel
theorem dX10_digestOfTrials_10 : decode cX10_digestOfTrials 10 = .ok (.invokestatic 304, 3) := by decide +kernel
theorem dX10_digestOfTrials_13 : decode cX10_digestOfTrials 13 = .ok (.lstore 4, 2) := by decide +kernel
theorem dX10_digestOfTrials_15 : decode cX10_digestOfTrials 15 = .ok (.aload_n 0, 1) := by decide +kernel
theorem dX10_digestOfTrials_16 : decode cX10_digestOfTrials 16 = .ok (.getfield 71, 3) := by decide +kernel
theorem dX10_digestOfTrials_19 : decode cX10_digestOfTrials 19 = .ok (.iload_n 3, 1) := by decide +kernel
theorem dX10_digestOfTrials_20 : decode cX10_digestOfTrials 20 = .ok (.invokevirtual 199, 3) := by decide +kernel
theorem dX10_digestOfTrials_23 : decode cX10_digestOfTrials 23 = .ok (.lload 4, 2) := by decide +kernel
theorem dX10_digestOfTrials_25 : decode cX10_digestOfTrials 25 = .ok (.aload_n 0, 1) := by decide +kernel
theorem dX10_digestOfTrials_26 : decode cX10_digestOfTrials 26 = .ok (.getfield 71, 3) := by decide +kernel
theorem dX10_digestOfTrials_29 : decode cX10_digestOfTrials 29 = .ok (.getfield 193, 3) := by decide +kernel
theorem dX10_digestOfTrials_32 : decode cX10_digestOfTrials 32 = .ok (.i2l, 1) := by decide +kernel
theorem dX10_digestOfTrials_33 : decode cX10_digestOfTrials 33 = .ok (.invokestatic 304, 3) := by decide +kernel
theorem dX10_digestOfTrials_36 : decode cX10_digestOfTrials 36 = .ok (.lstore 4, 2) := by decide +kernel
theorem dX10_digestOfTrials_38 : decode cX10_digestOfTrials 38 = .ok (.lload 4, 2) := by decide +kernel
theorem dX10_digestOfTrials_40 : decode cX10_digestOfTrials 40 = .ok (.aload_n 0, 1) := by decide +kernel
theorem dX10_digestOfTrials_41 : decode cX10_digestOfTrials 41 = .ok (.getfield 71, 3) := by decide +kernel
theorem dX10_digestOfTrials_44 : decode cX10_digestOfTrials 44 = .ok (.getfield 190, 3) := by decide +kernel
theorem dX10_digestOfTrials_47 : decode cX10_digestOfTrials 47 = .ok (.i2l, 1) := by decide +kernel
theorem dX10_digestOfTrials_48 : decode cX10_digestOfTrials 48 = .ok (.invokestatic 304, 3) := by decide +kernel
theorem dX10_digestOfTrials_51 : decode cX10_digestOfTrials 51 = .ok (.lstore 4, 2) := by decide +kernel
theorem dX10_digestOfTrials_53 : decode cX10_digestOfTrials 53 = .ok (.lload 4, 2) := by decide +kernel
theorem dX10_digestOfTrials_55 : decode cX10_digestOfTrials 55 = .ok (.aload_n 0, 1) := by decide +kernel
theorem dX10_digestOfTrials_56 : decode cX10_digestOfTrials 56 = .ok (.getfield 78, 3) := by decide +kernel
theorem dX10_digestOfTrials_59 : decode cX10_digestOfTrials 59 = .ok (.iload_n 3, 1) := by decide +kernel
theorem dX10_digestOfTrials_60 : decode cX10_digestOfTrials 60 = .ok (.invokevirtual 213, 3) := by decide +kernel
theorem dX10_digestOfTrials_63 : decode cX10_digestOfTrials 63 = .ok (.i2l, 1) := by decide +kernel
theorem dX10_digestOfTrials_64 : decode cX10_digestOfTrials 64 = .ok (.invokestatic 304, 3) := by decide +kernel
theorem dX10_digestOfTrials_67 : decode cX10_digestOfTrials 67 = .ok (.lstore 4, 2) := by decide +kernel
theorem dX10_digestOfTrials_69 : decode cX10_digestOfTrials 69 = .ok (.aload_n 0, 1) := by decide +kernel
theorem dX10_digestOfTrials_70 : decode cX10_digestOfTrials 70 = .ok (.getfield 78, 3) := by decide +kernel
theorem dX10_digestOfTrials_73 : decode cX10_digestOfTrials 73 = .ok (.invokevirtual 228, 3) := by decide +kernel
theorem dX10_digestOfTrials_76 : decode cX10_digestOfTrials 76 = .ok (.istore 6, 2) := by decide +kernel
theorem dX10_digestOfTrials_78 : decode cX10_digestOfTrials 78 = .ok (.aload_n 0, 1) := by decide +kernel
theorem dX10_digestOfTrials_79 : decode cX10_digestOfTrials 79 = .ok (.getfield 78, 3) := by decide +kernel
theorem dX10_digestOfTrials_82 : decode cX10_digestOfTrials 82 = .ok (.iload_n 3, 1) := by decide +kernel
theorem dX10_digestOfTrials_83 : decode cX10_digestOfTrials 83 = .ok (.invokevirtual 216, 3) := by decide +kernel
theorem dX10_digestOfTrials_86 : decode cX10_digestOfTrials 86 = .ok (.lload 4, 2) := by decide +kernel
theorem dX10_digestOfTrials_88 : decode cX10_digestOfTrials 88 = .ok (.aload_n 0, 1) := by decide +kernel
theorem dX10_digestOfTrials_89 : decode cX10_digestOfTrials 89 = .ok (.getfield 78, 3) := by decide +kernel
theorem dX10_digestOfTrials_92 : decode cX10_digestOfTrials 92 = .ok (.getfield 219, 3) := by decide +kernel
theorem dX10_digestOfTrials_95 : decode cX10_digestOfTrials 95 = .ok (.i2l, 1) := by decide +kernel
theorem dX10_digestOfTrials_96 : decode cX10_digestOfTrials 96 = .ok (.invokestatic 304, 3) := by decide +kernel
theorem dX10_digestOfTrials_99 : decode cX10_digestOfTrials 99 = .ok (.lstore 4, 2) := by decide +kernel
theorem dX10_digestOfTrials_101 : decode cX10_digestOfTrials 101 = .ok (.lload 4, 2) := by decide +kernel
theorem dX10_digestOfTrials_103 : decode cX10_digestOfTrials 103 = .ok (.aload_n 0, 1) := by decide +kernel
theorem dX10_digestOfTrials_104 : decode cX10_digestOfTrials 104 = .ok (.getfield 78, 3) := by decide +kernel
theorem dX10_digestOfTrials_107 : decode cX10_digestOfTrials 107 = .ok (.getfield 222, 3) := by decide +kernel
theorem dX10_digestOfTrials_110 : decode cX10_digestOfTrials 110 = .ok (.i2l, 1) := by decide +kernel
theorem dX10_digestOfTrials_111 : decode cX10_digestOfTrials 111 = .ok (.invokestatic 304, 3) := by decide +kernel
theorem dX10_digestOfTrials_114 : decode cX10_digestOfTrials 114 = .ok (.lstore 4, 2) := by decide +kernel
theorem dX10_digestOfTrials_116 : decode cX10_digestOfTrials 116 = .ok (.lload 4, 2) := by decide +kernel
theorem dX10_digestOfTrials_118 : decode cX10_digestOfTrials 118 = .ok (.aload_n 0, 1) := by decide +kernel
theorem dX10_digestOfTrials_119 : decode cX10_digestOfTrials 119 = .ok (.getfield 78, 3) := by decide +kernel
theorem dX10_digestOfTrials_122 : decode cX10_digestOfTrials 122 = .ok (.getfield 225, 3) := by decide +kernel
theorem dX10_digestOfTrials_125 : decode cX10_digestOfTrials 125 = .ok (.i2l, 1) := by decide +kernel
theorem dX10_digestOfTrials_126 : decode cX10_digestOfTrials 126 = .ok (.invokestatic 304, 3) := by decide +kernel
theorem dX10_digestOfTrials_129 : decode cX10_digestOfTrials 129 = .ok (.lstore 4, 2) := by decide +kernel
theorem dX10_digestOfTrials_131 : decode cX10_digestOfTrials 131 = .ok (.lload 4, 2) := by decide +kernel
theorem dX10_digestOfTrials_133 : decode cX10_digestOfTrials 133 = .ok (.iload 6, 2) := by decide +kernel
theorem dX10_digestOfTrials_135 : decode cX10_digestOfTrials 135 = .ok (.i2l, 1) := by decide +kernel
theorem dX10_digestOfTrials_136 : decode cX10_digestOfTrials 136 = .ok (.invokestatic 304, 3) := by decide +kernel
theorem dX10_digestOfTrials_139 : decode cX10_digestOfTrials 139 = .ok (.lstore 4, 2) := by decide +kernel
theorem dX10_digestOfTrials_141 : decode cX10_digestOfTrials 141 = .ok (.aload_n 0, 1) := by decide +kernel
theorem dX10_digestOfTrials_142 : decode cX10_digestOfTrials 142 = .ok (.getfield 85, 3) := by decide +kernel
theorem dX10_digestOfTrials_145 : decode cX10_digestOfTrials 145 = .ok (.iload_n 3, 1) := by decide +kernel
theorem dX10_digestOfTrials_146 : decode cX10_digestOfTrials 146 = .ok (.invokevirtual 236, 3) := by decide +kernel
theorem dX10_digestOfTrials_149 : decode cX10_digestOfTrials 149 = .ok (.lload 4, 2) := by decide +kernel
theorem dX10_digestOfTrials_151 : decode cX10_digestOfTrials 151 = .ok (.aload_n 0, 1) := by decide +kernel
theorem dX10_digestOfTrials_152 : decode cX10_digestOfTrials 152 = .ok (.getfield 85, 3) := by decide +kernel
theorem dX10_digestOfTrials_155 : decode cX10_digestOfTrials 155 = .ok (.getfield 239, 3) := by decide +kernel
theorem dX10_digestOfTrials_158 : decode cX10_digestOfTrials 158 = .ok (.invokestatic 304, 3) := by decide +kernel
theorem dX10_digestOfTrials_161 : decode cX10_digestOfTrials 161 = .ok (.lstore 4, 2) := by decide +kernel
theorem dX10_digestOfTrials_163 : decode cX10_digestOfTrials 163 = .ok (.lload 4, 2) := by decide +kernel
theorem dX10_digestOfTrials_165 : decode cX10_digestOfTrials 165 = .ok (.aload_n 0, 1) := by decide +kernel
theorem dX10_digestOfTrials_166 : decode cX10_digestOfTrials 166 = .ok (.getfield 85, 3) := by decide +kernel
theorem dX10_digestOfTrials_169 : decode cX10_digestOfTrials 169 = .ok (.getfield 243, 3) := by decide +kernel
theorem dX10_digestOfTrials_172 : decode cX10_digestOfTrials 172 = .ok (.invokestatic 304, 3) := by decide +kernel
theorem dX10_digestOfTrials_175 : decode cX10_digestOfTrials 175 = .ok (.lreturn, 1) := by decide +kernel
theorem dX10_digestOfAll_0 : decode cX10_digestOfAll 0 = .ok (.lload_n 1, 1) := by decide +kernel
theorem dX10_digestOfAll_1 : decode cX10_digestOfAll 1 = .ok (.lstore_n 3, 1) := by decide +kernel
theorem dX10_digestOfAll_2 : decode cX10_digestOfAll 2 = .ok (.iconst 2, 1) := by decide +kernel
theorem dX10_digestOfAll_3 : decode cX10_digestOfAll 3 = .ok (.istore 5, 2) := by decide +kernel
theorem dX10_digestOfAll_5 : decode cX10_digestOfAll 5 = .ok (.iload 5, 2) := by decide +kernel
theorem dX10_digestOfAll_7 : decode cX10_digestOfAll 7 = .ok (.iconst 5, 1) := by decide +kernel
theorem dX10_digestOfAll_8 : decode cX10_digestOfAll 8 = .ok (.if_icmp .gt 24, 3) := by decide +kernel
theorem dX10_digestOfAll_11 : decode cX10_digestOfAll 11 = .ok (.lload_n 3, 1) := by decide +kernel
theorem dX10_digestOfAll_12 : decode cX10_digestOfAll 12 = .ok (.aload_n 0, 1) := by decide +kernel
theorem dX10_digestOfAll_13 : decode cX10_digestOfAll 13 = .ok (.getfield 58, 3) := by decide +kernel
theorem dX10_digestOfAll_16 : decode cX10_digestOfAll 16 = .ok (.iload 5, 2) := by decide +kernel
theorem dX10_digestOfAll_18 : decode cX10_digestOfAll 18 = .ok (.invokevirtual 171, 3) := by decide +kernel
theorem dX10_digestOfAll_21 : decode cX10_digestOfAll 21 = .ok (.i2l, 1) := by decide +kernel
theorem dX10_digestOfAll_22 : decode cX10_digestOfAll 22 = .ok (.invokestatic 304, 3) := by decide +kernel
theorem dX10_digestOfAll_25 : decode cX10_digestOfAll 25 = .ok (.lstore_n 3, 1) := by decide +kernel
theorem dX10_digestOfAll_26 : decode cX10_digestOfAll 26 = .ok (.iinc 5 1, 3) := by decide +kernel
theorem dX10_digestOfAll_29 : decode cX10_digestOfAll 29 = .ok (.goto (-24), 3) := by decide +kernel
theorem dX10_digestOfAll_32 : decode cX10_digestOfAll 32 = .ok (.lload_n 3, 1) := by decide +kernel
theorem dX10_digestOfAll_33 : decode cX10_digestOfAll 33 = .ok (.aload_n 0, 1) := by decide +kernel
theorem dX10_digestOfAll_34 : decode cX10_digestOfAll 34 = .ok (.getfield 58, 3) := by decide +kernel
theorem dX10_digestOfAll_37 : decode cX10_digestOfAll 37 = .ok (.getfield 174, 3) := by decide +kernel
theorem dX10_digestOfAll_40 : decode cX10_digestOfAll 40 = .ok (.i2l, 1) := by decide +kernel
theorem dX10_digestOfAll_41 : decode cX10_digestOfAll 41 = .ok (.invokestatic 304, 3) := by decide +kernel
theorem dX10_digestOfAll_44 : decode cX10_digestOfAll 44 = .ok (.lstore_n 3, 1) := by decide +kernel
theorem dX10_digestOfAll_45 : decode cX10_digestOfAll 45 = .ok (.lload_n 3, 1) := by decide +kernel
theorem dX10_digestOfAll_46 : decode cX10_digestOfAll 46 = .ok (.aload_n 0, 1) := by decide +kernel
theorem dX10_digestOfAll_47 : decode cX10_digestOfAll 47 = .ok (.getfield 58, 3) := by decide +kernel
theorem dX10_digestOfAll_50 : decode cX10_digestOfAll 50 = .ok (.getfield 177, 3) := by decide +kernel
theorem dX10_digestOfAll_53 : decode cX10_digestOfAll 53 = .ok (.i2l, 1) := by decide +kernel
theorem dX10_digestOfAll_54 : decode cX10_digestOfAll 54 = .ok (.invokestatic 304, 3) := by decide +kernel
theorem dX10_digestOfAll_57 : decode cX10_digestOfAll 57 = .ok (.lstore_n 3, 1) := by decide +kernel
theorem dX10_digestOfAll_58 : decode cX10_digestOfAll 58 = .ok (.lload_n 3, 1) := by decide +kernel
theorem dX10_digestOfAll_59 : decode cX10_digestOfAll 59 = .ok (.aload_n 0, 1) := by decide +kernel
theorem dX10_digestOfAll_60 : decode cX10_digestOfAll 60 = .ok (.getfield 58, 3) := by decide +kernel
theorem dX10_digestOfAll_63 : decode cX10_digestOfAll 63 = .ok (.invokevirtual 180, 3) := by decide +kernel
theorem dX10_digestOfAll_66 : decode cX10_digestOfAll 66 = .ok (.i2l, 1) := by decide +kernel
theorem dX10_digestOfAll_67 : decode cX10_digestOfAll 67 = .ok (.invokestatic 304, 3) := by decide +kernel
theorem dX10_digestOfAll_70 : decode cX10_digestOfAll 70 = .ok (.lstore_n 3, 1) := by decide +kernel
theorem dX10_digestOfAll_71 : decode cX10_digestOfAll 71 = .ok (.aload_n 0, 1) := by decide +kernel
theorem dX10_digestOfAll_72 : decode cX10_digestOfAll 72 = .ok (.getfield 71, 3) := by decide +kernel
theorem dX10_digestOfAll_75 : decode cX10_digestOfAll 75 = .ok (.invokevirtual 187, 3) := by decide +kernel
theorem dX10_digestOfAll_78 : decode cX10_digestOfAll 78 = .ok (.lload_n 3, 1) := by decide +kernel
theorem dX10_digestOfAll_79 : decode cX10_digestOfAll 79 = .ok (.aload_n 0, 1) := by decide +kernel
theorem dX10_digestOfAll_80 : decode cX10_digestOfAll 80 = .ok (.getfield 71, 3) := by decide +kernel
theorem dX10_digestOfAll_83 : decode cX10_digestOfAll 83 = .ok (.getfield 193, 3) := by decide +kernel
theorem dX10_digestOfAll_86 : decode cX10_digestOfAll 86 = .ok (.i2l, 1) := by decide +kernel
theorem dX10_digestOfAll_87 : decode cX10_digestOfAll 87 = .ok (.invokestatic 304, 3) := by decide +kernel
theorem dX10_digestOfAll_90 : decode cX10_digestOfAll 90 = .ok (.lstore_n 3, 1) := by decide +kernel
theorem dX10_digestOfAll_91 : decode cX10_digestOfAll 91 = .ok (.lload_n 3, 1) := by decide +kernel
theorem dX10_digestOfAll_92 : decode cX10_digestOfAll 92 = .ok (.aload_n 0, 1) := by decide +kernel
theorem dX10_digestOfAll_93 : decode cX10_digestOfAll 93 = .ok (.getfield 71, 3) := by decide +kernel
theorem dX10_digestOfAll_96 : decode cX10_digestOfAll 96 = .ok (.getfield 196, 3) := by decide +kernel
theorem dX10_digestOfAll_99 : decode cX10_digestOfAll 99 = .ok (.i2l, 1) := by decide +kernel
theorem dX10_digestOfAll_100 : decode cX10_digestOfAll 100 = .ok (.invokestatic 304, 3) := by decide +kernel
theorem dX10_digestOfAll_103 : decode cX10_digestOfAll 103 = .ok (.lstore_n 3, 1) := by decide +kernel
theorem dX10_digestOfAll_104 : decode cX10_digestOfAll 104 = .ok (.lload_n 3, 1) := by decide +kernel
theorem dX10_digestOfAll_105 : decode cX10_digestOfAll 105 = .ok (.aload_n 0, 1) := by decide +kernel
theorem dX10_digestOfAll_106 : decode cX10_digestOfAll 106 = .ok (.getfield 71, 3) := by decide +kernel
theorem dX10_digestOfAll_109 : decode cX10_digestOfAll 109 = .ok (.getfield 190, 3) := by decide +kernel
theorem dX10_digestOfAll_112 : decode cX10_digestOfAll 112 = .ok (.i2l, 1) := by decide +kernel
theorem dX10_digestOfAll_113 : decode cX10_digestOfAll 113 = .ok (.invokestatic 304, 3) := by decide +kernel
theorem dX10_digestOfAll_116 : decode cX10_digestOfAll 116 = .ok (.lstore_n 3, 1) := by decide +kernel
theorem dX10_digestOfAll_117 : decode cX10_digestOfAll 117 = .ok (.aload_n 0, 1) := by decide +kernel
theorem dX10_digestOfAll_118 : decode cX10_digestOfAll 118 = .ok (.getfield 71, 3) := by decide +kernel
theorem dX10_digestOfAll_121 : decode cX10_digestOfAll 121 = .ok (.aload_n 0, 1) := by decide +kernel
theorem dX10_digestOfAll_122 : decode cX10_digestOfAll 122 = .ok (.getfield 18, 3) := by decide +kernel
theorem dX10_digestOfAll_125 : decode cX10_digestOfAll 125 = .ok (.invokevirtual 202, 3) := by decide +kernel
theorem dX10_digestOfAll_128 : decode cX10_digestOfAll 128 = .ok (.lload_n 3, 1) := by decide +kernel
theorem dX10_digestOfAll_129 : decode cX10_digestOfAll 129 = .ok (.aload_n 0, 1) := by decide +kernel
theorem dX10_digestOfAll_130 : decode cX10_digestOfAll 130 = .ok (.getfield 71, 3) := by decide +kernel
theorem dX10_digestOfAll_133 : decode cX10_digestOfAll 133 = .ok (.getfield 193, 3) := by decide +kernel
theorem dX10_digestOfAll_136 : decode cX10_digestOfAll 136 = .ok (.i2l, 1) := by decide +kernel
theorem dX10_digestOfAll_137 : decode cX10_digestOfAll 137 = .ok (.invokestatic 304, 3) := by decide +kernel
theorem dX10_digestOfAll_140 : decode cX10_digestOfAll 140 = .ok (.lstore_n 3, 1) := by decide +kernel
theorem dX10_digestOfAll_141 : decode cX10_digestOfAll 141 = .ok (.lload_n 3, 1) := by decide +kernel
theorem dX10_digestOfAll_142 : decode cX10_digestOfAll 142 = .ok (.aload_n 0, 1) := by decide +kernel
theorem dX10_digestOfAll_143 : decode cX10_digestOfAll 143 = .ok (.getfield 71, 3) := by decide +kernel
theorem dX10_digestOfAll_146 : decode cX10_digestOfAll 146 = .ok (.getfield 190, 3) := by decide +kernel
theorem dX10_digestOfAll_149 : decode cX10_digestOfAll 149 = .ok (.i2l, 1) := by decide +kernel
theorem dX10_digestOfAll_150 : decode cX10_digestOfAll 150 = .ok (.invokestatic 304, 3) := by decide +kernel
theorem dX10_digestOfAll_153 : decode cX10_digestOfAll 153 = .ok (.lstore_n 3, 1) := by decide +kernel
theorem dX10_digestOfAll_154 : decode cX10_digestOfAll 154 = .ok (.lload_n 3, 1) := by decide +kernel
theorem dX10_digestOfAll_155 : decode cX10_digestOfAll 155 = .ok (.aload_n 0, 1) := by decide +kernel
theorem dX10_digestOfAll_156 : decode cX10_digestOfAll 156 = .ok (.getfield 78, 3) := by decide +kernel
theorem dX10_digestOfAll_159 : decode cX10_digestOfAll 159 = .ok (.invokevirtual 210, 3) := by decide +kernel
theorem dX10_digestOfAll_162 : decode cX10_digestOfAll 162 = .ok (.i2l, 1) := by decide +kernel
theorem dX10_digestOfAll_163 : decode cX10_digestOfAll 163 = .ok (.invokestatic 304, 3) := by decide +kernel
theorem dX10_digestOfAll_166 : decode cX10_digestOfAll 166 = .ok (.lstore_n 3, 1) := by decide +kernel
theorem dX10_digestOfAll_167 : decode cX10_digestOfAll 167 = .ok (.lload_n 3, 1) := by decide +kernel
theorem dX10_digestOfAll_168 : decode cX10_digestOfAll 168 = .ok (.aload_n 0, 1) := by decide +kernel
theorem dX10_digestOfAll_169 : decode cX10_digestOfAll 169 = .ok (.getfield 85, 3) := by decide +kernel
theorem dX10_digestOfAll_172 : decode cX10_digestOfAll 172 = .ok (.bipush 7, 2) := by decide +kernel
theorem dX10_digestOfAll_174 : decode cX10_digestOfAll 174 = .ok (.iconst 2, 1) := by decide +kernel
theorem dX10_digestOfAll_175 : decode cX10_digestOfAll 175 = .ok (.invokevirtual 246, 3) := by decide +kernel
theorem dX10_digestOfAll_178 : decode cX10_digestOfAll 178 = .ok (.i2l, 1) := by decide +kernel
theorem dX10_digestOfAll_179 : decode cX10_digestOfAll 179 = .ok (.invokestatic 304, 3) := by decide +kernel
theorem dX10_digestOfAll_182 : decode cX10_digestOfAll 182 = .ok (.lstore_n 3, 1) := by decide +kernel
theorem dX10_digestOfAll_183 : decode cX10_digestOfAll 183 = .ok (.lload_n 3, 1) := by decide +kernel
theorem dX10_digestOfAll_184 : decode cX10_digestOfAll 184 = .ok (.aload_n 0, 1) := by decide +kernel
theorem dX10_digestOfAll_185 : decode cX10_digestOfAll 185 = .ok (.getfield 85, 3) := by decide +kernel
theorem dX10_digestOfAll_188 : decode cX10_digestOfAll 188 = .ok (.bipush 7, 2) := by decide +kernel
theorem dX10_digestOfAll_190 : decode cX10_digestOfAll 190 = .ok (.iconst 4, 1) := by decide +kernel
theorem dX10_digestOfAll_191 : decode cX10_digestOfAll 191 = .ok (.invokevirtual 246, 3) := by decide +kernel
theorem dX10_digestOfAll_194 : decode cX10_digestOfAll 194 = .ok (.i2l, 1) := by decide +kernel
theorem dX10_digestOfAll_195 : decode cX10_digestOfAll 195 = .ok (.invokestatic 304, 3) := by decide +kernel
theorem dX10_digestOfAll_198 : decode cX10_digestOfAll 198 = .ok (.lreturn, 1) := by decide +kernel
theorem dX10_mix_0 : decode cX10_mix 0 = .ok (.ldc2_w 312, 3) := by decide +kernel
theorem dX10_mix_3 : decode cX10_mix 3 = .ok (.lload_n 0, 1) := by decide +kernel
theorem dX10_mix_4 : decode cX10_mix 4 = .ok (.lmul, 1) := by decide +kernel
theorem dX10_mix_5 : decode cX10_mix 5 = .ok (.lload_n 2, 1) := by decide +kernel
theorem dX10_mix_6 : decode cX10_mix 6 = .ok (.ladd, 1) := by decide +kernel
theorem dX10_mix_7 : decode cX10_mix 7 = .ok (.lreturn, 1) := by decide +kernel
theorem dX10_within_0 : decode cX10_within 0 = .ok (.iload_n 0, 1) := by decide +kernel
theorem dX10_within_1 : decode cX10_within 1 = .ok (.ifCond .lt 12, 3) := by decide +kernel
theorem dX10_within_4 : decode cX10_within 4 = .ok (.iload_n 0, 1) := by decide +kernel
theorem dX10_within_5 : decode cX10_within 5 = .ok (.iload_n 1, 1) := by decide +kernel
theorem dX10_within_6 : decode cX10_within 6 = .ok (.if_icmp .ge 7, 3) := by decide +kernel
theorem dX10_within_9 : decode cX10_within 9 = .ok (.iconst 1, 1) := by decide +kernel
theorem dX10_within_10 : decode cX10_within 10 = .ok (.goto 4, 3) := by decide +kernel
theorem dX10_within_13 : decode cX10_within 13 = .ok (.iconst 0, 1) := by decide +kernel
theorem dX10_within_14 : decode cX10_within 14 = .ok (.ireturn, 1) := by decide +kernel
theorem dX10_isCarter_0 : decode cX10_isCarter 0 = .ok (.iload_n 1, 1) := by decide +kernel
theorem dX10_isCarter_1 : decode cX10_isCarter 1 = .ok (.aload_n 0, 1) := by decide +kernel
theorem dX10_isCarter_2 : decode cX10_isCarter 2 = .ok (.getfield 25, 3) := by decide +kernel
theorem dX10_isCarter_5 : decode cX10_isCarter 5 = .ok (.getfield 128, 3) := by decide +kernel
theorem dX10_isCarter_8 : decode cX10_isCarter 8 = .ok (.invokestatic 100, 3) := by decide +kernel
theorem dX10_isCarter_11 : decode cX10_isCarter 11 = .ok (.ireturn, 1) := by decide +kernel
theorem dX10_textOf_0 : decode cX10_textOf 0 = .ok (.iload_n 1, 1) := by decide +kernel
theorem dX10_textOf_1 : decode cX10_textOf 1 = .ok (.ifCond .ne 10, 3) := by decide +kernel
theorem dX10_textOf_4 : decode cX10_textOf 4 = .ok (.aload_n 0, 1) := by decide +kernel
theorem dX10_textOf_5 : decode cX10_textOf 5 = .ok (.getfield 18, 3) := by decide +kernel
theorem dX10_textOf_8 : decode cX10_textOf 8 = .ok (.goto 7, 3) := by decide +kernel
theorem dX10_textOf_11 : decode cX10_textOf 11 = .ok (.aload_n 0, 1) := by decide +kernel
theorem dX10_textOf_12 : decode cX10_textOf 12 = .ok (.getfield 25, 3) := by decide +kernel
theorem dX10_textOf_15 : decode cX10_textOf 15 = .ok (.areturn, 1) := by decide +kernel
theorem dX10_textChanged_0 : decode cX10_textChanged 0 = .ok (.iload_n 1, 1) := by decide +kernel
theorem dX10_textChanged_1 : decode cX10_textChanged 1 = .ok (.ifCond .ne 21, 3) := by decide +kernel
theorem dX10_textChanged_4 : decode cX10_textChanged 4 = .ok (.aload_n 0, 1) := by decide +kernel
theorem dX10_textChanged_5 : decode cX10_textChanged 5 = .ok (.getfield 43, 3) := by decide +kernel
theorem dX10_textChanged_8 : decode cX10_textChanged 8 = .ok (.getfield 47, 3) := by decide +kernel
theorem dX10_textChanged_11 : decode cX10_textChanged 11 = .ok (.aload_n 0, 1) := by decide +kernel
theorem dX10_textChanged_12 : decode cX10_textChanged 12 = .ok (.getfield 18, 3) := by decide +kernel
theorem dX10_textChanged_15 : decode cX10_textChanged 15 = .ok (.iconst (-1), 1) := by decide +kernel
theorem dX10_textChanged_16 : decode cX10_textChanged 16 = .ok (.invokevirtual 51, 3) := by decide +kernel
theorem dX10_textChanged_19 : decode cX10_textChanged 19 = .ok (.goto 14, 3) := by decide +kernel
theorem dX10_textChanged_22 : decode cX10_textChanged 22 = .ok (.aload_n 0, 1) := by decide +kernel
theorem dX10_textChanged_23 : decode cX10_textChanged 23 = .ok (.getfield 43, 3) := by decide +kernel
theorem dX10_textChanged_26 : decode cX10_textChanged 26 = .ok (.aload_n 0, 1) := by decide +kernel
theorem dX10_textChanged_27 : decode cX10_textChanged 27 = .ok (.getfield 25, 3) := by decide +kernel
theorem dX10_textChanged_30 : decode cX10_textChanged 30 = .ok (.invokevirtual 314, 3) := by decide +kernel
theorem dX10_textChanged_33 : decode cX10_textChanged 33 = .ok (.aload_n 0, 1) := by decide +kernel
theorem dX10_textChanged_34 : decode cX10_textChanged 34 = .ok (.getfield 58, 3) := by decide +kernel
theorem dX10_textChanged_37 : decode cX10_textChanged 37 = .ok (.aload_n 0, 1) := by decide +kernel
theorem dX10_textChanged_38 : decode cX10_textChanged 38 = .ok (.getfield 43, 3) := by decide +kernel
theorem dX10_textChanged_41 : decode cX10_textChanged 41 = .ok (.invokevirtual 62, 3) := by decide +kernel
theorem dX10_textChanged_44 : decode cX10_textChanged 44 = .ok (.return_, 1) := by decide +kernel
theorem dX10_found_0 : decode cX10_found 0 = .ok (.aload_n 0, 1) := by decide +kernel
theorem dX10_found_1 : decode cX10_found 1 = .ok (.iload_n 1, 1) := by decide +kernel
theorem dX10_found_2 : decode cX10_found 2 = .ok (.putfield 96, 3) := by decide +kernel
theorem dX10_found_5 : decode cX10_found 5 = .ok (.bipush (-10), 2) := by decide +kernel
theorem dX10_found_7 : decode cX10_found 7 = .ok (.iload_n 1, 1) := by decide +kernel
theorem dX10_found_8 : decode cX10_found 8 = .ok (.isub, 1) := by decide +kernel
theorem dX10_found_9 : decode cX10_found 9 = .ok (.ireturn, 1) := by decide +kernel
theorem dX10_itemRefusal_0 : decode cX10_itemRefusal 0 = .ok (.iload_n 1, 1) := by decide +kernel
theorem dX10_itemRefusal_1 : decode cX10_itemRefusal 1 = .ok (.iconst 4, 1) := by decide +kernel
theorem dX10_itemRefusal_2 : decode cX10_itemRefusal 2 = .ok (.invokestatic 100, 3) := by decide +kernel
theorem dX10_itemRefusal_5 : decode cX10_itemRefusal 5 = .ok (.ifCond .eq 11, 3) := by decide +kernel
theorem dX10_itemRefusal_8 : decode cX10_itemRefusal 8 = .ok (.iload_n 2, 1) := by decide +kernel
theorem dX10_itemRefusal_9 : decode cX10_itemRefusal 9 = .ok (.iconst 3, 1) := by decide +kernel
theorem dX10_itemRefusal_10 : decode cX10_itemRefusal 10 = .ok (.invokestatic 100, 3) := by decide +kernel
theorem dX10_itemRefusal_13 : decode cX10_itemRefusal 13 = .ok (.ifCond .ne 6, 3) := by decide +kernel
theorem dX10_itemRefusal_16 : decode cX10_itemRefusal 16 = .ok (.bipush (-2), 2) := by decide +kernel
theorem dX10_itemRefusal_18 : decode cX10_itemRefusal 18 = .ok (.ireturn, 1) := by decide +kernel
theorem dX10_itemRefusal_19 : decode cX10_itemRefusal 19 = .ok (.aload_n 0, 1) := by decide +kernel
theorem dX10_itemRefusal_20 : decode cX10_itemRefusal 20 = .ok (.getfield 91, 3) := by decide +kernel
theorem dX10_itemRefusal_23 : decode cX10_itemRefusal 23 = .ok (.iload_n 1, 1) := by decide +kernel
theorem dX10_itemRefusal_24 : decode cX10_itemRefusal 24 = .ok (.aaload, 1) := by decide +kernel
theorem dX10_itemRefusal_25 : decode cX10_itemRefusal 25 = .ok (.getfield 150, 3) := by decide +kernel
theorem dX10_itemRefusal_28 : decode cX10_itemRefusal 28 = .ok (.ifCond .eq 9, 3) := by decide +kernel
theorem dX10_itemRefusal_31 : decode cX10_itemRefusal 31 = .ok (.aload_n 0, 1) := by decide +kernel
theorem dX10_itemRefusal_32 : decode cX10_itemRefusal 32 = .ok (.iconst 1, 1) := by decide +kernel
theorem dX10_itemRefusal_33 : decode cX10_itemRefusal 33 = .ok (.invokevirtual 154, 3) := by decide +kernel
theorem dX10_itemRefusal_36 : decode cX10_itemRefusal 36 = .ok (.ireturn, 1) := by decide +kernel
theorem dX10_itemRefusal_37 : decode cX10_itemRefusal 37 = .ok (.aload_n 0, 1) := by decide +kernel
theorem dX10_itemRefusal_38 : decode cX10_itemRefusal 38 = .ok (.getfield 91, 3) := by decide +kernel
theorem dX10_itemRefusal_41 : decode cX10_itemRefusal 41 = .ok (.iload_n 1, 1) := by decide +kernel
theorem dX10_itemRefusal_42 : decode cX10_itemRefusal 42 = .ok (.aaload, 1) := by decide +kernel
theorem dX10_itemRefusal_43 : decode cX10_itemRefusal 43 = .ok (.getfield 259, 3) := by decide +kernel
theorem dX10_itemRefusal_46 : decode cX10_itemRefusal 46 = .ok (.iload_n 2, 1) := by decide +kernel
theorem dX10_itemRefusal_47 : decode cX10_itemRefusal 47 = .ok (.if_icmp .eq 9, 3) := by decide +kernel
theorem dX10_itemRefusal_50 : decode cX10_itemRefusal 50 = .ok (.aload_n 0, 1) := by decide +kernel
theorem dX10_itemRefusal_51 : decode cX10_itemRefusal 51 = .ok (.iconst 3, 1) := by decide +kernel
theorem dX10_itemRefusal_52 : decode cX10_itemRefusal 52 = .ok (.invokevirtual 154, 3) := by decide +kernel
theorem dX10_itemRefusal_55 : decode cX10_itemRefusal 55 = .ok (.ireturn, 1) := by decide +kernel
theorem dX10_itemRefusal_56 : decode cX10_itemRefusal 56 = .ok (.iload_n 3, 1) := by decide +kernel
theorem dX10_itemRefusal_57 : decode cX10_itemRefusal 57 = .ok (.aload_n 0, 1) := by decide +kernel
theorem dX10_itemRefusal_58 : decode cX10_itemRefusal 58 = .ok (.getfield 91, 3) := by decide +kernel
theorem dX10_itemRefusal_61 : decode cX10_itemRefusal 61 = .ok (.iload_n 1, 1) := by decide +kernel
theorem dX10_itemRefusal_62 : decode cX10_itemRefusal 62 = .ok (.aaload, 1) := by decide +kernel
theorem dX10_itemRefusal_63 : decode cX10_itemRefusal 63 = .ok (.getfield 158, 3) := by decide +kernel
theorem dX10_itemRefusal_66 : decode cX10_itemRefusal 66 = .ok (.invokestatic 100, 3) := by decide +kernel
theorem dX10_itemRefusal_69 : decode cX10_itemRefusal 69 = .ok (.ifCond .eq 7, 3) := by decide +kernel
theorem dX10_itemRefusal_72 : decode cX10_itemRefusal 72 = .ok (.iconst 0, 1) := by decide +kernel
theorem dX10_itemRefusal_73 : decode cX10_itemRefusal 73 = .ok (.goto 8, 3) := by decide +kernel
theorem dX10_itemRefusal_76 : decode cX10_itemRefusal 76 = .ok (.aload_n 0, 1) := by decide +kernel
theorem dX10_itemRefusal_77 : decode cX10_itemRefusal 77 = .ok (.iconst 2, 1) := by decide +kernel
theorem dX10_itemRefusal_78 : decode cX10_itemRefusal 78 = .ok (.invokevirtual 154, 3) := by decide +kernel
theorem dX10_itemRefusal_81 : decode cX10_itemRefusal 81 = .ok (.ireturn, 1) := by decide +kernel
theorem dX10_behind_0 : decode cX10_behind 0 = .ok (.aload_n 0, 1) := by decide +kernel
theorem dX10_behind_1 : decode cX10_behind 1 = .ok (.getfield 58, 3) := by decide +kernel
theorem dX10_behind_4 : decode cX10_behind 4 = .ok (.getfield 317, 3) := by decide +kernel
theorem dX10_behind_7 : decode cX10_behind 7 = .ok (.iload_n 2, 1) := by decide +kernel
theorem dX10_behind_8 : decode cX10_behind 8 = .ok (.iload_n 1, 1) := by decide +kernel
theorem dX10_behind_9 : decode cX10_behind 9 = .ok (.invokevirtual 321, 3) := by decide +kernel
theorem dX10_behind_12 : decode cX10_behind 12 = .ok (.istore 4, 2) := by decide +kernel
theorem dX10_behind_14 : decode cX10_behind 14 = .ok (.iload 4, 2) := by decide +kernel
theorem dX10_behind_16 : decode cX10_behind 16 = .ok (.iconst (-1), 1) := by decide +kernel
theorem dX10_behind_17 : decode cX10_behind 17 = .ok (.if_icmp .ne 28, 3) := by decide +kernel
theorem dX10_behind_20 : decode cX10_behind 20 = .ok (.iload_n 3, 1) := by decide +kernel
theorem dX10_behind_21 : decode cX10_behind 21 = .ok (.ifCond .ne 5, 3) := by decide +kernel
theorem dX10_behind_24 : decode cX10_behind 24 = .ok (.iconst 0, 1) := by decide +kernel
theorem dX10_behind_25 : decode cX10_behind 25 = .ok (.ireturn, 1) := by decide +kernel
theorem dX10_behind_26 : decode cX10_behind 26 = .ok (.iload_n 3, 1) := by decide +kernel
theorem dX10_behind_27 : decode cX10_behind 27 = .ok (.iconst 2, 1) := by decide +kernel
theorem dX10_behind_28 : decode cX10_behind 28 = .ok (.if_icmp .ne 15, 3) := by decide +kernel
theorem dX10_behind_31 : decode cX10_behind 31 = .ok (.aload_n 0, 1) := by decide +kernel
theorem dX10_behind_32 : decode cX10_behind 32 = .ok (.getfield 43, 3) := by decide +kernel
theorem dX10_behind_35 : decode cX10_behind 35 = .ok (.getfield 326, 3) := by decide +kernel
theorem dX10_behind_38 : decode cX10_behind 38 = .ok (.iload_n 2, 1) := by decide +kernel
theorem dX10_behind_39 : decode cX10_behind 39 = .ok (.iaload, 1) := by decide +kernel
theorem dX10_behind_40 : decode cX10_behind 40 = .ok (.goto 4, 3) := by decide +kernel
theorem dX10_behind_43 : decode cX10_behind 43 = .ok (.iconst (-1), 1) := by decide +kernel
theorem dX10_behind_44 : decode cX10_behind 44 = .ok (.ireturn, 1) := by decide +kernel
theorem dX10_behind_45 : decode cX10_behind 45 = .ok (.aload_n 0, 1) := by decide +kernel
theorem dX10_behind_46 : decode cX10_behind 46 = .ok (.getfield 58, 3) := by decide +kernel
theorem dX10_behind_49 : decode cX10_behind 49 = .ok (.getfield 317, 3) := by decide +kernel
theorem dX10_behind_52 : decode cX10_behind 52 = .ok (.getfield 329, 3) := by decide +kernel
theorem dX10_behind_55 : decode cX10_behind 55 = .ok (.iload 4, 2) := by decide +kernel
theorem dX10_behind_57 : decode cX10_behind 57 = .ok (.iaload, 1) := by decide +kernel
theorem dX10_behind_58 : decode cX10_behind 58 = .ok (.istore 5, 2) := by decide +kernel
theorem dX10_behind_60 : decode cX10_behind 60 = .ok (.iload_n 3, 1) := by decide +kernel
theorem dX10_behind_61 : decode cX10_behind 61 = .ok (.tableswitch 85 0 2 #[27, 47, 71], 27) := by decide +kernel
theorem dX10_behind_88 : decode cX10_behind 88 = .ok (.iload 5, 2) := by decide +kernel
theorem dX10_behind_90 : decode cX10_behind 90 = .ok (.iconst (-1), 1) := by decide +kernel
theorem dX10_behind_91 : decode cX10_behind 91 = .ok (.if_icmp .ne 15, 3) := by decide +kernel
theorem dX10_behind_94 : decode cX10_behind 94 = .ok (.aload_n 0, 1) := by decide +kernel
theorem dX10_behind_95 : decode cX10_behind 95 = .ok (.getfield 58, 3) := by decide +kernel
theorem dX10_behind_98 : decode cX10_behind 98 = .ok (.getfield 332, 3) := by decide +kernel
theorem dX10_behind_101 : decode cX10_behind 101 = .ok (.iload_n 2, 1) := by decide +kernel
theorem dX10_behind_102 : decode cX10_behind 102 = .ok (.iaload, 1) := by decide +kernel
theorem dX10_behind_103 : decode cX10_behind 103 = .ok (.goto 4, 3) := by decide +kernel
theorem dX10_behind_106 : decode cX10_behind 106 = .ok (.iconst 1, 1) := by decide +kernel
theorem dX10_behind_107 : decode cX10_behind 107 = .ok (.ireturn, 1) := by decide +kernel
theorem dX10_behind_108 : decode cX10_behind 108 = .ok (.iload 5, 2) := by decide +kernel
theorem dX10_behind_110 : decode cX10_behind 110 = .ok (.iconst (-1), 1) := by decide +kernel
theorem dX10_behind_111 : decode cX10_behind 111 = .ok (.if_icmp .ne 19, 3) := by decide +kernel
theorem dX10_behind_114 : decode cX10_behind 114 = .ok (.aload_n 0, 1) := by decide +kernel
theorem dX10_behind_115 : decode cX10_behind 115 = .ok (.getfield 58, 3) := by decide +kernel
theorem dX10_behind_118 : decode cX10_behind 118 = .ok (.getfield 317, 3) := by decide +kernel
theorem dX10_behind_121 : decode cX10_behind 121 = .ok (.getfield 335, 3) := by decide +kernel
theorem dX10_behind_124 : decode cX10_behind 124 = .ok (.iload 4, 2) := by decide +kernel
theorem dX10_behind_126 : decode cX10_behind 126 = .ok (.iaload, 1) := by decide +kernel
theorem dX10_behind_127 : decode cX10_behind 127 = .ok (.goto 4, 3) := by decide +kernel
theorem dX10_behind_130 : decode cX10_behind 130 = .ok (.iconst (-1), 1) := by decide +kernel
theorem dX10_behind_131 : decode cX10_behind 131 = .ok (.ireturn, 1) := by decide +kernel
theorem dX10_behind_132 : decode cX10_behind 132 = .ok (.aload_n 0, 1) := by decide +kernel
theorem dX10_behind_133 : decode cX10_behind 133 = .ok (.getfield 58, 3) := by decide +kernel
theorem dX10_behind_136 : decode cX10_behind 136 = .ok (.getfield 317, 3) := by decide +kernel
theorem dX10_behind_139 : decode cX10_behind 139 = .ok (.getfield 338, 3) := by decide +kernel
theorem dX10_behind_142 : decode cX10_behind 142 = .ok (.iload 4, 2) := by decide +kernel
theorem dX10_behind_144 : decode cX10_behind 144 = .ok (.iaload, 1) := by decide +kernel
theorem dX10_behind_145 : decode cX10_behind 145 = .ok (.ireturn, 1) := by decide +kernel
theorem dX10_behind_146 : decode cX10_behind 146 = .ok (.iload 5, 2) := by decide +kernel
theorem dX10_behind_148 : decode cX10_behind 148 = .ok (.ireturn, 1) := by decide +kernel
theorem dX11_init_0 : decode cX11_init 0 = .ok (.aload_n 0, 1) := by decide +kernel
theorem dX11_init_1 : decode cX11_init 1 = .ok (.invokespecial 1, 3) := by decide +kernel
theorem dX11_init_4 : decode cX11_init 4 = .ok (.aload_n 0, 1) := by decide +kernel
theorem dX11_init_5 : decode cX11_init 5 = .ok (.iconst 4, 1) := by decide +kernel
theorem dX11_init_6 : decode cX11_init 6 = .ok (.newarray .int, 2) := by decide +kernel
theorem dX11_init_8 : decode cX11_init 8 = .ok (.putfield 7, 3) := by decide +kernel
theorem dX11_init_11 : decode cX11_init 11 = .ok (.aload_n 0, 1) := by decide +kernel
theorem dX11_init_12 : decode cX11_init 12 = .ok (.iconst 4, 1) := by decide +kernel
theorem dX11_init_13 : decode cX11_init 13 = .ok (.newarray .int, 2) := by decide +kernel
theorem dX11_init_15 : decode cX11_init 15 = .ok (.putfield 13, 3) := by decide +kernel
theorem dX11_init_18 : decode cX11_init 18 = .ok (.aload_n 0, 1) := by decide +kernel
theorem dX11_init_19 : decode cX11_init 19 = .ok (.sipush 240, 3) := by decide +kernel
theorem dX11_init_22 : decode cX11_init 22 = .ok (.newarray .int, 2) := by decide +kernel
theorem dX11_init_24 : decode cX11_init 24 = .ok (.putfield 16, 3) := by decide +kernel
theorem dX11_init_27 : decode cX11_init 27 = .ok (.aload_n 0, 1) := by decide +kernel
theorem dX11_init_28 : decode cX11_init 28 = .ok (.bipush 60, 2) := by decide +kernel
theorem dX11_init_30 : decode cX11_init 30 = .ok (.newarray .int, 2) := by decide +kernel
theorem dX11_init_32 : decode cX11_init 32 = .ok (.putfield 19, 3) := by decide +kernel
theorem dX11_init_35 : decode cX11_init 35 = .ok (.aload_n 0, 1) := by decide +kernel
theorem dX11_init_36 : decode cX11_init 36 = .ok (.bipush 112, 2) := by decide +kernel
theorem dX11_init_38 : decode cX11_init 38 = .ok (.newarray .int, 2) := by decide +kernel
theorem dX11_init_40 : decode cX11_init 40 = .ok (.putfield 22, 3) := by decide +kernel
theorem dX11_init_43 : decode cX11_init 43 = .ok (.aload_n 0, 1) := by decide +kernel
theorem dX11_init_44 : decode cX11_init 44 = .ok (.iconst 2, 1) := by decide +kernel
theorem dX11_init_45 : decode cX11_init 45 = .ok (.newarray .int, 2) := by decide +kernel
theorem dX11_init_47 : decode cX11_init 47 = .ok (.putfield 25, 3) := by decide +kernel
theorem dX11_init_50 : decode cX11_init 50 = .ok (.aload_n 0, 1) := by decide +kernel
theorem dX11_init_51 : decode cX11_init 51 = .ok (.bipush 40, 2) := by decide +kernel
theorem dX11_init_53 : decode cX11_init 53 = .ok (.newarray .int, 2) := by decide +kernel
theorem dX11_init_55 : decode cX11_init 55 = .ok (.putfield 28, 3) := by decide +kernel
theorem dX11_init_58 : decode cX11_init 58 = .ok (.aload_n 0, 1) := by decide +kernel
theorem dX11_init_59 : decode cX11_init 59 = .ok (.bipush 40, 2) := by decide +kernel
theorem dX11_init_61 : decode cX11_init 61 = .ok (.newarray .int, 2) := by decide +kernel
theorem dX11_init_63 : decode cX11_init 63 = .ok (.putfield 31, 3) := by decide +kernel
theorem dX11_init_66 : decode cX11_init 66 = .ok (.aload_n 0, 1) := by decide +kernel
theorem dX11_init_67 : decode cX11_init 67 = .ok (.bipush 8, 2) := by decide +kernel
theorem dX11_init_69 : decode cX11_init 69 = .ok (.newarray .int, 2) := by decide +kernel
theorem dX11_init_71 : decode cX11_init 71 = .ok (.putfield 34, 3) := by decide +kernel
theorem dX11_init_74 : decode cX11_init 74 = .ok (.aload_n 0, 1) := by decide +kernel
theorem dX11_init_75 : decode cX11_init 75 = .ok (.bipush 16, 2) := by decide +kernel
theorem dX11_init_77 : decode cX11_init 77 = .ok (.newarray .int, 2) := by decide +kernel
theorem dX11_init_79 : decode cX11_init 79 = .ok (.putfield 37, 3) := by decide +kernel
theorem dX11_init_82 : decode cX11_init 82 = .ok (.aload_n 0, 1) := by decide +kernel
theorem dX11_init_83 : decode cX11_init 83 = .ok (.bipush 64, 2) := by decide +kernel
theorem dX11_init_85 : decode cX11_init 85 = .ok (.newarray .int, 2) := by decide +kernel
theorem dX11_init_87 : decode cX11_init 87 = .ok (.putfield 40, 3) := by decide +kernel
theorem dX11_init_90 : decode cX11_init 90 = .ok (.aload_n 0, 1) := by decide +kernel
theorem dX11_init_91 : decode cX11_init 91 = .ok (.bipush 64, 2) := by decide +kernel
theorem dX11_init_93 : decode cX11_init 93 = .ok (.newarray .int, 2) := by decide +kernel
theorem dX11_init_95 : decode cX11_init 95 = .ok (.putfield 43, 3) := by decide +kernel
theorem dX11_init_98 : decode cX11_init 98 = .ok (.aload_n 0, 1) := by decide +kernel
theorem dX11_init_99 : decode cX11_init 99 = .ok (.bipush 8, 2) := by decide +kernel
theorem dX11_init_101 : decode cX11_init 101 = .ok (.newarray .int, 2) := by decide +kernel
theorem dX11_init_103 : decode cX11_init 103 = .ok (.putfield 46, 3) := by decide +kernel
theorem dX11_init_106 : decode cX11_init 106 = .ok (.aload_n 0, 1) := by decide +kernel
theorem dX11_init_107 : decode cX11_init 107 = .ok (.bipush 8, 2) := by decide +kernel
theorem dX11_init_109 : decode cX11_init 109 = .ok (.newarray .int, 2) := by decide +kernel
theorem dX11_init_111 : decode cX11_init 111 = .ok (.putfield 49, 3) := by decide +kernel
theorem dX11_init_114 : decode cX11_init 114 = .ok (.aload_n 0, 1) := by decide +kernel
theorem dX11_init_115 : decode cX11_init 115 = .ok (.bipush 8, 2) := by decide +kernel
theorem dX11_init_117 : decode cX11_init 117 = .ok (.newarray .int, 2) := by decide +kernel
theorem dX11_init_119 : decode cX11_init 119 = .ok (.putfield 52, 3) := by decide +kernel
theorem dX11_init_122 : decode cX11_init 122 = .ok (.aload_n 0, 1) := by decide +kernel
theorem dX11_init_123 : decode cX11_init 123 = .ok (.bipush 8, 2) := by decide +kernel
theorem dX11_init_125 : decode cX11_init 125 = .ok (.newarray .int, 2) := by decide +kernel
theorem dX11_init_127 : decode cX11_init 127 = .ok (.putfield 55, 3) := by decide +kernel
theorem dX11_init_130 : decode cX11_init 130 = .ok (.aload_n 0, 1) := by decide +kernel
theorem dX11_init_131 : decode cX11_init 131 = .ok (.bipush 8, 2) := by decide +kernel
theorem dX11_init_133 : decode cX11_init 133 = .ok (.newarray .int, 2) := by decide +kernel
theorem dX11_init_135 : decode cX11_init 135 = .ok (.putfield 58, 3) := by decide +kernel
theorem dX11_init_138 : decode cX11_init 138 = .ok (.aload_n 0, 1) := by decide +kernel
theorem dX11_init_139 : decode cX11_init 139 = .ok (.bipush 8, 2) := by decide +kernel
theorem dX11_init_141 : decode cX11_init 141 = .ok (.newarray .int, 2) := by decide +kernel
theorem dX11_init_143 : decode cX11_init 143 = .ok (.putfield 61, 3) := by decide +kernel
theorem dX11_init_146 : decode cX11_init 146 = .ok (.aload_n 0, 1) := by decide +kernel
theorem dX11_init_147 : decode cX11_init 147 = .ok (.sipush 1280, 3) := by decide +kernel
theorem dX11_init_150 : decode cX11_init 150 = .ok (.newarray .int, 2) := by decide +kernel
theorem dX11_init_152 : decode cX11_init 152 = .ok (.putfield 64, 3) := by decide +kernel
theorem dX11_init_155 : decode cX11_init 155 = .ok (.aload_n 0, 1) := by decide +kernel
theorem dX11_init_156 : decode cX11_init 156 = .ok (.bipush 8, 2) := by decide +kernel
theorem dX11_init_158 : decode cX11_init 158 = .ok (.newarray .int, 2) := by decide +kernel
theorem dX11_init_160 : decode cX11_init 160 = .ok (.putfield 67, 3) := by decide +kernel
theorem dX11_init_163 : decode cX11_init 163 = .ok (.aload_n 0, 1) := by decide +kernel
theorem dX11_init_164 : decode cX11_init 164 = .ok (.bipush 8, 2) := by decide +kernel
theorem dX11_init_166 : decode cX11_init 166 = .ok (.newarray .int, 2) := by decide +kernel
theorem dX11_init_168 : decode cX11_init 168 = .ok (.putfield 70, 3) := by decide +kernel
theorem dX11_init_171 : decode cX11_init 171 = .ok (.aload_n 0, 1) := by decide +kernel
theorem dX11_init_172 : decode cX11_init 172 = .ok (.bipush 24, 2) := by decide +kernel
theorem dX11_init_174 : decode cX11_init 174 = .ok (.newarray .int, 2) := by decide +kernel
theorem dX11_init_176 : decode cX11_init 176 = .ok (.putfield 73, 3) := by decide +kernel
theorem dX11_init_179 : decode cX11_init 179 = .ok (.aload_n 0, 1) := by decide +kernel
theorem dX11_init_180 : decode cX11_init 180 = .ok (.bipush 120, 2) := by decide +kernel
theorem dX11_init_182 : decode cX11_init 182 = .ok (.newarray .int, 2) := by decide +kernel
theorem dX11_init_184 : decode cX11_init 184 = .ok (.putfield 76, 3) := by decide +kernel
theorem dX11_init_187 : decode cX11_init 187 = .ok (.iconst 0, 1) := by decide +kernel
theorem dX11_init_188 : decode cX11_init 188 = .ok (.istore_n 1, 1) := by decide +kernel
theorem dX11_init_189 : decode cX11_init 189 = .ok (.iload_n 1, 1) := by decide +kernel
theorem dX11_init_190 : decode cX11_init 190 = .ok (.iconst 4, 1) := by decide +kernel
theorem dX11_init_191 : decode cX11_init 191 = .ok (.if_icmp .ge 16, 3) := by decide +kernel
theorem dX11_init_194 : decode cX11_init 194 = .ok (.aload_n 0, 1) := by decide +kernel
theorem dX11_init_195 : decode cX11_init 195 = .ok (.getfield 7, 3) := by decide +kernel
theorem dX11_init_198 : decode cX11_init 198 = .ok (.iload_n 1, 1) := by decide +kernel
theorem dX11_init_199 : decode cX11_init 199 = .ok (.iconst (-1), 1) := by decide +kernel
theorem dX11_init_200 : decode cX11_init 200 = .ok (.iastore, 1) := by decide +kernel
theorem dX11_init_201 : decode cX11_init 201 = .ok (.iinc 1 1, 3) := by decide +kernel
theorem dX11_init_204 : decode cX11_init 204 = .ok (.goto (-15), 3) := by decide +kernel
theorem dX11_init_207 : decode cX11_init 207 = .ok (.return_, 1) := by decide +kernel
theorem dX11_in_0 : decode cX11_in 0 = .ok (.lload_n 0, 1) := by decide +kernel
theorem dX11_in_1 : decode cX11_in 1 = .ok (.lload_n 2, 1) := by decide +kernel
theorem dX11_in_2 : decode cX11_in 2 = .ok (.lcmp, 1) := by decide +kernel
theorem dX11_in_3 : decode cX11_in 3 = .ok (.ifCond .lt 14, 3) := by decide +kernel
theorem dX11_in_6 : decode cX11_in 6 = .ok (.lload_n 0, 1) := by decide +kernel
theorem dX11_in_7 : decode cX11_in 7 = .ok (.lload 4, 2) := by decide +kernel
theorem dX11_in_9 : decode cX11_in 9 = .ok (.lcmp, 1) := by decide +kernel
theorem dX11_in_10 : decode cX11_in 10 = .ok (.ifCond .gt 7, 3) := by decide +kernel
theorem dX11_in_13 : decode cX11_in 13 = .ok (.iconst 1, 1) := by decide +kernel
theorem dX11_in_14 : decode cX11_in 14 = .ok (.goto 4, 3) := by decide +kernel
theorem dX11_in_17 : decode cX11_in 17 = .ok (.iconst 0, 1) := by decide +kernel
theorem dX11_in_18 : decode cX11_in 18 = .ok (.ireturn, 1) := by decide +kernel
theorem dX11_no_0 : decode cX11_no 0 = .ok (.ldc2_w 79, 3) := by decide +kernel
theorem dX11_no_3 : decode cX11_no 3 = .ok (.iload_n 0, 1) := by decide +kernel
theorem dX11_no_4 : decode cX11_no 4 = .ok (.i2l, 1) := by decide +kernel
theorem dX11_no_5 : decode cX11_no 5 = .ok (.lsub, 1) := by decide +kernel
theorem dX11_no_6 : decode cX11_no 6 = .ok (.lreturn, 1) := by decide +kernel
theorem dX11_isTwo_0 : decode cX11_isTwo 0 = .ok (.iload_n 0, 1) := by decide +kernel
theorem dX11_isTwo_1 : decode cX11_isTwo 1 = .ok (.i2l, 1) := by decide +kernel
theorem dX11_isTwo_2 : decode cX11_isTwo 2 = .ok (.lconst 0, 1) := by decide +kernel
theorem dX11_isTwo_3 : decode cX11_isTwo 3 = .ok (.lconst 1, 1) := by decide +kernel
theorem dX11_isTwo_4 : decode cX11_isTwo 4 = .ok (.invokestatic 81, 3) := by decide +kernel
theorem dX11_isTwo_7 : decode cX11_isTwo 7 = .ok (.ireturn, 1) := by decide +kernel
theorem dX11_isIn_0 : decode cX11_isIn 0 = .ok (.iload_n 0, 1) := by decide +kernel
theorem dX11_isIn_1 : decode cX11_isIn 1 = .ok (.iload_n 1, 1) := by decide +kernel
theorem dX11_isIn_2 : decode cX11_isIn 2 = .ok (.ishr, 1) := by decide +kernel
theorem dX11_isIn_3 : decode cX11_isIn 3 = .ok (.iconst 1, 1) := by decide +kernel
theorem dX11_isIn_4 : decode cX11_isIn 4 = .ok (.iand, 1) := by decide +kernel
theorem dX11_isIn_5 : decode cX11_isIn 5 = .ok (.iconst 1, 1) := by decide +kernel
theorem dX11_isIn_6 : decode cX11_isIn 6 = .ok (.if_icmp .ne 7, 3) := by decide +kernel
theorem dX11_isIn_9 : decode cX11_isIn 9 = .ok (.iconst 1, 1) := by decide +kernel
theorem dX11_isIn_10 : decode cX11_isIn 10 = .ok (.goto 4, 3) := by decide +kernel
theorem dX11_isIn_13 : decode cX11_isIn 13 = .ok (.iconst 0, 1) := by decide +kernel
theorem dX11_isIn_14 : decode cX11_isIn 14 = .ok (.ireturn, 1) := by decide +kernel
theorem dX11_ones_0 : decode cX11_ones 0 = .ok (.iconst 0, 1) := by decide +kernel
theorem dX11_ones_1 : decode cX11_ones 1 = .ok (.istore_n 1, 1) := by decide +kernel
theorem dX11_ones_2 : decode cX11_ones 2 = .ok (.iload_n 0, 1) := by decide +kernel
theorem dX11_ones_3 : decode cX11_ones 3 = .ok (.istore_n 2, 1) := by decide +kernel
theorem dX11_ones_4 : decode cX11_ones 4 = .ok (.iload_n 2, 1) := by decide +kernel
theorem dX11_ones_5 : decode cX11_ones 5 = .ok (.ifCond .eq 15, 3) := by decide +kernel
theorem dX11_ones_8 : decode cX11_ones 8 = .ok (.iinc 1 1, 3) := by decide +kernel
theorem dX11_ones_11 : decode cX11_ones 11 = .ok (.iload_n 2, 1) := by decide +kernel
theorem dX11_ones_12 : decode cX11_ones 12 = .ok (.iload_n 2, 1) := by decide +kernel
theorem dX11_ones_13 : decode cX11_ones 13 = .ok (.iconst 1, 1) := by decide +kernel
theorem dX11_ones_14 : decode cX11_ones 14 = .ok (.isub, 1) := by decide +kernel
theorem dX11_ones_15 : decode cX11_ones 15 = .ok (.iand, 1) := by decide +kernel
theorem dX11_ones_16 : decode cX11_ones 16 = .ok (.istore_n 2, 1) := by decide +kernel
theorem dX11_ones_17 : decode cX11_ones 17 = .ok (.goto (-13), 3) := by decide +kernel
theorem dX11_ones_20 : decode cX11_ones 20 = .ok (.iload_n 1, 1) := by decide +kernel
theorem dX11_ones_21 : decode cX11_ones 21 = .ok (.ireturn, 1) := by decide +kernel
theorem dX11_lesser_0 : decode cX11_lesser 0 = .ok (.iload_n 0, 1) := by decide +kernel
theorem dX11_lesser_1 : decode cX11_lesser 1 = .ok (.iload_n 1, 1) := by decide +kernel
theorem dX11_lesser_2 : decode cX11_lesser 2 = .ok (.if_icmp .ge 7, 3) := by decide +kernel
theorem dX11_lesser_5 : decode cX11_lesser 5 = .ok (.iload_n 0, 1) := by decide +kernel
theorem dX11_lesser_6 : decode cX11_lesser 6 = .ok (.goto 4, 3) := by decide +kernel
theorem dX11_lesser_9 : decode cX11_lesser 9 = .ok (.iload_n 1, 1) := by decide +kernel
theorem dX11_lesser_10 : decode cX11_lesser 10 = .ok (.ireturn, 1) := by decide +kernel
theorem dX11_greater_0 : decode cX11_greater 0 = .ok (.iload_n 0, 1) := by decide +kernel
theorem dX11_greater_1 : decode cX11_greater 1 = .ok (.iload_n 1, 1) := by decide +kernel
theorem dX11_greater_2 : decode cX11_greater 2 = .ok (.if_icmp .le 7, 3) := by decide +kernel
theorem dX11_greater_5 : decode cX11_greater 5 = .ok (.iload_n 0, 1) := by decide +kernel
theorem dX11_greater_6 : decode cX11_greater 6 = .ok (.goto 4, 3) := by decide +kernel
theorem dX11_greater_9 : decode cX11_greater 9 = .ok (.iload_n 1, 1) := by decide +kernel
theorem dX11_greater_10 : decode cX11_greater 10 = .ok (.ireturn, 1) := by decide +kernel
theorem dX11_part_0 : decode cX11_part 0 = .ok (.lload_n 0, 1) := by decide +kernel
theorem dX11_part_1 : decode cX11_part 1 = .ok (.lstore 5, 2) := by decide +kernel
theorem dX11_part_3 : decode cX11_part 3 = .ok (.lload_n 2, 1) := by decide +kernel
theorem dX11_part_4 : decode cX11_part 4 = .ok (.lstore 7, 2) := by decide +kernel
theorem dX11_part_6 : decode cX11_part 6 = .ok (.lload 7, 2) := by decide +kernel
theorem dX11_part_8 : decode cX11_part 8 = .ok (.lconst 0, 1) := by decide +kernel
theorem dX11_part_9 : decode cX11_part 9 = .ok (.lcmp, 1) := by decide +kernel
theorem dX11_part_10 : decode cX11_part 10 = .ok (.ifCond .eq 21, 3) := by decide +kernel
theorem dX11_part_13 : decode cX11_part 13 = .ok (.lload 5, 2) := by decide +kernel
theorem dX11_part_15 : decode cX11_part 15 = .ok (.lload 7, 2) := by decide +kernel
theorem dX11_part_17 : decode cX11_part 17 = .ok (.lrem, 1) := by decide +kernel
theorem dX11_part_18 : decode cX11_part 18 = .ok (.lstore 9, 2) := by decide +kernel
theorem dX11_part_20 : decode cX11_part 20 = .ok (.lload 7, 2) := by decide +kernel
theorem dX11_part_22 : decode cX11_part 22 = .ok (.lstore 5, 2) := by decide +kernel
theorem dX11_part_24 : decode cX11_part 24 = .ok (.lload 9, 2) := by decide +kernel
theorem dX11_part_26 : decode cX11_part 26 = .ok (.lstore 7, 2) := by decide +kernel
theorem dX11_part_28 : decode cX11_part 28 = .ok (.goto (-22), 3) := by decide +kernel
theorem dX11_part_31 : decode cX11_part 31 = .ok (.iload 4, 2) := by decide +kernel
theorem dX11_part_33 : decode cX11_part 33 = .ok (.ifCond .ne 7, 3) := by decide +kernel
theorem dX11_part_36 : decode cX11_part 36 = .ok (.lload_n 0, 1) := by decide +kernel
theorem dX11_part_37 : decode cX11_part 37 = .ok (.goto 4, 3) := by decide +kernel
theorem dX11_part_40 : decode cX11_part 40 = .ok (.lload_n 2, 1) := by decide +kernel
theorem dX11_part_41 : decode cX11_part 41 = .ok (.lload 5, 2) := by decide +kernel
theorem dX11_part_43 : decode cX11_part 43 = .ok (.ldiv, 1) := by decide +kernel
theorem dX11_part_44 : decode cX11_part 44 = .ok (.lreturn, 1) := by decide +kernel
theorem dX11_finds_0 : decode cX11_finds 0 = .ok (.aload_n 0, 1) := by decide +kernel
theorem dX11_finds_1 : decode cX11_finds 1 = .ok (.iload_n 1, 1) := by decide +kernel
theorem dX11_finds_2 : decode cX11_finds 2 = .ok (.putfield 85, 3) := by decide +kernel
theorem dX11_finds_5 : decode cX11_finds 5 = .ok (.bipush (-10), 2) := by decide +kernel
theorem dX11_finds_7 : decode cX11_finds 7 = .ok (.iload_n 1, 1) := by decide +kernel
theorem dX11_finds_8 : decode cX11_finds 8 = .ok (.isub, 1) := by decide +kernel
theorem dX11_finds_9 : decode cX11_finds 9 = .ok (.ireturn, 1) := by decide +kernel
theorem dX11_isSheet_0 : decode cX11_isSheet 0 = .ok (.iload_n 0, 1) := by decide +kernel
theorem dX11_isSheet_1 : decode cX11_isSheet 1 = .ok (.i2l, 1) := by decide +kernel
theorem dX11_isSheet_2 : decode cX11_isSheet 2 = .ok (.lconst 0, 1) := by decide +kernel
theorem dX11_isSheet_3 : decode cX11_isSheet 3 = .ok (.ldc2_w 89, 3) := by decide +kernel
theorem dX11_isSheet_6 : decode cX11_isSheet 6 = .ok (.invokestatic 81, 3) := by decide +kernel
theorem dX11_isSheet_9 : decode cX11_isSheet 9 = .ok (.ireturn, 1) := by decide +kernel
theorem dX11_sheet_0 : decode cX11_sheet 0 = .ok (.iload_n 1, 1) := by decide +kernel
theorem dX11_sheet_1 : decode cX11_sheet 1 = .ok (.invokestatic 91, 3) := by decide +kernel
theorem dX11_sheet_4 : decode cX11_sheet 4 = .ok (.ifCond .eq 21, 3) := by decide +kernel
theorem dX11_sheet_7 : decode cX11_sheet 7 = .ok (.iload_n 2, 1) := by decide +kernel
theorem dX11_sheet_8 : decode cX11_sheet 8 = .ok (.i2l, 1) := by decide +kernel
theorem dX11_sheet_9 : decode cX11_sheet 9 = .ok (.lconst 0, 1) := by decide +kernel
theorem dX11_sheet_10 : decode cX11_sheet 10 = .ok (.ldc2_w 95, 3) := by decide +kernel
theorem dX11_sheet_13 : decode cX11_sheet 13 = .ok (.invokestatic 81, 3) := by decide +kernel
theorem dX11_sheet_16 : decode cX11_sheet 16 = .ok (.ifCond .eq 9, 3) := by decide +kernel
theorem dX11_sheet_19 : decode cX11_sheet 19 = .ok (.iload_n 3, 1) := by decide +kernel
theorem dX11_sheet_20 : decode cX11_sheet 20 = .ok (.bipush 60, 2) := by decide +kernel
theorem dX11_sheet_22 : decode cX11_sheet 22 = .ok (.if_icmp .le 6, 3) := by decide +kernel
theorem dX11_sheet_25 : decode cX11_sheet 25 = .ok (.bipush (-2), 2) := by decide +kernel
theorem dX11_sheet_27 : decode cX11_sheet 27 = .ok (.ireturn, 1) := by decide +kernel
theorem dX11_sheet_28 : decode cX11_sheet 28 = .ok (.iload_n 3, 1) := by decide +kernel
theorem dX11_sheet_29 : decode cX11_sheet 29 = .ok (.ifCond .ge 9, 3) := by decide +kernel
theorem dX11_sheet_32 : decode cX11_sheet 32 = .ok (.aload_n 0, 1) := by decide +kernel
theorem dX11_sheet_33 : decode cX11_sheet 33 = .ok (.iconst 5, 1) := by decide +kernel
theorem dX11_sheet_34 : decode cX11_sheet 34 = .ok (.invokevirtual 97, 3) := by decide +kernel
theorem dX11_sheet_37 : decode cX11_sheet 37 = .ok (.ireturn, 1) := by decide +kernel
theorem dX11_sheet_38 : decode cX11_sheet 38 = .ok (.aload_n 0, 1) := by decide +kernel
theorem dX11_sheet_39 : decode cX11_sheet 39 = .ok (.getfield 7, 3) := by decide +kernel
theorem dX11_sheet_42 : decode cX11_sheet 42 = .ok (.iload_n 1, 1) := by decide +kernel
theorem dX11_sheet_43 : decode cX11_sheet 43 = .ok (.iload_n 2, 1) := by decide +kernel
theorem dX11_sheet_44 : decode cX11_sheet 44 = .ok (.iastore, 1) := by decide +kernel
theorem dX11_sheet_45 : decode cX11_sheet 45 = .ok (.aload_n 0, 1) := by decide +kernel
theorem dX11_sheet_46 : decode cX11_sheet 46 = .ok (.getfield 13, 3) := by decide +kernel
theorem dX11_sheet_49 : decode cX11_sheet 49 = .ok (.iload_n 1, 1) := by decide +kernel
theorem dX11_sheet_50 : decode cX11_sheet 50 = .ok (.iload_n 3, 1) := by decide +kernel
theorem dX11_sheet_51 : decode cX11_sheet 51 = .ok (.iastore, 1) := by decide +kernel
theorem dX11_sheet_52 : decode cX11_sheet 52 = .ok (.iconst 0, 1) := by decide +kernel
theorem dX11_sheet_53 : decode cX11_sheet 53 = .ok (.istore 4, 2) := by decide +kernel
theorem dX11_sheet_55 : decode cX11_sheet 55 = .ok (.iload 4, 2) := by decide +kernel
theorem dX11_sheet_57 : decode cX11_sheet 57 = .ok (.iload_n 3, 1) := by decide +kernel
theorem dX11_sheet_58 : decode cX11_sheet 58 = .ok (.if_icmp .ge 22, 3) := by decide +kernel
theorem dX11_sheet_61 : decode cX11_sheet 61 = .ok (.aload_n 0, 1) := by decide +kernel
theorem dX11_sheet_62 : decode cX11_sheet 62 = .ok (.getfield 16, 3) := by decide +kernel
theorem dX11_sheet_65 : decode cX11_sheet 65 = .ok (.bipush 60, 2) := by decide +kernel
theorem dX11_sheet_67 : decode cX11_sheet 67 = .ok (.iload_n 1, 1) := by decide +kernel
theorem dX11_sheet_68 : decode cX11_sheet 68 = .ok (.imul, 1) := by decide +kernel
theorem dX11_sheet_69 : decode cX11_sheet 69 = .ok (.iload 4, 2) := by decide +kernel
theorem dX11_sheet_71 : decode cX11_sheet 71 = .ok (.iadd, 1) := by decide +kernel
theorem dX11_sheet_72 : decode cX11_sheet 72 = .ok (.iconst 0, 1) := by decide +kernel
theorem dX11_sheet_73 : decode cX11_sheet 73 = .ok (.iastore, 1) := by decide +kernel
theorem dX11_sheet_74 : decode cX11_sheet 74 = .ok (.iinc 4 1, 3) := by decide +kernel
theorem dX11_sheet_77 : decode cX11_sheet 77 = .ok (.goto (-22), 3) := by decide +kernel
theorem dX11_sheet_80 : decode cX11_sheet 80 = .ok (.iload_n 3, 1) := by decide +kernel
theorem dX11_sheet_81 : decode cX11_sheet 81 = .ok (.ireturn, 1) := by decide +kernel
theorem dX11_lose_0 : decode cX11_lose 0 = .ok (.iload_n 1, 1) := by decide +kernel
theorem dX11_lose_1 : decode cX11_lose 1 = .ok (.invokestatic 91, 3) := by decide +kernel
theorem dX11_lose_4 : decode cX11_lose 4 = .ok (.ifCond .ne 6, 3) := by decide +kernel
theorem dX11_lose_7 : decode cX11_lose 7 = .ok (.bipush (-2), 2) := by decide +kernel
theorem dX11_lose_9 : decode cX11_lose 9 = .ok (.ireturn, 1) := by decide +kernel
theorem dX11_lose_10 : decode cX11_lose 10 = .ok (.aload_n 0, 1) := by decide +kernel
theorem dX11_lose_11 : decode cX11_lose 11 = .ok (.getfield 7, 3) := by decide +kernel
