theorem dX11_lose_14 : decode cX11_lose 14 = .ok (.iload_n 1, 1) := by decide +kernel
theorem dX11_lose_15 : decode cX11_lose 15 = .ok (.iaload, 1) := by decide +kernel
theorem dX11_lose_16 : decode cX11_lose 16 = .ok (.ifCond .ge 9, 3) := by decide +kernel
theorem dX11_lose_19 : decode cX11_lose 19 = .ok (.aload_n 0, 1) := by decide +kernel
theorem dX11_lose_20 : decode cX11_lose 20 = .ok (.iconst 1, 1) := by decide +kernel
theorem dX11_lose_21 : decode cX11_lose 21 = .ok (.invokevirtual 97, 3) := by decide +kernel
theorem dX11_lose_24 : decode cX11_lose 24 = .ok (.ireturn, 1) := by decide +kernel
theorem dX11_lose_25 : decode cX11_lose 25 = .ok (.aload_n 0, 1) := by decide +kernel
theorem dX11_lose_26 : decode cX11_lose 26 = .ok (.getfield 7, 3) := by decide +kernel
theorem dX11_lose_29 : decode cX11_lose 29 = .ok (.iload_n 1, 1) := by decide +kernel
theorem dX11_lose_30 : decode cX11_lose 30 = .ok (.iconst (-1), 1) := by decide +kernel
theorem dX11_lose_31 : decode cX11_lose 31 = .ok (.iastore, 1) := by decide +kernel
theorem dX11_lose_32 : decode cX11_lose 32 = .ok (.aload_n 0, 1) := by decide +kernel
theorem dX11_lose_33 : decode cX11_lose 33 = .ok (.getfield 13, 3) := by decide +kernel
theorem dX11_lose_36 : decode cX11_lose 36 = .ok (.iload_n 1, 1) := by decide +kernel
theorem dX11_lose_37 : decode cX11_lose 37 = .ok (.iaload, 1) := by decide +kernel
theorem dX11_lose_38 : decode cX11_lose 38 = .ok (.ireturn, 1) := by decide +kernel
theorem dX11_lacks_0 : decode cX11_lacks 0 = .ok (.aload_n 0, 1) := by decide +kernel
theorem dX11_lacks_1 : decode cX11_lacks 1 = .ok (.getfield 7, 3) := by decide +kernel
theorem dX11_lacks_4 : decode cX11_lacks 4 = .ok (.iload_n 1, 1) := by decide +kernel
theorem dX11_lacks_5 : decode cX11_lacks 5 = .ok (.iaload, 1) := by decide +kernel
theorem dX11_lacks_6 : decode cX11_lacks 6 = .ok (.ifCond .ge 9, 3) := by decide +kernel
theorem dX11_lacks_9 : decode cX11_lacks 9 = .ok (.aload_n 0, 1) := by decide +kernel
theorem dX11_lacks_10 : decode cX11_lacks 10 = .ok (.iconst 1, 1) := by decide +kernel
theorem dX11_lacks_11 : decode cX11_lacks 11 = .ok (.invokevirtual 97, 3) := by decide +kernel
theorem dX11_lacks_14 : decode cX11_lacks 14 = .ok (.ireturn, 1) := by decide +kernel
theorem dX11_lacks_15 : decode cX11_lacks 15 = .ok (.aload_n 0, 1) := by decide +kernel
theorem dX11_lacks_16 : decode cX11_lacks 16 = .ok (.getfield 7, 3) := by decide +kernel
theorem dX11_lacks_19 : decode cX11_lacks 19 = .ok (.iload_n 1, 1) := by decide +kernel
theorem dX11_lacks_20 : decode cX11_lacks 20 = .ok (.iaload, 1) := by decide +kernel
theorem dX11_lacks_21 : decode cX11_lacks 21 = .ok (.iload_n 2, 1) := by decide +kernel
theorem dX11_lacks_22 : decode cX11_lacks 22 = .ok (.if_icmp .eq 9, 3) := by decide +kernel
theorem dX11_lacks_25 : decode cX11_lacks 25 = .ok (.aload_n 0, 1) := by decide +kernel
theorem dX11_lacks_26 : decode cX11_lacks 26 = .ok (.iconst 3, 1) := by decide +kernel
theorem dX11_lacks_27 : decode cX11_lacks 27 = .ok (.invokevirtual 97, 3) := by decide +kernel
theorem dX11_lacks_30 : decode cX11_lacks 30 = .ok (.ireturn, 1) := by decide +kernel
theorem dX11_lacks_31 : decode cX11_lacks 31 = .ok (.iload_n 3, 1) := by decide +kernel
theorem dX11_lacks_32 : decode cX11_lacks 32 = .ok (.i2l, 1) := by decide +kernel
theorem dX11_lacks_33 : decode cX11_lacks 33 = .ok (.lconst 0, 1) := by decide +kernel
theorem dX11_lacks_34 : decode cX11_lacks 34 = .ok (.aload_n 0, 1) := by decide +kernel
theorem dX11_lacks_35 : decode cX11_lacks 35 = .ok (.getfield 13, 3) := by decide +kernel
theorem dX11_lacks_38 : decode cX11_lacks 38 = .ok (.iload_n 1, 1) := by decide +kernel
theorem dX11_lacks_39 : decode cX11_lacks 39 = .ok (.iaload, 1) := by decide +kernel
theorem dX11_lacks_40 : decode cX11_lacks 40 = .ok (.iconst 1, 1) := by decide +kernel
theorem dX11_lacks_41 : decode cX11_lacks 41 = .ok (.isub, 1) := by decide +kernel
theorem dX11_lacks_42 : decode cX11_lacks 42 = .ok (.i2l, 1) := by decide +kernel
theorem dX11_lacks_43 : decode cX11_lacks 43 = .ok (.invokestatic 81, 3) := by decide +kernel
theorem dX11_lacks_46 : decode cX11_lacks 46 = .ok (.ifCond .eq 7, 3) := by decide +kernel
theorem dX11_lacks_49 : decode cX11_lacks 49 = .ok (.iconst 0, 1) := by decide +kernel
theorem dX11_lacks_50 : decode cX11_lacks 50 = .ok (.goto 8, 3) := by decide +kernel
theorem dX11_lacks_53 : decode cX11_lacks 53 = .ok (.aload_n 0, 1) := by decide +kernel
theorem dX11_lacks_54 : decode cX11_lacks 54 = .ok (.iconst 2, 1) := by decide +kernel
theorem dX11_lacks_55 : decode cX11_lacks 55 = .ok (.invokevirtual 97, 3) := by decide +kernel
theorem dX11_lacks_58 : decode cX11_lacks 58 = .ok (.ireturn, 1) := by decide +kernel
theorem dX11_cut_0 : decode cX11_cut 0 = .ok (.iload_n 0, 1) := by decide +kernel
theorem dX11_cut_1 : decode cX11_cut 1 = .ok (.ifCond .ne 8, 3) := by decide +kernel
theorem dX11_cut_4 : decode cX11_cut 4 = .ok (.iload_n 1, 1) := by decide +kernel
theorem dX11_cut_5 : decode cX11_cut 5 = .ok (.i2b, 1) := by decide +kernel
theorem dX11_cut_6 : decode cX11_cut 6 = .ok (.goto 14, 3) := by decide +kernel
theorem dX11_cut_9 : decode cX11_cut 9 = .ok (.iload_n 0, 1) := by decide +kernel
theorem dX11_cut_10 : decode cX11_cut 10 = .ok (.iconst 1, 1) := by decide +kernel
theorem dX11_cut_11 : decode cX11_cut 11 = .ok (.if_icmp .ne 8, 3) := by decide +kernel
theorem dX11_cut_14 : decode cX11_cut 14 = .ok (.iload_n 1, 1) := by decide +kernel
theorem dX11_cut_15 : decode cX11_cut 15 = .ok (.i2s, 1) := by decide +kernel
theorem dX11_cut_16 : decode cX11_cut 16 = .ok (.goto 4, 3) := by decide +kernel
theorem dX11_cut_19 : decode cX11_cut 19 = .ok (.iload_n 1, 1) := by decide +kernel
theorem dX11_cut_20 : decode cX11_cut 20 = .ok (.ireturn, 1) := by decide +kernel
theorem dX11_lay_0 : decode cX11_lay 0 = .ok (.iload_n 1, 1) := by decide +kernel
theorem dX11_lay_1 : decode cX11_lay 1 = .ok (.invokestatic 91, 3) := by decide +kernel
theorem dX11_lay_4 : decode cX11_lay 4 = .ok (.ifCond .eq 15, 3) := by decide +kernel
theorem dX11_lay_7 : decode cX11_lay 7 = .ok (.iload_n 2, 1) := by decide +kernel
theorem dX11_lay_8 : decode cX11_lay 8 = .ok (.i2l, 1) := by decide +kernel
theorem dX11_lay_9 : decode cX11_lay 9 = .ok (.lconst 0, 1) := by decide +kernel
theorem dX11_lay_10 : decode cX11_lay 10 = .ok (.ldc2_w 95, 3) := by decide +kernel
theorem dX11_lay_13 : decode cX11_lay 13 = .ok (.invokestatic 81, 3) := by decide +kernel
theorem dX11_lay_16 : decode cX11_lay 16 = .ok (.ifCond .ne 6, 3) := by decide +kernel
theorem dX11_lay_19 : decode cX11_lay 19 = .ok (.bipush (-2), 2) := by decide +kernel
theorem dX11_lay_21 : decode cX11_lay 21 = .ok (.ireturn, 1) := by decide +kernel
theorem dX11_lay_22 : decode cX11_lay 22 = .ok (.aload_n 0, 1) := by decide +kernel
theorem dX11_lay_23 : decode cX11_lay 23 = .ok (.iload_n 1, 1) := by decide +kernel
theorem dX11_lay_24 : decode cX11_lay 24 = .ok (.iload_n 2, 1) := by decide +kernel
theorem dX11_lay_25 : decode cX11_lay 25 = .ok (.iload_n 3, 1) := by decide +kernel
theorem dX11_lay_26 : decode cX11_lay 26 = .ok (.invokevirtual 101, 3) := by decide +kernel
theorem dX11_lay_29 : decode cX11_lay 29 = .ok (.istore 5, 2) := by decide +kernel
theorem dX11_lay_31 : decode cX11_lay 31 = .ok (.iload 5, 2) := by decide +kernel
theorem dX11_lay_33 : decode cX11_lay 33 = .ok (.ifCond .eq 6, 3) := by decide +kernel
theorem dX11_lay_36 : decode cX11_lay 36 = .ok (.iload 5, 2) := by decide +kernel
theorem dX11_lay_38 : decode cX11_lay 38 = .ok (.ireturn, 1) := by decide +kernel
theorem dX11_lay_39 : decode cX11_lay 39 = .ok (.aload_n 0, 1) := by decide +kernel
theorem dX11_lay_40 : decode cX11_lay 40 = .ok (.getfield 16, 3) := by decide +kernel
theorem dX11_lay_43 : decode cX11_lay 43 = .ok (.bipush 60, 2) := by decide +kernel
theorem dX11_lay_45 : decode cX11_lay 45 = .ok (.iload_n 1, 1) := by decide +kernel
theorem dX11_lay_46 : decode cX11_lay 46 = .ok (.imul, 1) := by decide +kernel
theorem dX11_lay_47 : decode cX11_lay 47 = .ok (.iload_n 3, 1) := by decide +kernel
theorem dX11_lay_48 : decode cX11_lay 48 = .ok (.iadd, 1) := by decide +kernel
theorem dX11_lay_49 : decode cX11_lay 49 = .ok (.iload_n 2, 1) := by decide +kernel
theorem dX11_lay_50 : decode cX11_lay 50 = .ok (.iload 4, 2) := by decide +kernel
theorem dX11_lay_52 : decode cX11_lay 52 = .ok (.invokestatic 105, 3) := by decide +kernel
theorem dX11_lay_55 : decode cX11_lay 55 = .ok (.iastore, 1) := by decide +kernel
theorem dX11_lay_56 : decode cX11_lay 56 = .ok (.iconst 1, 1) := by decide +kernel
theorem dX11_lay_57 : decode cX11_lay 57 = .ok (.ireturn, 1) := by decide +kernel
theorem dX11_get_0 : decode cX11_get 0 = .ok (.iload_n 1, 1) := by decide +kernel
theorem dX11_get_1 : decode cX11_get 1 = .ok (.invokestatic 91, 3) := by decide +kernel
theorem dX11_get_4 : decode cX11_get 4 = .ok (.ifCond .eq 25, 3) := by decide +kernel
theorem dX11_get_7 : decode cX11_get 7 = .ok (.iload_n 2, 1) := by decide +kernel
theorem dX11_get_8 : decode cX11_get 8 = .ok (.i2l, 1) := by decide +kernel
theorem dX11_get_9 : decode cX11_get 9 = .ok (.lconst 0, 1) := by decide +kernel
theorem dX11_get_10 : decode cX11_get 10 = .ok (.ldc2_w 95, 3) := by decide +kernel
theorem dX11_get_13 : decode cX11_get 13 = .ok (.invokestatic 81, 3) := by decide +kernel
theorem dX11_get_16 : decode cX11_get 16 = .ok (.ifCond .eq 13, 3) := by decide +kernel
theorem dX11_get_19 : decode cX11_get 19 = .ok (.aload_n 0, 1) := by decide +kernel
theorem dX11_get_20 : decode cX11_get 20 = .ok (.iload_n 1, 1) := by decide +kernel
theorem dX11_get_21 : decode cX11_get 21 = .ok (.iload_n 2, 1) := by decide +kernel
theorem dX11_get_22 : decode cX11_get 22 = .ok (.iload_n 3, 1) := by decide +kernel
theorem dX11_get_23 : decode cX11_get 23 = .ok (.invokevirtual 101, 3) := by decide +kernel
theorem dX11_get_26 : decode cX11_get 26 = .ok (.ifCond .eq 6, 3) := by decide +kernel
theorem dX11_get_29 : decode cX11_get 29 = .ok (.ldc 109, 2) := by decide +kernel
theorem dX11_get_31 : decode cX11_get 31 = .ok (.ireturn, 1) := by decide +kernel
theorem dX11_get_32 : decode cX11_get 32 = .ok (.aload_n 0, 1) := by decide +kernel
theorem dX11_get_33 : decode cX11_get 33 = .ok (.getfield 16, 3) := by decide +kernel
theorem dX11_get_36 : decode cX11_get 36 = .ok (.bipush 60, 2) := by decide +kernel
theorem dX11_get_38 : decode cX11_get 38 = .ok (.iload_n 1, 1) := by decide +kernel
theorem dX11_get_39 : decode cX11_get 39 = .ok (.imul, 1) := by decide +kernel
theorem dX11_get_40 : decode cX11_get 40 = .ok (.iload_n 3, 1) := by decide +kernel
theorem dX11_get_41 : decode cX11_get 41 = .ok (.iadd, 1) := by decide +kernel
theorem dX11_get_42 : decode cX11_get 42 = .ok (.iaload, 1) := by decide +kernel
theorem dX11_get_43 : decode cX11_get 43 = .ok (.ireturn, 1) := by decide +kernel
theorem dX11_copy_0 : decode cX11_copy 0 = .ok (.iload_n 1, 1) := by decide +kernel
theorem dX11_copy_1 : decode cX11_copy 1 = .ok (.invokestatic 91, 3) := by decide +kernel
theorem dX11_copy_4 : decode cX11_copy 4 = .ok (.ifCond .eq 10, 3) := by decide +kernel
theorem dX11_copy_7 : decode cX11_copy 7 = .ok (.iload_n 3, 1) := by decide +kernel
theorem dX11_copy_8 : decode cX11_copy 8 = .ok (.invokestatic 91, 3) := by decide +kernel
theorem dX11_copy_11 : decode cX11_copy 11 = .ok (.ifCond .ne 6, 3) := by decide +kernel
theorem dX11_copy_14 : decode cX11_copy 14 = .ok (.bipush (-2), 2) := by decide +kernel
theorem dX11_copy_16 : decode cX11_copy 16 = .ok (.ireturn, 1) := by decide +kernel
theorem dX11_copy_17 : decode cX11_copy 17 = .ok (.aload_n 0, 1) := by decide +kernel
theorem dX11_copy_18 : decode cX11_copy 18 = .ok (.getfield 7, 3) := by decide +kernel
theorem dX11_copy_21 : decode cX11_copy 21 = .ok (.iload_n 1, 1) := by decide +kernel
theorem dX11_copy_22 : decode cX11_copy 22 = .ok (.iaload, 1) := by decide +kernel
theorem dX11_copy_23 : decode cX11_copy 23 = .ok (.ifCond .lt 12, 3) := by decide +kernel
theorem dX11_copy_26 : decode cX11_copy 26 = .ok (.aload_n 0, 1) := by decide +kernel
theorem dX11_copy_27 : decode cX11_copy 27 = .ok (.getfield 7, 3) := by decide +kernel
theorem dX11_copy_30 : decode cX11_copy 30 = .ok (.iload_n 3, 1) := by decide +kernel
theorem dX11_copy_31 : decode cX11_copy 31 = .ok (.iaload, 1) := by decide +kernel
theorem dX11_copy_32 : decode cX11_copy 32 = .ok (.ifCond .ge 9, 3) := by decide +kernel
theorem dX11_copy_35 : decode cX11_copy 35 = .ok (.aload_n 0, 1) := by decide +kernel
theorem dX11_copy_36 : decode cX11_copy 36 = .ok (.iconst 1, 1) := by decide +kernel
theorem dX11_copy_37 : decode cX11_copy 37 = .ok (.invokevirtual 97, 3) := by decide +kernel
theorem dX11_copy_40 : decode cX11_copy 40 = .ok (.ireturn, 1) := by decide +kernel
theorem dX11_copy_41 : decode cX11_copy 41 = .ok (.aload_n 0, 1) := by decide +kernel
theorem dX11_copy_42 : decode cX11_copy 42 = .ok (.getfield 7, 3) := by decide +kernel
theorem dX11_copy_45 : decode cX11_copy 45 = .ok (.iload_n 1, 1) := by decide +kernel
theorem dX11_copy_46 : decode cX11_copy 46 = .ok (.iaload, 1) := by decide +kernel
theorem dX11_copy_47 : decode cX11_copy 47 = .ok (.aload_n 0, 1) := by decide +kernel
theorem dX11_copy_48 : decode cX11_copy 48 = .ok (.getfield 7, 3) := by decide +kernel
theorem dX11_copy_51 : decode cX11_copy 51 = .ok (.iload_n 3, 1) := by decide +kernel
theorem dX11_copy_52 : decode cX11_copy 52 = .ok (.iaload, 1) := by decide +kernel
theorem dX11_copy_53 : decode cX11_copy 53 = .ok (.if_icmp .eq 9, 3) := by decide +kernel
theorem dX11_copy_56 : decode cX11_copy 56 = .ok (.aload_n 0, 1) := by decide +kernel
theorem dX11_copy_57 : decode cX11_copy 57 = .ok (.iconst 4, 1) := by decide +kernel
theorem dX11_copy_58 : decode cX11_copy 58 = .ok (.invokevirtual 97, 3) := by decide +kernel
theorem dX11_copy_61 : decode cX11_copy 61 = .ok (.ireturn, 1) := by decide +kernel
theorem dX11_copy_62 : decode cX11_copy 62 = .ok (.iload_n 2, 1) := by decide +kernel
theorem dX11_copy_63 : decode cX11_copy 63 = .ok (.ifCond .lt 48, 3) := by decide +kernel
theorem dX11_copy_66 : decode cX11_copy 66 = .ok (.iload 4, 2) := by decide +kernel
theorem dX11_copy_68 : decode cX11_copy 68 = .ok (.ifCond .lt 43, 3) := by decide +kernel
theorem dX11_copy_71 : decode cX11_copy 71 = .ok (.iload 5, 2) := by decide +kernel
theorem dX11_copy_73 : decode cX11_copy 73 = .ok (.ifCond .lt 38, 3) := by decide +kernel
theorem dX11_copy_76 : decode cX11_copy 76 = .ok (.iload_n 2, 1) := by decide +kernel
theorem dX11_copy_77 : decode cX11_copy 77 = .ok (.i2l, 1) := by decide +kernel
theorem dX11_copy_78 : decode cX11_copy 78 = .ok (.iload 5, 2) := by decide +kernel
theorem dX11_copy_80 : decode cX11_copy 80 = .ok (.i2l, 1) := by decide +kernel
theorem dX11_copy_81 : decode cX11_copy 81 = .ok (.ladd, 1) := by decide +kernel
theorem dX11_copy_82 : decode cX11_copy 82 = .ok (.aload_n 0, 1) := by decide +kernel
theorem dX11_copy_83 : decode cX11_copy 83 = .ok (.getfield 13, 3) := by decide +kernel
theorem dX11_copy_86 : decode cX11_copy 86 = .ok (.iload_n 1, 1) := by decide +kernel
theorem dX11_copy_87 : decode cX11_copy 87 = .ok (.iaload, 1) := by decide +kernel
theorem dX11_copy_88 : decode cX11_copy 88 = .ok (.i2l, 1) := by decide +kernel
theorem dX11_copy_89 : decode cX11_copy 89 = .ok (.lcmp, 1) := by decide +kernel
theorem dX11_copy_90 : decode cX11_copy 90 = .ok (.ifCond .gt 21, 3) := by decide +kernel
theorem dX11_copy_93 : decode cX11_copy 93 = .ok (.iload 4, 2) := by decide +kernel
theorem dX11_copy_95 : decode cX11_copy 95 = .ok (.i2l, 1) := by decide +kernel
theorem dX11_copy_96 : decode cX11_copy 96 = .ok (.iload 5, 2) := by decide +kernel
theorem dX11_copy_98 : decode cX11_copy 98 = .ok (.i2l, 1) := by decide +kernel
theorem dX11_copy_99 : decode cX11_copy 99 = .ok (.ladd, 1) := by decide +kernel
theorem dX11_copy_100 : decode cX11_copy 100 = .ok (.aload_n 0, 1) := by decide +kernel
theorem dX11_copy_101 : decode cX11_copy 101 = .ok (.getfield 13, 3) := by decide +kernel
theorem dX11_copy_104 : decode cX11_copy 104 = .ok (.iload_n 3, 1) := by decide +kernel
theorem dX11_copy_105 : decode cX11_copy 105 = .ok (.iaload, 1) := by decide +kernel
theorem dX11_copy_106 : decode cX11_copy 106 = .ok (.i2l, 1) := by decide +kernel
theorem dX11_copy_107 : decode cX11_copy 107 = .ok (.lcmp, 1) := by decide +kernel
theorem dX11_copy_108 : decode cX11_copy 108 = .ok (.ifCond .le 9, 3) := by decide +kernel
theorem dX11_copy_111 : decode cX11_copy 111 = .ok (.aload_n 0, 1) := by decide +kernel
theorem dX11_copy_112 : decode cX11_copy 112 = .ok (.iconst 2, 1) := by decide +kernel
theorem dX11_copy_113 : decode cX11_copy 113 = .ok (.invokevirtual 97, 3) := by decide +kernel
theorem dX11_copy_116 : decode cX11_copy 116 = .ok (.ireturn, 1) := by decide +kernel
theorem dX11_copy_117 : decode cX11_copy 117 = .ok (.iconst 0, 1) := by decide +kernel
theorem dX11_copy_118 : decode cX11_copy 118 = .ok (.istore 6, 2) := by decide +kernel
theorem dX11_copy_120 : decode cX11_copy 120 = .ok (.iload 6, 2) := by decide +kernel
theorem dX11_copy_122 : decode cX11_copy 122 = .ok (.iload 5, 2) := by decide +kernel
theorem dX11_copy_124 : decode cX11_copy 124 = .ok (.if_icmp .ge 30, 3) := by decide +kernel
theorem dX11_copy_127 : decode cX11_copy 127 = .ok (.aload_n 0, 1) := by decide +kernel
theorem dX11_copy_128 : decode cX11_copy 128 = .ok (.getfield 19, 3) := by decide +kernel
theorem dX11_copy_131 : decode cX11_copy 131 = .ok (.iload 6, 2) := by decide +kernel
theorem dX11_copy_133 : decode cX11_copy 133 = .ok (.aload_n 0, 1) := by decide +kernel
theorem dX11_copy_134 : decode cX11_copy 134 = .ok (.getfield 16, 3) := by decide +kernel
theorem dX11_copy_137 : decode cX11_copy 137 = .ok (.bipush 60, 2) := by decide +kernel
theorem dX11_copy_139 : decode cX11_copy 139 = .ok (.iload_n 1, 1) := by decide +kernel
theorem dX11_copy_140 : decode cX11_copy 140 = .ok (.imul, 1) := by decide +kernel
theorem dX11_copy_141 : decode cX11_copy 141 = .ok (.iload_n 2, 1) := by decide +kernel
theorem dX11_copy_142 : decode cX11_copy 142 = .ok (.iadd, 1) := by decide +kernel
theorem dX11_copy_143 : decode cX11_copy 143 = .ok (.iload 6, 2) := by decide +kernel
theorem dX11_copy_145 : decode cX11_copy 145 = .ok (.iadd, 1) := by decide +kernel
theorem dX11_copy_146 : decode cX11_copy 146 = .ok (.iaload, 1) := by decide +kernel
theorem dX11_copy_147 : decode cX11_copy 147 = .ok (.iastore, 1) := by decide +kernel
theorem dX11_copy_148 : decode cX11_copy 148 = .ok (.iinc 6 1, 3) := by decide +kernel
theorem dX11_copy_151 : decode cX11_copy 151 = .ok (.goto (-31), 3) := by decide +kernel
theorem dX11_copy_154 : decode cX11_copy 154 = .ok (.iconst 0, 1) := by decide +kernel
theorem dX11_copy_155 : decode cX11_copy 155 = .ok (.istore 6, 2) := by decide +kernel
theorem dX11_copy_157 : decode cX11_copy 157 = .ok (.iload 6, 2) := by decide +kernel
theorem dX11_copy_159 : decode cX11_copy 159 = .ok (.iload 5, 2) := by decide +kernel
theorem dX11_copy_161 : decode cX11_copy 161 = .ok (.if_icmp .ge 31, 3) := by decide +kernel
theorem dX11_copy_164 : decode cX11_copy 164 = .ok (.aload_n 0, 1) := by decide +kernel
theorem dX11_copy_165 : decode cX11_copy 165 = .ok (.getfield 16, 3) := by decide +kernel
theorem dX11_copy_168 : decode cX11_copy 168 = .ok (.bipush 60, 2) := by decide +kernel
theorem dX11_copy_170 : decode cX11_copy 170 = .ok (.iload_n 3, 1) := by decide +kernel
theorem dX11_copy_171 : decode cX11_copy 171 = .ok (.imul, 1) := by decide +kernel
theorem dX11_copy_172 : decode cX11_copy 172 = .ok (.iload 4, 2) := by decide +kernel
theorem dX11_copy_174 : decode cX11_copy 174 = .ok (.iadd, 1) := by decide +kernel
theorem dX11_copy_175 : decode cX11_copy 175 = .ok (.iload 6, 2) := by decide +kernel
theorem dX11_copy_177 : decode cX11_copy 177 = .ok (.iadd, 1) := by decide +kernel
theorem dX11_copy_178 : decode cX11_copy 178 = .ok (.aload_n 0, 1) := by decide +kernel
theorem dX11_copy_179 : decode cX11_copy 179 = .ok (.getfield 19, 3) := by decide +kernel
theorem dX11_copy_182 : decode cX11_copy 182 = .ok (.iload 6, 2) := by decide +kernel
theorem dX11_copy_184 : decode cX11_copy 184 = .ok (.iaload, 1) := by decide +kernel
theorem dX11_copy_185 : decode cX11_copy 185 = .ok (.iastore, 1) := by decide +kernel
theorem dX11_copy_186 : decode cX11_copy 186 = .ok (.iinc 6 1, 3) := by decide +kernel
theorem dX11_copy_189 : decode cX11_copy 189 = .ok (.goto (-32), 3) := by decide +kernel
theorem dX11_copy_192 : decode cX11_copy 192 = .ok (.iconst 1, 1) := by decide +kernel
theorem dX11_copy_193 : decode cX11_copy 193 = .ok (.ireturn, 1) := by decide +kernel
theorem dX11_type_0 : decode cX11_type 0 = .ok (.iload_n 1, 1) := by decide +kernel
theorem dX11_type_1 : decode cX11_type 1 = .ok (.invokestatic 110, 3) := by decide +kernel
theorem dX11_type_4 : decode cX11_type 4 = .ok (.ifCond .eq 15, 3) := by decide +kernel
theorem dX11_type_7 : decode cX11_type 7 = .ok (.iload_n 2, 1) := by decide +kernel
theorem dX11_type_8 : decode cX11_type 8 = .ok (.i2l, 1) := by decide +kernel
theorem dX11_type_9 : decode cX11_type 9 = .ok (.lconst 0, 1) := by decide +kernel
theorem dX11_type_10 : decode cX11_type 10 = .ok (.ldc2_w 113, 3) := by decide +kernel
theorem dX11_type_13 : decode cX11_type 13 = .ok (.invokestatic 81, 3) := by decide +kernel
theorem dX11_type_16 : decode cX11_type 16 = .ok (.ifCond .ne 6, 3) := by decide +kernel
theorem dX11_type_19 : decode cX11_type 19 = .ok (.bipush (-2), 2) := by decide +kernel
theorem dX11_type_21 : decode cX11_type 21 = .ok (.ireturn, 1) := by decide +kernel
theorem dX11_type_22 : decode cX11_type 22 = .ok (.aload_n 0, 1) := by decide +kernel
theorem dX11_type_23 : decode cX11_type 23 = .ok (.getfield 25, 3) := by decide +kernel
theorem dX11_type_26 : decode cX11_type 26 = .ok (.iload_n 1, 1) := by decide +kernel
theorem dX11_type_27 : decode cX11_type 27 = .ok (.iaload, 1) := by decide +kernel
theorem dX11_type_28 : decode cX11_type 28 = .ok (.iload_n 1, 1) := by decide +kernel
theorem dX11_type_29 : decode cX11_type 29 = .ok (.ifCond .ne 8, 3) := by decide +kernel
theorem dX11_type_32 : decode cX11_type 32 = .ok (.bipush 49, 2) := by decide +kernel
theorem dX11_type_34 : decode cX11_type 34 = .ok (.goto 5, 3) := by decide +kernel
theorem dX11_type_37 : decode cX11_type 37 = .ok (.bipush 55, 2) := by decide +kernel
theorem dX11_type_39 : decode cX11_type 39 = .ok (.if_icmp .ne 6, 3) := by decide +kernel
theorem dX11_type_42 : decode cX11_type 42 = .ok (.bipush (-4), 2) := by decide +kernel
theorem dX11_type_44 : decode cX11_type 44 = .ok (.ireturn, 1) := by decide +kernel
theorem dX11_type_45 : decode cX11_type 45 = .ok (.aload_n 0, 1) := by decide +kernel
theorem dX11_type_46 : decode cX11_type 46 = .ok (.getfield 22, 3) := by decide +kernel
theorem dX11_type_49 : decode cX11_type 49 = .ok (.bipush 56, 2) := by decide +kernel
theorem dX11_type_51 : decode cX11_type 51 = .ok (.iload_n 1, 1) := by decide +kernel
theorem dX11_type_52 : decode cX11_type 52 = .ok (.imul, 1) := by decide +kernel
theorem dX11_type_53 : decode cX11_type 53 = .ok (.aload_n 0, 1) := by decide +kernel
theorem dX11_type_54 : decode cX11_type 54 = .ok (.getfield 25, 3) := by decide +kernel
theorem dX11_type_57 : decode cX11_type 57 = .ok (.iload_n 1, 1) := by decide +kernel
theorem dX11_type_58 : decode cX11_type 58 = .ok (.iaload, 1) := by decide +kernel
theorem dX11_type_59 : decode cX11_type 59 = .ok (.iadd, 1) := by decide +kernel
theorem dX11_type_60 : decode cX11_type 60 = .ok (.iload_n 2, 1) := by decide +kernel
theorem dX11_type_61 : decode cX11_type 61 = .ok (.iastore, 1) := by decide +kernel
theorem dX11_type_62 : decode cX11_type 62 = .ok (.aload_n 0, 1) := by decide +kernel
theorem dX11_type_63 : decode cX11_type 63 = .ok (.getfield 25, 3) := by decide +kernel
theorem dX11_type_66 : decode cX11_type 66 = .ok (.iload_n 1, 1) := by decide +kernel
theorem dX11_type_67 : decode cX11_type 67 = .ok (.dup2, 1) := by decide +kernel
theorem dX11_type_68 : decode cX11_type 68 = .ok (.iaload, 1) := by decide +kernel
theorem dX11_type_69 : decode cX11_type 69 = .ok (.iconst 1, 1) := by decide +kernel
theorem dX11_type_70 : decode cX11_type 70 = .ok (.iadd, 1) := by decide +kernel
theorem dX11_type_71 : decode cX11_type 71 = .ok (.iastore, 1) := by decide +kernel
theorem dX11_type_72 : decode cX11_type 72 = .ok (.aload_n 0, 1) := by decide +kernel
theorem dX11_type_73 : decode cX11_type 73 = .ok (.getfield 25, 3) := by decide +kernel
theorem dX11_type_76 : decode cX11_type 76 = .ok (.iload_n 1, 1) := by decide +kernel
theorem dX11_type_77 : decode cX11_type 77 = .ok (.iaload, 1) := by decide +kernel
theorem dX11_type_78 : decode cX11_type 78 = .ok (.ireturn, 1) := by decide +kernel
theorem dX11_wipe_0 : decode cX11_wipe 0 = .ok (.iload_n 1, 1) := by decide +kernel
theorem dX11_wipe_1 : decode cX11_wipe 1 = .ok (.invokestatic 110, 3) := by decide +kernel
theorem dX11_wipe_4 : decode cX11_wipe 4 = .ok (.ifCond .ne 6, 3) := by decide +kernel
theorem dX11_wipe_7 : decode cX11_wipe 7 = .ok (.bipush (-2), 2) := by decide +kernel
theorem dX11_wipe_9 : decode cX11_wipe 9 = .ok (.ireturn, 1) := by decide +kernel
theorem dX11_wipe_10 : decode cX11_wipe 10 = .ok (.aload_n 0, 1) := by decide +kernel
theorem dX11_wipe_11 : decode cX11_wipe 11 = .ok (.getfield 25, 3) := by decide +kernel
theorem dX11_wipe_14 : decode cX11_wipe 14 = .ok (.iload_n 1, 1) := by decide +kernel
theorem dX11_wipe_15 : decode cX11_wipe 15 = .ok (.iaload, 1) := by decide +kernel
theorem dX11_wipe_16 : decode cX11_wipe 16 = .ok (.istore_n 2, 1) := by decide +kernel
theorem dX11_wipe_17 : decode cX11_wipe 17 = .ok (.aload_n 0, 1) := by decide +kernel
theorem dX11_wipe_18 : decode cX11_wipe 18 = .ok (.getfield 25, 3) := by decide +kernel
theorem dX11_wipe_21 : decode cX11_wipe 21 = .ok (.iload_n 1, 1) := by decide +kernel
theorem dX11_wipe_22 : decode cX11_wipe 22 = .ok (.iconst 0, 1) := by decide +kernel
theorem dX11_wipe_23 : decode cX11_wipe 23 = .ok (.iastore, 1) := by decide +kernel
theorem dX11_wipe_24 : decode cX11_wipe 24 = .ok (.iload_n 2, 1) := by decide +kernel
theorem dX11_wipe_25 : decode cX11_wipe 25 = .ok (.ireturn, 1) := by decide +kernel
theorem dX11_undo_0 : decode cX11_undo 0 = .ok (.iload_n 1, 1) := by decide +kernel
theorem dX11_undo_1 : decode cX11_undo 1 = .ok (.invokestatic 110, 3) := by decide +kernel
theorem dX11_undo_4 : decode cX11_undo 4 = .ok (.ifCond .ne 6, 3) := by decide +kernel
theorem dX11_undo_7 : decode cX11_undo 7 = .ok (.bipush (-2), 2) := by decide +kernel
theorem dX11_undo_9 : decode cX11_undo 9 = .ok (.ireturn, 1) := by decide +kernel
theorem dX11_undo_10 : decode cX11_undo 10 = .ok (.aload_n 0, 1) := by decide +kernel
theorem dX11_undo_11 : decode cX11_undo 11 = .ok (.getfield 25, 3) := by decide +kernel
theorem dX11_undo_14 : decode cX11_undo 14 = .ok (.iload_n 1, 1) := by decide +kernel
theorem dX11_undo_15 : decode cX11_undo 15 = .ok (.iaload, 1) := by decide +kernel
theorem dX11_undo_16 : decode cX11_undo 16 = .ok (.ifCond .ne 6, 3) := by decide +kernel
theorem dX11_undo_19 : decode cX11_undo 19 = .ok (.bipush (-3), 2) := by decide +kernel
theorem dX11_undo_21 : decode cX11_undo 21 = .ok (.ireturn, 1) := by decide +kernel
theorem dX11_undo_22 : decode cX11_undo 22 = .ok (.aload_n 0, 1) := by decide +kernel
theorem dX11_undo_23 : decode cX11_undo 23 = .ok (.getfield 25, 3) := by decide +kernel
theorem dX11_undo_26 : decode cX11_undo 26 = .ok (.iload_n 1, 1) := by decide +kernel
theorem dX11_undo_27 : decode cX11_undo 27 = .ok (.dup2, 1) := by decide +kernel
theorem dX11_undo_28 : decode cX11_undo 28 = .ok (.iaload, 1) := by decide +kernel
theorem dX11_undo_29 : decode cX11_undo 29 = .ok (.iconst 1, 1) := by decide +kernel
theorem dX11_undo_30 : decode cX11_undo 30 = .ok (.isub, 1) := by decide +kernel
theorem dX11_undo_31 : decode cX11_undo 31 = .ok (.iastore, 1) := by decide +kernel
theorem dX11_undo_32 : decode cX11_undo 32 = .ok (.aload_n 0, 1) := by decide +kernel
theorem dX11_undo_33 : decode cX11_undo 33 = .ok (.getfield 25, 3) := by decide +kernel
theorem dX11_undo_36 : decode cX11_undo 36 = .ok (.iload_n 1, 1) := by decide +kernel
theorem dX11_undo_37 : decode cX11_undo 37 = .ok (.iaload, 1) := by decide +kernel
theorem dX11_undo_38 : decode cX11_undo 38 = .ok (.ireturn, 1) := by decide +kernel
theorem dX11_placeOf_0 : decode cX11_placeOf 0 = .ok (.iload_n 0, 1) := by decide +kernel
theorem dX11_placeOf_1 : decode cX11_placeOf 1 = .ok (.i2l, 1) := by decide +kernel
theorem dX11_placeOf_2 : decode cX11_placeOf 2 = .ok (.ldc2_w 115, 3) := by decide +kernel
theorem dX11_placeOf_5 : decode cX11_placeOf 5 = .ok (.ldc2_w 117, 3) := by decide +kernel
theorem dX11_placeOf_8 : decode cX11_placeOf 8 = .ok (.invokestatic 81, 3) := by decide +kernel
theorem dX11_placeOf_11 : decode cX11_placeOf 11 = .ok (.ifCond .eq 10, 3) := by decide +kernel
theorem dX11_placeOf_14 : decode cX11_placeOf 14 = .ok (.iload_n 0, 1) := by decide +kernel
theorem dX11_placeOf_15 : decode cX11_placeOf 15 = .ok (.bipush 97, 2) := by decide +kernel
theorem dX11_placeOf_17 : decode cX11_placeOf 17 = .ok (.isub, 1) := by decide +kernel
theorem dX11_placeOf_18 : decode cX11_placeOf 18 = .ok (.goto 5, 3) := by decide +kernel
theorem dX11_placeOf_21 : decode cX11_placeOf 21 = .ok (.bipush (-9), 2) := by decide +kernel
theorem dX11_placeOf_23 : decode cX11_placeOf 23 = .ok (.ireturn, 1) := by decide +kernel
theorem dX11_figureOf_0 : decode cX11_figureOf 0 = .ok (.iload_n 0, 1) := by decide +kernel
theorem dX11_figureOf_1 : decode cX11_figureOf 1 = .ok (.i2l, 1) := by decide +kernel
theorem dX11_figureOf_2 : decode cX11_figureOf 2 = .ok (.bipush 48, 2) := by decide +kernel
theorem dX11_figureOf_4 : decode cX11_figureOf 4 = .ok (.iload_n 1, 1) := by decide +kernel
theorem dX11_figureOf_5 : decode cX11_figureOf 5 = .ok (.iadd, 1) := by decide +kernel
theorem dX11_figureOf_6 : decode cX11_figureOf 6 = .ok (.i2l, 1) := by decide +kernel
theorem dX11_figureOf_7 : decode cX11_figureOf 7 = .ok (.ldc2_w 119, 3) := by decide +kernel
theorem dX11_figureOf_10 : decode cX11_figureOf 10 = .ok (.invokestatic 81, 3) := by decide +kernel
theorem dX11_figureOf_13 : decode cX11_figureOf 13 = .ok (.ifCond .eq 10, 3) := by decide +kernel
theorem dX11_figureOf_16 : decode cX11_figureOf 16 = .ok (.iload_n 0, 1) := by decide +kernel
theorem dX11_figureOf_17 : decode cX11_figureOf 17 = .ok (.bipush 48, 2) := by decide +kernel
theorem dX11_figureOf_19 : decode cX11_figureOf 19 = .ok (.isub, 1) := by decide +kernel
theorem dX11_figureOf_20 : decode cX11_figureOf 20 = .ok (.goto 5, 3) := by decide +kernel
theorem dX11_figureOf_23 : decode cX11_figureOf 23 = .ok (.bipush (-9), 2) := by decide +kernel
theorem dX11_figureOf_25 : decode cX11_figureOf 25 = .ok (.ireturn, 1) := by decide +kernel
theorem dX11_wayOf_0 : decode cX11_wayOf 0 = .ok (.iload_n 0, 1) := by decide +kernel
theorem dX11_wayOf_1 : decode cX11_wayOf 1 = .ok (.tableswitch 93 0 3 #[31, 36, 54, 60], 31) := by decide +kernel
theorem dX11_wayOf_32 : decode cX11_wayOf 32 = .ok (.iload_n 1, 1) := by decide +kernel
theorem dX11_wayOf_33 : decode cX11_wayOf 33 = .ok (.invokestatic 121, 3) := by decide +kernel
theorem dX11_wayOf_36 : decode cX11_wayOf 36 = .ok (.ireturn, 1) := by decide +kernel
theorem dX11_wayOf_37 : decode cX11_wayOf 37 = .ok (.iload_n 1, 1) := by decide +kernel
theorem dX11_wayOf_38 : decode cX11_wayOf 38 = .ok (.invokestatic 121, 3) := by decide +kernel
theorem dX11_wayOf_41 : decode cX11_wayOf 41 = .ok (.iload_n 2, 1) := by decide +kernel
theorem dX11_wayOf_42 : decode cX11_wayOf 42 = .ok (.if_icmp .ne 8, 3) := by decide +kernel
theorem dX11_wayOf_45 : decode cX11_wayOf 45 = .ok (.bipush (-9), 2) := by decide +kernel
theorem dX11_wayOf_47 : decode cX11_wayOf 47 = .ok (.goto 7, 3) := by decide +kernel
theorem dX11_wayOf_50 : decode cX11_wayOf 50 = .ok (.iload_n 1, 1) := by decide +kernel
theorem dX11_wayOf_51 : decode cX11_wayOf 51 = .ok (.invokestatic 121, 3) := by decide +kernel
theorem dX11_wayOf_54 : decode cX11_wayOf 54 = .ok (.ireturn, 1) := by decide +kernel
theorem dX11_wayOf_55 : decode cX11_wayOf 55 = .ok (.iload_n 1, 1) := by decide +kernel
theorem dX11_wayOf_56 : decode cX11_wayOf 56 = .ok (.iconst 1, 1) := by decide +kernel
theorem dX11_wayOf_57 : decode cX11_wayOf 57 = .ok (.invokestatic 124, 3) := by decide +kernel
theorem dX11_wayOf_60 : decode cX11_wayOf 60 = .ok (.ireturn, 1) := by decide +kernel
theorem dX11_wayOf_61 : decode cX11_wayOf 61 = .ok (.iload_n 1, 1) := by decide +kernel
theorem dX11_wayOf_62 : decode cX11_wayOf 62 = .ok (.bipush 117, 2) := by decide +kernel
theorem dX11_wayOf_64 : decode cX11_wayOf 64 = .ok (.if_icmp .ne 7, 3) := by decide +kernel
theorem dX11_wayOf_67 : decode cX11_wayOf 67 = .ok (.iconst 0, 1) := by decide +kernel
theorem dX11_wayOf_68 : decode cX11_wayOf 68 = .ok (.goto 25, 3) := by decide +kernel
theorem dX11_wayOf_71 : decode cX11_wayOf 71 = .ok (.iload_n 1, 1) := by decide +kernel
theorem dX11_wayOf_72 : decode cX11_wayOf 72 = .ok (.bipush 102, 2) := by decide +kernel
theorem dX11_wayOf_74 : decode cX11_wayOf 74 = .ok (.if_icmp .ne 7, 3) := by decide +kernel
theorem dX11_wayOf_77 : decode cX11_wayOf 77 = .ok (.iconst 1, 1) := by decide +kernel
theorem dX11_wayOf_78 : decode cX11_wayOf 78 = .ok (.goto 15, 3) := by decide +kernel
theorem dX11_wayOf_81 : decode cX11_wayOf 81 = .ok (.iload_n 1, 1) := by decide +kernel
theorem dX11_wayOf_82 : decode cX11_wayOf 82 = .ok (.bipush 100, 2) := by decide +kernel
theorem dX11_wayOf_84 : decode cX11_wayOf 84 = .ok (.if_icmp .ne 7, 3) := by decide +kernel
theorem dX11_wayOf_87 : decode cX11_wayOf 87 = .ok (.iconst 2, 1) := by decide +kernel
theorem dX11_wayOf_88 : decode cX11_wayOf 88 = .ok (.goto 5, 3) := by decide +kernel
theorem dX11_wayOf_91 : decode cX11_wayOf 91 = .ok (.bipush (-9), 2) := by decide +kernel
theorem dX11_wayOf_93 : decode cX11_wayOf 93 = .ok (.ireturn, 1) := by decide +kernel
theorem dX11_wayOf_94 : decode cX11_wayOf 94 = .ok (.iload_n 1, 1) := by decide +kernel
theorem dX11_wayOf_95 : decode cX11_wayOf 95 = .ok (.bipush 59, 2) := by decide +kernel
theorem dX11_wayOf_97 : decode cX11_wayOf 97 = .ok (.if_icmp .ne 7, 3) := by decide +kernel
theorem dX11_wayOf_100 : decode cX11_wayOf 100 = .ok (.iconst 0, 1) := by decide +kernel
theorem dX11_wayOf_101 : decode cX11_wayOf 101 = .ok (.goto 5, 3) := by decide +kernel
theorem dX11_wayOf_104 : decode cX11_wayOf 104 = .ok (.bipush (-9), 2) := by decide +kernel
theorem dX11_wayOf_106 : decode cX11_wayOf 106 = .ok (.ireturn, 1) := by decide +kernel
theorem dX11_readsWays_0 : decode cX11_readsWays 0 = .ok (.aload_n 0, 1) := by decide +kernel
theorem dX11_readsWays_1 : decode cX11_readsWays 1 = .ok (.iconst 0, 1) := by decide +kernel
theorem dX11_readsWays_2 : decode cX11_readsWays 2 = .ok (.putfield 127, 3) := by decide +kernel
theorem dX11_readsWays_5 : decode cX11_readsWays 5 = .ok (.aload_n 0, 1) := by decide +kernel
theorem dX11_readsWays_6 : decode cX11_readsWays 6 = .ok (.getfield 25, 3) := by decide +kernel
theorem dX11_readsWays_9 : decode cX11_readsWays 9 = .ok (.iconst 0, 1) := by decide +kernel
theorem dX11_readsWays_10 : decode cX11_readsWays 10 = .ok (.iaload, 1) := by decide +kernel
theorem dX11_readsWays_11 : decode cX11_readsWays 11 = .ok (.istore_n 1, 1) := by decide +kernel
theorem dX11_readsWays_12 : decode cX11_readsWays 12 = .ok (.iconst 0, 1) := by decide +kernel
theorem dX11_readsWays_13 : decode cX11_readsWays 13 = .ok (.istore_n 2, 1) := by decide +kernel
theorem dX11_readsWays_14 : decode cX11_readsWays 14 = .ok (.iload_n 2, 1) := by decide +kernel
theorem dX11_readsWays_15 : decode cX11_readsWays 15 = .ok (.iload_n 1, 1) := by decide +kernel
theorem dX11_readsWays_16 : decode cX11_readsWays 16 = .ok (.if_icmp .ge 97, 3) := by decide +kernel
theorem dX11_readsWays_19 : decode cX11_readsWays 19 = .ok (.iload_n 2, 1) := by decide +kernel
theorem dX11_readsWays_20 : decode cX11_readsWays 20 = .ok (.iconst 5, 1) := by decide +kernel
theorem dX11_readsWays_21 : decode cX11_readsWays 21 = .ok (.irem, 1) := by decide +kernel
theorem dX11_readsWays_22 : decode cX11_readsWays 22 = .ok (.istore_n 3, 1) := by decide +kernel
theorem dX11_readsWays_23 : decode cX11_readsWays 23 = .ok (.iconst 4, 1) := by decide +kernel
theorem dX11_readsWays_24 : decode cX11_readsWays 24 = .ok (.iload_n 2, 1) := by decide +kernel
theorem dX11_readsWays_25 : decode cX11_readsWays 25 = .ok (.iconst 5, 1) := by decide +kernel
theorem dX11_readsWays_26 : decode cX11_readsWays 26 = .ok (.idiv, 1) := by decide +kernel
theorem dX11_readsWays_27 : decode cX11_readsWays 27 = .ok (.imul, 1) := by decide +kernel
theorem dX11_readsWays_28 : decode cX11_readsWays 28 = .ok (.istore 4, 2) := by decide +kernel
theorem dX11_readsWays_30 : decode cX11_readsWays 30 = .ok (.iload_n 3, 1) := by decide +kernel
theorem dX11_readsWays_31 : decode cX11_readsWays 31 = .ok (.aload_n 0, 1) := by decide +kernel
theorem dX11_readsWays_32 : decode cX11_readsWays 32 = .ok (.getfield 22, 3) := by decide +kernel
theorem dX11_readsWays_35 : decode cX11_readsWays 35 = .ok (.iload_n 2, 1) := by decide +kernel
theorem dX11_readsWays_36 : decode cX11_readsWays 36 = .ok (.iaload, 1) := by decide +kernel
theorem dX11_readsWays_37 : decode cX11_readsWays 37 = .ok (.iload_n 3, 1) := by decide +kernel
theorem dX11_readsWays_38 : decode cX11_readsWays 38 = .ok (.iconst 1, 1) := by decide +kernel
theorem dX11_readsWays_39 : decode cX11_readsWays 39 = .ok (.if_icmp .ne 13, 3) := by decide +kernel
theorem dX11_readsWays_42 : decode cX11_readsWays 42 = .ok (.aload_n 0, 1) := by decide +kernel
theorem dX11_readsWays_43 : decode cX11_readsWays 43 = .ok (.getfield 28, 3) := by decide +kernel
theorem dX11_readsWays_46 : decode cX11_readsWays 46 = .ok (.iload 4, 2) := by decide +kernel
theorem dX11_readsWays_48 : decode cX11_readsWays 48 = .ok (.iaload, 1) := by decide +kernel
theorem dX11_readsWays_49 : decode cX11_readsWays 49 = .ok (.goto 4, 3) := by decide +kernel
theorem dX11_readsWays_52 : decode cX11_readsWays 52 = .ok (.iconst (-1), 1) := by decide +kernel
theorem dX11_readsWays_53 : decode cX11_readsWays 53 = .ok (.invokestatic 130, 3) := by decide +kernel
theorem dX11_readsWays_56 : decode cX11_readsWays 56 = .ok (.istore 5, 2) := by decide +kernel
theorem dX11_readsWays_58 : decode cX11_readsWays 58 = .ok (.iload 5, 2) := by decide +kernel
theorem dX11_readsWays_60 : decode cX11_readsWays 60 = .ok (.bipush (-9), 2) := by decide +kernel
theorem dX11_readsWays_62 : decode cX11_readsWays 62 = .ok (.if_icmp .ne 10, 3) := by decide +kernel
theorem dX11_readsWays_65 : decode cX11_readsWays 65 = .ok (.aload_n 0, 1) := by decide +kernel
theorem dX11_readsWays_66 : decode cX11_readsWays 66 = .ok (.iconst 0, 1) := by decide +kernel
theorem dX11_readsWays_67 : decode cX11_readsWays 67 = .ok (.putfield 127, 3) := by decide +kernel
theorem dX11_readsWays_70 : decode cX11_readsWays 70 = .ok (.iload_n 2, 1) := by decide +kernel
theorem dX11_readsWays_71 : decode cX11_readsWays 71 = .ok (.ireturn, 1) := by decide +kernel
theorem dX11_readsWays_72 : decode cX11_readsWays 72 = .ok (.iload_n 3, 1) := by decide +kernel
theorem dX11_readsWays_73 : decode cX11_readsWays 73 = .ok (.iconst 4, 1) := by decide +kernel
theorem dX11_readsWays_74 : decode cX11_readsWays 74 = .ok (.if_icmp .ge 14, 3) := by decide +kernel
theorem dX11_readsWays_77 : decode cX11_readsWays 77 = .ok (.aload_n 0, 1) := by decide +kernel
theorem dX11_readsWays_78 : decode cX11_readsWays 78 = .ok (.getfield 28, 3) := by decide +kernel
theorem dX11_readsWays_81 : decode cX11_readsWays 81 = .ok (.iload 4, 2) := by decide +kernel
theorem dX11_readsWays_83 : decode cX11_readsWays 83 = .ok (.iload_n 3, 1) := by decide +kernel
theorem dX11_readsWays_84 : decode cX11_readsWays 84 = .ok (.iadd, 1) := by decide +kernel
theorem dX11_readsWays_85 : decode cX11_readsWays 85 = .ok (.iload 5, 2) := by decide +kernel
theorem dX11_readsWays_87 : decode cX11_readsWays 87 = .ok (.iastore, 1) := by decide +kernel
theorem dX11_readsWays_88 : decode cX11_readsWays 88 = .ok (.aload_n 0, 1) := by decide +kernel
theorem dX11_readsWays_89 : decode cX11_readsWays 89 = .ok (.dup, 1) := by decide +kernel
theorem dX11_readsWays_90 : decode cX11_readsWays 90 = .ok (.getfield 127, 3) := by decide +kernel
theorem dX11_readsWays_93 : decode cX11_readsWays 93 = .ok (.iload_n 3, 1) := by decide +kernel
theorem dX11_readsWays_94 : decode cX11_readsWays 94 = .ok (.iconst 3, 1) := by decide +kernel
theorem dX11_readsWays_95 : decode cX11_readsWays 95 = .ok (.if_icmp .ne 7, 3) := by decide +kernel
theorem dX11_readsWays_98 : decode cX11_readsWays 98 = .ok (.iconst 1, 1) := by decide +kernel
theorem dX11_readsWays_99 : decode cX11_readsWays 99 = .ok (.goto 4, 3) := by decide +kernel
theorem dX11_readsWays_102 : decode cX11_readsWays 102 = .ok (.iconst 0, 1) := by decide +kernel
theorem dX11_readsWays_103 : decode cX11_readsWays 103 = .ok (.iadd, 1) := by decide +kernel
theorem dX11_readsWays_104 : decode cX11_readsWays 104 = .ok (.putfield 127, 3) := by decide +kernel
theorem dX11_readsWays_107 : decode cX11_readsWays 107 = .ok (.iinc 2 1, 3) := by decide +kernel
theorem dX11_readsWays_110 : decode cX11_readsWays 110 = .ok (.goto (-96), 3) := by decide +kernel
theorem dX11_readsWays_113 : decode cX11_readsWays 113 = .ok (.iload_n 1, 1) := by decide +kernel
theorem dX11_readsWays_114 : decode cX11_readsWays 114 = .ok (.ifCond .le 17, 3) := by decide +kernel
theorem dX11_readsWays_117 : decode cX11_readsWays 117 = .ok (.iload_n 1, 1) := by decide +kernel
theorem dX11_readsWays_118 : decode cX11_readsWays 118 = .ok (.iconst 5, 1) := by decide +kernel
theorem dX11_readsWays_119 : decode cX11_readsWays 119 = .ok (.irem, 1) := by decide +kernel
theorem dX11_readsWays_120 : decode cX11_readsWays 120 = .ok (.iconst 4, 1) := by decide +kernel
theorem dX11_readsWays_121 : decode cX11_readsWays 121 = .ok (.if_icmp .eq 10, 3) := by decide +kernel
theorem dX11_readsWays_124 : decode cX11_readsWays 124 = .ok (.aload_n 0, 1) := by decide +kernel
theorem dX11_readsWays_125 : decode cX11_readsWays 125 = .ok (.iconst 0, 1) := by decide +kernel
theorem dX11_readsWays_126 : decode cX11_readsWays 126 = .ok (.putfield 127, 3) := by decide +kernel
theorem dX11_readsWays_129 : decode cX11_readsWays 129 = .ok (.iload_n 1, 1) := by decide +kernel
theorem dX11_readsWays_130 : decode cX11_readsWays 130 = .ok (.ireturn, 1) := by decide +kernel
theorem dX11_readsWays_131 : decode cX11_readsWays 131 = .ok (.iconst (-1), 1) := by decide +kernel
theorem dX11_readsWays_132 : decode cX11_readsWays 132 = .ok (.ireturn, 1) := by decide +kernel
theorem dX11_carterOf_0 : decode cX11_carterOf 0 = .ok (.iload_n 0, 1) := by decide +kernel
theorem dX11_carterOf_1 : decode cX11_carterOf 1 = .ok (.tableswitch 83 0 5 #[39, 39, 44, 77, 77, 77], 39) := by decide +kernel
theorem dX11_carterOf_40 : decode cX11_carterOf 40 = .ok (.iload_n 1, 1) := by decide +kernel
theorem dX11_carterOf_41 : decode cX11_carterOf 41 = .ok (.invokestatic 121, 3) := by decide +kernel
theorem dX11_carterOf_44 : decode cX11_carterOf 44 = .ok (.ireturn, 1) := by decide +kernel
theorem dX11_carterOf_45 : decode cX11_carterOf 45 = .ok (.iload_n 1, 1) := by decide +kernel
theorem dX11_carterOf_46 : decode cX11_carterOf 46 = .ok (.bipush 111, 2) := by decide +kernel
theorem dX11_carterOf_48 : decode cX11_carterOf 48 = .ok (.if_icmp .ne 7, 3) := by decide +kernel
theorem dX11_carterOf_51 : decode cX11_carterOf 51 = .ok (.iconst 0, 1) := by decide +kernel
theorem dX11_carterOf_52 : decode cX11_carterOf 52 = .ok (.goto 25, 3) := by decide +kernel
theorem dX11_carterOf_55 : decode cX11_carterOf 55 = .ok (.iload_n 1, 1) := by decide +kernel
theorem dX11_carterOf_56 : decode cX11_carterOf 56 = .ok (.bipush 99, 2) := by decide +kernel
theorem dX11_carterOf_58 : decode cX11_carterOf 58 = .ok (.if_icmp .ne 7, 3) := by decide +kernel
theorem dX11_carterOf_61 : decode cX11_carterOf 61 = .ok (.iconst 1, 1) := by decide +kernel
theorem dX11_carterOf_62 : decode cX11_carterOf 62 = .ok (.goto 15, 3) := by decide +kernel
theorem dX11_carterOf_65 : decode cX11_carterOf 65 = .ok (.iload_n 1, 1) := by decide +kernel
theorem dX11_carterOf_66 : decode cX11_carterOf 66 = .ok (.bipush 114, 2) := by decide +kernel
theorem dX11_carterOf_68 : decode cX11_carterOf 68 = .ok (.if_icmp .ne 7, 3) := by decide +kernel
theorem dX11_carterOf_71 : decode cX11_carterOf 71 = .ok (.iconst 2, 1) := by decide +kernel
theorem dX11_carterOf_72 : decode cX11_carterOf 72 = .ok (.goto 5, 3) := by decide +kernel
theorem dX11_carterOf_75 : decode cX11_carterOf 75 = .ok (.bipush (-9), 2) := by decide +kernel
theorem dX11_carterOf_77 : decode cX11_carterOf 77 = .ok (.ireturn, 1) := by decide +kernel
theorem dX11_carterOf_78 : decode cX11_carterOf 78 = .ok (.iload_n 1, 1) := by decide +kernel
theorem dX11_carterOf_79 : decode cX11_carterOf 79 = .ok (.iconst 0, 1) := by decide +kernel
theorem dX11_carterOf_80 : decode cX11_carterOf 80 = .ok (.invokestatic 124, 3) := by decide +kernel
theorem dX11_carterOf_83 : decode cX11_carterOf 83 = .ok (.ireturn, 1) := by decide +kernel
theorem dX11_carterOf_84 : decode cX11_carterOf 84 = .ok (.iload_n 1, 1) := by decide +kernel
theorem dX11_carterOf_85 : decode cX11_carterOf 85 = .ok (.bipush 59, 2) := by decide +kernel
theorem dX11_carterOf_87 : decode cX11_carterOf 87 = .ok (.if_icmp .ne 7, 3) := by decide +kernel
theorem dX11_carterOf_90 : decode cX11_carterOf 90 = .ok (.iconst 0, 1) := by decide +kernel
theorem dX11_carterOf_91 : decode cX11_carterOf 91 = .ok (.goto 5, 3) := by decide +kernel
theorem dX11_carterOf_94 : decode cX11_carterOf 94 = .ok (.bipush (-9), 2) := by decide +kernel
theorem dX11_carterOf_96 : decode cX11_carterOf 96 = .ok (.ireturn, 1) := by decide +kernel
theorem dX11_readsCarters_0 : decode cX11_readsCarters 0 = .ok (.aload_n 0, 1) := by decide +kernel
theorem dX11_readsCarters_1 : decode cX11_readsCarters 1 = .ok (.iconst 0, 1) := by decide +kernel
theorem dX11_readsCarters_2 : decode cX11_readsCarters 2 = .ok (.putfield 133, 3) := by decide +kernel
theorem dX11_readsCarters_5 : decode cX11_readsCarters 5 = .ok (.aload_n 0, 1) := by decide +kernel
theorem dX11_readsCarters_6 : decode cX11_readsCarters 6 = .ok (.getfield 25, 3) := by decide +kernel
theorem dX11_readsCarters_9 : decode cX11_readsCarters 9 = .ok (.iconst 1, 1) := by decide +kernel
theorem dX11_readsCarters_10 : decode cX11_readsCarters 10 = .ok (.iaload, 1) := by decide +kernel
theorem dX11_readsCarters_11 : decode cX11_readsCarters 11 = .ok (.istore_n 1, 1) := by decide +kernel
theorem dX11_readsCarters_12 : decode cX11_readsCarters 12 = .ok (.iconst 0, 1) := by decide +kernel
theorem dX11_readsCarters_13 : decode cX11_readsCarters 13 = .ok (.istore_n 2, 1) := by decide +kernel
theorem dX11_readsCarters_14 : decode cX11_readsCarters 14 = .ok (.iload_n 2, 1) := by decide +kernel
theorem dX11_readsCarters_15 : decode cX11_readsCarters 15 = .ok (.iload_n 1, 1) := by decide +kernel
theorem dX11_readsCarters_16 : decode cX11_readsCarters 16 = .ok (.if_icmp .ge 140, 3) := by decide +kernel
theorem dX11_readsCarters_19 : decode cX11_readsCarters 19 = .ok (.iload_n 2, 1) := by decide +kernel
theorem dX11_readsCarters_20 : decode cX11_readsCarters 20 = .ok (.bipush 7, 2) := by decide +kernel
theorem dX11_readsCarters_22 : decode cX11_readsCarters 22 = .ok (.irem, 1) := by decide +kernel
theorem dX11_readsCarters_23 : decode cX11_readsCarters 23 = .ok (.istore_n 3, 1) := by decide +kernel
theorem dX11_readsCarters_24 : decode cX11_readsCarters 24 = .ok (.iload_n 3, 1) := by decide +kernel
theorem dX11_readsCarters_25 : decode cX11_readsCarters 25 = .ok (.aload_n 0, 1) := by decide +kernel
theorem dX11_readsCarters_26 : decode cX11_readsCarters 26 = .ok (.getfield 22, 3) := by decide +kernel
theorem dX11_readsCarters_29 : decode cX11_readsCarters 29 = .ok (.bipush 56, 2) := by decide +kernel
theorem dX11_readsCarters_31 : decode cX11_readsCarters 31 = .ok (.iload_n 2, 1) := by decide +kernel
theorem dX11_readsCarters_32 : decode cX11_readsCarters 32 = .ok (.iadd, 1) := by decide +kernel
theorem dX11_readsCarters_33 : decode cX11_readsCarters 33 = .ok (.iaload, 1) := by decide +kernel
theorem dX11_readsCarters_34 : decode cX11_readsCarters 34 = .ok (.invokestatic 136, 3) := by decide +kernel
theorem dX11_readsCarters_37 : decode cX11_readsCarters 37 = .ok (.istore 4, 2) := by decide +kernel
theorem dX11_readsCarters_39 : decode cX11_readsCarters 39 = .ok (.iload 4, 2) := by decide +kernel
theorem dX11_readsCarters_41 : decode cX11_readsCarters 41 = .ok (.bipush (-9), 2) := by decide +kernel
theorem dX11_readsCarters_43 : decode cX11_readsCarters 43 = .ok (.if_icmp .ne 10, 3) := by decide +kernel
theorem dX11_readsCarters_46 : decode cX11_readsCarters 46 = .ok (.aload_n 0, 1) := by decide +kernel
theorem dX11_readsCarters_47 : decode cX11_readsCarters 47 = .ok (.iconst 0, 1) := by decide +kernel
theorem dX11_readsCarters_48 : decode cX11_readsCarters 48 = .ok (.putfield 133, 3) := by decide +kernel
theorem dX11_readsCarters_51 : decode cX11_readsCarters 51 = .ok (.iload_n 2, 1) := by decide +kernel
theorem dX11_readsCarters_52 : decode cX11_readsCarters 52 = .ok (.ireturn, 1) := by decide +kernel
theorem dX11_readsCarters_53 : decode cX11_readsCarters 53 = .ok (.iconst 5, 1) := by decide +kernel
theorem dX11_readsCarters_54 : decode cX11_readsCarters 54 = .ok (.iload_n 2, 1) := by decide +kernel
theorem dX11_readsCarters_55 : decode cX11_readsCarters 55 = .ok (.bipush 7, 2) := by decide +kernel
theorem dX11_readsCarters_57 : decode cX11_readsCarters 57 = .ok (.idiv, 1) := by decide +kernel
theorem dX11_readsCarters_58 : decode cX11_readsCarters 58 = .ok (.imul, 1) := by decide +kernel
theorem dX11_readsCarters_59 : decode cX11_readsCarters 59 = .ok (.istore 5, 2) := by decide +kernel
theorem dX11_readsCarters_61 : decode cX11_readsCarters 61 = .ok (.iload_n 3, 1) := by decide +kernel
theorem dX11_readsCarters_62 : decode cX11_readsCarters 62 = .ok (.iconst 3, 1) := by decide +kernel
theorem dX11_readsCarters_63 : decode cX11_readsCarters 63 = .ok (.if_icmp .ge 17, 3) := by decide +kernel
theorem dX11_readsCarters_66 : decode cX11_readsCarters 66 = .ok (.aload_n 0, 1) := by decide +kernel
theorem dX11_readsCarters_67 : decode cX11_readsCarters 67 = .ok (.getfield 31, 3) := by decide +kernel
theorem dX11_readsCarters_70 : decode cX11_readsCarters 70 = .ok (.iload 5, 2) := by decide +kernel
theorem dX11_readsCarters_72 : decode cX11_readsCarters 72 = .ok (.iload_n 3, 1) := by decide +kernel
theorem dX11_readsCarters_73 : decode cX11_readsCarters 73 = .ok (.iadd, 1) := by decide +kernel
theorem dX11_readsCarters_74 : decode cX11_readsCarters 74 = .ok (.iload 4, 2) := by decide +kernel
theorem dX11_readsCarters_76 : decode cX11_readsCarters 76 = .ok (.iastore, 1) := by decide +kernel
theorem dX11_readsCarters_77 : decode cX11_readsCarters 77 = .ok (.goto 73, 3) := by decide +kernel
theorem dX11_readsCarters_80 : decode cX11_readsCarters 80 = .ok (.iload_n 3, 1) := by decide +kernel
theorem dX11_readsCarters_81 : decode cX11_readsCarters 81 = .ok (.iconst 3, 1) := by decide +kernel
theorem dX11_readsCarters_82 : decode cX11_readsCarters 82 = .ok (.if_icmp .ne 20, 3) := by decide +kernel
theorem dX11_readsCarters_85 : decode cX11_readsCarters 85 = .ok (.aload_n 0, 1) := by decide +kernel
theorem dX11_readsCarters_86 : decode cX11_readsCarters 86 = .ok (.getfield 31, 3) := by decide +kernel
theorem dX11_readsCarters_89 : decode cX11_readsCarters 89 = .ok (.iload 5, 2) := by decide +kernel
theorem dX11_readsCarters_91 : decode cX11_readsCarters 91 = .ok (.iconst 3, 1) := by decide +kernel
theorem dX11_readsCarters_92 : decode cX11_readsCarters 92 = .ok (.iadd, 1) := by decide +kernel
theorem dX11_readsCarters_93 : decode cX11_readsCarters 93 = .ok (.bipush 10, 2) := by decide +kernel
theorem dX11_readsCarters_95 : decode cX11_readsCarters 95 = .ok (.iload 4, 2) := by decide +kernel
theorem dX11_readsCarters_97 : decode cX11_readsCarters 97 = .ok (.imul, 1) := by decide +kernel
theorem dX11_readsCarters_98 : decode cX11_readsCarters 98 = .ok (.iastore, 1) := by decide +kernel
theorem dX11_readsCarters_99 : decode cX11_readsCarters 99 = .ok (.goto 51, 3) := by decide +kernel
theorem dX11_readsCarters_102 : decode cX11_readsCarters 102 = .ok (.iload_n 3, 1) := by decide +kernel
theorem dX11_readsCarters_103 : decode cX11_readsCarters 103 = .ok (.iconst 4, 1) := by decide +kernel
theorem dX11_readsCarters_104 : decode cX11_readsCarters 104 = .ok (.if_icmp .ne 20, 3) := by decide +kernel
theorem dX11_readsCarters_107 : decode cX11_readsCarters 107 = .ok (.aload_n 0, 1) := by decide +kernel
theorem dX11_readsCarters_108 : decode cX11_readsCarters 108 = .ok (.getfield 31, 3) := by decide +kernel
theorem dX11_readsCarters_111 : decode cX11_readsCarters 111 = .ok (.iload 5, 2) := by decide +kernel
theorem dX11_readsCarters_113 : decode cX11_readsCarters 113 = .ok (.iconst 3, 1) := by decide +kernel
theorem dX11_readsCarters_114 : decode cX11_readsCarters 114 = .ok (.iadd, 1) := by decide +kernel
theorem dX11_readsCarters_115 : decode cX11_readsCarters 115 = .ok (.dup2, 1) := by decide +kernel
theorem dX11_readsCarters_116 : decode cX11_readsCarters 116 = .ok (.iaload, 1) := by decide +kernel
theorem dX11_readsCarters_117 : decode cX11_readsCarters 117 = .ok (.iload 4, 2) := by decide +kernel
theorem dX11_readsCarters_119 : decode cX11_readsCarters 119 = .ok (.iadd, 1) := by decide +kernel
theorem dX11_readsCarters_120 : decode cX11_readsCarters 120 = .ok (.iastore, 1) := by decide +kernel
theorem dX11_readsCarters_121 : decode cX11_readsCarters 121 = .ok (.goto 29, 3) := by decide +kernel
theorem dX11_readsCarters_124 : decode cX11_readsCarters 124 = .ok (.iload_n 3, 1) := by decide +kernel
theorem dX11_readsCarters_125 : decode cX11_readsCarters 125 = .ok (.iconst 5, 1) := by decide +kernel
theorem dX11_readsCarters_126 : decode cX11_readsCarters 126 = .ok (.if_icmp .ne 24, 3) := by decide +kernel
theorem dX11_readsCarters_129 : decode cX11_readsCarters 129 = .ok (.aload_n 0, 1) := by decide +kernel
theorem dX11_readsCarters_130 : decode cX11_readsCarters 130 = .ok (.getfield 31, 3) := by decide +kernel
theorem dX11_readsCarters_133 : decode cX11_readsCarters 133 = .ok (.iload 5, 2) := by decide +kernel
theorem dX11_readsCarters_135 : decode cX11_readsCarters 135 = .ok (.iconst 4, 1) := by decide +kernel
theorem dX11_readsCarters_136 : decode cX11_readsCarters 136 = .ok (.iadd, 1) := by decide +kernel
theorem dX11_readsCarters_137 : decode cX11_readsCarters 137 = .ok (.iload 4, 2) := by decide +kernel
theorem dX11_readsCarters_139 : decode cX11_readsCarters 139 = .ok (.iastore, 1) := by decide +kernel
theorem dX11_readsCarters_140 : decode cX11_readsCarters 140 = .ok (.aload_n 0, 1) := by decide +kernel
theorem dX11_readsCarters_141 : decode cX11_readsCarters 141 = .ok (.dup, 1) := by decide +kernel
theorem dX11_readsCarters_142 : decode cX11_readsCarters 142 = .ok (.getfield 133, 3) := by decide +kernel
theorem dX11_readsCarters_145 : decode cX11_readsCarters 145 = .ok (.iconst 1, 1) := by decide +kernel
theorem dX11_readsCarters_146 : decode cX11_readsCarters 146 = .ok (.iadd, 1) := by decide +kernel
theorem dX11_readsCarters_147 : decode cX11_readsCarters 147 = .ok (.putfield 133, 3) := by decide +kernel
theorem dX11_readsCarters_150 : decode cX11_readsCarters 150 = .ok (.iinc 2 1, 3) := by decide +kernel
theorem dX11_readsCarters_153 : decode cX11_readsCarters 153 = .ok (.goto (-139), 3) := by decide +kernel
theorem dX11_readsCarters_156 : decode cX11_readsCarters 156 = .ok (.iload_n 1, 1) := by decide +kernel
theorem dX11_readsCarters_157 : decode cX11_readsCarters 157 = .ok (.ifCond .le 19, 3) := by decide +kernel
theorem dX11_readsCarters_160 : decode cX11_readsCarters 160 = .ok (.iload_n 1, 1) := by decide +kernel
theorem dX11_readsCarters_161 : decode cX11_readsCarters 161 = .ok (.bipush 7, 2) := by decide +kernel
theorem dX11_readsCarters_163 : decode cX11_readsCarters 163 = .ok (.irem, 1) := by decide +kernel
theorem dX11_readsCarters_164 : decode cX11_readsCarters 164 = .ok (.bipush 6, 2) := by decide +kernel
theorem dX11_readsCarters_166 : decode cX11_readsCarters 166 = .ok (.if_icmp .eq 10, 3) := by decide +kernel
theorem dX11_readsCarters_169 : decode cX11_readsCarters 169 = .ok (.aload_n 0, 1) := by decide +kernel
theorem dX11_readsCarters_170 : decode cX11_readsCarters 170 = .ok (.iconst 0, 1) := by decide +kernel
theorem dX11_readsCarters_171 : decode cX11_readsCarters 171 = .ok (.putfield 133, 3) := by decide +kernel
theorem dX11_readsCarters_174 : decode cX11_readsCarters 174 = .ok (.iload_n 1, 1) := by decide +kernel
theorem dX11_readsCarters_175 : decode cX11_readsCarters 175 = .ok (.ireturn, 1) := by decide +kernel
theorem dX11_readsCarters_176 : decode cX11_readsCarters 176 = .ok (.iconst (-1), 1) := by decide +kernel
theorem dX11_readsCarters_177 : decode cX11_readsCarters 177 = .ok (.ireturn, 1) := by decide +kernel
theorem dX11_readsText_0 : decode cX11_readsText 0 = .ok (.iload_n 1, 1) := by decide +kernel
theorem dX11_readsText_1 : decode cX11_readsText 1 = .ok (.ifCond .ne 10, 3) := by decide +kernel
theorem dX11_readsText_4 : decode cX11_readsText 4 = .ok (.aload_n 0, 1) := by decide +kernel
theorem dX11_readsText_5 : decode cX11_readsText 5 = .ok (.invokevirtual 139, 3) := by decide +kernel
theorem dX11_readsText_8 : decode cX11_readsText 8 = .ok (.goto 7, 3) := by decide +kernel
theorem dX11_readsText_11 : decode cX11_readsText 11 = .ok (.aload_n 0, 1) := by decide +kernel
theorem dX11_readsText_12 : decode cX11_readsText 12 = .ok (.invokevirtual 143, 3) := by decide +kernel
theorem dX11_readsText_15 : decode cX11_readsText 15 = .ok (.ireturn, 1) := by decide +kernel
theorem dX11_fault_0 : decode cX11_fault 0 = .ok (.iload_n 1, 1) := by decide +kernel
theorem dX11_fault_1 : decode cX11_fault 1 = .ok (.invokestatic 110, 3) := by decide +kernel
theorem dX11_fault_4 : decode cX11_fault 4 = .ok (.ifCond .eq 11, 3) := by decide +kernel
theorem dX11_fault_7 : decode cX11_fault 7 = .ok (.aload_n 0, 1) := by decide +kernel
theorem dX11_fault_8 : decode cX11_fault 8 = .ok (.iload_n 1, 1) := by decide +kernel
theorem dX11_fault_9 : decode cX11_fault 9 = .ok (.invokevirtual 146, 3) := by decide +kernel
theorem dX11_fault_12 : decode cX11_fault 12 = .ok (.goto 5, 3) := by decide +kernel
theorem dX11_fault_15 : decode cX11_fault 15 = .ok (.bipush (-2), 2) := by decide +kernel
theorem dX11_fault_17 : decode cX11_fault 17 = .ok (.ireturn, 1) := by decide +kernel
theorem dX11_isCarter_0 : decode cX11_isCarter 0 = .ok (.iload_n 1, 1) := by decide +kernel
theorem dX11_isCarter_1 : decode cX11_isCarter 1 = .ok (.i2l, 1) := by decide +kernel
theorem dX11_isCarter_2 : decode cX11_isCarter 2 = .ok (.lconst 0, 1) := by decide +kernel
theorem dX11_isCarter_3 : decode cX11_isCarter 3 = .ok (.aload_n 0, 1) := by decide +kernel
theorem dX11_isCarter_4 : decode cX11_isCarter 4 = .ok (.getfield 133, 3) := by decide +kernel
theorem dX11_isCarter_7 : decode cX11_isCarter 7 = .ok (.iconst 1, 1) := by decide +kernel
theorem dX11_isCarter_8 : decode cX11_isCarter 8 = .ok (.isub, 1) := by decide +kernel
theorem dX11_isCarter_9 : decode cX11_isCarter 9 = .ok (.i2l, 1) := by decide +kernel
theorem dX11_isCarter_10 : decode cX11_isCarter 10 = .ok (.invokestatic 81, 3) := by decide +kernel
theorem dX11_isCarter_13 : decode cX11_isCarter 13 = .ok (.ireturn, 1) := by decide +kernel
theorem dX11_isHour_0 : decode cX11_isHour 0 = .ok (.iload_n 0, 1) := by decide +kernel
theorem dX11_isHour_1 : decode cX11_isHour 1 = .ok (.i2l, 1) := by decide +kernel
theorem dX11_isHour_2 : decode cX11_isHour 2 = .ok (.lconst 0, 1) := by decide +kernel
theorem dX11_isHour_3 : decode cX11_isHour 3 = .ok (.ldc2_w 149, 3) := by decide +kernel
theorem dX11_isHour_6 : decode cX11_isHour 6 = .ok (.invokestatic 81, 3) := by decide +kernel
theorem dX11_isHour_9 : decode cX11_isHour 9 = .ok (.ireturn, 1) := by decide +kernel
theorem dX11_isPlace_0 : decode cX11_isPlace 0 = .ok (.iload_n 0, 1) := by decide +kernel
theorem dX11_isPlace_1 : decode cX11_isPlace 1 = .ok (.i2l, 1) := by decide +kernel
theorem dX11_isPlace_2 : decode cX11_isPlace 2 = .ok (.lconst 0, 1) := by decide +kernel
theorem dX11_isPlace_3 : decode cX11_isPlace 3 = .ok (.ldc2_w 151, 3) := by decide +kernel
theorem dX11_isPlace_6 : decode cX11_isPlace 6 = .ok (.invokestatic 81, 3) := by decide +kernel
theorem dX11_isPlace_9 : decode cX11_isPlace 9 = .ok (.ireturn, 1) := by decide +kernel
theorem dX11_way_0 : decode cX11_way 0 = .ok (.aload_n 0, 1) := by decide +kernel
theorem dX11_way_1 : decode cX11_way 1 = .ok (.invokevirtual 139, 3) := by decide +kernel
theorem dX11_way_4 : decode cX11_way 4 = .ok (.pop, 1) := by decide +kernel
theorem dX11_way_5 : decode cX11_way 5 = .ok (.iload_n 1, 1) := by decide +kernel
theorem dX11_way_6 : decode cX11_way 6 = .ok (.i2l, 1) := by decide +kernel
theorem dX11_way_7 : decode cX11_way 7 = .ok (.lconst 0, 1) := by decide +kernel
theorem dX11_way_8 : decode cX11_way 8 = .ok (.aload_n 0, 1) := by decide +kernel
theorem dX11_way_9 : decode cX11_way 9 = .ok (.getfield 127, 3) := by decide +kernel
theorem dX11_way_12 : decode cX11_way 12 = .ok (.iconst 1, 1) := by decide +kernel
theorem dX11_way_13 : decode cX11_way 13 = .ok (.isub, 1) := by decide +kernel
theorem dX11_way_14 : decode cX11_way 14 = .ok (.i2l, 1) := by decide +kernel
theorem dX11_way_15 : decode cX11_way 15 = .ok (.invokestatic 81, 3) := by decide +kernel
theorem dX11_way_18 : decode cX11_way 18 = .ok (.ifCond .eq 28, 3) := by decide +kernel
theorem dX11_way_21 : decode cX11_way 21 = .ok (.iload_n 2, 1) := by decide +kernel
theorem dX11_way_22 : decode cX11_way 22 = .ok (.i2l, 1) := by decide +kernel
theorem dX11_way_23 : decode cX11_way 23 = .ok (.lconst 0, 1) := by decide +kernel
theorem dX11_way_24 : decode cX11_way 24 = .ok (.ldc2_w 89, 3) := by decide +kernel
theorem dX11_way_27 : decode cX11_way 27 = .ok (.invokestatic 81, 3) := by decide +kernel
theorem dX11_way_30 : decode cX11_way 30 = .ok (.ifCond .eq 16, 3) := by decide +kernel
theorem dX11_way_33 : decode cX11_way 33 = .ok (.aload_n 0, 1) := by decide +kernel
theorem dX11_way_34 : decode cX11_way 34 = .ok (.getfield 28, 3) := by decide +kernel
theorem dX11_way_37 : decode cX11_way 37 = .ok (.iconst 4, 1) := by decide +kernel
theorem dX11_way_38 : decode cX11_way 38 = .ok (.iload_n 1, 1) := by decide +kernel
theorem dX11_way_39 : decode cX11_way 39 = .ok (.imul, 1) := by decide +kernel
theorem dX11_way_40 : decode cX11_way 40 = .ok (.iload_n 2, 1) := by decide +kernel
theorem dX11_way_41 : decode cX11_way 41 = .ok (.iadd, 1) := by decide +kernel
theorem dX11_way_42 : decode cX11_way 42 = .ok (.iaload, 1) := by decide +kernel
theorem dX11_way_43 : decode cX11_way 43 = .ok (.goto 5, 3) := by decide +kernel
theorem dX11_way_46 : decode cX11_way 46 = .ok (.bipush (-2), 2) := by decide +kernel
theorem dX11_way_48 : decode cX11_way 48 = .ok (.ireturn, 1) := by decide +kernel
theorem dX11_carter_0 : decode cX11_carter 0 = .ok (.aload_n 0, 1) := by decide +kernel
theorem dX11_carter_1 : decode cX11_carter 1 = .ok (.invokevirtual 143, 3) := by decide +kernel
theorem dX11_carter_4 : decode cX11_carter 4 = .ok (.pop, 1) := by decide +kernel
theorem dX11_carter_5 : decode cX11_carter 5 = .ok (.aload_n 0, 1) := by decide +kernel
theorem dX11_carter_6 : decode cX11_carter 6 = .ok (.iload_n 1, 1) := by decide +kernel
theorem dX11_carter_7 : decode cX11_carter 7 = .ok (.invokevirtual 153, 3) := by decide +kernel
theorem dX11_carter_10 : decode cX11_carter 10 = .ok (.ifCond .eq 28, 3) := by decide +kernel
theorem dX11_carter_13 : decode cX11_carter 13 = .ok (.iload_n 2, 1) := by decide +kernel
theorem dX11_carter_14 : decode cX11_carter 14 = .ok (.i2l, 1) := by decide +kernel
theorem dX11_carter_15 : decode cX11_carter 15 = .ok (.lconst 0, 1) := by decide +kernel
theorem dX11_carter_16 : decode cX11_carter 16 = .ok (.ldc2_w 156, 3) := by decide +kernel
theorem dX11_carter_19 : decode cX11_carter 19 = .ok (.invokestatic 81, 3) := by decide +kernel
theorem dX11_carter_22 : decode cX11_carter 22 = .ok (.ifCond .eq 16, 3) := by decide +kernel
theorem dX11_carter_25 : decode cX11_carter 25 = .ok (.aload_n 0, 1) := by decide +kernel
theorem dX11_carter_26 : decode cX11_carter 26 = .ok (.getfield 31, 3) := by decide +kernel
theorem dX11_carter_29 : decode cX11_carter 29 = .ok (.iconst 5, 1) := by decide +kernel
theorem dX11_carter_30 : decode cX11_carter 30 = .ok (.iload_n 1, 1) := by decide +kernel
theorem dX11_carter_31 : decode cX11_carter 31 = .ok (.imul, 1) := by decide +kernel
theorem dX11_carter_32 : decode cX11_carter 32 = .ok (.iload_n 2, 1) := by decide +kernel
theorem dX11_carter_33 : decode cX11_carter 33 = .ok (.iadd, 1) := by decide +kernel
theorem dX11_carter_34 : decode cX11_carter 34 = .ok (.iaload, 1) := by decide +kernel
theorem dX11_carter_35 : decode cX11_carter 35 = .ok (.goto 5, 3) := by decide +kernel
theorem dX11_carter_38 : decode cX11_carter 38 = .ok (.bipush (-2), 2) := by decide +kernel
theorem dX11_carter_40 : decode cX11_carter 40 = .ok (.ireturn, 1) := by decide +kernel
theorem dX11_late_0 : decode cX11_late 0 = .ok (.iload_n 1, 1) := by decide +kernel
theorem dX11_late_1 : decode cX11_late 1 = .ok (.i2l, 1) := by decide +kernel
theorem dX11_late_2 : decode cX11_late 2 = .ok (.lconst 0, 1) := by decide +kernel
theorem dX11_late_3 : decode cX11_late 3 = .ok (.ldc2_w 151, 3) := by decide +kernel
theorem dX11_late_6 : decode cX11_late 6 = .ok (.invokestatic 81, 3) := by decide +kernel
theorem dX11_late_9 : decode cX11_late 9 = .ok (.ifCond .eq 15, 3) := by decide +kernel
theorem dX11_late_12 : decode cX11_late 12 = .ok (.iload_n 2, 1) := by decide +kernel
theorem dX11_late_13 : decode cX11_late 13 = .ok (.i2l, 1) := by decide +kernel
theorem dX11_late_14 : decode cX11_late 14 = .ok (.lconst 0, 1) := by decide +kernel
theorem dX11_late_15 : decode cX11_late 15 = .ok (.ldc2_w 158, 3) := by decide +kernel
theorem dX11_late_18 : decode cX11_late 18 = .ok (.invokestatic 81, 3) := by decide +kernel
theorem dX11_late_21 : decode cX11_late 21 = .ok (.ifCond .ne 6, 3) := by decide +kernel
theorem dX11_late_24 : decode cX11_late 24 = .ok (.bipush (-2), 2) := by decide +kernel
theorem dX11_late_26 : decode cX11_late 26 = .ok (.ireturn, 1) := by decide +kernel
theorem dX11_late_27 : decode cX11_late 27 = .ok (.aload_n 0, 1) := by decide +kernel
theorem dX11_late_28 : decode cX11_late 28 = .ok (.getfield 34, 3) := by decide +kernel
theorem dX11_late_31 : decode cX11_late 31 = .ok (.iload_n 1, 1) := by decide +kernel
theorem dX11_late_32 : decode cX11_late 32 = .ok (.iaload, 1) := by decide +kernel
theorem dX11_late_33 : decode cX11_late 33 = .ok (.istore_n 3, 1) := by decide +kernel
theorem dX11_late_34 : decode cX11_late 34 = .ok (.aload_n 0, 1) := by decide +kernel
theorem dX11_late_35 : decode cX11_late 35 = .ok (.getfield 34, 3) := by decide +kernel
theorem dX11_late_38 : decode cX11_late 38 = .ok (.iload_n 1, 1) := by decide +kernel
theorem dX11_late_39 : decode cX11_late 39 = .ok (.iload_n 2, 1) := by decide +kernel
theorem dX11_late_40 : decode cX11_late 40 = .ok (.iastore, 1) := by decide +kernel
theorem dX11_late_41 : decode cX11_late 41 = .ok (.iload_n 3, 1) := by decide +kernel
theorem dX11_late_42 : decode cX11_late 42 = .ok (.ireturn, 1) := by decide +kernel
theorem dX11_answer_0 : decode cX11_answer 0 = .ok (.iload_n 1, 1) := by decide +kernel
theorem dX11_answer_1 : decode cX11_answer 1 = .ok (.invokestatic 160, 3) := by decide +kernel
theorem dX11_answer_4 : decode cX11_answer 4 = .ok (.ifCond .eq 10, 3) := by decide +kernel
theorem dX11_answer_7 : decode cX11_answer 7 = .ok (.iload_n 2, 1) := by decide +kernel
theorem dX11_answer_8 : decode cX11_answer 8 = .ok (.invokestatic 163, 3) := by decide +kernel
theorem dX11_answer_11 : decode cX11_answer 11 = .ok (.ifCond .ne 6, 3) := by decide +kernel
theorem dX11_answer_14 : decode cX11_answer 14 = .ok (.bipush (-2), 2) := by decide +kernel
theorem dX11_answer_16 : decode cX11_answer 16 = .ok (.ireturn, 1) := by decide +kernel
theorem dX11_answer_17 : decode cX11_answer 17 = .ok (.aload_n 0, 1) := by decide +kernel
theorem dX11_answer_18 : decode cX11_answer 18 = .ok (.getfield 166, 3) := by decide +kernel
theorem dX11_answer_21 : decode cX11_answer 21 = .ok (.bipush 8, 2) := by decide +kernel
theorem dX11_answer_23 : decode cX11_answer 23 = .ok (.if_icmp .ne 6, 3) := by decide +kernel
theorem dX11_answer_26 : decode cX11_answer 26 = .ok (.bipush (-4), 2) := by decide +kernel
theorem dX11_answer_28 : decode cX11_answer 28 = .ok (.ireturn, 1) := by decide +kernel
theorem dX11_answer_29 : decode cX11_answer 29 = .ok (.aload_n 0, 1) := by decide +kernel
theorem dX11_answer_30 : decode cX11_answer 30 = .ok (.getfield 37, 3) := by decide +kernel
theorem dX11_answer_33 : decode cX11_answer 33 = .ok (.iconst 2, 1) := by decide +kernel
theorem dX11_answer_34 : decode cX11_answer 34 = .ok (.aload_n 0, 1) := by decide +kernel
theorem dX11_answer_35 : decode cX11_answer 35 = .ok (.getfield 166, 3) := by decide +kernel
theorem dX11_answer_38 : decode cX11_answer 38 = .ok (.imul, 1) := by decide +kernel
theorem dX11_answer_39 : decode cX11_answer 39 = .ok (.iload_n 1, 1) := by decide +kernel
theorem dX11_answer_40 : decode cX11_answer 40 = .ok (.iastore, 1) := by decide +kernel
theorem dX11_answer_41 : decode cX11_answer 41 = .ok (.aload_n 0, 1) := by decide +kernel
theorem dX11_answer_42 : decode cX11_answer 42 = .ok (.getfield 37, 3) := by decide +kernel
theorem dX11_answer_45 : decode cX11_answer 45 = .ok (.iconst 2, 1) := by decide +kernel
theorem dX11_answer_46 : decode cX11_answer 46 = .ok (.aload_n 0, 1) := by decide +kernel
theorem dX11_answer_47 : decode cX11_answer 47 = .ok (.getfield 166, 3) := by decide +kernel
theorem dX11_answer_50 : decode cX11_answer 50 = .ok (.imul, 1) := by decide +kernel
theorem dX11_answer_51 : decode cX11_answer 51 = .ok (.iconst 1, 1) := by decide +kernel
theorem dX11_answer_52 : decode cX11_answer 52 = .ok (.iadd, 1) := by decide +kernel
theorem dX11_answer_53 : decode cX11_answer 53 = .ok (.iload_n 2, 1) := by decide +kernel
theorem dX11_answer_54 : decode cX11_answer 54 = .ok (.iastore, 1) := by decide +kernel
theorem dX11_answer_55 : decode cX11_answer 55 = .ok (.aload_n 0, 1) := by decide +kernel
theorem dX11_answer_56 : decode cX11_answer 56 = .ok (.dup, 1) := by decide +kernel
theorem dX11_answer_57 : decode cX11_answer 57 = .ok (.getfield 166, 3) := by decide +kernel
theorem dX11_answer_60 : decode cX11_answer 60 = .ok (.iconst 1, 1) := by decide +kernel
theorem dX11_answer_61 : decode cX11_answer 61 = .ok (.iadd, 1) := by decide +kernel
theorem dX11_answer_62 : decode cX11_answer 62 = .ok (.putfield 166, 3) := by decide +kernel
theorem dX11_answer_65 : decode cX11_answer 65 = .ok (.aload_n 0, 1) := by decide +kernel
theorem dX11_answer_66 : decode cX11_answer 66 = .ok (.getfield 166, 3) := by decide +kernel
theorem dX11_answer_69 : decode cX11_answer 69 = .ok (.ireturn, 1) := by decide +kernel
theorem dX11_back_0 : decode cX11_back 0 = .ok (.aload_n 0, 1) := by decide +kernel
theorem dX11_back_1 : decode cX11_back 1 = .ok (.getfield 166, 3) := by decide +kernel
theorem dX11_back_4 : decode cX11_back 4 = .ok (.ifCond .ne 6, 3) := by decide +kernel
theorem dX11_back_7 : decode cX11_back 7 = .ok (.bipush (-3), 2) := by decide +kernel
theorem dX11_back_9 : decode cX11_back 9 = .ok (.ireturn, 1) := by decide +kernel
theorem dX11_back_10 : decode cX11_back 10 = .ok (.aload_n 0, 1) := by decide +kernel
theorem dX11_back_11 : decode cX11_back 11 = .ok (.dup, 1) := by decide +kernel
theorem dX11_back_12 : decode cX11_back 12 = .ok (.getfield 166, 3) := by decide +kernel
theorem dX11_back_15 : decode cX11_back 15 = .ok (.iconst 1, 1) := by decide +kernel
theorem dX11_back_16 : decode cX11_back 16 = .ok (.isub, 1) := by decide +kernel
theorem dX11_back_17 : decode cX11_back 17 = .ok (.putfield 166, 3) := by decide +kernel
theorem dX11_back_20 : decode cX11_back 20 = .ok (.aload_n 0, 1) := by decide +kernel
theorem dX11_back_21 : decode cX11_back 21 = .ok (.getfield 166, 3) := by decide +kernel
theorem dX11_back_24 : decode cX11_back 24 = .ok (.ireturn, 1) := by decide +kernel
theorem dX11_read_0 : decode cX11_read 0 = .ok (.iload_n 1, 1) := by decide +kernel
theorem dX11_read_1 : decode cX11_read 1 = .ok (.invokestatic 91, 3) := by decide +kernel
theorem dX11_read_4 : decode cX11_read 4 = .ok (.ifCond .ne 6, 3) := by decide +kernel
theorem dX11_read_7 : decode cX11_read 7 = .ok (.bipush (-2), 2) := by decide +kernel
theorem dX11_read_9 : decode cX11_read 9 = .ok (.ireturn, 1) := by decide +kernel
theorem dX11_read_10 : decode cX11_read 10 = .ok (.aload_n 0, 1) := by decide +kernel
theorem dX11_read_11 : decode cX11_read 11 = .ok (.getfield 7, 3) := by decide +kernel
theorem dX11_read_14 : decode cX11_read 14 = .ok (.iload_n 1, 1) := by decide +kernel
theorem dX11_read_15 : decode cX11_read 15 = .ok (.iaload, 1) := by decide +kernel
theorem dX11_read_16 : decode cX11_read 16 = .ok (.ifCond .ge 9, 3) := by decide +kernel
theorem dX11_read_19 : decode cX11_read 19 = .ok (.aload_n 0, 1) := by decide +kernel
theorem dX11_read_20 : decode cX11_read 20 = .ok (.iconst 1, 1) := by decide +kernel
theorem dX11_read_21 : decode cX11_read 21 = .ok (.invokevirtual 97, 3) := by decide +kernel
theorem dX11_read_24 : decode cX11_read 24 = .ok (.ireturn, 1) := by decide +kernel
theorem dX11_read_25 : decode cX11_read 25 = .ok (.iconst 0, 1) := by decide +kernel
theorem dX11_read_26 : decode cX11_read 26 = .ok (.istore_n 2, 1) := by decide +kernel
theorem dX11_read_27 : decode cX11_read 27 = .ok (.iconst 1, 1) := by decide +kernel
theorem dX11_read_28 : decode cX11_read 28 = .ok (.istore_n 3, 1) := by decide +kernel
theorem dX11_read_29 : decode cX11_read 29 = .ok (.iload_n 3, 1) := by decide +kernel
theorem dX11_read_30 : decode cX11_read 30 = .ok (.ifCond .eq 73, 3) := by decide +kernel
theorem dX11_read_33 : decode cX11_read 33 = .ok (.iconst 2, 1) := by decide +kernel
theorem dX11_read_34 : decode cX11_read 34 = .ok (.iload_n 2, 1) := by decide +kernel
theorem dX11_read_35 : decode cX11_read 35 = .ok (.imul, 1) := by decide +kernel
theorem dX11_read_36 : decode cX11_read 36 = .ok (.iconst 2, 1) := by decide +kernel
theorem dX11_read_37 : decode cX11_read 37 = .ok (.iadd, 1) := by decide +kernel
theorem dX11_read_38 : decode cX11_read 38 = .ok (.aload_n 0, 1) := by decide +kernel
theorem dX11_read_39 : decode cX11_read 39 = .ok (.getfield 13, 3) := by decide +kernel
theorem dX11_read_42 : decode cX11_read 42 = .ok (.iload_n 1, 1) := by decide +kernel
theorem dX11_read_43 : decode cX11_read 43 = .ok (.iaload, 1) := by decide +kernel
theorem dX11_read_44 : decode cX11_read 44 = .ok (.if_icmp .gt 59, 3) := by decide +kernel
theorem dX11_read_47 : decode cX11_read 47 = .ok (.aload_n 0, 1) := by decide +kernel
theorem dX11_read_48 : decode cX11_read 48 = .ok (.aload_n 0, 1) := by decide +kernel
theorem dX11_read_49 : decode cX11_read 49 = .ok (.getfield 16, 3) := by decide +kernel
theorem dX11_read_52 : decode cX11_read 52 = .ok (.bipush 60, 2) := by decide +kernel
theorem dX11_read_54 : decode cX11_read 54 = .ok (.iload_n 1, 1) := by decide +kernel
theorem dX11_read_55 : decode cX11_read 55 = .ok (.imul, 1) := by decide +kernel
theorem dX11_read_56 : decode cX11_read 56 = .ok (.iconst 2, 1) := by decide +kernel
theorem dX11_read_57 : decode cX11_read 57 = .ok (.iload_n 2, 1) := by decide +kernel
theorem dX11_read_58 : decode cX11_read 58 = .ok (.imul, 1) := by decide +kernel
theorem dX11_read_59 : decode cX11_read 59 = .ok (.iadd, 1) := by decide +kernel
theorem dX11_read_60 : decode cX11_read 60 = .ok (.iaload, 1) := by decide +kernel
theorem dX11_read_61 : decode cX11_read 61 = .ok (.aload_n 0, 1) := by decide +kernel
theorem dX11_read_62 : decode cX11_read 62 = .ok (.getfield 16, 3) := by decide +kernel
theorem dX11_read_65 : decode cX11_read 65 = .ok (.bipush 60, 2) := by decide +kernel
theorem dX11_read_67 : decode cX11_read 67 = .ok (.iload_n 1, 1) := by decide +kernel
theorem dX11_read_68 : decode cX11_read 68 = .ok (.imul, 1) := by decide +kernel
theorem dX11_read_69 : decode cX11_read 69 = .ok (.iconst 2, 1) := by decide +kernel
theorem dX11_read_70 : decode cX11_read 70 = .ok (.iload_n 2, 1) := by decide +kernel
theorem dX11_read_71 : decode cX11_read 71 = .ok (.imul, 1) := by decide +kernel
theorem dX11_read_72 : decode cX11_read 72 = .ok (.iadd, 1) := by decide +kernel
theorem dX11_read_73 : decode cX11_read 73 = .ok (.iconst 1, 1) := by decide +kernel
theorem dX11_read_74 : decode cX11_read 74 = .ok (.iadd, 1) := by decide +kernel
theorem dX11_read_75 : decode cX11_read 75 = .ok (.iaload, 1) := by decide +kernel
theorem dX11_read_76 : decode cX11_read 76 = .ok (.invokevirtual 169, 3) := by decide +kernel
theorem dX11_read_79 : decode cX11_read 79 = .ok (.ifCond .lt 7, 3) := by decide +kernel
theorem dX11_read_82 : decode cX11_read 82 = .ok (.iconst 1, 1) := by decide +kernel
theorem dX11_read_83 : decode cX11_read 83 = .ok (.goto 4, 3) := by decide +kernel
theorem dX11_read_86 : decode cX11_read 86 = .ok (.iconst 0, 1) := by decide +kernel
theorem dX11_read_87 : decode cX11_read 87 = .ok (.istore_n 3, 1) := by decide +kernel
theorem dX11_read_88 : decode cX11_read 88 = .ok (.iload_n 2, 1) := by decide +kernel
theorem dX11_read_89 : decode cX11_read 89 = .ok (.iload_n 3, 1) := by decide +kernel
theorem dX11_read_90 : decode cX11_read 90 = .ok (.ifCond .eq 7, 3) := by decide +kernel
theorem dX11_read_93 : decode cX11_read 93 = .ok (.iconst 1, 1) := by decide +kernel
theorem dX11_read_94 : decode cX11_read 94 = .ok (.goto 4, 3) := by decide +kernel
theorem dX11_read_97 : decode cX11_read 97 = .ok (.iconst 0, 1) := by decide +kernel
theorem dX11_read_98 : decode cX11_read 98 = .ok (.iadd, 1) := by decide +kernel
theorem dX11_read_99 : decode cX11_read 99 = .ok (.istore_n 2, 1) := by decide +kernel
theorem dX11_read_100 : decode cX11_read 100 = .ok (.goto (-71), 3) := by decide +kernel
theorem dX11_read_103 : decode cX11_read 103 = .ok (.iload_n 2, 1) := by decide +kernel
theorem dX11_read_104 : decode cX11_read 104 = .ok (.ireturn, 1) := by decide +kernel
theorem dX11_maps_0 : decode cX11_maps 0 = .ok (.iconst 0, 1) := by decide +kernel
theorem dX11_maps_1 : decode cX11_maps 1 = .ok (.istore_n 1, 1) := by decide +kernel
theorem dX11_maps_2 : decode cX11_maps 2 = .ok (.iload_n 1, 1) := by decide +kernel
theorem dX11_maps_3 : decode cX11_maps 3 = .ok (.bipush 64, 2) := by decide +kernel
theorem dX11_maps_5 : decode cX11_maps 5 = .ok (.if_icmp .ge 18, 3) := by decide +kernel
theorem dX11_maps_8 : decode cX11_maps 8 = .ok (.aload_n 0, 1) := by decide +kernel
theorem dX11_maps_9 : decode cX11_maps 9 = .ok (.getfield 40, 3) := by decide +kernel
theorem dX11_maps_12 : decode cX11_maps 12 = .ok (.iload_n 1, 1) := by decide +kernel
theorem dX11_maps_13 : decode cX11_maps 13 = .ok (.sipush 9999, 3) := by decide +kernel
theorem dX11_maps_16 : decode cX11_maps 16 = .ok (.iastore, 1) := by decide +kernel
theorem dX11_maps_17 : decode cX11_maps 17 = .ok (.iinc 1 1, 3) := by decide +kernel
theorem dX11_maps_20 : decode cX11_maps 20 = .ok (.goto (-18), 3) := by decide +kernel
theorem dX11_maps_23 : decode cX11_maps 23 = .ok (.iconst 0, 1) := by decide +kernel
theorem dX11_maps_24 : decode cX11_maps 24 = .ok (.istore_n 1, 1) := by decide +kernel
theorem dX11_maps_25 : decode cX11_maps 25 = .ok (.iload_n 1, 1) := by decide +kernel
theorem dX11_maps_26 : decode cX11_maps 26 = .ok (.aload_n 0, 1) := by decide +kernel
theorem dX11_maps_27 : decode cX11_maps 27 = .ok (.getfield 127, 3) := by decide +kernel
theorem dX11_maps_30 : decode cX11_maps 30 = .ok (.if_icmp .ge 133, 3) := by decide +kernel
theorem dX11_maps_33 : decode cX11_maps 33 = .ok (.aload_n 0, 1) := by decide +kernel
theorem dX11_maps_34 : decode cX11_maps 34 = .ok (.getfield 28, 3) := by decide +kernel
theorem dX11_maps_37 : decode cX11_maps 37 = .ok (.iconst 4, 1) := by decide +kernel
theorem dX11_maps_38 : decode cX11_maps 38 = .ok (.iload_n 1, 1) := by decide +kernel
theorem dX11_maps_39 : decode cX11_maps 39 = .ok (.imul, 1) := by decide +kernel
theorem dX11_maps_40 : decode cX11_maps 40 = .ok (.iaload, 1) := by decide +kernel
theorem dX11_maps_41 : decode cX11_maps 41 = .ok (.istore_n 2, 1) := by decide +kernel
theorem dX11_maps_42 : decode cX11_maps 42 = .ok (.aload_n 0, 1) := by decide +kernel
theorem dX11_maps_43 : decode cX11_maps 43 = .ok (.getfield 28, 3) := by decide +kernel
theorem dX11_maps_46 : decode cX11_maps 46 = .ok (.iconst 4, 1) := by decide +kernel
theorem dX11_maps_47 : decode cX11_maps 47 = .ok (.iload_n 1, 1) := by decide +kernel
theorem dX11_maps_48 : decode cX11_maps 48 = .ok (.imul, 1) := by decide +kernel
theorem dX11_maps_49 : decode cX11_maps 49 = .ok (.iconst 1, 1) := by decide +kernel
theorem dX11_maps_50 : decode cX11_maps 50 = .ok (.iadd, 1) := by decide +kernel
theorem dX11_maps_51 : decode cX11_maps 51 = .ok (.iaload, 1) := by decide +kernel
theorem dX11_maps_52 : decode cX11_maps 52 = .ok (.istore_n 3, 1) := by decide +kernel
theorem dX11_maps_53 : decode cX11_maps 53 = .ok (.aload_n 0, 1) := by decide +kernel
theorem dX11_maps_54 : decode cX11_maps 54 = .ok (.getfield 28, 3) := by decide +kernel
theorem dX11_maps_57 : decode cX11_maps 57 = .ok (.iconst 4, 1) := by decide +kernel
theorem dX11_maps_58 : decode cX11_maps 58 = .ok (.iload_n 1, 1) := by decide +kernel
theorem dX11_maps_59 : decode cX11_maps 59 = .ok (.imul, 1) := by decide +kernel
theorem dX11_maps_60 : decode cX11_maps 60 = .ok (.iconst 2, 1) := by decide +kernel
theorem dX11_maps_61 : decode cX11_maps 61 = .ok (.iadd, 1) := by decide +kernel
theorem dX11_maps_62 : decode cX11_maps 62 = .ok (.iaload, 1) := by decide +kernel
theorem dX11_maps_63 : decode cX11_maps 63 = .ok (.iconst 3, 1) := by decide +kernel
theorem dX11_maps_64 : decode cX11_maps 64 = .ok (.aload_n 0, 1) := by decide +kernel
theorem dX11_maps_65 : decode cX11_maps 65 = .ok (.getfield 28, 3) := by decide +kernel
theorem dX11_maps_68 : decode cX11_maps 68 = .ok (.iconst 4, 1) := by decide +kernel
theorem dX11_maps_69 : decode cX11_maps 69 = .ok (.iload_n 1, 1) := by decide +kernel
theorem dX11_maps_70 : decode cX11_maps 70 = .ok (.imul, 1) := by decide +kernel
theorem dX11_maps_71 : decode cX11_maps 71 = .ok (.iconst 3, 1) := by decide +kernel
theorem dX11_maps_72 : decode cX11_maps 72 = .ok (.iadd, 1) := by decide +kernel
theorem dX11_maps_73 : decode cX11_maps 73 = .ok (.iaload, 1) := by decide +kernel
theorem dX11_maps_74 : decode cX11_maps 74 = .ok (.isub, 1) := by decide +kernel
theorem dX11_maps_75 : decode cX11_maps 75 = .ok (.imul, 1) := by decide +kernel
theorem dX11_maps_76 : decode cX11_maps 76 = .ok (.istore 4, 2) := by decide +kernel
theorem dX11_maps_78 : decode cX11_maps 78 = .ok (.aload_n 0, 1) := by decide +kernel
theorem dX11_maps_79 : decode cX11_maps 79 = .ok (.getfield 28, 3) := by decide +kernel
theorem dX11_maps_82 : decode cX11_maps 82 = .ok (.iconst 4, 1) := by decide +kernel
theorem dX11_maps_83 : decode cX11_maps 83 = .ok (.iload_n 1, 1) := by decide +kernel
theorem dX11_maps_84 : decode cX11_maps 84 = .ok (.imul, 1) := by decide +kernel
theorem dX11_maps_85 : decode cX11_maps 85 = .ok (.iconst 2, 1) := by decide +kernel
theorem dX11_maps_86 : decode cX11_maps 86 = .ok (.iadd, 1) := by decide +kernel
theorem dX11_maps_87 : decode cX11_maps 87 = .ok (.iaload, 1) := by decide +kernel
theorem dX11_maps_88 : decode cX11_maps 88 = .ok (.iconst 1, 1) := by decide +kernel
theorem dX11_maps_89 : decode cX11_maps 89 = .ok (.aload_n 0, 1) := by decide +kernel
theorem dX11_maps_90 : decode cX11_maps 90 = .ok (.getfield 28, 3) := by decide +kernel
theorem dX11_maps_93 : decode cX11_maps 93 = .ok (.iconst 4, 1) := by decide +kernel
theorem dX11_maps_94 : decode cX11_maps 94 = .ok (.iload_n 1, 1) := by decide +kernel
theorem dX11_maps_95 : decode cX11_maps 95 = .ok (.imul, 1) := by decide +kernel
theorem dX11_maps_96 : decode cX11_maps 96 = .ok (.iconst 3, 1) := by decide +kernel
theorem dX11_maps_97 : decode cX11_maps 97 = .ok (.iadd, 1) := by decide +kernel
theorem dX11_maps_98 : decode cX11_maps 98 = .ok (.iaload, 1) := by decide +kernel
theorem dX11_maps_99 : decode cX11_maps 99 = .ok (.iadd, 1) := by decide +kernel
theorem dX11_maps_100 : decode cX11_maps 100 = .ok (.imul, 1) := by decide +kernel
theorem dX11_maps_101 : decode cX11_maps 101 = .ok (.istore 5, 2) := by decide +kernel
theorem dX11_maps_103 : decode cX11_maps 103 = .ok (.aload_n 0, 1) := by decide +kernel
theorem dX11_maps_104 : decode cX11_maps 104 = .ok (.getfield 40, 3) := by decide +kernel
theorem dX11_maps_107 : decode cX11_maps 107 = .ok (.bipush 8, 2) := by decide +kernel
theorem dX11_maps_109 : decode cX11_maps 109 = .ok (.iload_n 2, 1) := by decide +kernel
theorem dX11_maps_110 : decode cX11_maps 110 = .ok (.imul, 1) := by decide +kernel
theorem dX11_maps_111 : decode cX11_maps 111 = .ok (.iload_n 3, 1) := by decide +kernel
theorem dX11_maps_112 : decode cX11_maps 112 = .ok (.iadd, 1) := by decide +kernel
theorem dX11_maps_113 : decode cX11_maps 113 = .ok (.iload 4, 2) := by decide +kernel
theorem dX11_maps_115 : decode cX11_maps 115 = .ok (.aload_n 0, 1) := by decide +kernel
theorem dX11_maps_116 : decode cX11_maps 116 = .ok (.getfield 40, 3) := by decide +kernel
theorem dX11_maps_119 : decode cX11_maps 119 = .ok (.bipush 8, 2) := by decide +kernel
theorem dX11_maps_121 : decode cX11_maps 121 = .ok (.iload_n 2, 1) := by decide +kernel
theorem dX11_maps_122 : decode cX11_maps 122 = .ok (.imul, 1) := by decide +kernel
theorem dX11_maps_123 : decode cX11_maps 123 = .ok (.iload_n 3, 1) := by decide +kernel
theorem dX11_maps_124 : decode cX11_maps 124 = .ok (.iadd, 1) := by decide +kernel
theorem dX11_maps_125 : decode cX11_maps 125 = .ok (.iaload, 1) := by decide +kernel
theorem dX11_maps_126 : decode cX11_maps 126 = .ok (.invokestatic 171, 3) := by decide +kernel
theorem dX11_maps_129 : decode cX11_maps 129 = .ok (.iastore, 1) := by decide +kernel
theorem dX11_maps_130 : decode cX11_maps 130 = .ok (.aload_n 0, 1) := by decide +kernel
theorem dX11_maps_131 : decode cX11_maps 131 = .ok (.getfield 40, 3) := by decide +kernel
theorem dX11_maps_134 : decode cX11_maps 134 = .ok (.bipush 8, 2) := by decide +kernel
theorem dX11_maps_136 : decode cX11_maps 136 = .ok (.iload_n 3, 1) := by decide +kernel
theorem dX11_maps_137 : decode cX11_maps 137 = .ok (.imul, 1) := by decide +kernel
theorem dX11_maps_138 : decode cX11_maps 138 = .ok (.iload_n 2, 1) := by decide +kernel
theorem dX11_maps_139 : decode cX11_maps 139 = .ok (.iadd, 1) := by decide +kernel
theorem dX11_maps_140 : decode cX11_maps 140 = .ok (.iload 5, 2) := by decide +kernel
theorem dX11_maps_142 : decode cX11_maps 142 = .ok (.aload_n 0, 1) := by decide +kernel
theorem dX11_maps_143 : decode cX11_maps 143 = .ok (.getfield 40, 3) := by decide +kernel
theorem dX11_maps_146 : decode cX11_maps 146 = .ok (.bipush 8, 2) := by decide +kernel
theorem dX11_maps_148 : decode cX11_maps 148 = .ok (.iload_n 3, 1) := by decide +kernel
theorem dX11_maps_149 : decode cX11_maps 149 = .ok (.imul, 1) := by decide +kernel
theorem dX11_maps_150 : decode cX11_maps 150 = .ok (.iload_n 2, 1) := by decide +kernel
theorem dX11_maps_151 : decode cX11_maps 151 = .ok (.iadd, 1) := by decide +kernel
theorem dX11_maps_152 : decode cX11_maps 152 = .ok (.iaload, 1) := by decide +kernel
theorem dX11_maps_153 : decode cX11_maps 153 = .ok (.invokestatic 171, 3) := by decide +kernel
theorem dX11_maps_156 : decode cX11_maps 156 = .ok (.iastore, 1) := by decide +kernel
theorem dX11_maps_157 : decode cX11_maps 157 = .ok (.iinc 1 1, 3) := by decide +kernel
theorem dX11_maps_160 : decode cX11_maps 160 = .ok (.goto (-135), 3) := by decide +kernel
theorem dX11_maps_163 : decode cX11_maps 163 = .ok (.iconst 0, 1) := by decide +kernel
theorem dX11_maps_164 : decode cX11_maps 164 = .ok (.istore_n 1, 1) := by decide +kernel
theorem dX11_maps_165 : decode cX11_maps 165 = .ok (.iload_n 1, 1) := by decide +kernel
theorem dX11_maps_166 : decode cX11_maps 166 = .ok (.bipush 64, 2) := by decide +kernel
theorem dX11_maps_168 : decode cX11_maps 168 = .ok (.if_icmp .ge 36, 3) := by decide +kernel
theorem dX11_maps_171 : decode cX11_maps 171 = .ok (.aload_n 0, 1) := by decide +kernel
theorem dX11_maps_172 : decode cX11_maps 172 = .ok (.getfield 43, 3) := by decide +kernel
theorem dX11_maps_175 : decode cX11_maps 175 = .ok (.iload_n 1, 1) := by decide +kernel
theorem dX11_maps_176 : decode cX11_maps 176 = .ok (.iload_n 1, 1) := by decide +kernel
theorem dX11_maps_177 : decode cX11_maps 177 = .ok (.bipush 8, 2) := by decide +kernel
theorem dX11_maps_179 : decode cX11_maps 179 = .ok (.idiv, 1) := by decide +kernel
theorem dX11_maps_180 : decode cX11_maps 180 = .ok (.iload_n 1, 1) := by decide +kernel
theorem dX11_maps_181 : decode cX11_maps 181 = .ok (.bipush 8, 2) := by decide +kernel
theorem dX11_maps_183 : decode cX11_maps 183 = .ok (.irem, 1) := by decide +kernel
theorem dX11_maps_184 : decode cX11_maps 184 = .ok (.if_icmp .ne 7, 3) := by decide +kernel
theorem dX11_maps_187 : decode cX11_maps 187 = .ok (.iconst 0, 1) := by decide +kernel
theorem dX11_maps_188 : decode cX11_maps 188 = .ok (.goto 9, 3) := by decide +kernel
theorem dX11_maps_191 : decode cX11_maps 191 = .ok (.aload_n 0, 1) := by decide +kernel
theorem dX11_maps_192 : decode cX11_maps 192 = .ok (.getfield 40, 3) := by decide +kernel
theorem dX11_maps_195 : decode cX11_maps 195 = .ok (.iload_n 1, 1) := by decide +kernel
theorem dX11_maps_196 : decode cX11_maps 196 = .ok (.iaload, 1) := by decide +kernel
theorem dX11_maps_197 : decode cX11_maps 197 = .ok (.iastore, 1) := by decide +kernel
theorem dX11_maps_198 : decode cX11_maps 198 = .ok (.iinc 1 1, 3) := by decide +kernel
theorem dX11_maps_201 : decode cX11_maps 201 = .ok (.goto (-36), 3) := by decide +kernel
theorem dX11_maps_204 : decode cX11_maps 204 = .ok (.iconst 0, 1) := by decide +kernel
theorem dX11_maps_205 : decode cX11_maps 205 = .ok (.istore_n 1, 1) := by decide +kernel
theorem dX11_maps_206 : decode cX11_maps 206 = .ok (.iload_n 1, 1) := by decide +kernel
theorem dX11_maps_207 : decode cX11_maps 207 = .ok (.bipush 8, 2) := by decide +kernel
theorem dX11_maps_209 : decode cX11_maps 209 = .ok (.if_icmp .ge 67, 3) := by decide +kernel
theorem dX11_maps_212 : decode cX11_maps 212 = .ok (.iconst 0, 1) := by decide +kernel
theorem dX11_maps_213 : decode cX11_maps 213 = .ok (.istore_n 2, 1) := by decide +kernel
theorem dX11_maps_214 : decode cX11_maps 214 = .ok (.iload_n 2, 1) := by decide +kernel
theorem dX11_maps_215 : decode cX11_maps 215 = .ok (.bipush 64, 2) := by decide +kernel
theorem dX11_maps_217 : decode cX11_maps 217 = .ok (.if_icmp .ge 53, 3) := by decide +kernel
theorem dX11_maps_220 : decode cX11_maps 220 = .ok (.aload_n 0, 1) := by decide +kernel
theorem dX11_maps_221 : decode cX11_maps 221 = .ok (.getfield 43, 3) := by decide +kernel
theorem dX11_maps_224 : decode cX11_maps 224 = .ok (.iload_n 2, 1) := by decide +kernel
theorem dX11_maps_225 : decode cX11_maps 225 = .ok (.aload_n 0, 1) := by decide +kernel
theorem dX11_maps_226 : decode cX11_maps 226 = .ok (.getfield 43, 3) := by decide +kernel
theorem dX11_maps_229 : decode cX11_maps 229 = .ok (.bipush 8, 2) := by decide +kernel
theorem dX11_maps_231 : decode cX11_maps 231 = .ok (.iload_n 2, 1) := by decide +kernel
theorem dX11_maps_232 : decode cX11_maps 232 = .ok (.bipush 8, 2) := by decide +kernel
theorem dX11_maps_234 : decode cX11_maps 234 = .ok (.idiv, 1) := by decide +kernel
theorem dX11_maps_235 : decode cX11_maps 235 = .ok (.imul, 1) := by decide +kernel
theorem dX11_maps_236 : decode cX11_maps 236 = .ok (.iload_n 1, 1) := by decide +kernel
