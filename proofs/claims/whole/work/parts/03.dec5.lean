theorem dX11_maps_237 : decode cX11_maps 237 = .ok (.iadd, 1) := by decide +kernel
theorem dX11_maps_238 : decode cX11_maps 238 = .ok (.iaload, 1) := by decide +kernel
theorem dX11_maps_239 : decode cX11_maps 239 = .ok (.aload_n 0, 1) := by decide +kernel
theorem dX11_maps_240 : decode cX11_maps 240 = .ok (.getfield 43, 3) := by decide +kernel
theorem dX11_maps_243 : decode cX11_maps 243 = .ok (.bipush 8, 2) := by decide +kernel
theorem dX11_maps_245 : decode cX11_maps 245 = .ok (.iload_n 1, 1) := by decide +kernel
theorem dX11_maps_246 : decode cX11_maps 246 = .ok (.imul, 1) := by decide +kernel
theorem dX11_maps_247 : decode cX11_maps 247 = .ok (.iload_n 2, 1) := by decide +kernel
theorem dX11_maps_248 : decode cX11_maps 248 = .ok (.bipush 8, 2) := by decide +kernel
theorem dX11_maps_250 : decode cX11_maps 250 = .ok (.irem, 1) := by decide +kernel
theorem dX11_maps_251 : decode cX11_maps 251 = .ok (.iadd, 1) := by decide +kernel
theorem dX11_maps_252 : decode cX11_maps 252 = .ok (.iaload, 1) := by decide +kernel
theorem dX11_maps_253 : decode cX11_maps 253 = .ok (.iadd, 1) := by decide +kernel
theorem dX11_maps_254 : decode cX11_maps 254 = .ok (.aload_n 0, 1) := by decide +kernel
theorem dX11_maps_255 : decode cX11_maps 255 = .ok (.getfield 43, 3) := by decide +kernel
theorem dX11_maps_258 : decode cX11_maps 258 = .ok (.iload_n 2, 1) := by decide +kernel
theorem dX11_maps_259 : decode cX11_maps 259 = .ok (.iaload, 1) := by decide +kernel
theorem dX11_maps_260 : decode cX11_maps 260 = .ok (.invokestatic 171, 3) := by decide +kernel
theorem dX11_maps_263 : decode cX11_maps 263 = .ok (.iastore, 1) := by decide +kernel
theorem dX11_maps_264 : decode cX11_maps 264 = .ok (.iinc 2 1, 3) := by decide +kernel
theorem dX11_maps_267 : decode cX11_maps 267 = .ok (.goto (-53), 3) := by decide +kernel
theorem dX11_maps_270 : decode cX11_maps 270 = .ok (.iinc 1 1, 3) := by decide +kernel
theorem dX11_maps_273 : decode cX11_maps 273 = .ok (.goto (-67), 3) := by decide +kernel
theorem dX11_maps_276 : decode cX11_maps 276 = .ok (.return_, 1) := by decide +kernel
theorem dX11_next_0 : decode cX11_next 0 = .ok (.iconst 0, 1) := by decide +kernel
theorem dX11_next_1 : decode cX11_next 1 = .ok (.istore_n 3, 1) := by decide +kernel
theorem dX11_next_2 : decode cX11_next 2 = .ok (.iload_n 3, 1) := by decide +kernel
theorem dX11_next_3 : decode cX11_next 3 = .ok (.bipush 8, 2) := by decide +kernel
theorem dX11_next_5 : decode cX11_next 5 = .ok (.if_icmp .ge 65, 3) := by decide +kernel
theorem dX11_next_8 : decode cX11_next 8 = .ok (.aload_n 0, 1) := by decide +kernel
theorem dX11_next_9 : decode cX11_next 9 = .ok (.getfield 40, 3) := by decide +kernel
theorem dX11_next_12 : decode cX11_next 12 = .ok (.bipush 8, 2) := by decide +kernel
theorem dX11_next_14 : decode cX11_next 14 = .ok (.iload_n 1, 1) := by decide +kernel
theorem dX11_next_15 : decode cX11_next 15 = .ok (.imul, 1) := by decide +kernel
theorem dX11_next_16 : decode cX11_next 16 = .ok (.iload_n 3, 1) := by decide +kernel
theorem dX11_next_17 : decode cX11_next 17 = .ok (.iadd, 1) := by decide +kernel
theorem dX11_next_18 : decode cX11_next 18 = .ok (.iaload, 1) := by decide +kernel
theorem dX11_next_19 : decode cX11_next 19 = .ok (.sipush 9999, 3) := by decide +kernel
theorem dX11_next_22 : decode cX11_next 22 = .ok (.if_icmp .ge 42, 3) := by decide +kernel
theorem dX11_next_25 : decode cX11_next 25 = .ok (.aload_n 0, 1) := by decide +kernel
theorem dX11_next_26 : decode cX11_next 26 = .ok (.getfield 40, 3) := by decide +kernel
theorem dX11_next_29 : decode cX11_next 29 = .ok (.bipush 8, 2) := by decide +kernel
theorem dX11_next_31 : decode cX11_next 31 = .ok (.iload_n 1, 1) := by decide +kernel
theorem dX11_next_32 : decode cX11_next 32 = .ok (.imul, 1) := by decide +kernel
theorem dX11_next_33 : decode cX11_next 33 = .ok (.iload_n 3, 1) := by decide +kernel
theorem dX11_next_34 : decode cX11_next 34 = .ok (.iadd, 1) := by decide +kernel
theorem dX11_next_35 : decode cX11_next 35 = .ok (.iaload, 1) := by decide +kernel
theorem dX11_next_36 : decode cX11_next 36 = .ok (.aload_n 0, 1) := by decide +kernel
theorem dX11_next_37 : decode cX11_next 37 = .ok (.getfield 43, 3) := by decide +kernel
theorem dX11_next_40 : decode cX11_next 40 = .ok (.bipush 8, 2) := by decide +kernel
theorem dX11_next_42 : decode cX11_next 42 = .ok (.iload_n 3, 1) := by decide +kernel
theorem dX11_next_43 : decode cX11_next 43 = .ok (.imul, 1) := by decide +kernel
theorem dX11_next_44 : decode cX11_next 44 = .ok (.iload_n 2, 1) := by decide +kernel
theorem dX11_next_45 : decode cX11_next 45 = .ok (.iadd, 1) := by decide +kernel
theorem dX11_next_46 : decode cX11_next 46 = .ok (.iaload, 1) := by decide +kernel
theorem dX11_next_47 : decode cX11_next 47 = .ok (.iadd, 1) := by decide +kernel
theorem dX11_next_48 : decode cX11_next 48 = .ok (.aload_n 0, 1) := by decide +kernel
theorem dX11_next_49 : decode cX11_next 49 = .ok (.getfield 43, 3) := by decide +kernel
theorem dX11_next_52 : decode cX11_next 52 = .ok (.bipush 8, 2) := by decide +kernel
theorem dX11_next_54 : decode cX11_next 54 = .ok (.iload_n 1, 1) := by decide +kernel
theorem dX11_next_55 : decode cX11_next 55 = .ok (.imul, 1) := by decide +kernel
theorem dX11_next_56 : decode cX11_next 56 = .ok (.iload_n 2, 1) := by decide +kernel
theorem dX11_next_57 : decode cX11_next 57 = .ok (.iadd, 1) := by decide +kernel
theorem dX11_next_58 : decode cX11_next 58 = .ok (.iaload, 1) := by decide +kernel
theorem dX11_next_59 : decode cX11_next 59 = .ok (.if_icmp .ne 5, 3) := by decide +kernel
theorem dX11_next_62 : decode cX11_next 62 = .ok (.iload_n 3, 1) := by decide +kernel
theorem dX11_next_63 : decode cX11_next 63 = .ok (.ireturn, 1) := by decide +kernel
theorem dX11_next_64 : decode cX11_next 64 = .ok (.iinc 3 1, 3) := by decide +kernel
theorem dX11_next_67 : decode cX11_next 67 = .ok (.goto (-65), 3) := by decide +kernel
theorem dX11_next_70 : decode cX11_next 70 = .ok (.iconst (-1), 1) := by decide +kernel
theorem dX11_next_71 : decode cX11_next 71 = .ok (.ireturn, 1) := by decide +kernel
theorem dX11_isAnswer_0 : decode cX11_isAnswer 0 = .ok (.iconst 0, 1) := by decide +kernel
theorem dX11_isAnswer_1 : decode cX11_isAnswer 1 = .ok (.istore_n 3, 1) := by decide +kernel
theorem dX11_isAnswer_2 : decode cX11_isAnswer 2 = .ok (.iconst 0, 1) := by decide +kernel
theorem dX11_isAnswer_3 : decode cX11_isAnswer 3 = .ok (.istore 4, 2) := by decide +kernel
theorem dX11_isAnswer_5 : decode cX11_isAnswer 5 = .ok (.iload 4, 2) := by decide +kernel
theorem dX11_isAnswer_7 : decode cX11_isAnswer 7 = .ok (.aload_n 0, 1) := by decide +kernel
theorem dX11_isAnswer_8 : decode cX11_isAnswer 8 = .ok (.getfield 166, 3) := by decide +kernel
theorem dX11_isAnswer_11 : decode cX11_isAnswer 11 = .ok (.if_icmp .ge 59, 3) := by decide +kernel
theorem dX11_isAnswer_14 : decode cX11_isAnswer 14 = .ok (.iload_n 3, 1) := by decide +kernel
theorem dX11_isAnswer_15 : decode cX11_isAnswer 15 = .ok (.ifCond .ne 43, 3) := by decide +kernel
theorem dX11_isAnswer_18 : decode cX11_isAnswer 18 = .ok (.aload_n 0, 1) := by decide +kernel
theorem dX11_isAnswer_19 : decode cX11_isAnswer 19 = .ok (.getfield 37, 3) := by decide +kernel
theorem dX11_isAnswer_22 : decode cX11_isAnswer 22 = .ok (.iconst 2, 1) := by decide +kernel
theorem dX11_isAnswer_23 : decode cX11_isAnswer 23 = .ok (.iload 4, 2) := by decide +kernel
theorem dX11_isAnswer_25 : decode cX11_isAnswer 25 = .ok (.imul, 1) := by decide +kernel
theorem dX11_isAnswer_26 : decode cX11_isAnswer 26 = .ok (.iaload, 1) := by decide +kernel
theorem dX11_isAnswer_27 : decode cX11_isAnswer 27 = .ok (.iload_n 1, 1) := by decide +kernel
theorem dX11_isAnswer_28 : decode cX11_isAnswer 28 = .ok (.if_icmp .ne 34, 3) := by decide +kernel
theorem dX11_isAnswer_31 : decode cX11_isAnswer 31 = .ok (.aload_n 0, 1) := by decide +kernel
theorem dX11_isAnswer_32 : decode cX11_isAnswer 32 = .ok (.getfield 37, 3) := by decide +kernel
theorem dX11_isAnswer_35 : decode cX11_isAnswer 35 = .ok (.iconst 2, 1) := by decide +kernel
theorem dX11_isAnswer_36 : decode cX11_isAnswer 36 = .ok (.iload 4, 2) := by decide +kernel
theorem dX11_isAnswer_38 : decode cX11_isAnswer 38 = .ok (.imul, 1) := by decide +kernel
theorem dX11_isAnswer_39 : decode cX11_isAnswer 39 = .ok (.iconst 1, 1) := by decide +kernel
theorem dX11_isAnswer_40 : decode cX11_isAnswer 40 = .ok (.iadd, 1) := by decide +kernel
theorem dX11_isAnswer_41 : decode cX11_isAnswer 41 = .ok (.iaload, 1) := by decide +kernel
theorem dX11_isAnswer_42 : decode cX11_isAnswer 42 = .ok (.iload_n 2, 1) := by decide +kernel
theorem dX11_isAnswer_43 : decode cX11_isAnswer 43 = .ok (.if_icmp .ne 19, 3) := by decide +kernel
theorem dX11_isAnswer_46 : decode cX11_isAnswer 46 = .ok (.aload_n 0, 1) := by decide +kernel
theorem dX11_isAnswer_47 : decode cX11_isAnswer 47 = .ok (.getfield 174, 3) := by decide +kernel
theorem dX11_isAnswer_50 : decode cX11_isAnswer 50 = .ok (.iload 4, 2) := by decide +kernel
theorem dX11_isAnswer_52 : decode cX11_isAnswer 52 = .ok (.invokestatic 177, 3) := by decide +kernel
theorem dX11_isAnswer_55 : decode cX11_isAnswer 55 = .ok (.ifCond .ne 7, 3) := by decide +kernel
theorem dX11_isAnswer_58 : decode cX11_isAnswer 58 = .ok (.iconst 1, 1) := by decide +kernel
theorem dX11_isAnswer_59 : decode cX11_isAnswer 59 = .ok (.goto 4, 3) := by decide +kernel
theorem dX11_isAnswer_62 : decode cX11_isAnswer 62 = .ok (.iconst 0, 1) := by decide +kernel
theorem dX11_isAnswer_63 : decode cX11_isAnswer 63 = .ok (.istore_n 3, 1) := by decide +kernel
theorem dX11_isAnswer_64 : decode cX11_isAnswer 64 = .ok (.iinc 4 1, 3) := by decide +kernel
theorem dX11_isAnswer_67 : decode cX11_isAnswer 67 = .ok (.goto (-62), 3) := by decide +kernel
theorem dX11_isAnswer_70 : decode cX11_isAnswer 70 = .ok (.iload_n 3, 1) := by decide +kernel
theorem dX11_isAnswer_71 : decode cX11_isAnswer 71 = .ok (.ireturn, 1) := by decide +kernel
theorem dX11_isTold_0 : decode cX11_isTold 0 = .ok (.aload_n 0, 1) := by decide +kernel
theorem dX11_isTold_1 : decode cX11_isTold 1 = .ok (.getfield 31, 3) := by decide +kernel
theorem dX11_isTold_4 : decode cX11_isTold 4 = .ok (.iconst 5, 1) := by decide +kernel
theorem dX11_isTold_5 : decode cX11_isTold 5 = .ok (.iload_n 1, 1) := by decide +kernel
theorem dX11_isTold_6 : decode cX11_isTold 6 = .ok (.imul, 1) := by decide +kernel
theorem dX11_isTold_7 : decode cX11_isTold 7 = .ok (.iconst 2, 1) := by decide +kernel
theorem dX11_isTold_8 : decode cX11_isTold 8 = .ok (.iadd, 1) := by decide +kernel
theorem dX11_isTold_9 : decode cX11_isTold 9 = .ok (.iaload, 1) := by decide +kernel
theorem dX11_isTold_10 : decode cX11_isTold 10 = .ok (.istore 4, 2) := by decide +kernel
theorem dX11_isTold_12 : decode cX11_isTold 12 = .ok (.iload 4, 2) := by decide +kernel
theorem dX11_isTold_14 : decode cX11_isTold 14 = .ok (.iconst 2, 1) := by decide +kernel
theorem dX11_isTold_15 : decode cX11_isTold 15 = .ok (.if_icmp .ge 32, 3) := by decide +kernel
theorem dX11_isTold_18 : decode cX11_isTold 18 = .ok (.aload_n 0, 1) := by decide +kernel
theorem dX11_isTold_19 : decode cX11_isTold 19 = .ok (.iload_n 2, 1) := by decide +kernel
theorem dX11_isTold_20 : decode cX11_isTold 20 = .ok (.iload_n 3, 1) := by decide +kernel
theorem dX11_isTold_21 : decode cX11_isTold 21 = .ok (.invokevirtual 181, 3) := by decide +kernel
theorem dX11_isTold_24 : decode cX11_isTold 24 = .ok (.ifCond .ne 19, 3) := by decide +kernel
theorem dX11_isTold_27 : decode cX11_isTold 27 = .ok (.iload 4, 2) := by decide +kernel
theorem dX11_isTold_29 : decode cX11_isTold 29 = .ok (.iconst 1, 1) := by decide +kernel
theorem dX11_isTold_30 : decode cX11_isTold 30 = .ok (.if_icmp .ne 17, 3) := by decide +kernel
theorem dX11_isTold_33 : decode cX11_isTold 33 = .ok (.aload_n 0, 1) := by decide +kernel
theorem dX11_isTold_34 : decode cX11_isTold 34 = .ok (.getfield 67, 3) := by decide +kernel
theorem dX11_isTold_37 : decode cX11_isTold 37 = .ok (.iload_n 3, 1) := by decide +kernel
theorem dX11_isTold_38 : decode cX11_isTold 38 = .ok (.iaload, 1) := by decide +kernel
theorem dX11_isTold_39 : decode cX11_isTold 39 = .ok (.iconst 1, 1) := by decide +kernel
theorem dX11_isTold_40 : decode cX11_isTold 40 = .ok (.if_icmp .le 7, 3) := by decide +kernel
theorem dX11_isTold_43 : decode cX11_isTold 43 = .ok (.iconst 1, 1) := by decide +kernel
theorem dX11_isTold_44 : decode cX11_isTold 44 = .ok (.goto 4, 3) := by decide +kernel
theorem dX11_isTold_47 : decode cX11_isTold 47 = .ok (.iconst 0, 1) := by decide +kernel
theorem dX11_isTold_48 : decode cX11_isTold 48 = .ok (.ireturn, 1) := by decide +kernel
theorem dX11_stays_0 : decode cX11_stays 0 = .ok (.aload_n 0, 1) := by decide +kernel
theorem dX11_stays_1 : decode cX11_stays 1 = .ok (.getfield 46, 3) := by decide +kernel
theorem dX11_stays_4 : decode cX11_stays 4 = .ok (.iload_n 1, 1) := by decide +kernel
theorem dX11_stays_5 : decode cX11_stays 5 = .ok (.iload_n 3, 1) := by decide +kernel
theorem dX11_stays_6 : decode cX11_stays 6 = .ok (.iastore, 1) := by decide +kernel
theorem dX11_stays_7 : decode cX11_stays 7 = .ok (.aload_n 0, 1) := by decide +kernel
theorem dX11_stays_8 : decode cX11_stays 8 = .ok (.getfield 61, 3) := by decide +kernel
theorem dX11_stays_11 : decode cX11_stays 11 = .ok (.iload_n 1, 1) := by decide +kernel
theorem dX11_stays_12 : decode cX11_stays 12 = .ok (.iload_n 2, 1) := by decide +kernel
theorem dX11_stays_13 : decode cX11_stays 13 = .ok (.iastore, 1) := by decide +kernel
theorem dX11_stays_14 : decode cX11_stays 14 = .ok (.aload_n 0, 1) := by decide +kernel
theorem dX11_stays_15 : decode cX11_stays 15 = .ok (.getfield 55, 3) := by decide +kernel
theorem dX11_stays_18 : decode cX11_stays 18 = .ok (.iload_n 1, 1) := by decide +kernel
theorem dX11_stays_19 : decode cX11_stays 19 = .ok (.iconst (-1), 1) := by decide +kernel
theorem dX11_stays_20 : decode cX11_stays 20 = .ok (.iastore, 1) := by decide +kernel
theorem dX11_stays_21 : decode cX11_stays 21 = .ok (.return_, 1) := by decide +kernel
theorem dX11_goesOn_0 : decode cX11_goesOn 0 = .ok (.aload_n 0, 1) := by decide +kernel
theorem dX11_goesOn_1 : decode cX11_goesOn 1 = .ok (.getfield 49, 3) := by decide +kernel
theorem dX11_goesOn_4 : decode cX11_goesOn 4 = .ok (.iload_n 1, 1) := by decide +kernel
theorem dX11_goesOn_5 : decode cX11_goesOn 5 = .ok (.iaload, 1) := by decide +kernel
theorem dX11_goesOn_6 : decode cX11_goesOn 6 = .ok (.istore_n 3, 1) := by decide +kernel
theorem dX11_goesOn_7 : decode cX11_goesOn 7 = .ok (.aload_n 0, 1) := by decide +kernel
theorem dX11_goesOn_8 : decode cX11_goesOn 8 = .ok (.getfield 31, 3) := by decide +kernel
theorem dX11_goesOn_11 : decode cX11_goesOn 11 = .ok (.iconst 5, 1) := by decide +kernel
theorem dX11_goesOn_12 : decode cX11_goesOn 12 = .ok (.iload_n 1, 1) := by decide +kernel
theorem dX11_goesOn_13 : decode cX11_goesOn 13 = .ok (.imul, 1) := by decide +kernel
theorem dX11_goesOn_14 : decode cX11_goesOn 14 = .ok (.iconst 1, 1) := by decide +kernel
theorem dX11_goesOn_15 : decode cX11_goesOn 15 = .ok (.iadd, 1) := by decide +kernel
theorem dX11_goesOn_16 : decode cX11_goesOn 16 = .ok (.iaload, 1) := by decide +kernel
theorem dX11_goesOn_17 : decode cX11_goesOn 17 = .ok (.istore 4, 2) := by decide +kernel
theorem dX11_goesOn_19 : decode cX11_goesOn 19 = .ok (.iload_n 3, 1) := by decide +kernel
theorem dX11_goesOn_20 : decode cX11_goesOn 20 = .ok (.iload 4, 2) := by decide +kernel
theorem dX11_goesOn_22 : decode cX11_goesOn 22 = .ok (.if_icmp .ne 13, 3) := by decide +kernel
theorem dX11_goesOn_25 : decode cX11_goesOn 25 = .ok (.aload_n 0, 1) := by decide +kernel
theorem dX11_goesOn_26 : decode cX11_goesOn 26 = .ok (.iload_n 1, 1) := by decide +kernel
theorem dX11_goesOn_27 : decode cX11_goesOn 27 = .ok (.iload_n 2, 1) := by decide +kernel
theorem dX11_goesOn_28 : decode cX11_goesOn 28 = .ok (.iconst 2, 1) := by decide +kernel
theorem dX11_goesOn_29 : decode cX11_goesOn 29 = .ok (.invokevirtual 184, 3) := by decide +kernel
theorem dX11_goesOn_32 : decode cX11_goesOn 32 = .ok (.goto 159, 3) := by decide +kernel
theorem dX11_goesOn_35 : decode cX11_goesOn 35 = .ok (.aload_n 0, 1) := by decide +kernel
theorem dX11_goesOn_36 : decode cX11_goesOn 36 = .ok (.iload_n 1, 1) := by decide +kernel
theorem dX11_goesOn_37 : decode cX11_goesOn 37 = .ok (.iload_n 2, 1) := by decide +kernel
theorem dX11_goesOn_38 : decode cX11_goesOn 38 = .ok (.iload_n 3, 1) := by decide +kernel
theorem dX11_goesOn_39 : decode cX11_goesOn 39 = .ok (.invokevirtual 188, 3) := by decide +kernel
theorem dX11_goesOn_42 : decode cX11_goesOn 42 = .ok (.ifCond .eq 13, 3) := by decide +kernel
theorem dX11_goesOn_45 : decode cX11_goesOn 45 = .ok (.aload_n 0, 1) := by decide +kernel
theorem dX11_goesOn_46 : decode cX11_goesOn 46 = .ok (.iload_n 1, 1) := by decide +kernel
theorem dX11_goesOn_47 : decode cX11_goesOn 47 = .ok (.iload_n 2, 1) := by decide +kernel
theorem dX11_goesOn_48 : decode cX11_goesOn 48 = .ok (.iconst 3, 1) := by decide +kernel
theorem dX11_goesOn_49 : decode cX11_goesOn 49 = .ok (.invokevirtual 184, 3) := by decide +kernel
theorem dX11_goesOn_52 : decode cX11_goesOn 52 = .ok (.goto 139, 3) := by decide +kernel
theorem dX11_goesOn_55 : decode cX11_goesOn 55 = .ok (.aload_n 0, 1) := by decide +kernel
theorem dX11_goesOn_56 : decode cX11_goesOn 56 = .ok (.getfield 43, 3) := by decide +kernel
theorem dX11_goesOn_59 : decode cX11_goesOn 59 = .ok (.bipush 8, 2) := by decide +kernel
theorem dX11_goesOn_61 : decode cX11_goesOn 61 = .ok (.iload_n 3, 1) := by decide +kernel
theorem dX11_goesOn_62 : decode cX11_goesOn 62 = .ok (.imul, 1) := by decide +kernel
theorem dX11_goesOn_63 : decode cX11_goesOn 63 = .ok (.iload 4, 2) := by decide +kernel
theorem dX11_goesOn_65 : decode cX11_goesOn 65 = .ok (.iadd, 1) := by decide +kernel
theorem dX11_goesOn_66 : decode cX11_goesOn 66 = .ok (.iaload, 1) := by decide +kernel
theorem dX11_goesOn_67 : decode cX11_goesOn 67 = .ok (.sipush 9999, 3) := by decide +kernel
theorem dX11_goesOn_70 : decode cX11_goesOn 70 = .ok (.if_icmp .lt 13, 3) := by decide +kernel
theorem dX11_goesOn_73 : decode cX11_goesOn 73 = .ok (.aload_n 0, 1) := by decide +kernel
theorem dX11_goesOn_74 : decode cX11_goesOn 74 = .ok (.iload_n 1, 1) := by decide +kernel
theorem dX11_goesOn_75 : decode cX11_goesOn 75 = .ok (.iload_n 2, 1) := by decide +kernel
theorem dX11_goesOn_76 : decode cX11_goesOn 76 = .ok (.iconst 5, 1) := by decide +kernel
theorem dX11_goesOn_77 : decode cX11_goesOn 77 = .ok (.invokevirtual 184, 3) := by decide +kernel
theorem dX11_goesOn_80 : decode cX11_goesOn 80 = .ok (.goto 111, 3) := by decide +kernel
theorem dX11_goesOn_83 : decode cX11_goesOn 83 = .ok (.aload_n 0, 1) := by decide +kernel
theorem dX11_goesOn_84 : decode cX11_goesOn 84 = .ok (.iload_n 3, 1) := by decide +kernel
theorem dX11_goesOn_85 : decode cX11_goesOn 85 = .ok (.iload 4, 2) := by decide +kernel
theorem dX11_goesOn_87 : decode cX11_goesOn 87 = .ok (.invokevirtual 192, 3) := by decide +kernel
theorem dX11_goesOn_90 : decode cX11_goesOn 90 = .ok (.istore 5, 2) := by decide +kernel
theorem dX11_goesOn_92 : decode cX11_goesOn 92 = .ok (.aload_n 0, 1) := by decide +kernel
theorem dX11_goesOn_93 : decode cX11_goesOn 93 = .ok (.getfield 40, 3) := by decide +kernel
theorem dX11_goesOn_96 : decode cX11_goesOn 96 = .ok (.bipush 8, 2) := by decide +kernel
theorem dX11_goesOn_98 : decode cX11_goesOn 98 = .ok (.iload_n 3, 1) := by decide +kernel
theorem dX11_goesOn_99 : decode cX11_goesOn 99 = .ok (.imul, 1) := by decide +kernel
theorem dX11_goesOn_100 : decode cX11_goesOn 100 = .ok (.iload 5, 2) := by decide +kernel
theorem dX11_goesOn_102 : decode cX11_goesOn 102 = .ok (.iadd, 1) := by decide +kernel
theorem dX11_goesOn_103 : decode cX11_goesOn 103 = .ok (.iaload, 1) := by decide +kernel
theorem dX11_goesOn_104 : decode cX11_goesOn 104 = .ok (.aload_n 0, 1) := by decide +kernel
theorem dX11_goesOn_105 : decode cX11_goesOn 105 = .ok (.getfield 31, 3) := by decide +kernel
theorem dX11_goesOn_108 : decode cX11_goesOn 108 = .ok (.iconst 5, 1) := by decide +kernel
theorem dX11_goesOn_109 : decode cX11_goesOn 109 = .ok (.iload_n 1, 1) := by decide +kernel
theorem dX11_goesOn_110 : decode cX11_goesOn 110 = .ok (.imul, 1) := by decide +kernel
theorem dX11_goesOn_111 : decode cX11_goesOn 111 = .ok (.iconst 4, 1) := by decide +kernel
theorem dX11_goesOn_112 : decode cX11_goesOn 112 = .ok (.iadd, 1) := by decide +kernel
theorem dX11_goesOn_113 : decode cX11_goesOn 113 = .ok (.iaload, 1) := by decide +kernel
theorem dX11_goesOn_114 : decode cX11_goesOn 114 = .ok (.iadd, 1) := by decide +kernel
theorem dX11_goesOn_115 : decode cX11_goesOn 115 = .ok (.istore 6, 2) := by decide +kernel
theorem dX11_goesOn_117 : decode cX11_goesOn 117 = .ok (.aload_n 0, 1) := by decide +kernel
theorem dX11_goesOn_118 : decode cX11_goesOn 118 = .ok (.getfield 52, 3) := by decide +kernel
theorem dX11_goesOn_121 : decode cX11_goesOn 121 = .ok (.iload_n 1, 1) := by decide +kernel
theorem dX11_goesOn_122 : decode cX11_goesOn 122 = .ok (.iaload, 1) := by decide +kernel
theorem dX11_goesOn_123 : decode cX11_goesOn 123 = .ok (.iload 6, 2) := by decide +kernel
theorem dX11_goesOn_125 : decode cX11_goesOn 125 = .ok (.if_icmp .ge 13, 3) := by decide +kernel
theorem dX11_goesOn_128 : decode cX11_goesOn 128 = .ok (.aload_n 0, 1) := by decide +kernel
theorem dX11_goesOn_129 : decode cX11_goesOn 129 = .ok (.iload_n 1, 1) := by decide +kernel
theorem dX11_goesOn_130 : decode cX11_goesOn 130 = .ok (.iload_n 2, 1) := by decide +kernel
theorem dX11_goesOn_131 : decode cX11_goesOn 131 = .ok (.iconst 4, 1) := by decide +kernel
theorem dX11_goesOn_132 : decode cX11_goesOn 132 = .ok (.invokevirtual 184, 3) := by decide +kernel
theorem dX11_goesOn_135 : decode cX11_goesOn 135 = .ok (.goto 56, 3) := by decide +kernel
theorem dX11_goesOn_138 : decode cX11_goesOn 138 = .ok (.aload_n 0, 1) := by decide +kernel
theorem dX11_goesOn_139 : decode cX11_goesOn 139 = .ok (.getfield 52, 3) := by decide +kernel
theorem dX11_goesOn_142 : decode cX11_goesOn 142 = .ok (.iload_n 1, 1) := by decide +kernel
theorem dX11_goesOn_143 : decode cX11_goesOn 143 = .ok (.dup2, 1) := by decide +kernel
theorem dX11_goesOn_144 : decode cX11_goesOn 144 = .ok (.iaload, 1) := by decide +kernel
theorem dX11_goesOn_145 : decode cX11_goesOn 145 = .ok (.iload 6, 2) := by decide +kernel
theorem dX11_goesOn_147 : decode cX11_goesOn 147 = .ok (.isub, 1) := by decide +kernel
theorem dX11_goesOn_148 : decode cX11_goesOn 148 = .ok (.iastore, 1) := by decide +kernel
theorem dX11_goesOn_149 : decode cX11_goesOn 149 = .ok (.aload_n 0, 1) := by decide +kernel
theorem dX11_goesOn_150 : decode cX11_goesOn 150 = .ok (.getfield 46, 3) := by decide +kernel
theorem dX11_goesOn_153 : decode cX11_goesOn 153 = .ok (.iload_n 1, 1) := by decide +kernel
theorem dX11_goesOn_154 : decode cX11_goesOn 154 = .ok (.iconst 1, 1) := by decide +kernel
theorem dX11_goesOn_155 : decode cX11_goesOn 155 = .ok (.iastore, 1) := by decide +kernel
theorem dX11_goesOn_156 : decode cX11_goesOn 156 = .ok (.aload_n 0, 1) := by decide +kernel
theorem dX11_goesOn_157 : decode cX11_goesOn 157 = .ok (.getfield 49, 3) := by decide +kernel
theorem dX11_goesOn_160 : decode cX11_goesOn 160 = .ok (.iload_n 1, 1) := by decide +kernel
theorem dX11_goesOn_161 : decode cX11_goesOn 161 = .ok (.iconst (-1), 1) := by decide +kernel
theorem dX11_goesOn_162 : decode cX11_goesOn 162 = .ok (.iastore, 1) := by decide +kernel
theorem dX11_goesOn_163 : decode cX11_goesOn 163 = .ok (.aload_n 0, 1) := by decide +kernel
theorem dX11_goesOn_164 : decode cX11_goesOn 164 = .ok (.getfield 55, 3) := by decide +kernel
theorem dX11_goesOn_167 : decode cX11_goesOn 167 = .ok (.iload_n 1, 1) := by decide +kernel
theorem dX11_goesOn_168 : decode cX11_goesOn 168 = .ok (.iload 5, 2) := by decide +kernel
theorem dX11_goesOn_170 : decode cX11_goesOn 170 = .ok (.iastore, 1) := by decide +kernel
theorem dX11_goesOn_171 : decode cX11_goesOn 171 = .ok (.aload_n 0, 1) := by decide +kernel
theorem dX11_goesOn_172 : decode cX11_goesOn 172 = .ok (.getfield 58, 3) := by decide +kernel
theorem dX11_goesOn_175 : decode cX11_goesOn 175 = .ok (.iload_n 1, 1) := by decide +kernel
theorem dX11_goesOn_176 : decode cX11_goesOn 176 = .ok (.iload_n 2, 1) := by decide +kernel
theorem dX11_goesOn_177 : decode cX11_goesOn 177 = .ok (.aload_n 0, 1) := by decide +kernel
theorem dX11_goesOn_178 : decode cX11_goesOn 178 = .ok (.getfield 40, 3) := by decide +kernel
theorem dX11_goesOn_181 : decode cX11_goesOn 181 = .ok (.bipush 8, 2) := by decide +kernel
theorem dX11_goesOn_183 : decode cX11_goesOn 183 = .ok (.iload_n 3, 1) := by decide +kernel
theorem dX11_goesOn_184 : decode cX11_goesOn 184 = .ok (.imul, 1) := by decide +kernel
theorem dX11_goesOn_185 : decode cX11_goesOn 185 = .ok (.iload 5, 2) := by decide +kernel
theorem dX11_goesOn_187 : decode cX11_goesOn 187 = .ok (.iadd, 1) := by decide +kernel
theorem dX11_goesOn_188 : decode cX11_goesOn 188 = .ok (.iaload, 1) := by decide +kernel
theorem dX11_goesOn_189 : decode cX11_goesOn 189 = .ok (.iadd, 1) := by decide +kernel
theorem dX11_goesOn_190 : decode cX11_goesOn 190 = .ok (.iastore, 1) := by decide +kernel
theorem dX11_goesOn_191 : decode cX11_goesOn 191 = .ok (.return_, 1) := by decide +kernel
theorem dX11_gathers_0 : decode cX11_gathers 0 = .ok (.iconst 0, 1) := by decide +kernel
theorem dX11_gathers_1 : decode cX11_gathers 1 = .ok (.istore_n 2, 1) := by decide +kernel
theorem dX11_gathers_2 : decode cX11_gathers 2 = .ok (.iload_n 2, 1) := by decide +kernel
theorem dX11_gathers_3 : decode cX11_gathers 3 = .ok (.bipush 8, 2) := by decide +kernel
theorem dX11_gathers_5 : decode cX11_gathers 5 = .ok (.if_icmp .ge 16, 3) := by decide +kernel
theorem dX11_gathers_8 : decode cX11_gathers 8 = .ok (.aload_n 0, 1) := by decide +kernel
theorem dX11_gathers_9 : decode cX11_gathers 9 = .ok (.getfield 67, 3) := by decide +kernel
theorem dX11_gathers_12 : decode cX11_gathers 12 = .ok (.iload_n 2, 1) := by decide +kernel
theorem dX11_gathers_13 : decode cX11_gathers 13 = .ok (.iconst 0, 1) := by decide +kernel
theorem dX11_gathers_14 : decode cX11_gathers 14 = .ok (.iastore, 1) := by decide +kernel
theorem dX11_gathers_15 : decode cX11_gathers 15 = .ok (.iinc 2 1, 3) := by decide +kernel
theorem dX11_gathers_18 : decode cX11_gathers 18 = .ok (.goto (-16), 3) := by decide +kernel
theorem dX11_gathers_21 : decode cX11_gathers 21 = .ok (.iconst 0, 1) := by decide +kernel
theorem dX11_gathers_22 : decode cX11_gathers 22 = .ok (.istore_n 2, 1) := by decide +kernel
theorem dX11_gathers_23 : decode cX11_gathers 23 = .ok (.iload_n 2, 1) := by decide +kernel
theorem dX11_gathers_24 : decode cX11_gathers 24 = .ok (.aload_n 0, 1) := by decide +kernel
theorem dX11_gathers_25 : decode cX11_gathers 25 = .ok (.getfield 133, 3) := by decide +kernel
theorem dX11_gathers_28 : decode cX11_gathers 28 = .ok (.if_icmp .ge 71, 3) := by decide +kernel
theorem dX11_gathers_31 : decode cX11_gathers 31 = .ok (.aload_n 0, 1) := by decide +kernel
theorem dX11_gathers_32 : decode cX11_gathers 32 = .ok (.getfield 58, 3) := by decide +kernel
theorem dX11_gathers_35 : decode cX11_gathers 35 = .ok (.iload_n 2, 1) := by decide +kernel
theorem dX11_gathers_36 : decode cX11_gathers 36 = .ok (.iaload, 1) := by decide +kernel
theorem dX11_gathers_37 : decode cX11_gathers 37 = .ok (.iload_n 1, 1) := by decide +kernel
theorem dX11_gathers_38 : decode cX11_gathers 38 = .ok (.if_icmp .ne 30, 3) := by decide +kernel
theorem dX11_gathers_41 : decode cX11_gathers 41 = .ok (.aload_n 0, 1) := by decide +kernel
theorem dX11_gathers_42 : decode cX11_gathers 42 = .ok (.getfield 49, 3) := by decide +kernel
theorem dX11_gathers_45 : decode cX11_gathers 45 = .ok (.iload_n 2, 1) := by decide +kernel
theorem dX11_gathers_46 : decode cX11_gathers 46 = .ok (.aload_n 0, 1) := by decide +kernel
theorem dX11_gathers_47 : decode cX11_gathers 47 = .ok (.getfield 55, 3) := by decide +kernel
theorem dX11_gathers_50 : decode cX11_gathers 50 = .ok (.iload_n 2, 1) := by decide +kernel
theorem dX11_gathers_51 : decode cX11_gathers 51 = .ok (.iaload, 1) := by decide +kernel
theorem dX11_gathers_52 : decode cX11_gathers 52 = .ok (.iastore, 1) := by decide +kernel
theorem dX11_gathers_53 : decode cX11_gathers 53 = .ok (.aload_n 0, 1) := by decide +kernel
theorem dX11_gathers_54 : decode cX11_gathers 54 = .ok (.getfield 70, 3) := by decide +kernel
theorem dX11_gathers_57 : decode cX11_gathers 57 = .ok (.aload_n 0, 1) := by decide +kernel
theorem dX11_gathers_58 : decode cX11_gathers 58 = .ok (.getfield 49, 3) := by decide +kernel
theorem dX11_gathers_61 : decode cX11_gathers 61 = .ok (.iload_n 2, 1) := by decide +kernel
theorem dX11_gathers_62 : decode cX11_gathers 62 = .ok (.iaload, 1) := by decide +kernel
theorem dX11_gathers_63 : decode cX11_gathers 63 = .ok (.dup2, 1) := by decide +kernel
theorem dX11_gathers_64 : decode cX11_gathers 64 = .ok (.iaload, 1) := by decide +kernel
theorem dX11_gathers_65 : decode cX11_gathers 65 = .ok (.iconst 1, 1) := by decide +kernel
theorem dX11_gathers_66 : decode cX11_gathers 66 = .ok (.iadd, 1) := by decide +kernel
theorem dX11_gathers_67 : decode cX11_gathers 67 = .ok (.iastore, 1) := by decide +kernel
theorem dX11_gathers_68 : decode cX11_gathers 68 = .ok (.aload_n 0, 1) := by decide +kernel
theorem dX11_gathers_69 : decode cX11_gathers 69 = .ok (.getfield 49, 3) := by decide +kernel
theorem dX11_gathers_72 : decode cX11_gathers 72 = .ok (.iload_n 2, 1) := by decide +kernel
theorem dX11_gathers_73 : decode cX11_gathers 73 = .ok (.iaload, 1) := by decide +kernel
theorem dX11_gathers_74 : decode cX11_gathers 74 = .ok (.iconst (-1), 1) := by decide +kernel
theorem dX11_gathers_75 : decode cX11_gathers 75 = .ok (.if_icmp .eq 18, 3) := by decide +kernel
theorem dX11_gathers_78 : decode cX11_gathers 78 = .ok (.aload_n 0, 1) := by decide +kernel
theorem dX11_gathers_79 : decode cX11_gathers 79 = .ok (.getfield 67, 3) := by decide +kernel
theorem dX11_gathers_82 : decode cX11_gathers 82 = .ok (.aload_n 0, 1) := by decide +kernel
theorem dX11_gathers_83 : decode cX11_gathers 83 = .ok (.getfield 49, 3) := by decide +kernel
theorem dX11_gathers_86 : decode cX11_gathers 86 = .ok (.iload_n 2, 1) := by decide +kernel
theorem dX11_gathers_87 : decode cX11_gathers 87 = .ok (.iaload, 1) := by decide +kernel
theorem dX11_gathers_88 : decode cX11_gathers 88 = .ok (.dup2, 1) := by decide +kernel
theorem dX11_gathers_89 : decode cX11_gathers 89 = .ok (.iaload, 1) := by decide +kernel
theorem dX11_gathers_90 : decode cX11_gathers 90 = .ok (.iconst 1, 1) := by decide +kernel
theorem dX11_gathers_91 : decode cX11_gathers 91 = .ok (.iadd, 1) := by decide +kernel
theorem dX11_gathers_92 : decode cX11_gathers 92 = .ok (.iastore, 1) := by decide +kernel
theorem dX11_gathers_93 : decode cX11_gathers 93 = .ok (.iinc 2 1, 3) := by decide +kernel
theorem dX11_gathers_96 : decode cX11_gathers 96 = .ok (.goto (-73), 3) := by decide +kernel
theorem dX11_gathers_99 : decode cX11_gathers 99 = .ok (.bipush 7, 2) := by decide +kernel
theorem dX11_gathers_101 : decode cX11_gathers 101 = .ok (.istore_n 2, 1) := by decide +kernel
theorem dX11_gathers_102 : decode cX11_gathers 102 = .ok (.iload_n 2, 1) := by decide +kernel
theorem dX11_gathers_103 : decode cX11_gathers 103 = .ok (.ifCond .lt 73, 3) := by decide +kernel
theorem dX11_gathers_106 : decode cX11_gathers 106 = .ok (.aload_n 0, 1) := by decide +kernel
theorem dX11_gathers_107 : decode cX11_gathers 107 = .ok (.getfield 67, 3) := by decide +kernel
theorem dX11_gathers_110 : decode cX11_gathers 110 = .ok (.iload_n 2, 1) := by decide +kernel
theorem dX11_gathers_111 : decode cX11_gathers 111 = .ok (.iaload, 1) := by decide +kernel
theorem dX11_gathers_112 : decode cX11_gathers 112 = .ok (.iconst 1, 1) := by decide +kernel
theorem dX11_gathers_113 : decode cX11_gathers 113 = .ok (.if_icmp .le 23, 3) := by decide +kernel
theorem dX11_gathers_116 : decode cX11_gathers 116 = .ok (.aload_n 0, 1) := by decide +kernel
theorem dX11_gathers_117 : decode cX11_gathers 117 = .ok (.getfield 195, 3) := by decide +kernel
theorem dX11_gathers_120 : decode cX11_gathers 120 = .ok (.iconst (-1), 1) := by decide +kernel
theorem dX11_gathers_121 : decode cX11_gathers 121 = .ok (.if_icmp .eq 11, 3) := by decide +kernel
theorem dX11_gathers_124 : decode cX11_gathers 124 = .ok (.aload_n 0, 1) := by decide +kernel
theorem dX11_gathers_125 : decode cX11_gathers 125 = .ok (.getfield 195, 3) := by decide +kernel
theorem dX11_gathers_128 : decode cX11_gathers 128 = .ok (.iload_n 1, 1) := by decide +kernel
theorem dX11_gathers_129 : decode cX11_gathers 129 = .ok (.if_icmp .ne 7, 3) := by decide +kernel
theorem dX11_gathers_132 : decode cX11_gathers 132 = .ok (.iconst 1, 1) := by decide +kernel
theorem dX11_gathers_133 : decode cX11_gathers 133 = .ok (.goto 4, 3) := by decide +kernel
theorem dX11_gathers_136 : decode cX11_gathers 136 = .ok (.iconst 0, 1) := by decide +kernel
theorem dX11_gathers_137 : decode cX11_gathers 137 = .ok (.istore_n 3, 1) := by decide +kernel
theorem dX11_gathers_138 : decode cX11_gathers 138 = .ok (.aload_n 0, 1) := by decide +kernel
theorem dX11_gathers_139 : decode cX11_gathers 139 = .ok (.iload_n 3, 1) := by decide +kernel
theorem dX11_gathers_140 : decode cX11_gathers 140 = .ok (.ifCond .eq 7, 3) := by decide +kernel
theorem dX11_gathers_143 : decode cX11_gathers 143 = .ok (.iload_n 1, 1) := by decide +kernel
theorem dX11_gathers_144 : decode cX11_gathers 144 = .ok (.goto 7, 3) := by decide +kernel
theorem dX11_gathers_147 : decode cX11_gathers 147 = .ok (.aload_n 0, 1) := by decide +kernel
theorem dX11_gathers_148 : decode cX11_gathers 148 = .ok (.getfield 195, 3) := by decide +kernel
theorem dX11_gathers_151 : decode cX11_gathers 151 = .ok (.putfield 195, 3) := by decide +kernel
theorem dX11_gathers_154 : decode cX11_gathers 154 = .ok (.aload_n 0, 1) := by decide +kernel
theorem dX11_gathers_155 : decode cX11_gathers 155 = .ok (.iload_n 3, 1) := by decide +kernel
theorem dX11_gathers_156 : decode cX11_gathers 156 = .ok (.ifCond .eq 7, 3) := by decide +kernel
theorem dX11_gathers_159 : decode cX11_gathers 159 = .ok (.iload_n 2, 1) := by decide +kernel
theorem dX11_gathers_160 : decode cX11_gathers 160 = .ok (.goto 7, 3) := by decide +kernel
theorem dX11_gathers_163 : decode cX11_gathers 163 = .ok (.aload_n 0, 1) := by decide +kernel
theorem dX11_gathers_164 : decode cX11_gathers 164 = .ok (.getfield 198, 3) := by decide +kernel
theorem dX11_gathers_167 : decode cX11_gathers 167 = .ok (.putfield 198, 3) := by decide +kernel
theorem dX11_gathers_170 : decode cX11_gathers 170 = .ok (.iinc 2 (-1), 3) := by decide +kernel
theorem dX11_gathers_173 : decode cX11_gathers 173 = .ok (.goto (-71), 3) := by decide +kernel
theorem dX11_gathers_176 : decode cX11_gathers 176 = .ok (.return_, 1) := by decide +kernel
theorem dX11_keeps_0 : decode cX11_keeps 0 = .ok (.iconst 0, 1) := by decide +kernel
theorem dX11_keeps_1 : decode cX11_keeps 1 = .ok (.istore_n 2, 1) := by decide +kernel
theorem dX11_keeps_2 : decode cX11_keeps 2 = .ok (.iload_n 2, 1) := by decide +kernel
theorem dX11_keeps_3 : decode cX11_keeps 3 = .ok (.aload_n 0, 1) := by decide +kernel
theorem dX11_keeps_4 : decode cX11_keeps 4 = .ok (.getfield 133, 3) := by decide +kernel
theorem dX11_keeps_7 : decode cX11_keeps 7 = .ok (.if_icmp .ge 105, 3) := by decide +kernel
theorem dX11_keeps_10 : decode cX11_keeps 10 = .ok (.aload_n 0, 1) := by decide +kernel
theorem dX11_keeps_11 : decode cX11_keeps 11 = .ok (.getfield 64, 3) := by decide +kernel
theorem dX11_keeps_14 : decode cX11_keeps 14 = .ok (.bipush 32, 2) := by decide +kernel
theorem dX11_keeps_16 : decode cX11_keeps 16 = .ok (.iload_n 1, 1) := by decide +kernel
theorem dX11_keeps_17 : decode cX11_keeps 17 = .ok (.imul, 1) := by decide +kernel
theorem dX11_keeps_18 : decode cX11_keeps 18 = .ok (.iconst 4, 1) := by decide +kernel
theorem dX11_keeps_19 : decode cX11_keeps 19 = .ok (.iload_n 2, 1) := by decide +kernel
theorem dX11_keeps_20 : decode cX11_keeps 20 = .ok (.imul, 1) := by decide +kernel
theorem dX11_keeps_21 : decode cX11_keeps 21 = .ok (.iadd, 1) := by decide +kernel
theorem dX11_keeps_22 : decode cX11_keeps 22 = .ok (.aload_n 0, 1) := by decide +kernel
theorem dX11_keeps_23 : decode cX11_keeps 23 = .ok (.getfield 46, 3) := by decide +kernel
theorem dX11_keeps_26 : decode cX11_keeps 26 = .ok (.iload_n 2, 1) := by decide +kernel
theorem dX11_keeps_27 : decode cX11_keeps 27 = .ok (.iaload, 1) := by decide +kernel
theorem dX11_keeps_28 : decode cX11_keeps 28 = .ok (.iastore, 1) := by decide +kernel
theorem dX11_keeps_29 : decode cX11_keeps 29 = .ok (.aload_n 0, 1) := by decide +kernel
theorem dX11_keeps_30 : decode cX11_keeps 30 = .ok (.getfield 64, 3) := by decide +kernel
theorem dX11_keeps_33 : decode cX11_keeps 33 = .ok (.bipush 32, 2) := by decide +kernel
theorem dX11_keeps_35 : decode cX11_keeps 35 = .ok (.iload_n 1, 1) := by decide +kernel
theorem dX11_keeps_36 : decode cX11_keeps 36 = .ok (.imul, 1) := by decide +kernel
theorem dX11_keeps_37 : decode cX11_keeps 37 = .ok (.iconst 4, 1) := by decide +kernel
theorem dX11_keeps_38 : decode cX11_keeps 38 = .ok (.iload_n 2, 1) := by decide +kernel
theorem dX11_keeps_39 : decode cX11_keeps 39 = .ok (.imul, 1) := by decide +kernel
theorem dX11_keeps_40 : decode cX11_keeps 40 = .ok (.iadd, 1) := by decide +kernel
theorem dX11_keeps_41 : decode cX11_keeps 41 = .ok (.iconst 1, 1) := by decide +kernel
theorem dX11_keeps_42 : decode cX11_keeps 42 = .ok (.iadd, 1) := by decide +kernel
theorem dX11_keeps_43 : decode cX11_keeps 43 = .ok (.aload_n 0, 1) := by decide +kernel
theorem dX11_keeps_44 : decode cX11_keeps 44 = .ok (.getfield 49, 3) := by decide +kernel
theorem dX11_keeps_47 : decode cX11_keeps 47 = .ok (.iload_n 2, 1) := by decide +kernel
theorem dX11_keeps_48 : decode cX11_keeps 48 = .ok (.iaload, 1) := by decide +kernel
theorem dX11_keeps_49 : decode cX11_keeps 49 = .ok (.iastore, 1) := by decide +kernel
theorem dX11_keeps_50 : decode cX11_keeps 50 = .ok (.aload_n 0, 1) := by decide +kernel
theorem dX11_keeps_51 : decode cX11_keeps 51 = .ok (.getfield 64, 3) := by decide +kernel
theorem dX11_keeps_54 : decode cX11_keeps 54 = .ok (.bipush 32, 2) := by decide +kernel
theorem dX11_keeps_56 : decode cX11_keeps 56 = .ok (.iload_n 1, 1) := by decide +kernel
theorem dX11_keeps_57 : decode cX11_keeps 57 = .ok (.imul, 1) := by decide +kernel
theorem dX11_keeps_58 : decode cX11_keeps 58 = .ok (.iconst 4, 1) := by decide +kernel
theorem dX11_keeps_59 : decode cX11_keeps 59 = .ok (.iload_n 2, 1) := by decide +kernel
theorem dX11_keeps_60 : decode cX11_keeps 60 = .ok (.imul, 1) := by decide +kernel
theorem dX11_keeps_61 : decode cX11_keeps 61 = .ok (.iadd, 1) := by decide +kernel
theorem dX11_keeps_62 : decode cX11_keeps 62 = .ok (.iconst 2, 1) := by decide +kernel
theorem dX11_keeps_63 : decode cX11_keeps 63 = .ok (.iadd, 1) := by decide +kernel
theorem dX11_keeps_64 : decode cX11_keeps 64 = .ok (.aload_n 0, 1) := by decide +kernel
theorem dX11_keeps_65 : decode cX11_keeps 65 = .ok (.getfield 52, 3) := by decide +kernel
theorem dX11_keeps_68 : decode cX11_keeps 68 = .ok (.iload_n 2, 1) := by decide +kernel
theorem dX11_keeps_69 : decode cX11_keeps 69 = .ok (.iaload, 1) := by decide +kernel
theorem dX11_keeps_70 : decode cX11_keeps 70 = .ok (.iastore, 1) := by decide +kernel
theorem dX11_keeps_71 : decode cX11_keeps 71 = .ok (.aload_n 0, 1) := by decide +kernel
theorem dX11_keeps_72 : decode cX11_keeps 72 = .ok (.getfield 64, 3) := by decide +kernel
theorem dX11_keeps_75 : decode cX11_keeps 75 = .ok (.bipush 32, 2) := by decide +kernel
theorem dX11_keeps_77 : decode cX11_keeps 77 = .ok (.iload_n 1, 1) := by decide +kernel
theorem dX11_keeps_78 : decode cX11_keeps 78 = .ok (.imul, 1) := by decide +kernel
theorem dX11_keeps_79 : decode cX11_keeps 79 = .ok (.iconst 4, 1) := by decide +kernel
theorem dX11_keeps_80 : decode cX11_keeps 80 = .ok (.iload_n 2, 1) := by decide +kernel
theorem dX11_keeps_81 : decode cX11_keeps 81 = .ok (.imul, 1) := by decide +kernel
theorem dX11_keeps_82 : decode cX11_keeps 82 = .ok (.iadd, 1) := by decide +kernel
theorem dX11_keeps_83 : decode cX11_keeps 83 = .ok (.iconst 3, 1) := by decide +kernel
theorem dX11_keeps_84 : decode cX11_keeps 84 = .ok (.iadd, 1) := by decide +kernel
theorem dX11_keeps_85 : decode cX11_keeps 85 = .ok (.aload_n 0, 1) := by decide +kernel
theorem dX11_keeps_86 : decode cX11_keeps 86 = .ok (.getfield 46, 3) := by decide +kernel
theorem dX11_keeps_89 : decode cX11_keeps 89 = .ok (.iload_n 2, 1) := by decide +kernel
theorem dX11_keeps_90 : decode cX11_keeps 90 = .ok (.iaload, 1) := by decide +kernel
theorem dX11_keeps_91 : decode cX11_keeps 91 = .ok (.iconst 1, 1) := by decide +kernel
theorem dX11_keeps_92 : decode cX11_keeps 92 = .ok (.if_icmp .ne 12, 3) := by decide +kernel
theorem dX11_keeps_95 : decode cX11_keeps 95 = .ok (.aload_n 0, 1) := by decide +kernel
theorem dX11_keeps_96 : decode cX11_keeps 96 = .ok (.getfield 55, 3) := by decide +kernel
theorem dX11_keeps_99 : decode cX11_keeps 99 = .ok (.iload_n 2, 1) := by decide +kernel
theorem dX11_keeps_100 : decode cX11_keeps 100 = .ok (.iaload, 1) := by decide +kernel
theorem dX11_keeps_101 : decode cX11_keeps 101 = .ok (.goto 4, 3) := by decide +kernel
theorem dX11_keeps_104 : decode cX11_keeps 104 = .ok (.iconst (-1), 1) := by decide +kernel
theorem dX11_keeps_105 : decode cX11_keeps 105 = .ok (.iastore, 1) := by decide +kernel
theorem dX11_keeps_106 : decode cX11_keeps 106 = .ok (.iinc 2 1, 3) := by decide +kernel
theorem dX11_keeps_109 : decode cX11_keeps 109 = .ok (.goto (-107), 3) := by decide +kernel
theorem dX11_keeps_112 : decode cX11_keeps 112 = .ok (.return_, 1) := by decide +kernel
theorem dX11_lives_0 : decode cX11_lives 0 = .ok (.iconst 0, 1) := by decide +kernel
theorem dX11_lives_1 : decode cX11_lives 1 = .ok (.istore_n 1, 1) := by decide +kernel
theorem dX11_lives_2 : decode cX11_lives 2 = .ok (.iload_n 1, 1) := by decide +kernel
theorem dX11_lives_3 : decode cX11_lives 3 = .ok (.bipush 8, 2) := by decide +kernel
theorem dX11_lives_5 : decode cX11_lives 5 = .ok (.if_icmp .ge 37, 3) := by decide +kernel
theorem dX11_lives_8 : decode cX11_lives 8 = .ok (.aload_n 0, 1) := by decide +kernel
theorem dX11_lives_9 : decode cX11_lives 9 = .ok (.getfield 46, 3) := by decide +kernel
theorem dX11_lives_12 : decode cX11_lives 12 = .ok (.iload_n 1, 1) := by decide +kernel
theorem dX11_lives_13 : decode cX11_lives 13 = .ok (.iconst 0, 1) := by decide +kernel
theorem dX11_lives_14 : decode cX11_lives 14 = .ok (.iastore, 1) := by decide +kernel
theorem dX11_lives_15 : decode cX11_lives 15 = .ok (.aload_n 0, 1) := by decide +kernel
theorem dX11_lives_16 : decode cX11_lives 16 = .ok (.getfield 49, 3) := by decide +kernel
theorem dX11_lives_19 : decode cX11_lives 19 = .ok (.iload_n 1, 1) := by decide +kernel
theorem dX11_lives_20 : decode cX11_lives 20 = .ok (.iconst (-1), 1) := by decide +kernel
theorem dX11_lives_21 : decode cX11_lives 21 = .ok (.iastore, 1) := by decide +kernel
theorem dX11_lives_22 : decode cX11_lives 22 = .ok (.aload_n 0, 1) := by decide +kernel
theorem dX11_lives_23 : decode cX11_lives 23 = .ok (.getfield 61, 3) := by decide +kernel
theorem dX11_lives_26 : decode cX11_lives 26 = .ok (.iload_n 1, 1) := by decide +kernel
theorem dX11_lives_27 : decode cX11_lives 27 = .ok (.iconst (-1), 1) := by decide +kernel
theorem dX11_lives_28 : decode cX11_lives 28 = .ok (.iastore, 1) := by decide +kernel
theorem dX11_lives_29 : decode cX11_lives 29 = .ok (.aload_n 0, 1) := by decide +kernel
theorem dX11_lives_30 : decode cX11_lives 30 = .ok (.getfield 70, 3) := by decide +kernel
theorem dX11_lives_33 : decode cX11_lives 33 = .ok (.iload_n 1, 1) := by decide +kernel
theorem dX11_lives_34 : decode cX11_lives 34 = .ok (.iconst 0, 1) := by decide +kernel
theorem dX11_lives_35 : decode cX11_lives 35 = .ok (.iastore, 1) := by decide +kernel
theorem dX11_lives_36 : decode cX11_lives 36 = .ok (.iinc 1 1, 3) := by decide +kernel
theorem dX11_lives_39 : decode cX11_lives 39 = .ok (.goto (-37), 3) := by decide +kernel
theorem dX11_lives_42 : decode cX11_lives 42 = .ok (.iconst 0, 1) := by decide +kernel
theorem dX11_lives_43 : decode cX11_lives 43 = .ok (.istore_n 1, 1) := by decide +kernel
theorem dX11_lives_44 : decode cX11_lives 44 = .ok (.iload_n 1, 1) := by decide +kernel
theorem dX11_lives_45 : decode cX11_lives 45 = .ok (.aload_n 0, 1) := by decide +kernel
theorem dX11_lives_46 : decode cX11_lives 46 = .ok (.getfield 133, 3) := by decide +kernel
theorem dX11_lives_49 : decode cX11_lives 49 = .ok (.if_icmp .ge 51, 3) := by decide +kernel
theorem dX11_lives_52 : decode cX11_lives 52 = .ok (.aload_n 0, 1) := by decide +kernel
theorem dX11_lives_53 : decode cX11_lives 53 = .ok (.getfield 52, 3) := by decide +kernel
theorem dX11_lives_56 : decode cX11_lives 56 = .ok (.iload_n 1, 1) := by decide +kernel
theorem dX11_lives_57 : decode cX11_lives 57 = .ok (.aload_n 0, 1) := by decide +kernel
theorem dX11_lives_58 : decode cX11_lives 58 = .ok (.getfield 31, 3) := by decide +kernel
theorem dX11_lives_61 : decode cX11_lives 61 = .ok (.iconst 5, 1) := by decide +kernel
theorem dX11_lives_62 : decode cX11_lives 62 = .ok (.iload_n 1, 1) := by decide +kernel
theorem dX11_lives_63 : decode cX11_lives 63 = .ok (.imul, 1) := by decide +kernel
theorem dX11_lives_64 : decode cX11_lives 64 = .ok (.iconst 3, 1) := by decide +kernel
theorem dX11_lives_65 : decode cX11_lives 65 = .ok (.iadd, 1) := by decide +kernel
theorem dX11_lives_66 : decode cX11_lives 66 = .ok (.iaload, 1) := by decide +kernel
theorem dX11_lives_67 : decode cX11_lives 67 = .ok (.iastore, 1) := by decide +kernel
theorem dX11_lives_68 : decode cX11_lives 68 = .ok (.aload_n 0, 1) := by decide +kernel
theorem dX11_lives_69 : decode cX11_lives 69 = .ok (.getfield 55, 3) := by decide +kernel
theorem dX11_lives_72 : decode cX11_lives 72 = .ok (.iload_n 1, 1) := by decide +kernel
theorem dX11_lives_73 : decode cX11_lives 73 = .ok (.aload_n 0, 1) := by decide +kernel
theorem dX11_lives_74 : decode cX11_lives 74 = .ok (.getfield 31, 3) := by decide +kernel
theorem dX11_lives_77 : decode cX11_lives 77 = .ok (.iconst 5, 1) := by decide +kernel
theorem dX11_lives_78 : decode cX11_lives 78 = .ok (.iload_n 1, 1) := by decide +kernel
theorem dX11_lives_79 : decode cX11_lives 79 = .ok (.imul, 1) := by decide +kernel
theorem dX11_lives_80 : decode cX11_lives 80 = .ok (.iaload, 1) := by decide +kernel
theorem dX11_lives_81 : decode cX11_lives 81 = .ok (.iastore, 1) := by decide +kernel
theorem dX11_lives_82 : decode cX11_lives 82 = .ok (.aload_n 0, 1) := by decide +kernel
theorem dX11_lives_83 : decode cX11_lives 83 = .ok (.getfield 58, 3) := by decide +kernel
theorem dX11_lives_86 : decode cX11_lives 86 = .ok (.iload_n 1, 1) := by decide +kernel
theorem dX11_lives_87 : decode cX11_lives 87 = .ok (.aload_n 0, 1) := by decide +kernel
theorem dX11_lives_88 : decode cX11_lives 88 = .ok (.getfield 34, 3) := by decide +kernel
theorem dX11_lives_91 : decode cX11_lives 91 = .ok (.iload_n 1, 1) := by decide +kernel
theorem dX11_lives_92 : decode cX11_lives 92 = .ok (.iaload, 1) := by decide +kernel
theorem dX11_lives_93 : decode cX11_lives 93 = .ok (.iastore, 1) := by decide +kernel
theorem dX11_lives_94 : decode cX11_lives 94 = .ok (.iinc 1 1, 3) := by decide +kernel
theorem dX11_lives_97 : decode cX11_lives 97 = .ok (.goto (-53), 3) := by decide +kernel
theorem dX11_lives_100 : decode cX11_lives 100 = .ok (.aload_n 0, 1) := by decide +kernel
theorem dX11_lives_101 : decode cX11_lives 101 = .ok (.iconst (-1), 1) := by decide +kernel
theorem dX11_lives_102 : decode cX11_lives 102 = .ok (.putfield 195, 3) := by decide +kernel
theorem dX11_lives_105 : decode cX11_lives 105 = .ok (.aload_n 0, 1) := by decide +kernel
theorem dX11_lives_106 : decode cX11_lives 106 = .ok (.iconst (-1), 1) := by decide +kernel
theorem dX11_lives_107 : decode cX11_lives 107 = .ok (.putfield 198, 3) := by decide +kernel
theorem dX11_lives_110 : decode cX11_lives 110 = .ok (.iconst 0, 1) := by decide +kernel
theorem dX11_lives_111 : decode cX11_lives 111 = .ok (.istore_n 1, 1) := by decide +kernel
theorem dX11_lives_112 : decode cX11_lives 112 = .ok (.iload_n 1, 1) := by decide +kernel
theorem dX11_lives_113 : decode cX11_lives 113 = .ok (.bipush 40, 2) := by decide +kernel
theorem dX11_lives_115 : decode cX11_lives 115 = .ok (.if_icmp .ge 51, 3) := by decide +kernel
theorem dX11_lives_118 : decode cX11_lives 118 = .ok (.aload_n 0, 1) := by decide +kernel
theorem dX11_lives_119 : decode cX11_lives 119 = .ok (.iload_n 1, 1) := by decide +kernel
theorem dX11_lives_120 : decode cX11_lives 120 = .ok (.invokevirtual 201, 3) := by decide +kernel
theorem dX11_lives_123 : decode cX11_lives 123 = .ok (.iconst 0, 1) := by decide +kernel
theorem dX11_lives_124 : decode cX11_lives 124 = .ok (.istore_n 2, 1) := by decide +kernel
theorem dX11_lives_125 : decode cX11_lives 125 = .ok (.iload_n 2, 1) := by decide +kernel
theorem dX11_lives_126 : decode cX11_lives 126 = .ok (.aload_n 0, 1) := by decide +kernel
theorem dX11_lives_127 : decode cX11_lives 127 = .ok (.getfield 133, 3) := by decide +kernel
theorem dX11_lives_130 : decode cX11_lives 130 = .ok (.if_icmp .ge 25, 3) := by decide +kernel
theorem dX11_lives_133 : decode cX11_lives 133 = .ok (.aload_n 0, 1) := by decide +kernel
theorem dX11_lives_134 : decode cX11_lives 134 = .ok (.getfield 58, 3) := by decide +kernel
theorem dX11_lives_137 : decode cX11_lives 137 = .ok (.iload_n 2, 1) := by decide +kernel
theorem dX11_lives_138 : decode cX11_lives 138 = .ok (.iaload, 1) := by decide +kernel
theorem dX11_lives_139 : decode cX11_lives 139 = .ok (.iload_n 1, 1) := by decide +kernel
theorem dX11_lives_140 : decode cX11_lives 140 = .ok (.if_icmp .ne 9, 3) := by decide +kernel
theorem dX11_lives_143 : decode cX11_lives 143 = .ok (.aload_n 0, 1) := by decide +kernel
theorem dX11_lives_144 : decode cX11_lives 144 = .ok (.iload_n 2, 1) := by decide +kernel
theorem dX11_lives_145 : decode cX11_lives 145 = .ok (.iload_n 1, 1) := by decide +kernel
theorem dX11_lives_146 : decode cX11_lives 146 = .ok (.invokevirtual 205, 3) := by decide +kernel
theorem dX11_lives_149 : decode cX11_lives 149 = .ok (.iinc 2 1, 3) := by decide +kernel
theorem dX11_lives_152 : decode cX11_lives 152 = .ok (.goto (-27), 3) := by decide +kernel
theorem dX11_lives_155 : decode cX11_lives 155 = .ok (.aload_n 0, 1) := by decide +kernel
theorem dX11_lives_156 : decode cX11_lives 156 = .ok (.iload_n 1, 1) := by decide +kernel
theorem dX11_lives_157 : decode cX11_lives 157 = .ok (.invokevirtual 209, 3) := by decide +kernel
theorem dX11_lives_160 : decode cX11_lives 160 = .ok (.iinc 1 1, 3) := by decide +kernel
theorem dX11_lives_163 : decode cX11_lives 163 = .ok (.goto (-51), 3) := by decide +kernel
theorem dX11_lives_166 : decode cX11_lives 166 = .ok (.return_, 1) := by decide +kernel
theorem dX11_find_0 : decode cX11_find 0 = .ok (.aload_n 0, 1) := by decide +kernel
theorem dX11_find_1 : decode cX11_find 1 = .ok (.invokevirtual 139, 3) := by decide +kernel
theorem dX11_find_4 : decode cX11_find 4 = .ok (.pop, 1) := by decide +kernel
theorem dX11_find_5 : decode cX11_find 5 = .ok (.aload_n 0, 1) := by decide +kernel
theorem dX11_find_6 : decode cX11_find 6 = .ok (.invokevirtual 143, 3) := by decide +kernel
theorem dX11_find_9 : decode cX11_find 9 = .ok (.pop, 1) := by decide +kernel
theorem dX11_find_10 : decode cX11_find 10 = .ok (.aload_n 0, 1) := by decide +kernel
theorem dX11_find_11 : decode cX11_find 11 = .ok (.invokevirtual 212, 3) := by decide +kernel
theorem dX11_find_14 : decode cX11_find 14 = .ok (.aload_n 0, 1) := by decide +kernel
theorem dX11_find_15 : decode cX11_find 15 = .ok (.invokevirtual 215, 3) := by decide +kernel
theorem dX11_find_18 : decode cX11_find 18 = .ok (.return_, 1) := by decide +kernel
theorem dX11_at_0 : decode cX11_at 0 = .ok (.aload_n 0, 1) := by decide +kernel
theorem dX11_at_1 : decode cX11_at 1 = .ok (.invokevirtual 218, 3) := by decide +kernel
theorem dX11_at_4 : decode cX11_at 4 = .ok (.iload_n 1, 1) := by decide +kernel
theorem dX11_at_5 : decode cX11_at 5 = .ok (.invokestatic 160, 3) := by decide +kernel
theorem dX11_at_8 : decode cX11_at 8 = .ok (.ifCond .eq 41, 3) := by decide +kernel
theorem dX11_at_11 : decode cX11_at 11 = .ok (.aload_n 0, 1) := by decide +kernel
theorem dX11_at_12 : decode cX11_at 12 = .ok (.iload_n 2, 1) := by decide +kernel
theorem dX11_at_13 : decode cX11_at 13 = .ok (.invokevirtual 153, 3) := by decide +kernel
theorem dX11_at_16 : decode cX11_at 16 = .ok (.ifCond .eq 33, 3) := by decide +kernel
theorem dX11_at_19 : decode cX11_at 19 = .ok (.iload_n 3, 1) := by decide +kernel
theorem dX11_at_20 : decode cX11_at 20 = .ok (.i2l, 1) := by decide +kernel
theorem dX11_at_21 : decode cX11_at 21 = .ok (.lconst 0, 1) := by decide +kernel
theorem dX11_at_22 : decode cX11_at 22 = .ok (.ldc2_w 89, 3) := by decide +kernel
theorem dX11_at_25 : decode cX11_at 25 = .ok (.invokestatic 81, 3) := by decide +kernel
theorem dX11_at_28 : decode cX11_at 28 = .ok (.ifCond .eq 21, 3) := by decide +kernel
theorem dX11_at_31 : decode cX11_at 31 = .ok (.aload_n 0, 1) := by decide +kernel
theorem dX11_at_32 : decode cX11_at 32 = .ok (.getfield 64, 3) := by decide +kernel
theorem dX11_at_35 : decode cX11_at 35 = .ok (.bipush 32, 2) := by decide +kernel
theorem dX11_at_37 : decode cX11_at 37 = .ok (.iload_n 1, 1) := by decide +kernel
theorem dX11_at_38 : decode cX11_at 38 = .ok (.imul, 1) := by decide +kernel
theorem dX11_at_39 : decode cX11_at 39 = .ok (.iconst 4, 1) := by decide +kernel
theorem dX11_at_40 : decode cX11_at 40 = .ok (.iload_n 2, 1) := by decide +kernel
theorem dX11_at_41 : decode cX11_at 41 = .ok (.imul, 1) := by decide +kernel
theorem dX11_at_42 : decode cX11_at 42 = .ok (.iadd, 1) := by decide +kernel
theorem dX11_at_43 : decode cX11_at 43 = .ok (.iload_n 3, 1) := by decide +kernel
theorem dX11_at_44 : decode cX11_at 44 = .ok (.iadd, 1) := by decide +kernel
theorem dX11_at_45 : decode cX11_at 45 = .ok (.iaload, 1) := by decide +kernel
theorem dX11_at_46 : decode cX11_at 46 = .ok (.goto 5, 3) := by decide +kernel
theorem dX11_at_49 : decode cX11_at 49 = .ok (.bipush (-2), 2) := by decide +kernel
theorem dX11_at_51 : decode cX11_at 51 = .ok (.ireturn, 1) := by decide +kernel
theorem dX11_ends_0 : decode cX11_ends 0 = .ok (.aload_n 0, 1) := by decide +kernel
theorem dX11_ends_1 : decode cX11_ends 1 = .ok (.invokevirtual 218, 3) := by decide +kernel
theorem dX11_ends_4 : decode cX11_ends 4 = .ok (.aload_n 0, 1) := by decide +kernel
theorem dX11_ends_5 : decode cX11_ends 5 = .ok (.iload_n 1, 1) := by decide +kernel
theorem dX11_ends_6 : decode cX11_ends 6 = .ok (.invokevirtual 153, 3) := by decide +kernel
theorem dX11_ends_9 : decode cX11_ends 9 = .ok (.ifCond .eq 12, 3) := by decide +kernel
theorem dX11_ends_12 : decode cX11_ends 12 = .ok (.aload_n 0, 1) := by decide +kernel
theorem dX11_ends_13 : decode cX11_ends 13 = .ok (.getfield 61, 3) := by decide +kernel
theorem dX11_ends_16 : decode cX11_ends 16 = .ok (.iload_n 1, 1) := by decide +kernel
theorem dX11_ends_17 : decode cX11_ends 17 = .ok (.iaload, 1) := by decide +kernel
theorem dX11_ends_18 : decode cX11_ends 18 = .ok (.goto 5, 3) := by decide +kernel
theorem dX11_ends_21 : decode cX11_ends 21 = .ok (.bipush (-2), 2) := by decide +kernel
theorem dX11_ends_23 : decode cX11_ends 23 = .ok (.ireturn, 1) := by decide +kernel
theorem dX11_farBy_0 : decode cX11_farBy 0 = .ok (.aload_n 0, 1) := by decide +kernel
theorem dX11_farBy_1 : decode cX11_farBy 1 = .ok (.getfield 43, 3) := by decide +kernel
theorem dX11_farBy_4 : decode cX11_farBy 4 = .ok (.bipush 8, 2) := by decide +kernel
theorem dX11_farBy_6 : decode cX11_farBy 6 = .ok (.iload_n 1, 1) := by decide +kernel
theorem dX11_farBy_7 : decode cX11_farBy 7 = .ok (.imul, 1) := by decide +kernel
theorem dX11_farBy_8 : decode cX11_farBy 8 = .ok (.iload_n 2, 1) := by decide +kernel
theorem dX11_farBy_9 : decode cX11_farBy 9 = .ok (.iadd, 1) := by decide +kernel
theorem dX11_farBy_10 : decode cX11_farBy 10 = .ok (.iaload, 1) := by decide +kernel
theorem dX11_farBy_11 : decode cX11_farBy 11 = .ok (.sipush 9999, 3) := by decide +kernel
theorem dX11_farBy_14 : decode cX11_farBy 14 = .ok (.if_icmp .ge 17, 3) := by decide +kernel
theorem dX11_farBy_17 : decode cX11_farBy 17 = .ok (.aload_n 0, 1) := by decide +kernel
theorem dX11_farBy_18 : decode cX11_farBy 18 = .ok (.getfield 43, 3) := by decide +kernel
theorem dX11_farBy_21 : decode cX11_farBy 21 = .ok (.bipush 8, 2) := by decide +kernel
theorem dX11_farBy_23 : decode cX11_farBy 23 = .ok (.iload_n 1, 1) := by decide +kernel
theorem dX11_farBy_24 : decode cX11_farBy 24 = .ok (.imul, 1) := by decide +kernel
theorem dX11_farBy_25 : decode cX11_farBy 25 = .ok (.iload_n 2, 1) := by decide +kernel
theorem dX11_farBy_26 : decode cX11_farBy 26 = .ok (.iadd, 1) := by decide +kernel
theorem dX11_farBy_27 : decode cX11_farBy 27 = .ok (.iaload, 1) := by decide +kernel
theorem dX11_farBy_28 : decode cX11_farBy 28 = .ok (.goto 4, 3) := by decide +kernel
theorem dX11_farBy_31 : decode cX11_farBy 31 = .ok (.iconst (-1), 1) := by decide +kernel
theorem dX11_farBy_32 : decode cX11_farBy 32 = .ok (.ireturn, 1) := by decide +kernel
theorem dX11_far_0 : decode cX11_far 0 = .ok (.aload_n 0, 1) := by decide +kernel
theorem dX11_far_1 : decode cX11_far 1 = .ok (.invokevirtual 218, 3) := by decide +kernel
theorem dX11_far_4 : decode cX11_far 4 = .ok (.iload_n 1, 1) := by decide +kernel
theorem dX11_far_5 : decode cX11_far 5 = .ok (.invokestatic 163, 3) := by decide +kernel
theorem dX11_far_8 : decode cX11_far 8 = .ok (.ifCond .eq 19, 3) := by decide +kernel
theorem dX11_far_11 : decode cX11_far 11 = .ok (.iload_n 2, 1) := by decide +kernel
theorem dX11_far_12 : decode cX11_far 12 = .ok (.invokestatic 163, 3) := by decide +kernel
theorem dX11_far_15 : decode cX11_far 15 = .ok (.ifCond .eq 12, 3) := by decide +kernel
theorem dX11_far_18 : decode cX11_far 18 = .ok (.aload_n 0, 1) := by decide +kernel
theorem dX11_far_19 : decode cX11_far 19 = .ok (.iload_n 1, 1) := by decide +kernel
theorem dX11_far_20 : decode cX11_far 20 = .ok (.iload_n 2, 1) := by decide +kernel
theorem dX11_far_21 : decode cX11_far 21 = .ok (.invokevirtual 221, 3) := by decide +kernel
theorem dX11_far_24 : decode cX11_far 24 = .ok (.goto 5, 3) := by decide +kernel
theorem dX11_far_27 : decode cX11_far 27 = .ok (.bipush (-2), 2) := by decide +kernel
theorem dX11_far_29 : decode cX11_far 29 = .ok (.ireturn, 1) := by decide +kernel
theorem dX11_whoBy_0 : decode cX11_whoBy 0 = .ok (.iconst 0, 1) := by decide +kernel
theorem dX11_whoBy_1 : decode cX11_whoBy 1 = .ok (.istore_n 2, 1) := by decide +kernel
theorem dX11_whoBy_2 : decode cX11_whoBy 2 = .ok (.iconst 0, 1) := by decide +kernel
theorem dX11_whoBy_3 : decode cX11_whoBy 3 = .ok (.istore_n 3, 1) := by decide +kernel
theorem dX11_whoBy_4 : decode cX11_whoBy 4 = .ok (.iload_n 3, 1) := by decide +kernel
theorem dX11_whoBy_5 : decode cX11_whoBy 5 = .ok (.aload_n 0, 1) := by decide +kernel
theorem dX11_whoBy_6 : decode cX11_whoBy 6 = .ok (.getfield 133, 3) := by decide +kernel
theorem dX11_whoBy_9 : decode cX11_whoBy 9 = .ok (.if_icmp .ge 29, 3) := by decide +kernel
theorem dX11_whoBy_12 : decode cX11_whoBy 12 = .ok (.iload_n 2, 1) := by decide +kernel
theorem dX11_whoBy_13 : decode cX11_whoBy 13 = .ok (.aload_n 0, 1) := by decide +kernel
theorem dX11_whoBy_14 : decode cX11_whoBy 14 = .ok (.getfield 46, 3) := by decide +kernel
theorem dX11_whoBy_17 : decode cX11_whoBy 17 = .ok (.iload_n 3, 1) := by decide +kernel
theorem dX11_whoBy_18 : decode cX11_whoBy 18 = .ok (.iaload, 1) := by decide +kernel
theorem dX11_whoBy_19 : decode cX11_whoBy 19 = .ok (.iload_n 1, 1) := by decide +kernel
theorem dX11_whoBy_20 : decode cX11_whoBy 20 = .ok (.if_icmp .ne 9, 3) := by decide +kernel
theorem dX11_whoBy_23 : decode cX11_whoBy 23 = .ok (.iconst 1, 1) := by decide +kernel
theorem dX11_whoBy_24 : decode cX11_whoBy 24 = .ok (.iload_n 3, 1) := by decide +kernel
theorem dX11_whoBy_25 : decode cX11_whoBy 25 = .ok (.ishl, 1) := by decide +kernel
theorem dX11_whoBy_26 : decode cX11_whoBy 26 = .ok (.goto 4, 3) := by decide +kernel
theorem dX11_whoBy_29 : decode cX11_whoBy 29 = .ok (.iconst 0, 1) := by decide +kernel
theorem dX11_whoBy_30 : decode cX11_whoBy 30 = .ok (.ior, 1) := by decide +kernel
theorem dX11_whoBy_31 : decode cX11_whoBy 31 = .ok (.istore_n 2, 1) := by decide +kernel
theorem dX11_whoBy_32 : decode cX11_whoBy 32 = .ok (.iinc 3 1, 3) := by decide +kernel
theorem dX11_whoBy_35 : decode cX11_whoBy 35 = .ok (.goto (-31), 3) := by decide +kernel
theorem dX11_whoBy_38 : decode cX11_whoBy 38 = .ok (.iload_n 2, 1) := by decide +kernel
theorem dX11_whoBy_39 : decode cX11_whoBy 39 = .ok (.ireturn, 1) := by decide +kernel
theorem dX11_who_0 : decode cX11_who 0 = .ok (.aload_n 0, 1) := by decide +kernel
theorem dX11_who_1 : decode cX11_who 1 = .ok (.invokevirtual 218, 3) := by decide +kernel
theorem dX11_who_4 : decode cX11_who 4 = .ok (.iload_n 1, 1) := by decide +kernel
theorem dX11_who_5 : decode cX11_who 5 = .ok (.i2l, 1) := by decide +kernel
theorem dX11_who_6 : decode cX11_who 6 = .ok (.ldc2_w 95, 3) := by decide +kernel
theorem dX11_who_9 : decode cX11_who 9 = .ok (.ldc2_w 224, 3) := by decide +kernel
theorem dX11_who_12 : decode cX11_who 12 = .ok (.invokestatic 81, 3) := by decide +kernel
theorem dX11_who_15 : decode cX11_who 15 = .ok (.ifCond .eq 11, 3) := by decide +kernel
theorem dX11_who_18 : decode cX11_who 18 = .ok (.aload_n 0, 1) := by decide +kernel
theorem dX11_who_19 : decode cX11_who 19 = .ok (.iload_n 1, 1) := by decide +kernel
theorem dX11_who_20 : decode cX11_who 20 = .ok (.invokevirtual 226, 3) := by decide +kernel
theorem dX11_who_23 : decode cX11_who 23 = .ok (.goto 5, 3) := by decide +kernel
theorem dX11_who_26 : decode cX11_who 26 = .ok (.bipush (-2), 2) := by decide +kernel
theorem dX11_who_28 : decode cX11_who 28 = .ok (.ireturn, 1) := by decide +kernel
theorem dX11_met_0 : decode cX11_met 0 = .ok (.aload_n 0, 1) := by decide +kernel
theorem dX11_met_1 : decode cX11_met 1 = .ok (.invokevirtual 218, 3) := by decide +kernel
theorem dX11_met_4 : decode cX11_met 4 = .ok (.iload_n 1, 1) := by decide +kernel
theorem dX11_met_5 : decode cX11_met 5 = .ok (.invokestatic 110, 3) := by decide +kernel
theorem dX11_met_8 : decode cX11_met 8 = .ok (.ifCond .ne 8, 3) := by decide +kernel
theorem dX11_met_11 : decode cX11_met 11 = .ok (.bipush (-2), 2) := by decide +kernel
theorem dX11_met_13 : decode cX11_met 13 = .ok (.goto 18, 3) := by decide +kernel
theorem dX11_met_16 : decode cX11_met 16 = .ok (.iload_n 1, 1) := by decide +kernel
theorem dX11_met_17 : decode cX11_met 17 = .ok (.ifCond .ne 10, 3) := by decide +kernel
theorem dX11_met_20 : decode cX11_met 20 = .ok (.aload_n 0, 1) := by decide +kernel
theorem dX11_met_21 : decode cX11_met 21 = .ok (.getfield 195, 3) := by decide +kernel
theorem dX11_met_24 : decode cX11_met 24 = .ok (.goto 7, 3) := by decide +kernel
theorem dX11_met_27 : decode cX11_met 27 = .ok (.aload_n 0, 1) := by decide +kernel
theorem dX11_met_28 : decode cX11_met 28 = .ok (.getfield 198, 3) := by decide +kernel
theorem dX11_met_31 : decode cX11_met 31 = .ok (.ireturn, 1) := by decide +kernel
theorem dX11_busiestNow_0 : decode cX11_busiestNow 0 = .ok (.iconst (-1), 1) := by decide +kernel
theorem dX11_busiestNow_1 : decode cX11_busiestNow 1 = .ok (.istore_n 1, 1) := by decide +kernel
theorem dX11_busiestNow_2 : decode cX11_busiestNow 2 = .ok (.iconst 0, 1) := by decide +kernel
theorem dX11_busiestNow_3 : decode cX11_busiestNow 3 = .ok (.istore_n 2, 1) := by decide +kernel
theorem dX11_busiestNow_4 : decode cX11_busiestNow 4 = .ok (.iconst 0, 1) := by decide +kernel
theorem dX11_busiestNow_5 : decode cX11_busiestNow 5 = .ok (.istore_n 3, 1) := by decide +kernel
theorem dX11_busiestNow_6 : decode cX11_busiestNow 6 = .ok (.iload_n 3, 1) := by decide +kernel
theorem dX11_busiestNow_7 : decode cX11_busiestNow 7 = .ok (.bipush 8, 2) := by decide +kernel
theorem dX11_busiestNow_9 : decode cX11_busiestNow 9 = .ok (.if_icmp .ge 36, 3) := by decide +kernel
theorem dX11_busiestNow_12 : decode cX11_busiestNow 12 = .ok (.aload_n 0, 1) := by decide +kernel
theorem dX11_busiestNow_13 : decode cX11_busiestNow 13 = .ok (.getfield 70, 3) := by decide +kernel
theorem dX11_busiestNow_16 : decode cX11_busiestNow 16 = .ok (.iload_n 3, 1) := by decide +kernel
theorem dX11_busiestNow_17 : decode cX11_busiestNow 17 = .ok (.iaload, 1) := by decide +kernel
theorem dX11_busiestNow_18 : decode cX11_busiestNow 18 = .ok (.iload_n 2, 1) := by decide +kernel
theorem dX11_busiestNow_19 : decode cX11_busiestNow 19 = .ok (.if_icmp .le 7, 3) := by decide +kernel
theorem dX11_busiestNow_22 : decode cX11_busiestNow 22 = .ok (.iload_n 3, 1) := by decide +kernel
theorem dX11_busiestNow_23 : decode cX11_busiestNow 23 = .ok (.goto 4, 3) := by decide +kernel
theorem dX11_busiestNow_26 : decode cX11_busiestNow 26 = .ok (.iload_n 1, 1) := by decide +kernel
theorem dX11_busiestNow_27 : decode cX11_busiestNow 27 = .ok (.istore_n 1, 1) := by decide +kernel
theorem dX11_busiestNow_28 : decode cX11_busiestNow 28 = .ok (.aload_n 0, 1) := by decide +kernel
theorem dX11_busiestNow_29 : decode cX11_busiestNow 29 = .ok (.getfield 70, 3) := by decide +kernel
theorem dX11_busiestNow_32 : decode cX11_busiestNow 32 = .ok (.iload_n 3, 1) := by decide +kernel
theorem dX11_busiestNow_33 : decode cX11_busiestNow 33 = .ok (.iaload, 1) := by decide +kernel
theorem dX11_busiestNow_34 : decode cX11_busiestNow 34 = .ok (.iload_n 2, 1) := by decide +kernel
theorem dX11_busiestNow_35 : decode cX11_busiestNow 35 = .ok (.invokestatic 229, 3) := by decide +kernel
theorem dX11_busiestNow_38 : decode cX11_busiestNow 38 = .ok (.istore_n 2, 1) := by decide +kernel
theorem dX11_busiestNow_39 : decode cX11_busiestNow 39 = .ok (.iinc 3 1, 3) := by decide +kernel
theorem dX11_busiestNow_42 : decode cX11_busiestNow 42 = .ok (.goto (-36), 3) := by decide +kernel
theorem dX11_busiestNow_45 : decode cX11_busiestNow 45 = .ok (.iload_n 1, 1) := by decide +kernel
theorem dX11_busiestNow_46 : decode cX11_busiestNow 46 = .ok (.ireturn, 1) := by decide +kernel
theorem dX11_busiest_0 : decode cX11_busiest 0 = .ok (.aload_n 0, 1) := by decide +kernel
theorem dX11_busiest_1 : decode cX11_busiest 1 = .ok (.invokevirtual 218, 3) := by decide +kernel
theorem dX11_busiest_4 : decode cX11_busiest 4 = .ok (.aload_n 0, 1) := by decide +kernel
theorem dX11_busiest_5 : decode cX11_busiest 5 = .ok (.invokevirtual 232, 3) := by decide +kernel
theorem dX11_busiest_8 : decode cX11_busiest 8 = .ok (.ireturn, 1) := by decide +kernel
theorem dX11_comers_0 : decode cX11_comers 0 = .ok (.aload_n 0, 1) := by decide +kernel
theorem dX11_comers_1 : decode cX11_comers 1 = .ok (.iconst 2, 1) := by decide +kernel
theorem dX11_comers_2 : decode cX11_comers 2 = .ok (.invokevirtual 226, 3) := by decide +kernel
theorem dX11_comers_5 : decode cX11_comers 5 = .ok (.invokestatic 235, 3) := by decide +kernel
theorem dX11_comers_8 : decode cX11_comers 8 = .ok (.ireturn, 1) := by decide +kernel
theorem dX11_needsOf_0 : decode cX11_needsOf 0 = .ok (.aload_n 0, 1) := by decide +kernel
theorem dX11_needsOf_1 : decode cX11_needsOf 1 = .ok (.getfield 31, 3) := by decide +kernel
theorem dX11_needsOf_4 : decode cX11_needsOf 4 = .ok (.iconst 5, 1) := by decide +kernel
theorem dX11_needsOf_5 : decode cX11_needsOf 5 = .ok (.iload_n 1, 1) := by decide +kernel
theorem dX11_needsOf_6 : decode cX11_needsOf 6 = .ok (.imul, 1) := by decide +kernel
theorem dX11_needsOf_7 : decode cX11_needsOf 7 = .ok (.iconst 3, 1) := by decide +kernel
theorem dX11_needsOf_8 : decode cX11_needsOf 8 = .ok (.iadd, 1) := by decide +kernel
theorem dX11_needsOf_9 : decode cX11_needsOf 9 = .ok (.iaload, 1) := by decide +kernel
theorem dX11_needsOf_10 : decode cX11_needsOf 10 = .ok (.istore_n 2, 1) := by decide +kernel
theorem dX11_needsOf_11 : decode cX11_needsOf 11 = .ok (.iconst (-1), 1) := by decide +kernel
theorem dX11_needsOf_12 : decode cX11_needsOf 12 = .ok (.istore_n 3, 1) := by decide +kernel
theorem dX11_needsOf_13 : decode cX11_needsOf 13 = .ok (.bipush 99, 2) := by decide +kernel
theorem dX11_needsOf_15 : decode cX11_needsOf 15 = .ok (.istore 4, 2) := by decide +kernel
theorem dX11_needsOf_17 : decode cX11_needsOf 17 = .ok (.iload 4, 2) := by decide +kernel
theorem dX11_needsOf_19 : decode cX11_needsOf 19 = .ok (.ifCond .lt 42, 3) := by decide +kernel
theorem dX11_needsOf_22 : decode cX11_needsOf 22 = .ok (.aload_n 0, 1) := by decide +kernel
theorem dX11_needsOf_23 : decode cX11_needsOf 23 = .ok (.getfield 31, 3) := by decide +kernel
theorem dX11_needsOf_26 : decode cX11_needsOf 26 = .ok (.iconst 5, 1) := by decide +kernel
theorem dX11_needsOf_27 : decode cX11_needsOf 27 = .ok (.iload_n 1, 1) := by decide +kernel
theorem dX11_needsOf_28 : decode cX11_needsOf 28 = .ok (.imul, 1) := by decide +kernel
theorem dX11_needsOf_29 : decode cX11_needsOf 29 = .ok (.iconst 3, 1) := by decide +kernel
theorem dX11_needsOf_30 : decode cX11_needsOf 30 = .ok (.iadd, 1) := by decide +kernel
theorem dX11_needsOf_31 : decode cX11_needsOf 31 = .ok (.iload 4, 2) := by decide +kernel
theorem dX11_needsOf_33 : decode cX11_needsOf 33 = .ok (.iastore, 1) := by decide +kernel
theorem dX11_needsOf_34 : decode cX11_needsOf 34 = .ok (.aload_n 0, 1) := by decide +kernel
theorem dX11_needsOf_35 : decode cX11_needsOf 35 = .ok (.invokevirtual 215, 3) := by decide +kernel
theorem dX11_needsOf_38 : decode cX11_needsOf 38 = .ok (.aload_n 0, 1) := by decide +kernel
theorem dX11_needsOf_39 : decode cX11_needsOf 39 = .ok (.getfield 46, 3) := by decide +kernel
theorem dX11_needsOf_42 : decode cX11_needsOf 42 = .ok (.iload_n 1, 1) := by decide +kernel
theorem dX11_needsOf_43 : decode cX11_needsOf 43 = .ok (.iaload, 1) := by decide +kernel
theorem dX11_needsOf_44 : decode cX11_needsOf 44 = .ok (.iconst 2, 1) := by decide +kernel
theorem dX11_needsOf_45 : decode cX11_needsOf 45 = .ok (.if_icmp .ne 8, 3) := by decide +kernel
theorem dX11_needsOf_48 : decode cX11_needsOf 48 = .ok (.iload 4, 2) := by decide +kernel
theorem dX11_needsOf_50 : decode cX11_needsOf 50 = .ok (.goto 4, 3) := by decide +kernel
theorem dX11_needsOf_53 : decode cX11_needsOf 53 = .ok (.iload_n 3, 1) := by decide +kernel
theorem dX11_needsOf_54 : decode cX11_needsOf 54 = .ok (.istore_n 3, 1) := by decide +kernel
theorem dX11_needsOf_55 : decode cX11_needsOf 55 = .ok (.iinc 4 (-1), 3) := by decide +kernel
theorem dX11_needsOf_58 : decode cX11_needsOf 58 = .ok (.goto (-41), 3) := by decide +kernel
theorem dX11_needsOf_61 : decode cX11_needsOf 61 = .ok (.aload_n 0, 1) := by decide +kernel
theorem dX11_needsOf_62 : decode cX11_needsOf 62 = .ok (.getfield 31, 3) := by decide +kernel
theorem dX11_needsOf_65 : decode cX11_needsOf 65 = .ok (.iconst 5, 1) := by decide +kernel
theorem dX11_needsOf_66 : decode cX11_needsOf 66 = .ok (.iload_n 1, 1) := by decide +kernel
theorem dX11_needsOf_67 : decode cX11_needsOf 67 = .ok (.imul, 1) := by decide +kernel
theorem dX11_needsOf_68 : decode cX11_needsOf 68 = .ok (.iconst 3, 1) := by decide +kernel
theorem dX11_needsOf_69 : decode cX11_needsOf 69 = .ok (.iadd, 1) := by decide +kernel
theorem dX11_needsOf_70 : decode cX11_needsOf 70 = .ok (.iload_n 2, 1) := by decide +kernel
theorem dX11_needsOf_71 : decode cX11_needsOf 71 = .ok (.iastore, 1) := by decide +kernel
theorem dX11_needsOf_72 : decode cX11_needsOf 72 = .ok (.iload_n 3, 1) := by decide +kernel
theorem dX11_needsOf_73 : decode cX11_needsOf 73 = .ok (.ireturn, 1) := by decide +kernel
theorem dX11_needs_0 : decode cX11_needs 0 = .ok (.aload_n 0, 1) := by decide +kernel
theorem dX11_needs_1 : decode cX11_needs 1 = .ok (.invokevirtual 218, 3) := by decide +kernel
theorem dX11_needs_4 : decode cX11_needs 4 = .ok (.aload_n 0, 1) := by decide +kernel
theorem dX11_needs_5 : decode cX11_needs 5 = .ok (.iload_n 1, 1) := by decide +kernel
theorem dX11_needs_6 : decode cX11_needs 6 = .ok (.invokevirtual 153, 3) := by decide +kernel
theorem dX11_needs_9 : decode cX11_needs 9 = .ok (.ifCond .eq 11, 3) := by decide +kernel
theorem dX11_needs_12 : decode cX11_needs 12 = .ok (.aload_n 0, 1) := by decide +kernel
theorem dX11_needs_13 : decode cX11_needs 13 = .ok (.iload_n 1, 1) := by decide +kernel
theorem dX11_needs_14 : decode cX11_needs 14 = .ok (.invokevirtual 238, 3) := by decide +kernel
theorem dX11_needs_17 : decode cX11_needs 17 = .ok (.goto 5, 3) := by decide +kernel
theorem dX11_needs_20 : decode cX11_needs 20 = .ok (.bipush (-2), 2) := by decide +kernel
theorem dX11_needs_22 : decode cX11_needs 22 = .ok (.ireturn, 1) := by decide +kernel
theorem dX11_lends_0 : decode cX11_lends 0 = .ok (.iconst 2, 1) := by decide +kernel
theorem dX11_lends_1 : decode cX11_lends 1 = .ok (.istore_n 3, 1) := by decide +kernel
theorem dX11_lends_2 : decode cX11_lends 2 = .ok (.iload_n 3, 1) := by decide +kernel
theorem dX11_lends_3 : decode cX11_lends 3 = .ok (.iconst 4, 1) := by decide +kernel
theorem dX11_lends_4 : decode cX11_lends 4 = .ok (.if_icmp .ge 53, 3) := by decide +kernel
theorem dX11_lends_7 : decode cX11_lends 7 = .ok (.aload_n 0, 1) := by decide +kernel
theorem dX11_lends_8 : decode cX11_lends 8 = .ok (.getfield 31, 3) := by decide +kernel
theorem dX11_lends_11 : decode cX11_lends 11 = .ok (.iconst 5, 1) := by decide +kernel
theorem dX11_lends_12 : decode cX11_lends 12 = .ok (.iload_n 1, 1) := by decide +kernel
theorem dX11_lends_13 : decode cX11_lends 13 = .ok (.imul, 1) := by decide +kernel
theorem dX11_lends_14 : decode cX11_lends 14 = .ok (.iload_n 3, 1) := by decide +kernel
theorem dX11_lends_15 : decode cX11_lends 15 = .ok (.iadd, 1) := by decide +kernel
theorem dX11_lends_16 : decode cX11_lends 16 = .ok (.iaload, 1) := by decide +kernel
theorem dX11_lends_17 : decode cX11_lends 17 = .ok (.istore 4, 2) := by decide +kernel
theorem dX11_lends_19 : decode cX11_lends 19 = .ok (.aload_n 0, 1) := by decide +kernel
theorem dX11_lends_20 : decode cX11_lends 20 = .ok (.getfield 31, 3) := by decide +kernel
theorem dX11_lends_23 : decode cX11_lends 23 = .ok (.iconst 5, 1) := by decide +kernel
theorem dX11_lends_24 : decode cX11_lends 24 = .ok (.iload_n 1, 1) := by decide +kernel
theorem dX11_lends_25 : decode cX11_lends 25 = .ok (.imul, 1) := by decide +kernel
theorem dX11_lends_26 : decode cX11_lends 26 = .ok (.iload_n 3, 1) := by decide +kernel
theorem dX11_lends_27 : decode cX11_lends 27 = .ok (.iadd, 1) := by decide +kernel
theorem dX11_lends_28 : decode cX11_lends 28 = .ok (.aload_n 0, 1) := by decide +kernel
theorem dX11_lends_29 : decode cX11_lends 29 = .ok (.getfield 31, 3) := by decide +kernel
theorem dX11_lends_32 : decode cX11_lends 32 = .ok (.iconst 5, 1) := by decide +kernel
theorem dX11_lends_33 : decode cX11_lends 33 = .ok (.iload_n 2, 1) := by decide +kernel
theorem dX11_lends_34 : decode cX11_lends 34 = .ok (.imul, 1) := by decide +kernel
theorem dX11_lends_35 : decode cX11_lends 35 = .ok (.iload_n 3, 1) := by decide +kernel
theorem dX11_lends_36 : decode cX11_lends 36 = .ok (.iadd, 1) := by decide +kernel
theorem dX11_lends_37 : decode cX11_lends 37 = .ok (.iaload, 1) := by decide +kernel
theorem dX11_lends_38 : decode cX11_lends 38 = .ok (.iastore, 1) := by decide +kernel
theorem dX11_lends_39 : decode cX11_lends 39 = .ok (.aload_n 0, 1) := by decide +kernel
theorem dX11_lends_40 : decode cX11_lends 40 = .ok (.getfield 31, 3) := by decide +kernel
theorem dX11_lends_43 : decode cX11_lends 43 = .ok (.iconst 5, 1) := by decide +kernel
theorem dX11_lends_44 : decode cX11_lends 44 = .ok (.iload_n 2, 1) := by decide +kernel
theorem dX11_lends_45 : decode cX11_lends 45 = .ok (.imul, 1) := by decide +kernel
theorem dX11_lends_46 : decode cX11_lends 46 = .ok (.iload_n 3, 1) := by decide +kernel
theorem dX11_lends_47 : decode cX11_lends 47 = .ok (.iadd, 1) := by decide +kernel
theorem dX11_lends_48 : decode cX11_lends 48 = .ok (.iload 4, 2) := by decide +kernel
theorem dX11_lends_50 : decode cX11_lends 50 = .ok (.iastore, 1) := by decide +kernel
theorem dX11_lends_51 : decode cX11_lends 51 = .ok (.iinc 3 1, 3) := by decide +kernel
theorem dX11_lends_54 : decode cX11_lends 54 = .ok (.goto (-52), 3) := by decide +kernel
theorem dX11_lends_57 : decode cX11_lends 57 = .ok (.return_, 1) := by decide +kernel
theorem dX11_lendBy_0 : decode cX11_lendBy 0 = .ok (.iconst (-1), 1) := by decide +kernel
theorem dX11_lendBy_1 : decode cX11_lendBy 1 = .ok (.istore_n 2, 1) := by decide +kernel
theorem dX11_lendBy_2 : decode cX11_lendBy 2 = .ok (.iconst (-1), 1) := by decide +kernel
theorem dX11_lendBy_3 : decode cX11_lendBy 3 = .ok (.istore_n 3, 1) := by decide +kernel
theorem dX11_lendBy_4 : decode cX11_lendBy 4 = .ok (.iconst 0, 1) := by decide +kernel
theorem dX11_lendBy_5 : decode cX11_lendBy 5 = .ok (.istore 4, 2) := by decide +kernel
theorem dX11_lendBy_7 : decode cX11_lendBy 7 = .ok (.iload 4, 2) := by decide +kernel
theorem dX11_lendBy_9 : decode cX11_lendBy 9 = .ok (.bipush 64, 2) := by decide +kernel
theorem dX11_lendBy_11 : decode cX11_lendBy 11 = .ok (.if_icmp .ge 85, 3) := by decide +kernel
theorem dX11_lendBy_14 : decode cX11_lendBy 14 = .ok (.iload 4, 2) := by decide +kernel
theorem dX11_lendBy_16 : decode cX11_lendBy 16 = .ok (.bipush 8, 2) := by decide +kernel
theorem dX11_lendBy_18 : decode cX11_lendBy 18 = .ok (.idiv, 1) := by decide +kernel
theorem dX11_lendBy_19 : decode cX11_lendBy 19 = .ok (.istore 5, 2) := by decide +kernel
theorem dX11_lendBy_21 : decode cX11_lendBy 21 = .ok (.iload 4, 2) := by decide +kernel
theorem dX11_lendBy_23 : decode cX11_lendBy 23 = .ok (.bipush 8, 2) := by decide +kernel
theorem dX11_lendBy_25 : decode cX11_lendBy 25 = .ok (.irem, 1) := by decide +kernel
theorem dX11_lendBy_26 : decode cX11_lendBy 26 = .ok (.istore 6, 2) := by decide +kernel
theorem dX11_lendBy_28 : decode cX11_lendBy 28 = .ok (.iload 5, 2) := by decide +kernel
theorem dX11_lendBy_30 : decode cX11_lendBy 30 = .ok (.iload 6, 2) := by decide +kernel
theorem dX11_lendBy_32 : decode cX11_lendBy 32 = .ok (.if_icmp .ge 58, 3) := by decide +kernel
theorem dX11_lendBy_35 : decode cX11_lendBy 35 = .ok (.iload 6, 2) := by decide +kernel
theorem dX11_lendBy_37 : decode cX11_lendBy 37 = .ok (.aload_n 0, 1) := by decide +kernel
theorem dX11_lendBy_38 : decode cX11_lendBy 38 = .ok (.getfield 133, 3) := by decide +kernel
theorem dX11_lendBy_41 : decode cX11_lendBy 41 = .ok (.if_icmp .ge 49, 3) := by decide +kernel
theorem dX11_lendBy_44 : decode cX11_lendBy 44 = .ok (.aload_n 0, 1) := by decide +kernel
theorem dX11_lendBy_45 : decode cX11_lendBy 45 = .ok (.iload 5, 2) := by decide +kernel
theorem dX11_lendBy_47 : decode cX11_lendBy 47 = .ok (.iload 6, 2) := by decide +kernel
theorem dX11_lendBy_49 : decode cX11_lendBy 49 = .ok (.invokevirtual 241, 3) := by decide +kernel
theorem dX11_lendBy_52 : decode cX11_lendBy 52 = .ok (.aload_n 0, 1) := by decide +kernel
theorem dX11_lendBy_53 : decode cX11_lendBy 53 = .ok (.invokevirtual 215, 3) := by decide +kernel
theorem dX11_lendBy_56 : decode cX11_lendBy 56 = .ok (.aload_n 0, 1) := by decide +kernel
theorem dX11_lendBy_57 : decode cX11_lendBy 57 = .ok (.invokevirtual 244, 3) := by decide +kernel
theorem dX11_lendBy_60 : decode cX11_lendBy 60 = .ok (.istore 7, 2) := by decide +kernel
theorem dX11_lendBy_62 : decode cX11_lendBy 62 = .ok (.iload 7, 2) := by decide +kernel
theorem dX11_lendBy_64 : decode cX11_lendBy 64 = .ok (.iload_n 3, 1) := by decide +kernel
theorem dX11_lendBy_65 : decode cX11_lendBy 65 = .ok (.if_icmp .le 8, 3) := by decide +kernel
theorem dX11_lendBy_68 : decode cX11_lendBy 68 = .ok (.iload 4, 2) := by decide +kernel
theorem dX11_lendBy_70 : decode cX11_lendBy 70 = .ok (.goto 4, 3) := by decide +kernel
theorem dX11_lendBy_73 : decode cX11_lendBy 73 = .ok (.iload_n 2, 1) := by decide +kernel
theorem dX11_lendBy_74 : decode cX11_lendBy 74 = .ok (.istore_n 2, 1) := by decide +kernel
theorem dX11_lendBy_75 : decode cX11_lendBy 75 = .ok (.iload 7, 2) := by decide +kernel
theorem dX11_lendBy_77 : decode cX11_lendBy 77 = .ok (.iload_n 3, 1) := by decide +kernel
theorem dX11_lendBy_78 : decode cX11_lendBy 78 = .ok (.invokestatic 229, 3) := by decide +kernel
theorem dX11_lendBy_81 : decode cX11_lendBy 81 = .ok (.istore_n 3, 1) := by decide +kernel
theorem dX11_lendBy_82 : decode cX11_lendBy 82 = .ok (.aload_n 0, 1) := by decide +kernel
theorem dX11_lendBy_83 : decode cX11_lendBy 83 = .ok (.iload 5, 2) := by decide +kernel
theorem dX11_lendBy_85 : decode cX11_lendBy 85 = .ok (.iload 6, 2) := by decide +kernel
theorem dX11_lendBy_87 : decode cX11_lendBy 87 = .ok (.invokevirtual 241, 3) := by decide +kernel
theorem dX11_lendBy_90 : decode cX11_lendBy 90 = .ok (.iinc 4 1, 3) := by decide +kernel
theorem dX11_lendBy_93 : decode cX11_lendBy 93 = .ok (.goto (-86), 3) := by decide +kernel
theorem dX11_lendBy_96 : decode cX11_lendBy 96 = .ok (.iload_n 2, 1) := by decide +kernel
theorem dX11_lendBy_97 : decode cX11_lendBy 97 = .ok (.iconst (-1), 1) := by decide +kernel
theorem dX11_lendBy_98 : decode cX11_lendBy 98 = .ok (.if_icmp .ne 7, 3) := by decide +kernel
theorem dX11_lendBy_101 : decode cX11_lendBy 101 = .ok (.iconst (-1), 1) := by decide +kernel
theorem dX11_lendBy_102 : decode cX11_lendBy 102 = .ok (.goto 27, 3) := by decide +kernel
theorem dX11_lendBy_105 : decode cX11_lendBy 105 = .ok (.iload_n 1, 1) := by decide +kernel
theorem dX11_lendBy_106 : decode cX11_lendBy 106 = .ok (.ifCond .ne 10, 3) := by decide +kernel
theorem dX11_lendBy_109 : decode cX11_lendBy 109 = .ok (.iload_n 2, 1) := by decide +kernel
theorem dX11_lendBy_110 : decode cX11_lendBy 110 = .ok (.bipush 8, 2) := by decide +kernel
theorem dX11_lendBy_112 : decode cX11_lendBy 112 = .ok (.idiv, 1) := by decide +kernel
theorem dX11_lendBy_113 : decode cX11_lendBy 113 = .ok (.goto 16, 3) := by decide +kernel
theorem dX11_lendBy_116 : decode cX11_lendBy 116 = .ok (.iload_n 1, 1) := by decide +kernel
theorem dX11_lendBy_117 : decode cX11_lendBy 117 = .ok (.iconst 1, 1) := by decide +kernel
theorem dX11_lendBy_118 : decode cX11_lendBy 118 = .ok (.if_icmp .ne 10, 3) := by decide +kernel
theorem dX11_lendBy_121 : decode cX11_lendBy 121 = .ok (.iload_n 2, 1) := by decide +kernel
theorem dX11_lendBy_122 : decode cX11_lendBy 122 = .ok (.bipush 8, 2) := by decide +kernel
theorem dX11_lendBy_124 : decode cX11_lendBy 124 = .ok (.irem, 1) := by decide +kernel
theorem dX11_lendBy_125 : decode cX11_lendBy 125 = .ok (.goto 4, 3) := by decide +kernel
theorem dX11_lendBy_128 : decode cX11_lendBy 128 = .ok (.iload_n 3, 1) := by decide +kernel
theorem dX11_lendBy_129 : decode cX11_lendBy 129 = .ok (.ireturn, 1) := by decide +kernel
theorem dX11_lend_0 : decode cX11_lend 0 = .ok (.aload_n 0, 1) := by decide +kernel
theorem dX11_lend_1 : decode cX11_lend 1 = .ok (.invokevirtual 218, 3) := by decide +kernel
theorem dX11_lend_4 : decode cX11_lend 4 = .ok (.iload_n 1, 1) := by decide +kernel
theorem dX11_lend_5 : decode cX11_lend 5 = .ok (.i2l, 1) := by decide +kernel
theorem dX11_lend_6 : decode cX11_lend 6 = .ok (.lconst 0, 1) := by decide +kernel
theorem dX11_lend_7 : decode cX11_lend 7 = .ok (.ldc2_w 95, 3) := by decide +kernel
theorem dX11_lend_10 : decode cX11_lend 10 = .ok (.invokestatic 81, 3) := by decide +kernel
theorem dX11_lend_13 : decode cX11_lend 13 = .ok (.ifCond .eq 11, 3) := by decide +kernel
theorem dX11_lend_16 : decode cX11_lend 16 = .ok (.aload_n 0, 1) := by decide +kernel
theorem dX11_lend_17 : decode cX11_lend 17 = .ok (.iload_n 1, 1) := by decide +kernel
theorem dX11_lend_18 : decode cX11_lend 18 = .ok (.invokevirtual 247, 3) := by decide +kernel
theorem dX11_lend_21 : decode cX11_lend 21 = .ok (.goto 5, 3) := by decide +kernel
theorem dX11_lend_24 : decode cX11_lend 24 = .ok (.bipush (-2), 2) := by decide +kernel
theorem dX11_lend_26 : decode cX11_lend 26 = .ok (.ireturn, 1) := by decide +kernel
theorem dX11_delayOf_0 : decode cX11_delayOf 0 = .ok (.aload_n 0, 1) := by decide +kernel
theorem dX11_delayOf_1 : decode cX11_delayOf 1 = .ok (.getfield 34, 3) := by decide +kernel
theorem dX11_delayOf_4 : decode cX11_delayOf 4 = .ok (.iload_n 1, 1) := by decide +kernel
theorem dX11_delayOf_5 : decode cX11_delayOf 5 = .ok (.iaload, 1) := by decide +kernel
theorem dX11_delayOf_6 : decode cX11_delayOf 6 = .ok (.istore_n 3, 1) := by decide +kernel
theorem dX11_delayOf_7 : decode cX11_delayOf 7 = .ok (.iconst (-1), 1) := by decide +kernel
theorem dX11_delayOf_8 : decode cX11_delayOf 8 = .ok (.istore 4, 2) := by decide +kernel
theorem dX11_delayOf_10 : decode cX11_delayOf 10 = .ok (.iconst (-1), 1) := by decide +kernel
theorem dX11_delayOf_11 : decode cX11_delayOf 11 = .ok (.istore 5, 2) := by decide +kernel
theorem dX11_delayOf_13 : decode cX11_delayOf 13 = .ok (.iconst 0, 1) := by decide +kernel
theorem dX11_delayOf_14 : decode cX11_delayOf 14 = .ok (.istore 6, 2) := by decide +kernel
theorem dX11_delayOf_16 : decode cX11_delayOf 16 = .ok (.iload 6, 2) := by decide +kernel
theorem dX11_delayOf_18 : decode cX11_delayOf 18 = .ok (.bipush 10, 2) := by decide +kernel
theorem dX11_delayOf_20 : decode cX11_delayOf 20 = .ok (.if_icmp .ge 52, 3) := by decide +kernel
theorem dX11_delayOf_23 : decode cX11_delayOf 23 = .ok (.aload_n 0, 1) := by decide +kernel
theorem dX11_delayOf_24 : decode cX11_delayOf 24 = .ok (.getfield 34, 3) := by decide +kernel
theorem dX11_delayOf_27 : decode cX11_delayOf 27 = .ok (.iload_n 1, 1) := by decide +kernel
theorem dX11_delayOf_28 : decode cX11_delayOf 28 = .ok (.iload 6, 2) := by decide +kernel
theorem dX11_delayOf_30 : decode cX11_delayOf 30 = .ok (.iastore, 1) := by decide +kernel
theorem dX11_delayOf_31 : decode cX11_delayOf 31 = .ok (.aload_n 0, 1) := by decide +kernel
theorem dX11_delayOf_32 : decode cX11_delayOf 32 = .ok (.invokevirtual 215, 3) := by decide +kernel
theorem dX11_delayOf_35 : decode cX11_delayOf 35 = .ok (.aload_n 0, 1) := by decide +kernel
theorem dX11_delayOf_36 : decode cX11_delayOf 36 = .ok (.invokevirtual 244, 3) := by decide +kernel
theorem dX11_delayOf_39 : decode cX11_delayOf 39 = .ok (.istore 7, 2) := by decide +kernel
theorem dX11_delayOf_41 : decode cX11_delayOf 41 = .ok (.iload 7, 2) := by decide +kernel
theorem dX11_delayOf_43 : decode cX11_delayOf 43 = .ok (.iload 5, 2) := by decide +kernel
theorem dX11_delayOf_45 : decode cX11_delayOf 45 = .ok (.if_icmp .le 8, 3) := by decide +kernel
theorem dX11_delayOf_48 : decode cX11_delayOf 48 = .ok (.iload 6, 2) := by decide +kernel
theorem dX11_delayOf_50 : decode cX11_delayOf 50 = .ok (.goto 5, 3) := by decide +kernel
theorem dX11_delayOf_53 : decode cX11_delayOf 53 = .ok (.iload 4, 2) := by decide +kernel
theorem dX11_delayOf_55 : decode cX11_delayOf 55 = .ok (.istore 4, 2) := by decide +kernel
theorem dX11_delayOf_57 : decode cX11_delayOf 57 = .ok (.iload 7, 2) := by decide +kernel
theorem dX11_delayOf_59 : decode cX11_delayOf 59 = .ok (.iload 5, 2) := by decide +kernel
theorem dX11_delayOf_61 : decode cX11_delayOf 61 = .ok (.invokestatic 229, 3) := by decide +kernel
theorem dX11_delayOf_64 : decode cX11_delayOf 64 = .ok (.istore 5, 2) := by decide +kernel
theorem dX11_delayOf_66 : decode cX11_delayOf 66 = .ok (.iinc 6 1, 3) := by decide +kernel
theorem dX11_delayOf_69 : decode cX11_delayOf 69 = .ok (.goto (-53), 3) := by decide +kernel
theorem dX11_delayOf_72 : decode cX11_delayOf 72 = .ok (.aload_n 0, 1) := by decide +kernel
theorem dX11_delayOf_73 : decode cX11_delayOf 73 = .ok (.getfield 34, 3) := by decide +kernel
theorem dX11_delayOf_76 : decode cX11_delayOf 76 = .ok (.iload_n 1, 1) := by decide +kernel
theorem dX11_delayOf_77 : decode cX11_delayOf 77 = .ok (.iload_n 3, 1) := by decide +kernel
theorem dX11_delayOf_78 : decode cX11_delayOf 78 = .ok (.iastore, 1) := by decide +kernel
theorem dX11_delayOf_79 : decode cX11_delayOf 79 = .ok (.iload_n 2, 1) := by decide +kernel
theorem dX11_delayOf_80 : decode cX11_delayOf 80 = .ok (.ifCond .ne 8, 3) := by decide +kernel
theorem dX11_delayOf_83 : decode cX11_delayOf 83 = .ok (.iload 4, 2) := by decide +kernel
theorem dX11_delayOf_85 : decode cX11_delayOf 85 = .ok (.goto 5, 3) := by decide +kernel
theorem dX11_delayOf_88 : decode cX11_delayOf 88 = .ok (.iload 5, 2) := by decide +kernel
theorem dX11_delayOf_90 : decode cX11_delayOf 90 = .ok (.ireturn, 1) := by decide +kernel
theorem dX11_delay_0 : decode cX11_delay 0 = .ok (.aload_n 0, 1) := by decide +kernel
theorem dX11_delay_1 : decode cX11_delay 1 = .ok (.invokevirtual 218, 3) := by decide +kernel
theorem dX11_delay_4 : decode cX11_delay 4 = .ok (.aload_n 0, 1) := by decide +kernel
theorem dX11_delay_5 : decode cX11_delay 5 = .ok (.iload_n 1, 1) := by decide +kernel
theorem dX11_delay_6 : decode cX11_delay 6 = .ok (.invokevirtual 153, 3) := by decide +kernel
theorem dX11_delay_9 : decode cX11_delay 9 = .ok (.ifCond .eq 19, 3) := by decide +kernel
theorem dX11_delay_12 : decode cX11_delay 12 = .ok (.iload_n 2, 1) := by decide +kernel
theorem dX11_delay_13 : decode cX11_delay 13 = .ok (.invokestatic 110, 3) := by decide +kernel
theorem dX11_delay_16 : decode cX11_delay 16 = .ok (.ifCond .eq 12, 3) := by decide +kernel
theorem dX11_delay_19 : decode cX11_delay 19 = .ok (.aload_n 0, 1) := by decide +kernel
theorem dX11_delay_20 : decode cX11_delay 20 = .ok (.iload_n 1, 1) := by decide +kernel
theorem dX11_delay_21 : decode cX11_delay 21 = .ok (.iload_n 2, 1) := by decide +kernel
theorem dX11_delay_22 : decode cX11_delay 22 = .ok (.invokevirtual 250, 3) := by decide +kernel
theorem dX11_delay_25 : decode cX11_delay 25 = .ok (.goto 5, 3) := by decide +kernel
theorem dX11_delay_28 : decode cX11_delay 28 = .ok (.bipush (-2), 2) := by decide +kernel
theorem dX11_delay_30 : decode cX11_delay 30 = .ok (.ireturn, 1) := by decide +kernel
theorem dX11_levelBy_0 : decode cX11_levelBy 0 = .ok (.iconst (-1), 1) := by decide +kernel
theorem dX11_levelBy_1 : decode cX11_levelBy 1 = .ok (.istore_n 2, 1) := by decide +kernel
theorem dX11_levelBy_2 : decode cX11_levelBy 2 = .ok (.iconst (-1), 1) := by decide +kernel
theorem dX11_levelBy_3 : decode cX11_levelBy 3 = .ok (.istore_n 3, 1) := by decide +kernel
theorem dX11_levelBy_4 : decode cX11_levelBy 4 = .ok (.iconst 0, 1) := by decide +kernel
theorem dX11_levelBy_5 : decode cX11_levelBy 5 = .ok (.istore 4, 2) := by decide +kernel
theorem dX11_levelBy_7 : decode cX11_levelBy 7 = .ok (.iload 4, 2) := by decide +kernel
theorem dX11_levelBy_9 : decode cX11_levelBy 9 = .ok (.aload_n 0, 1) := by decide +kernel
theorem dX11_levelBy_10 : decode cX11_levelBy 10 = .ok (.getfield 127, 3) := by decide +kernel
theorem dX11_levelBy_13 : decode cX11_levelBy 13 = .ok (.if_icmp .ge 81, 3) := by decide +kernel
theorem dX11_levelBy_16 : decode cX11_levelBy 16 = .ok (.aload_n 0, 1) := by decide +kernel
theorem dX11_levelBy_17 : decode cX11_levelBy 17 = .ok (.getfield 28, 3) := by decide +kernel
theorem dX11_levelBy_20 : decode cX11_levelBy 20 = .ok (.iconst 4, 1) := by decide +kernel
theorem dX11_levelBy_21 : decode cX11_levelBy 21 = .ok (.iload 4, 2) := by decide +kernel
theorem dX11_levelBy_23 : decode cX11_levelBy 23 = .ok (.imul, 1) := by decide +kernel
theorem dX11_levelBy_24 : decode cX11_levelBy 24 = .ok (.iconst 3, 1) := by decide +kernel
theorem dX11_levelBy_25 : decode cX11_levelBy 25 = .ok (.iadd, 1) := by decide +kernel
theorem dX11_levelBy_26 : decode cX11_levelBy 26 = .ok (.iaload, 1) := by decide +kernel
theorem dX11_levelBy_27 : decode cX11_levelBy 27 = .ok (.istore 5, 2) := by decide +kernel
theorem dX11_levelBy_29 : decode cX11_levelBy 29 = .ok (.aload_n 0, 1) := by decide +kernel
theorem dX11_levelBy_30 : decode cX11_levelBy 30 = .ok (.getfield 28, 3) := by decide +kernel
theorem dX11_levelBy_33 : decode cX11_levelBy 33 = .ok (.iconst 4, 1) := by decide +kernel
theorem dX11_levelBy_34 : decode cX11_levelBy 34 = .ok (.iload 4, 2) := by decide +kernel
theorem dX11_levelBy_36 : decode cX11_levelBy 36 = .ok (.imul, 1) := by decide +kernel
