theorem dX5_init_0 : decode cX5_init 0 = .ok (.aload_n 0, 1) := by decide +kernel
theorem dX5_init_1 : decode cX5_init 1 = .ok (.invokespecial 3, 3) := by decide +kernel
theorem dX5_init_4 : decode cX5_init 4 = .ok (.aload_n 0, 1) := by decide +kernel
theorem dX5_init_5 : decode cX5_init 5 = .ok (.new 9, 3) := by decide +kernel
theorem dX5_init_8 : decode cX5_init 8 = .ok (.dup, 1) := by decide +kernel
theorem dX5_init_9 : decode cX5_init 9 = .ok (.invokespecial 11, 3) := by decide +kernel
theorem dX5_init_12 : decode cX5_init 12 = .ok (.putfield 12, 3) := by decide +kernel
theorem dX5_init_15 : decode cX5_init 15 = .ok (.aload_n 0, 1) := by decide +kernel
theorem dX5_init_16 : decode cX5_init 16 = .ok (.iconst (-1), 1) := by decide +kernel
theorem dX5_init_17 : decode cX5_init 17 = .ok (.putfield 18, 3) := by decide +kernel
theorem dX5_init_20 : decode cX5_init 20 = .ok (.aload_n 0, 1) := by decide +kernel
theorem dX5_init_21 : decode cX5_init 21 = .ok (.iconst (-1), 1) := by decide +kernel
theorem dX5_init_22 : decode cX5_init 22 = .ok (.putfield 22, 3) := by decide +kernel
theorem dX5_init_25 : decode cX5_init 25 = .ok (.aload_n 0, 1) := by decide +kernel
theorem dX5_init_26 : decode cX5_init 26 = .ok (.iconst (-1), 1) := by decide +kernel
theorem dX5_init_27 : decode cX5_init 27 = .ok (.putfield 25, 3) := by decide +kernel
theorem dX5_init_30 : decode cX5_init 30 = .ok (.aload_n 0, 1) := by decide +kernel
theorem dX5_init_31 : decode cX5_init 31 = .ok (.aload_n 1, 1) := by decide +kernel
theorem dX5_init_32 : decode cX5_init 32 = .ok (.putfield 28, 3) := by decide +kernel
theorem dX5_init_35 : decode cX5_init 35 = .ok (.aload_n 0, 1) := by decide +kernel
theorem dX5_init_36 : decode cX5_init 36 = .ok (.aload_n 2, 1) := by decide +kernel
theorem dX5_init_37 : decode cX5_init 37 = .ok (.putfield 32, 3) := by decide +kernel
theorem dX5_init_40 : decode cX5_init 40 = .ok (.aload_n 0, 1) := by decide +kernel
theorem dX5_init_41 : decode cX5_init 41 = .ok (.aload_n 3, 1) := by decide +kernel
theorem dX5_init_42 : decode cX5_init 42 = .ok (.putfield 35, 3) := by decide +kernel
theorem dX5_init_45 : decode cX5_init 45 = .ok (.return_, 1) := by decide +kernel
theorem dX5_leastStrength_0 : decode cX5_leastStrength 0 = .ok (.aload_n 0, 1) := by decide +kernel
theorem dX5_leastStrength_1 : decode cX5_leastStrength 1 = .ok (.getfield 32, 3) := by decide +kernel
theorem dX5_leastStrength_4 : decode cX5_leastStrength 4 = .ok (.aload_n 0, 1) := by decide +kernel
theorem dX5_leastStrength_5 : decode cX5_leastStrength 5 = .ok (.getfield 28, 3) := by decide +kernel
theorem dX5_leastStrength_8 : decode cX5_leastStrength 8 = .ok (.invokevirtual 39, 3) := by decide +kernel
theorem dX5_leastStrength_11 : decode cX5_leastStrength 11 = .ok (.iconst 0, 1) := by decide +kernel
theorem dX5_leastStrength_12 : decode cX5_leastStrength 12 = .ok (.istore_n 2, 1) := by decide +kernel
theorem dX5_leastStrength_13 : decode cX5_leastStrength 13 = .ok (.iconst 0, 1) := by decide +kernel
theorem dX5_leastStrength_14 : decode cX5_leastStrength 14 = .ok (.istore_n 3, 1) := by decide +kernel
theorem dX5_leastStrength_15 : decode cX5_leastStrength 15 = .ok (.iload_n 3, 1) := by decide +kernel
theorem dX5_leastStrength_16 : decode cX5_leastStrength 16 = .ok (.bipush 100, 2) := by decide +kernel
theorem dX5_leastStrength_18 : decode cX5_leastStrength 18 = .ok (.if_icmp .ge 61, 3) := by decide +kernel
theorem dX5_leastStrength_21 : decode cX5_leastStrength 21 = .ok (.iload_n 2, 1) := by decide +kernel
theorem dX5_leastStrength_22 : decode cX5_leastStrength 22 = .ok (.bipush 100, 2) := by decide +kernel
theorem dX5_leastStrength_24 : decode cX5_leastStrength 24 = .ok (.if_icmp .ge 55, 3) := by decide +kernel
theorem dX5_leastStrength_27 : decode cX5_leastStrength 27 = .ok (.aload_n 0, 1) := by decide +kernel
theorem dX5_leastStrength_28 : decode cX5_leastStrength 28 = .ok (.getfield 32, 3) := by decide +kernel
theorem dX5_leastStrength_31 : decode cX5_leastStrength 31 = .ok (.getfield 45, 3) := by decide +kernel
theorem dX5_leastStrength_34 : decode cX5_leastStrength 34 = .ok (.iload_n 1, 1) := by decide +kernel
theorem dX5_leastStrength_35 : decode cX5_leastStrength 35 = .ok (.iload_n 2, 1) := by decide +kernel
theorem dX5_leastStrength_36 : decode cX5_leastStrength 36 = .ok (.iastore, 1) := by decide +kernel
theorem dX5_leastStrength_37 : decode cX5_leastStrength 37 = .ok (.aload_n 0, 1) := by decide +kernel
theorem dX5_leastStrength_38 : decode cX5_leastStrength 38 = .ok (.getfield 35, 3) := by decide +kernel
theorem dX5_leastStrength_41 : decode cX5_leastStrength 41 = .ok (.aload_n 0, 1) := by decide +kernel
theorem dX5_leastStrength_42 : decode cX5_leastStrength 42 = .ok (.getfield 32, 3) := by decide +kernel
theorem dX5_leastStrength_45 : decode cX5_leastStrength 45 = .ok (.invokevirtual 49, 3) := by decide +kernel
theorem dX5_leastStrength_48 : decode cX5_leastStrength 48 = .ok (.aload_n 0, 1) := by decide +kernel
theorem dX5_leastStrength_49 : decode cX5_leastStrength 49 = .ok (.getfield 35, 3) := by decide +kernel
theorem dX5_leastStrength_52 : decode cX5_leastStrength 52 = .ok (.getfield 54, 3) := by decide +kernel
theorem dX5_leastStrength_55 : decode cX5_leastStrength 55 = .ok (.iload_n 1, 1) := by decide +kernel
theorem dX5_leastStrength_56 : decode cX5_leastStrength 56 = .ok (.iaload, 1) := by decide +kernel
theorem dX5_leastStrength_57 : decode cX5_leastStrength 57 = .ok (.iconst 2, 1) := by decide +kernel
theorem dX5_leastStrength_58 : decode cX5_leastStrength 58 = .ok (.if_icmp .ne 5, 3) := by decide +kernel
theorem dX5_leastStrength_61 : decode cX5_leastStrength 61 = .ok (.iload_n 2, 1) := by decide +kernel
theorem dX5_leastStrength_62 : decode cX5_leastStrength 62 = .ok (.ireturn, 1) := by decide +kernel
theorem dX5_leastStrength_63 : decode cX5_leastStrength 63 = .ok (.aload_n 0, 1) := by decide +kernel
theorem dX5_leastStrength_64 : decode cX5_leastStrength 64 = .ok (.getfield 35, 3) := by decide +kernel
theorem dX5_leastStrength_67 : decode cX5_leastStrength 67 = .ok (.getfield 57, 3) := by decide +kernel
theorem dX5_leastStrength_70 : decode cX5_leastStrength 70 = .ok (.iload_n 1, 1) := by decide +kernel
theorem dX5_leastStrength_71 : decode cX5_leastStrength 71 = .ok (.iaload, 1) := by decide +kernel
theorem dX5_leastStrength_72 : decode cX5_leastStrength 72 = .ok (.istore_n 2, 1) := by decide +kernel
theorem dX5_leastStrength_73 : decode cX5_leastStrength 73 = .ok (.iinc 3 1, 3) := by decide +kernel
theorem dX5_leastStrength_76 : decode cX5_leastStrength 76 = .ok (.goto (-61), 3) := by decide +kernel
theorem dX5_leastStrength_79 : decode cX5_leastStrength 79 = .ok (.iconst (-1), 1) := by decide +kernel
theorem dX5_leastStrength_80 : decode cX5_leastStrength 80 = .ok (.ireturn, 1) := by decide +kernel
theorem dX5_swapQuestions_0 : decode cX5_swapQuestions 0 = .ok (.aload_n 0, 1) := by decide +kernel
theorem dX5_swapQuestions_1 : decode cX5_swapQuestions 1 = .ok (.invokevirtual 60, 3) := by decide +kernel
theorem dX5_swapQuestions_4 : decode cX5_swapQuestions 4 = .ok (.iconst 0, 1) := by decide +kernel
theorem dX5_swapQuestions_5 : decode cX5_swapQuestions 5 = .ok (.istore_n 1, 1) := by decide +kernel
theorem dX5_swapQuestions_6 : decode cX5_swapQuestions 6 = .ok (.iload_n 1, 1) := by decide +kernel
theorem dX5_swapQuestions_7 : decode cX5_swapQuestions 7 = .ok (.aload_n 0, 1) := by decide +kernel
theorem dX5_swapQuestions_8 : decode cX5_swapQuestions 8 = .ok (.getfield 28, 3) := by decide +kernel
theorem dX5_swapQuestions_11 : decode cX5_swapQuestions 11 = .ok (.getfield 63, 3) := by decide +kernel
theorem dX5_swapQuestions_14 : decode cX5_swapQuestions 14 = .ok (.if_icmp .ge 54, 3) := by decide +kernel
theorem dX5_swapQuestions_17 : decode cX5_swapQuestions 17 = .ok (.iload_n 1, 1) := by decide +kernel
theorem dX5_swapQuestions_18 : decode cX5_swapQuestions 18 = .ok (.iconst 1, 1) := by decide +kernel
theorem dX5_swapQuestions_19 : decode cX5_swapQuestions 19 = .ok (.iadd, 1) := by decide +kernel
theorem dX5_swapQuestions_20 : decode cX5_swapQuestions 20 = .ok (.istore_n 2, 1) := by decide +kernel
theorem dX5_swapQuestions_21 : decode cX5_swapQuestions 21 = .ok (.iload_n 2, 1) := by decide +kernel
theorem dX5_swapQuestions_22 : decode cX5_swapQuestions 22 = .ok (.aload_n 0, 1) := by decide +kernel
theorem dX5_swapQuestions_23 : decode cX5_swapQuestions 23 = .ok (.getfield 28, 3) := by decide +kernel
theorem dX5_swapQuestions_26 : decode cX5_swapQuestions 26 = .ok (.getfield 63, 3) := by decide +kernel
theorem dX5_swapQuestions_29 : decode cX5_swapQuestions 29 = .ok (.if_icmp .ge 33, 3) := by decide +kernel
theorem dX5_swapQuestions_32 : decode cX5_swapQuestions 32 = .ok (.aload_n 0, 1) := by decide +kernel
theorem dX5_swapQuestions_33 : decode cX5_swapQuestions 33 = .ok (.getfield 32, 3) := by decide +kernel
theorem dX5_swapQuestions_36 : decode cX5_swapQuestions 36 = .ok (.iload_n 1, 1) := by decide +kernel
theorem dX5_swapQuestions_37 : decode cX5_swapQuestions 37 = .ok (.iload_n 2, 1) := by decide +kernel
theorem dX5_swapQuestions_38 : decode cX5_swapQuestions 38 = .ok (.invokevirtual 66, 3) := by decide +kernel
theorem dX5_swapQuestions_41 : decode cX5_swapQuestions 41 = .ok (.aload_n 0, 1) := by decide +kernel
theorem dX5_swapQuestions_42 : decode cX5_swapQuestions 42 = .ok (.iload_n 1, 1) := by decide +kernel
theorem dX5_swapQuestions_43 : decode cX5_swapQuestions 43 = .ok (.iload_n 2, 1) := by decide +kernel
theorem dX5_swapQuestions_44 : decode cX5_swapQuestions 44 = .ok (.invokevirtual 70, 3) := by decide +kernel
theorem dX5_swapQuestions_47 : decode cX5_swapQuestions 47 = .ok (.aload_n 0, 1) := by decide +kernel
theorem dX5_swapQuestions_48 : decode cX5_swapQuestions 48 = .ok (.getfield 32, 3) := by decide +kernel
theorem dX5_swapQuestions_51 : decode cX5_swapQuestions 51 = .ok (.iload_n 1, 1) := by decide +kernel
theorem dX5_swapQuestions_52 : decode cX5_swapQuestions 52 = .ok (.iload_n 2, 1) := by decide +kernel
theorem dX5_swapQuestions_53 : decode cX5_swapQuestions 53 = .ok (.invokevirtual 66, 3) := by decide +kernel
theorem dX5_swapQuestions_56 : decode cX5_swapQuestions 56 = .ok (.iinc 2 1, 3) := by decide +kernel
theorem dX5_swapQuestions_59 : decode cX5_swapQuestions 59 = .ok (.goto (-38), 3) := by decide +kernel
theorem dX5_swapQuestions_62 : decode cX5_swapQuestions 62 = .ok (.iinc 1 1, 3) := by decide +kernel
theorem dX5_swapQuestions_65 : decode cX5_swapQuestions 65 = .ok (.goto (-59), 3) := by decide +kernel
theorem dX5_swapQuestions_68 : decode cX5_swapQuestions 68 = .ok (.return_, 1) := by decide +kernel
theorem dX5_postpone_0 : decode cX5_postpone 0 = .ok (.aload_n 0, 1) := by decide +kernel
theorem dX5_postpone_1 : decode cX5_postpone 1 = .ok (.invokevirtual 60, 3) := by decide +kernel
theorem dX5_postpone_4 : decode cX5_postpone 4 = .ok (.iconst 0, 1) := by decide +kernel
theorem dX5_postpone_5 : decode cX5_postpone 5 = .ok (.istore_n 2, 1) := by decide +kernel
theorem dX5_postpone_6 : decode cX5_postpone 6 = .ok (.iload_n 2, 1) := by decide +kernel
theorem dX5_postpone_7 : decode cX5_postpone 7 = .ok (.bipush 10, 2) := by decide +kernel
theorem dX5_postpone_9 : decode cX5_postpone 9 = .ok (.if_icmp .ge 25, 3) := by decide +kernel
theorem dX5_postpone_12 : decode cX5_postpone 12 = .ok (.aload_n 0, 1) := by decide +kernel
theorem dX5_postpone_13 : decode cX5_postpone 13 = .ok (.getfield 32, 3) := by decide +kernel
theorem dX5_postpone_16 : decode cX5_postpone 16 = .ok (.getfield 73, 3) := by decide +kernel
theorem dX5_postpone_19 : decode cX5_postpone 19 = .ok (.iload_n 1, 1) := by decide +kernel
theorem dX5_postpone_20 : decode cX5_postpone 20 = .ok (.iload_n 2, 1) := by decide +kernel
theorem dX5_postpone_21 : decode cX5_postpone 21 = .ok (.iastore, 1) := by decide +kernel
theorem dX5_postpone_22 : decode cX5_postpone 22 = .ok (.aload_n 0, 1) := by decide +kernel
theorem dX5_postpone_23 : decode cX5_postpone 23 = .ok (.iload_n 2, 1) := by decide +kernel
theorem dX5_postpone_24 : decode cX5_postpone 24 = .ok (.iconst (-1), 1) := by decide +kernel
theorem dX5_postpone_25 : decode cX5_postpone 25 = .ok (.invokevirtual 70, 3) := by decide +kernel
theorem dX5_postpone_28 : decode cX5_postpone 28 = .ok (.iinc 2 1, 3) := by decide +kernel
theorem dX5_postpone_31 : decode cX5_postpone 31 = .ok (.goto (-25), 3) := by decide +kernel
theorem dX5_postpone_34 : decode cX5_postpone 34 = .ok (.return_, 1) := by decide +kernel
theorem dX5_flatten_0 : decode cX5_flatten 0 = .ok (.aload_n 0, 1) := by decide +kernel
theorem dX5_flatten_1 : decode cX5_flatten 1 = .ok (.invokevirtual 60, 3) := by decide +kernel
theorem dX5_flatten_4 : decode cX5_flatten 4 = .ok (.aload_n 0, 1) := by decide +kernel
theorem dX5_flatten_5 : decode cX5_flatten 5 = .ok (.getfield 32, 3) := by decide +kernel
theorem dX5_flatten_8 : decode cX5_flatten 8 = .ok (.aload_n 0, 1) := by decide +kernel
theorem dX5_flatten_9 : decode cX5_flatten 9 = .ok (.getfield 12, 3) := by decide +kernel
theorem dX5_flatten_12 : decode cX5_flatten 12 = .ok (.putfield 76, 3) := by decide +kernel
theorem dX5_flatten_15 : decode cX5_flatten 15 = .ok (.iconst 0, 1) := by decide +kernel
theorem dX5_flatten_16 : decode cX5_flatten 16 = .ok (.istore_n 2, 1) := by decide +kernel
theorem dX5_flatten_17 : decode cX5_flatten 17 = .ok (.iload_n 2, 1) := by decide +kernel
theorem dX5_flatten_18 : decode cX5_flatten 18 = .ok (.aload_n 1, 1) := by decide +kernel
theorem dX5_flatten_19 : decode cX5_flatten 19 = .ok (.getfield 79, 3) := by decide +kernel
theorem dX5_flatten_22 : decode cX5_flatten 22 = .ok (.if_icmp .ge 24, 3) := by decide +kernel
theorem dX5_flatten_25 : decode cX5_flatten 25 = .ok (.aload_n 0, 1) := by decide +kernel
theorem dX5_flatten_26 : decode cX5_flatten 26 = .ok (.getfield 12, 3) := by decide +kernel
theorem dX5_flatten_29 : decode cX5_flatten 29 = .ok (.aload_n 1, 1) := by decide +kernel
theorem dX5_flatten_30 : decode cX5_flatten 30 = .ok (.iload_n 2, 1) := by decide +kernel
theorem dX5_flatten_31 : decode cX5_flatten 31 = .ok (.invokevirtual 84, 3) := by decide +kernel
theorem dX5_flatten_34 : decode cX5_flatten 34 = .ok (.aload_n 0, 1) := by decide +kernel
theorem dX5_flatten_35 : decode cX5_flatten 35 = .ok (.iload_n 2, 1) := by decide +kernel
theorem dX5_flatten_36 : decode cX5_flatten 36 = .ok (.iconst (-1), 1) := by decide +kernel
theorem dX5_flatten_37 : decode cX5_flatten 37 = .ok (.invokevirtual 70, 3) := by decide +kernel
theorem dX5_flatten_40 : decode cX5_flatten 40 = .ok (.iinc 2 1, 3) := by decide +kernel
theorem dX5_flatten_43 : decode cX5_flatten 43 = .ok (.goto (-26), 3) := by decide +kernel
theorem dX5_flatten_46 : decode cX5_flatten 46 = .ok (.return_, 1) := by decide +kernel
theorem dX5_begin_0 : decode cX5_begin 0 = .ok (.aload_n 0, 1) := by decide +kernel
theorem dX5_begin_1 : decode cX5_begin 1 = .ok (.getfield 32, 3) := by decide +kernel
theorem dX5_begin_4 : decode cX5_begin 4 = .ok (.aload_n 0, 1) := by decide +kernel
theorem dX5_begin_5 : decode cX5_begin 5 = .ok (.getfield 28, 3) := by decide +kernel
theorem dX5_begin_8 : decode cX5_begin 8 = .ok (.invokevirtual 39, 3) := by decide +kernel
theorem dX5_begin_11 : decode cX5_begin 11 = .ok (.aload_n 0, 1) := by decide +kernel
theorem dX5_begin_12 : decode cX5_begin 12 = .ok (.iconst (-1), 1) := by decide +kernel
theorem dX5_begin_13 : decode cX5_begin 13 = .ok (.putfield 18, 3) := by decide +kernel
theorem dX5_begin_16 : decode cX5_begin 16 = .ok (.aload_n 0, 1) := by decide +kernel
theorem dX5_begin_17 : decode cX5_begin 17 = .ok (.iconst (-1), 1) := by decide +kernel
theorem dX5_begin_18 : decode cX5_begin 18 = .ok (.putfield 22, 3) := by decide +kernel
theorem dX5_begin_21 : decode cX5_begin 21 = .ok (.aload_n 0, 1) := by decide +kernel
theorem dX5_begin_22 : decode cX5_begin 22 = .ok (.iconst (-1), 1) := by decide +kernel
theorem dX5_begin_23 : decode cX5_begin 23 = .ok (.putfield 25, 3) := by decide +kernel
theorem dX5_begin_26 : decode cX5_begin 26 = .ok (.return_, 1) := by decide +kernel
theorem dX5_weigh_0 : decode cX5_weigh 0 = .ok (.aload_n 0, 1) := by decide +kernel
theorem dX5_weigh_1 : decode cX5_weigh 1 = .ok (.getfield 35, 3) := by decide +kernel
theorem dX5_weigh_4 : decode cX5_weigh 4 = .ok (.aload_n 0, 1) := by decide +kernel
theorem dX5_weigh_5 : decode cX5_weigh 5 = .ok (.getfield 32, 3) := by decide +kernel
theorem dX5_weigh_8 : decode cX5_weigh 8 = .ok (.invokevirtual 49, 3) := by decide +kernel
theorem dX5_weigh_11 : decode cX5_weigh 11 = .ok (.aload_n 0, 1) := by decide +kernel
theorem dX5_weigh_12 : decode cX5_weigh 12 = .ok (.getfield 35, 3) := by decide +kernel
theorem dX5_weigh_15 : decode cX5_weigh 15 = .ok (.iconst 2, 1) := by decide +kernel
theorem dX5_weigh_16 : decode cX5_weigh 16 = .ok (.invokevirtual 88, 3) := by decide +kernel
theorem dX5_weigh_19 : decode cX5_weigh 19 = .ok (.istore_n 3, 1) := by decide +kernel
theorem dX5_weigh_20 : decode cX5_weigh 20 = .ok (.iload_n 3, 1) := by decide +kernel
theorem dX5_weigh_21 : decode cX5_weigh 21 = .ok (.aload_n 0, 1) := by decide +kernel
theorem dX5_weigh_22 : decode cX5_weigh 22 = .ok (.getfield 25, 3) := by decide +kernel
theorem dX5_weigh_25 : decode cX5_weigh 25 = .ok (.if_icmp .le 18, 3) := by decide +kernel
theorem dX5_weigh_28 : decode cX5_weigh 28 = .ok (.aload_n 0, 1) := by decide +kernel
theorem dX5_weigh_29 : decode cX5_weigh 29 = .ok (.iload_n 1, 1) := by decide +kernel
theorem dX5_weigh_30 : decode cX5_weigh 30 = .ok (.putfield 18, 3) := by decide +kernel
theorem dX5_weigh_33 : decode cX5_weigh 33 = .ok (.aload_n 0, 1) := by decide +kernel
theorem dX5_weigh_34 : decode cX5_weigh 34 = .ok (.iload_n 2, 1) := by decide +kernel
theorem dX5_weigh_35 : decode cX5_weigh 35 = .ok (.putfield 22, 3) := by decide +kernel
theorem dX5_weigh_38 : decode cX5_weigh 38 = .ok (.aload_n 0, 1) := by decide +kernel
theorem dX5_weigh_39 : decode cX5_weigh 39 = .ok (.iload_n 3, 1) := by decide +kernel
theorem dX5_weigh_40 : decode cX5_weigh 40 = .ok (.putfield 25, 3) := by decide +kernel
theorem dX5_weigh_43 : decode cX5_weigh 43 = .ok (.return_, 1) := by decide +kernel
theorem dX6_init_0 : decode cX6_init 0 = .ok (.aload_n 0, 1) := by decide +kernel
theorem dX6_init_1 : decode cX6_init 1 = .ok (.invokespecial 3, 3) := by decide +kernel
theorem dX6_init_4 : decode cX6_init 4 = .ok (.aload_n 0, 1) := by decide +kernel
theorem dX6_init_5 : decode cX6_init 5 = .ok (.iconst 0, 1) := by decide +kernel
theorem dX6_init_6 : decode cX6_init 6 = .ok (.putfield 9, 3) := by decide +kernel
theorem dX6_init_9 : decode cX6_init 9 = .ok (.aload_n 0, 1) := by decide +kernel
theorem dX6_init_10 : decode cX6_init 10 = .ok (.bipush 8, 2) := by decide +kernel
theorem dX6_init_12 : decode cX6_init 12 = .ok (.newarray .int, 2) := by decide +kernel
theorem dX6_init_14 : decode cX6_init 14 = .ok (.putfield 15, 3) := by decide +kernel
theorem dX6_init_17 : decode cX6_init 17 = .ok (.aload_n 0, 1) := by decide +kernel
theorem dX6_init_18 : decode cX6_init 18 = .ok (.bipush 8, 2) := by decide +kernel
theorem dX6_init_20 : decode cX6_init 20 = .ok (.newarray .int, 2) := by decide +kernel
theorem dX6_init_22 : decode cX6_init 22 = .ok (.putfield 19, 3) := by decide +kernel
theorem dX6_init_25 : decode cX6_init 25 = .ok (.aload_n 0, 1) := by decide +kernel
theorem dX6_init_26 : decode cX6_init 26 = .ok (.bipush 8, 2) := by decide +kernel
theorem dX6_init_28 : decode cX6_init 28 = .ok (.newarray .int, 2) := by decide +kernel
theorem dX6_init_30 : decode cX6_init 30 = .ok (.putfield 22, 3) := by decide +kernel
theorem dX6_init_33 : decode cX6_init 33 = .ok (.aload_n 0, 1) := by decide +kernel
theorem dX6_init_34 : decode cX6_init 34 = .ok (.bipush 8, 2) := by decide +kernel
theorem dX6_init_36 : decode cX6_init 36 = .ok (.newarray .int, 2) := by decide +kernel
theorem dX6_init_38 : decode cX6_init 38 = .ok (.putfield 25, 3) := by decide +kernel
theorem dX6_init_41 : decode cX6_init 41 = .ok (.aload_n 0, 1) := by decide +kernel
theorem dX6_init_42 : decode cX6_init 42 = .ok (.bipush 8, 2) := by decide +kernel
theorem dX6_init_44 : decode cX6_init 44 = .ok (.newarray .int, 2) := by decide +kernel
theorem dX6_init_46 : decode cX6_init 46 = .ok (.putfield 28, 3) := by decide +kernel
theorem dX6_init_49 : decode cX6_init 49 = .ok (.aload_n 0, 1) := by decide +kernel
theorem dX6_init_50 : decode cX6_init 50 = .ok (.bipush 8, 2) := by decide +kernel
theorem dX6_init_52 : decode cX6_init 52 = .ok (.newarray .int, 2) := by decide +kernel
theorem dX6_init_54 : decode cX6_init 54 = .ok (.putfield 31, 3) := by decide +kernel
theorem dX6_init_57 : decode cX6_init 57 = .ok (.aload_n 0, 1) := by decide +kernel
theorem dX6_init_58 : decode cX6_init 58 = .ok (.bipush 8, 2) := by decide +kernel
theorem dX6_init_60 : decode cX6_init 60 = .ok (.newarray .int, 2) := by decide +kernel
theorem dX6_init_62 : decode cX6_init 62 = .ok (.putfield 34, 3) := by decide +kernel
theorem dX6_init_65 : decode cX6_init 65 = .ok (.aload_n 0, 1) := by decide +kernel
theorem dX6_init_66 : decode cX6_init 66 = .ok (.bipush 8, 2) := by decide +kernel
theorem dX6_init_68 : decode cX6_init 68 = .ok (.newarray .int, 2) := by decide +kernel
theorem dX6_init_70 : decode cX6_init 70 = .ok (.putfield 37, 3) := by decide +kernel
theorem dX6_init_73 : decode cX6_init 73 = .ok (.aload_n 0, 1) := by decide +kernel
theorem dX6_init_74 : decode cX6_init 74 = .ok (.new 40, 3) := by decide +kernel
theorem dX6_init_77 : decode cX6_init 77 = .ok (.dup, 1) := by decide +kernel
theorem dX6_init_78 : decode cX6_init 78 = .ok (.invokespecial 42, 3) := by decide +kernel
theorem dX6_init_81 : decode cX6_init 81 = .ok (.putfield 43, 3) := by decide +kernel
theorem dX6_init_84 : decode cX6_init 84 = .ok (.aload_n 0, 1) := by decide +kernel
theorem dX6_init_85 : decode cX6_init 85 = .ok (.iconst (-1), 1) := by decide +kernel
theorem dX6_init_86 : decode cX6_init 86 = .ok (.putfield 47, 3) := by decide +kernel
theorem dX6_init_89 : decode cX6_init 89 = .ok (.aload_n 0, 1) := by decide +kernel
theorem dX6_init_90 : decode cX6_init 90 = .ok (.iconst (-1), 1) := by decide +kernel
theorem dX6_init_91 : decode cX6_init 91 = .ok (.putfield 50, 3) := by decide +kernel
theorem dX6_init_94 : decode cX6_init 94 = .ok (.return_, 1) := by decide +kernel
theorem dX6_play_0 : decode cX6_play 0 = .ok (.aload_n 0, 1) := by decide +kernel
theorem dX6_play_1 : decode cX6_play 1 = .ok (.aload_n 1, 1) := by decide +kernel
theorem dX6_play_2 : decode cX6_play 2 = .ok (.invokevirtual 53, 3) := by decide +kernel
theorem dX6_play_5 : decode cX6_play 5 = .ok (.aload_n 0, 1) := by decide +kernel
theorem dX6_play_6 : decode cX6_play 6 = .ok (.invokevirtual 57, 3) := by decide +kernel
theorem dX6_play_9 : decode cX6_play 9 = .ok (.istore_n 2, 1) := by decide +kernel
theorem dX6_play_10 : decode cX6_play 10 = .ok (.iconst 0, 1) := by decide +kernel
theorem dX6_play_11 : decode cX6_play 11 = .ok (.istore_n 3, 1) := by decide +kernel
theorem dX6_play_12 : decode cX6_play 12 = .ok (.iload_n 3, 1) := by decide +kernel
theorem dX6_play_13 : decode cX6_play 13 = .ok (.bipush 40, 2) := by decide +kernel
theorem dX6_play_15 : decode cX6_play 15 = .ok (.if_icmp .ge 62, 3) := by decide +kernel
theorem dX6_play_18 : decode cX6_play 18 = .ok (.iload_n 2, 1) := by decide +kernel
theorem dX6_play_19 : decode cX6_play 19 = .ok (.bipush 40, 2) := by decide +kernel
theorem dX6_play_21 : decode cX6_play 21 = .ok (.if_icmp .ge 56, 3) := by decide +kernel
theorem dX6_play_24 : decode cX6_play 24 = .ok (.aload_n 0, 1) := by decide +kernel
theorem dX6_play_25 : decode cX6_play 25 = .ok (.iload_n 2, 1) := by decide +kernel
theorem dX6_play_26 : decode cX6_play 26 = .ok (.invokevirtual 61, 3) := by decide +kernel
theorem dX6_play_29 : decode cX6_play 29 = .ok (.iconst 0, 1) := by decide +kernel
theorem dX6_play_30 : decode cX6_play 30 = .ok (.istore 4, 2) := by decide +kernel
theorem dX6_play_32 : decode cX6_play 32 = .ok (.iload 4, 2) := by decide +kernel
theorem dX6_play_34 : decode cX6_play 34 = .ok (.aload_n 0, 1) := by decide +kernel
theorem dX6_play_35 : decode cX6_play 35 = .ok (.getfield 9, 3) := by decide +kernel
theorem dX6_play_38 : decode cX6_play 38 = .ok (.if_icmp .ge 28, 3) := by decide +kernel
theorem dX6_play_41 : decode cX6_play 41 = .ok (.aload_n 0, 1) := by decide +kernel
theorem dX6_play_42 : decode cX6_play 42 = .ok (.getfield 15, 3) := by decide +kernel
theorem dX6_play_45 : decode cX6_play 45 = .ok (.iload 4, 2) := by decide +kernel
theorem dX6_play_47 : decode cX6_play 47 = .ok (.iaload, 1) := by decide +kernel
theorem dX6_play_48 : decode cX6_play 48 = .ok (.iload_n 2, 1) := by decide +kernel
theorem dX6_play_49 : decode cX6_play 49 = .ok (.if_icmp .ne 11, 3) := by decide +kernel
theorem dX6_play_52 : decode cX6_play 52 = .ok (.aload_n 0, 1) := by decide +kernel
theorem dX6_play_53 : decode cX6_play 53 = .ok (.aload_n 1, 1) := by decide +kernel
theorem dX6_play_54 : decode cX6_play 54 = .ok (.iload 4, 2) := by decide +kernel
theorem dX6_play_56 : decode cX6_play 56 = .ok (.iload_n 2, 1) := by decide +kernel
theorem dX6_play_57 : decode cX6_play 57 = .ok (.invokevirtual 65, 3) := by decide +kernel
theorem dX6_play_60 : decode cX6_play 60 = .ok (.iinc 4 1, 3) := by decide +kernel
theorem dX6_play_63 : decode cX6_play 63 = .ok (.goto (-31), 3) := by decide +kernel
theorem dX6_play_66 : decode cX6_play 66 = .ok (.aload_n 0, 1) := by decide +kernel
theorem dX6_play_67 : decode cX6_play 67 = .ok (.invokevirtual 57, 3) := by decide +kernel
theorem dX6_play_70 : decode cX6_play 70 = .ok (.istore_n 2, 1) := by decide +kernel
theorem dX6_play_71 : decode cX6_play 71 = .ok (.iinc 3 1, 3) := by decide +kernel
theorem dX6_play_74 : decode cX6_play 74 = .ok (.goto (-62), 3) := by decide +kernel
theorem dX6_play_77 : decode cX6_play 77 = .ok (.return_, 1) := by decide +kernel
theorem dX6_begin_0 : decode cX6_begin 0 = .ok (.aload_n 0, 1) := by decide +kernel
theorem dX6_begin_1 : decode cX6_begin 1 = .ok (.aload_n 1, 1) := by decide +kernel
theorem dX6_begin_2 : decode cX6_begin 2 = .ok (.getfield 69, 3) := by decide +kernel
theorem dX6_begin_5 : decode cX6_begin 5 = .ok (.putfield 9, 3) := by decide +kernel
theorem dX6_begin_8 : decode cX6_begin 8 = .ok (.aload_n 0, 1) := by decide +kernel
theorem dX6_begin_9 : decode cX6_begin 9 = .ok (.iconst (-1), 1) := by decide +kernel
theorem dX6_begin_10 : decode cX6_begin 10 = .ok (.putfield 47, 3) := by decide +kernel
theorem dX6_begin_13 : decode cX6_begin 13 = .ok (.aload_n 0, 1) := by decide +kernel
theorem dX6_begin_14 : decode cX6_begin 14 = .ok (.iconst (-1), 1) := by decide +kernel
theorem dX6_begin_15 : decode cX6_begin 15 = .ok (.putfield 50, 3) := by decide +kernel
theorem dX6_begin_18 : decode cX6_begin 18 = .ok (.iconst 0, 1) := by decide +kernel
theorem dX6_begin_19 : decode cX6_begin 19 = .ok (.istore_n 2, 1) := by decide +kernel
theorem dX6_begin_20 : decode cX6_begin 20 = .ok (.iload_n 2, 1) := by decide +kernel
theorem dX6_begin_21 : decode cX6_begin 21 = .ok (.bipush 8, 2) := by decide +kernel
theorem dX6_begin_23 : decode cX6_begin 23 = .ok (.if_icmp .ge 16, 3) := by decide +kernel
theorem dX6_begin_26 : decode cX6_begin 26 = .ok (.aload_n 0, 1) := by decide +kernel
theorem dX6_begin_27 : decode cX6_begin 27 = .ok (.getfield 25, 3) := by decide +kernel
theorem dX6_begin_30 : decode cX6_begin 30 = .ok (.iload_n 2, 1) := by decide +kernel
theorem dX6_begin_31 : decode cX6_begin 31 = .ok (.iconst 0, 1) := by decide +kernel
theorem dX6_begin_32 : decode cX6_begin 32 = .ok (.iastore, 1) := by decide +kernel
theorem dX6_begin_33 : decode cX6_begin 33 = .ok (.iinc 2 1, 3) := by decide +kernel
theorem dX6_begin_36 : decode cX6_begin 36 = .ok (.goto (-16), 3) := by decide +kernel
theorem dX6_begin_39 : decode cX6_begin 39 = .ok (.iconst 0, 1) := by decide +kernel
theorem dX6_begin_40 : decode cX6_begin 40 = .ok (.istore_n 2, 1) := by decide +kernel
theorem dX6_begin_41 : decode cX6_begin 41 = .ok (.iload_n 2, 1) := by decide +kernel
theorem dX6_begin_42 : decode cX6_begin 42 = .ok (.aload_n 0, 1) := by decide +kernel
theorem dX6_begin_43 : decode cX6_begin 43 = .ok (.getfield 9, 3) := by decide +kernel
theorem dX6_begin_46 : decode cX6_begin 46 = .ok (.if_icmp .ge 75, 3) := by decide +kernel
theorem dX6_begin_49 : decode cX6_begin 49 = .ok (.aload_n 0, 1) := by decide +kernel
theorem dX6_begin_50 : decode cX6_begin 50 = .ok (.getfield 15, 3) := by decide +kernel
theorem dX6_begin_53 : decode cX6_begin 53 = .ok (.iload_n 2, 1) := by decide +kernel
theorem dX6_begin_54 : decode cX6_begin 54 = .ok (.aload_n 1, 1) := by decide +kernel
theorem dX6_begin_55 : decode cX6_begin 55 = .ok (.getfield 72, 3) := by decide +kernel
theorem dX6_begin_58 : decode cX6_begin 58 = .ok (.iload_n 2, 1) := by decide +kernel
theorem dX6_begin_59 : decode cX6_begin 59 = .ok (.iaload, 1) := by decide +kernel
theorem dX6_begin_60 : decode cX6_begin 60 = .ok (.iastore, 1) := by decide +kernel
theorem dX6_begin_61 : decode cX6_begin 61 = .ok (.aload_n 0, 1) := by decide +kernel
theorem dX6_begin_62 : decode cX6_begin 62 = .ok (.getfield 28, 3) := by decide +kernel
theorem dX6_begin_65 : decode cX6_begin 65 = .ok (.iload_n 2, 1) := by decide +kernel
theorem dX6_begin_66 : decode cX6_begin 66 = .ok (.aload_n 1, 1) := by decide +kernel
theorem dX6_begin_67 : decode cX6_begin 67 = .ok (.getfield 75, 3) := by decide +kernel
theorem dX6_begin_70 : decode cX6_begin 70 = .ok (.iload_n 2, 1) := by decide +kernel
theorem dX6_begin_71 : decode cX6_begin 71 = .ok (.iaload, 1) := by decide +kernel
theorem dX6_begin_72 : decode cX6_begin 72 = .ok (.iastore, 1) := by decide +kernel
theorem dX6_begin_73 : decode cX6_begin 73 = .ok (.aload_n 0, 1) := by decide +kernel
theorem dX6_begin_74 : decode cX6_begin 74 = .ok (.getfield 19, 3) := by decide +kernel
theorem dX6_begin_77 : decode cX6_begin 77 = .ok (.iload_n 2, 1) := by decide +kernel
theorem dX6_begin_78 : decode cX6_begin 78 = .ok (.aload_n 1, 1) := by decide +kernel
theorem dX6_begin_79 : decode cX6_begin 79 = .ok (.getfield 78, 3) := by decide +kernel
theorem dX6_begin_82 : decode cX6_begin 82 = .ok (.iload_n 2, 1) := by decide +kernel
theorem dX6_begin_83 : decode cX6_begin 83 = .ok (.iaload, 1) := by decide +kernel
theorem dX6_begin_84 : decode cX6_begin 84 = .ok (.iastore, 1) := by decide +kernel
theorem dX6_begin_85 : decode cX6_begin 85 = .ok (.aload_n 0, 1) := by decide +kernel
theorem dX6_begin_86 : decode cX6_begin 86 = .ok (.getfield 31, 3) := by decide +kernel
theorem dX6_begin_89 : decode cX6_begin 89 = .ok (.iload_n 2, 1) := by decide +kernel
theorem dX6_begin_90 : decode cX6_begin 90 = .ok (.iconst 1, 1) := by decide +kernel
theorem dX6_begin_91 : decode cX6_begin 91 = .ok (.iastore, 1) := by decide +kernel
theorem dX6_begin_92 : decode cX6_begin 92 = .ok (.aload_n 0, 1) := by decide +kernel
theorem dX6_begin_93 : decode cX6_begin 93 = .ok (.getfield 34, 3) := by decide +kernel
theorem dX6_begin_96 : decode cX6_begin 96 = .ok (.iload_n 2, 1) := by decide +kernel
theorem dX6_begin_97 : decode cX6_begin 97 = .ok (.iconst (-1), 1) := by decide +kernel
theorem dX6_begin_98 : decode cX6_begin 98 = .ok (.iastore, 1) := by decide +kernel
theorem dX6_begin_99 : decode cX6_begin 99 = .ok (.aload_n 0, 1) := by decide +kernel
theorem dX6_begin_100 : decode cX6_begin 100 = .ok (.getfield 37, 3) := by decide +kernel
theorem dX6_begin_103 : decode cX6_begin 103 = .ok (.iload_n 2, 1) := by decide +kernel
theorem dX6_begin_104 : decode cX6_begin 104 = .ok (.bipush 100, 2) := by decide +kernel
theorem dX6_begin_106 : decode cX6_begin 106 = .ok (.iastore, 1) := by decide +kernel
theorem dX6_begin_107 : decode cX6_begin 107 = .ok (.aload_n 0, 1) := by decide +kernel
theorem dX6_begin_108 : decode cX6_begin 108 = .ok (.getfield 43, 3) := by decide +kernel
theorem dX6_begin_111 : decode cX6_begin 111 = .ok (.iload_n 2, 1) := by decide +kernel
theorem dX6_begin_112 : decode cX6_begin 112 = .ok (.invokevirtual 81, 3) := by decide +kernel
theorem dX6_begin_115 : decode cX6_begin 115 = .ok (.iinc 2 1, 3) := by decide +kernel
theorem dX6_begin_118 : decode cX6_begin 118 = .ok (.goto (-77), 3) := by decide +kernel
theorem dX6_begin_121 : decode cX6_begin 121 = .ok (.return_, 1) := by decide +kernel
theorem dX6_soonest_0 : decode cX6_soonest 0 = .ok (.sipush 1000, 3) := by decide +kernel
theorem dX6_soonest_3 : decode cX6_soonest 3 = .ok (.istore_n 1, 1) := by decide +kernel
theorem dX6_soonest_4 : decode cX6_soonest 4 = .ok (.iconst 0, 1) := by decide +kernel
theorem dX6_soonest_5 : decode cX6_soonest 5 = .ok (.istore_n 2, 1) := by decide +kernel
theorem dX6_soonest_6 : decode cX6_soonest 6 = .ok (.iload_n 2, 1) := by decide +kernel
theorem dX6_soonest_7 : decode cX6_soonest 7 = .ok (.aload_n 0, 1) := by decide +kernel
theorem dX6_soonest_8 : decode cX6_soonest 8 = .ok (.getfield 9, 3) := by decide +kernel
theorem dX6_soonest_11 : decode cX6_soonest 11 = .ok (.if_icmp .ge 20, 3) := by decide +kernel
theorem dX6_soonest_14 : decode cX6_soonest 14 = .ok (.iload_n 1, 1) := by decide +kernel
theorem dX6_soonest_15 : decode cX6_soonest 15 = .ok (.aload_n 0, 1) := by decide +kernel
theorem dX6_soonest_16 : decode cX6_soonest 16 = .ok (.getfield 15, 3) := by decide +kernel
theorem dX6_soonest_19 : decode cX6_soonest 19 = .ok (.iload_n 2, 1) := by decide +kernel
theorem dX6_soonest_20 : decode cX6_soonest 20 = .ok (.iaload, 1) := by decide +kernel
theorem dX6_soonest_21 : decode cX6_soonest 21 = .ok (.invokestatic 84, 3) := by decide +kernel
theorem dX6_soonest_24 : decode cX6_soonest 24 = .ok (.istore_n 1, 1) := by decide +kernel
theorem dX6_soonest_25 : decode cX6_soonest 25 = .ok (.iinc 2 1, 3) := by decide +kernel
theorem dX6_soonest_28 : decode cX6_soonest 28 = .ok (.goto (-22), 3) := by decide +kernel
theorem dX6_soonest_31 : decode cX6_soonest 31 = .ok (.iload_n 1, 1) := by decide +kernel
theorem dX6_soonest_32 : decode cX6_soonest 32 = .ok (.ireturn, 1) := by decide +kernel
theorem dX6_gather_0 : decode cX6_gather 0 = .ok (.iconst 0, 1) := by decide +kernel
theorem dX6_gather_1 : decode cX6_gather 1 = .ok (.istore_n 2, 1) := by decide +kernel
theorem dX6_gather_2 : decode cX6_gather 2 = .ok (.iload_n 2, 1) := by decide +kernel
theorem dX6_gather_3 : decode cX6_gather 3 = .ok (.bipush 8, 2) := by decide +kernel
theorem dX6_gather_5 : decode cX6_gather 5 = .ok (.if_icmp .ge 16, 3) := by decide +kernel
theorem dX6_gather_8 : decode cX6_gather 8 = .ok (.aload_n 0, 1) := by decide +kernel
theorem dX6_gather_9 : decode cX6_gather 9 = .ok (.getfield 22, 3) := by decide +kernel
theorem dX6_gather_12 : decode cX6_gather 12 = .ok (.iload_n 2, 1) := by decide +kernel
theorem dX6_gather_13 : decode cX6_gather 13 = .ok (.iconst 0, 1) := by decide +kernel
theorem dX6_gather_14 : decode cX6_gather 14 = .ok (.iastore, 1) := by decide +kernel
theorem dX6_gather_15 : decode cX6_gather 15 = .ok (.iinc 2 1, 3) := by decide +kernel
theorem dX6_gather_18 : decode cX6_gather 18 = .ok (.goto (-16), 3) := by decide +kernel
theorem dX6_gather_21 : decode cX6_gather 21 = .ok (.iconst 0, 1) := by decide +kernel
theorem dX6_gather_22 : decode cX6_gather 22 = .ok (.istore_n 2, 1) := by decide +kernel
theorem dX6_gather_23 : decode cX6_gather 23 = .ok (.iload_n 2, 1) := by decide +kernel
theorem dX6_gather_24 : decode cX6_gather 24 = .ok (.aload_n 0, 1) := by decide +kernel
theorem dX6_gather_25 : decode cX6_gather 25 = .ok (.getfield 9, 3) := by decide +kernel
theorem dX6_gather_28 : decode cX6_gather 28 = .ok (.if_icmp .ge 44, 3) := by decide +kernel
theorem dX6_gather_31 : decode cX6_gather 31 = .ok (.aload_n 0, 1) := by decide +kernel
theorem dX6_gather_32 : decode cX6_gather 32 = .ok (.getfield 15, 3) := by decide +kernel
theorem dX6_gather_35 : decode cX6_gather 35 = .ok (.iload_n 2, 1) := by decide +kernel
theorem dX6_gather_36 : decode cX6_gather 36 = .ok (.iaload, 1) := by decide +kernel
theorem dX6_gather_37 : decode cX6_gather 37 = .ok (.iload_n 1, 1) := by decide +kernel
theorem dX6_gather_38 : decode cX6_gather 38 = .ok (.if_icmp .eq 13, 3) := by decide +kernel
theorem dX6_gather_41 : decode cX6_gather 41 = .ok (.aload_n 0, 1) := by decide +kernel
theorem dX6_gather_42 : decode cX6_gather 42 = .ok (.getfield 34, 3) := by decide +kernel
theorem dX6_gather_45 : decode cX6_gather 45 = .ok (.iload_n 2, 1) := by decide +kernel
theorem dX6_gather_46 : decode cX6_gather 46 = .ok (.iaload, 1) := by decide +kernel
theorem dX6_gather_47 : decode cX6_gather 47 = .ok (.iconst (-1), 1) := by decide +kernel
theorem dX6_gather_48 : decode cX6_gather 48 = .ok (.if_icmp .eq 18, 3) := by decide +kernel
theorem dX6_gather_51 : decode cX6_gather 51 = .ok (.aload_n 0, 1) := by decide +kernel
theorem dX6_gather_52 : decode cX6_gather 52 = .ok (.getfield 22, 3) := by decide +kernel
theorem dX6_gather_55 : decode cX6_gather 55 = .ok (.aload_n 0, 1) := by decide +kernel
theorem dX6_gather_56 : decode cX6_gather 56 = .ok (.getfield 28, 3) := by decide +kernel
theorem dX6_gather_59 : decode cX6_gather 59 = .ok (.iload_n 2, 1) := by decide +kernel
theorem dX6_gather_60 : decode cX6_gather 60 = .ok (.iaload, 1) := by decide +kernel
theorem dX6_gather_61 : decode cX6_gather 61 = .ok (.dup2, 1) := by decide +kernel
theorem dX6_gather_62 : decode cX6_gather 62 = .ok (.iaload, 1) := by decide +kernel
theorem dX6_gather_63 : decode cX6_gather 63 = .ok (.iconst 1, 1) := by decide +kernel
theorem dX6_gather_64 : decode cX6_gather 64 = .ok (.iadd, 1) := by decide +kernel
theorem dX6_gather_65 : decode cX6_gather 65 = .ok (.iastore, 1) := by decide +kernel
theorem dX6_gather_66 : decode cX6_gather 66 = .ok (.iinc 2 1, 3) := by decide +kernel
theorem dX6_gather_69 : decode cX6_gather 69 = .ok (.goto (-46), 3) := by decide +kernel
theorem dX6_gather_72 : decode cX6_gather 72 = .ok (.iconst 0, 1) := by decide +kernel
theorem dX6_gather_73 : decode cX6_gather 73 = .ok (.istore_n 2, 1) := by decide +kernel
theorem dX6_gather_74 : decode cX6_gather 74 = .ok (.iload_n 2, 1) := by decide +kernel
theorem dX6_gather_75 : decode cX6_gather 75 = .ok (.bipush 8, 2) := by decide +kernel
theorem dX6_gather_77 : decode cX6_gather 77 = .ok (.if_icmp .ge 37, 3) := by decide +kernel
theorem dX6_gather_80 : decode cX6_gather 80 = .ok (.aload_n 0, 1) := by decide +kernel
theorem dX6_gather_81 : decode cX6_gather 81 = .ok (.getfield 47, 3) := by decide +kernel
theorem dX6_gather_84 : decode cX6_gather 84 = .ok (.iconst (-1), 1) := by decide +kernel
theorem dX6_gather_85 : decode cX6_gather 85 = .ok (.if_icmp .ne 29, 3) := by decide +kernel
theorem dX6_gather_88 : decode cX6_gather 88 = .ok (.aload_n 0, 1) := by decide +kernel
theorem dX6_gather_89 : decode cX6_gather 89 = .ok (.getfield 22, 3) := by decide +kernel
theorem dX6_gather_92 : decode cX6_gather 92 = .ok (.iload_n 2, 1) := by decide +kernel
theorem dX6_gather_93 : decode cX6_gather 93 = .ok (.iaload, 1) := by decide +kernel
theorem dX6_gather_94 : decode cX6_gather 94 = .ok (.iconst 1, 1) := by decide +kernel
theorem dX6_gather_95 : decode cX6_gather 95 = .ok (.if_icmp .le 13, 3) := by decide +kernel
theorem dX6_gather_98 : decode cX6_gather 98 = .ok (.aload_n 0, 1) := by decide +kernel
theorem dX6_gather_99 : decode cX6_gather 99 = .ok (.iload_n 1, 1) := by decide +kernel
theorem dX6_gather_100 : decode cX6_gather 100 = .ok (.putfield 47, 3) := by decide +kernel
theorem dX6_gather_103 : decode cX6_gather 103 = .ok (.aload_n 0, 1) := by decide +kernel
theorem dX6_gather_104 : decode cX6_gather 104 = .ok (.iload_n 2, 1) := by decide +kernel
theorem dX6_gather_105 : decode cX6_gather 105 = .ok (.putfield 50, 3) := by decide +kernel
theorem dX6_gather_108 : decode cX6_gather 108 = .ok (.iinc 2 1, 3) := by decide +kernel
theorem dX6_gather_111 : decode cX6_gather 111 = .ok (.goto (-37), 3) := by decide +kernel
theorem dX6_gather_114 : decode cX6_gather 114 = .ok (.return_, 1) := by decide +kernel
theorem dX6_settle_0 : decode cX6_settle 0 = .ok (.aload_n 0, 1) := by decide +kernel
theorem dX6_settle_1 : decode cX6_settle 1 = .ok (.getfield 28, 3) := by decide +kernel
theorem dX6_settle_4 : decode cX6_settle 4 = .ok (.iload_n 2, 1) := by decide +kernel
theorem dX6_settle_5 : decode cX6_settle 5 = .ok (.iaload, 1) := by decide +kernel
theorem dX6_settle_6 : decode cX6_settle 6 = .ok (.istore 4, 2) := by decide +kernel
theorem dX6_settle_8 : decode cX6_settle 8 = .ok (.aload_n 1, 1) := by decide +kernel
theorem dX6_settle_9 : decode cX6_settle 9 = .ok (.getfield 90, 3) := by decide +kernel
theorem dX6_settle_12 : decode cX6_settle 12 = .ok (.iload 4, 2) := by decide +kernel
theorem dX6_settle_14 : decode cX6_settle 14 = .ok (.aload_n 1, 1) := by decide +kernel
theorem dX6_settle_15 : decode cX6_settle 15 = .ok (.getfield 94, 3) := by decide +kernel
theorem dX6_settle_18 : decode cX6_settle 18 = .ok (.iload_n 2, 1) := by decide +kernel
theorem dX6_settle_19 : decode cX6_settle 19 = .ok (.iaload, 1) := by decide +kernel
theorem dX6_settle_20 : decode cX6_settle 20 = .ok (.invokevirtual 97, 3) := by decide +kernel
theorem dX6_settle_23 : decode cX6_settle 23 = .ok (.istore 5, 2) := by decide +kernel
theorem dX6_settle_25 : decode cX6_settle 25 = .ok (.iload 5, 2) := by decide +kernel
theorem dX6_settle_27 : decode cX6_settle 27 = .ok (.iconst (-1), 1) := by decide +kernel
theorem dX6_settle_28 : decode cX6_settle 28 = .ok (.if_icmp .ne 7, 3) := by decide +kernel
theorem dX6_settle_31 : decode cX6_settle 31 = .ok (.iconst 0, 1) := by decide +kernel
theorem dX6_settle_32 : decode cX6_settle 32 = .ok (.goto 14, 3) := by decide +kernel
theorem dX6_settle_35 : decode cX6_settle 35 = .ok (.aload_n 1, 1) := by decide +kernel
theorem dX6_settle_36 : decode cX6_settle 36 = .ok (.getfield 90, 3) := by decide +kernel
theorem dX6_settle_39 : decode cX6_settle 39 = .ok (.iload 4, 2) := by decide +kernel
theorem dX6_settle_41 : decode cX6_settle 41 = .ok (.iload 5, 2) := by decide +kernel
theorem dX6_settle_43 : decode cX6_settle 43 = .ok (.invokevirtual 102, 3) := by decide +kernel
theorem dX6_settle_46 : decode cX6_settle 46 = .ok (.istore 6, 2) := by decide +kernel
theorem dX6_settle_48 : decode cX6_settle 48 = .ok (.iload 6, 2) := by decide +kernel
theorem dX6_settle_50 : decode cX6_settle 50 = .ok (.aload_n 1, 1) := by decide +kernel
theorem dX6_settle_51 : decode cX6_settle 51 = .ok (.getfield 105, 3) := by decide +kernel
theorem dX6_settle_54 : decode cX6_settle 54 = .ok (.iload_n 2, 1) := by decide +kernel
theorem dX6_settle_55 : decode cX6_settle 55 = .ok (.iaload, 1) := by decide +kernel
theorem dX6_settle_56 : decode cX6_settle 56 = .ok (.iadd, 1) := by decide +kernel
theorem dX6_settle_57 : decode cX6_settle 57 = .ok (.istore 7, 2) := by decide +kernel
theorem dX6_settle_59 : decode cX6_settle 59 = .ok (.aload_n 0, 1) := by decide +kernel
theorem dX6_settle_60 : decode cX6_settle 60 = .ok (.getfield 25, 3) := by decide +kernel
theorem dX6_settle_63 : decode cX6_settle 63 = .ok (.iload 4, 2) := by decide +kernel
theorem dX6_settle_65 : decode cX6_settle 65 = .ok (.dup2, 1) := by decide +kernel
theorem dX6_settle_66 : decode cX6_settle 66 = .ok (.iaload, 1) := by decide +kernel
theorem dX6_settle_67 : decode cX6_settle 67 = .ok (.iconst 1, 1) := by decide +kernel
theorem dX6_settle_68 : decode cX6_settle 68 = .ok (.iadd, 1) := by decide +kernel
theorem dX6_settle_69 : decode cX6_settle 69 = .ok (.iastore, 1) := by decide +kernel
theorem dX6_settle_70 : decode cX6_settle 70 = .ok (.iload 4, 2) := by decide +kernel
theorem dX6_settle_72 : decode cX6_settle 72 = .ok (.aload_n 1, 1) := by decide +kernel
theorem dX6_settle_73 : decode cX6_settle 73 = .ok (.getfield 94, 3) := by decide +kernel
theorem dX6_settle_76 : decode cX6_settle 76 = .ok (.iload_n 2, 1) := by decide +kernel
theorem dX6_settle_77 : decode cX6_settle 77 = .ok (.iaload, 1) := by decide +kernel
theorem dX6_settle_78 : decode cX6_settle 78 = .ok (.if_icmp .ne 13, 3) := by decide +kernel
theorem dX6_settle_81 : decode cX6_settle 81 = .ok (.aload_n 0, 1) := by decide +kernel
theorem dX6_settle_82 : decode cX6_settle 82 = .ok (.getfield 31, 3) := by decide +kernel
theorem dX6_settle_85 : decode cX6_settle 85 = .ok (.iload_n 2, 1) := by decide +kernel
theorem dX6_settle_86 : decode cX6_settle 86 = .ok (.iconst 2, 1) := by decide +kernel
theorem dX6_settle_87 : decode cX6_settle 87 = .ok (.iastore, 1) := by decide +kernel
theorem dX6_settle_88 : decode cX6_settle 88 = .ok (.goto 91, 3) := by decide +kernel
theorem dX6_settle_91 : decode cX6_settle 91 = .ok (.aload_n 0, 1) := by decide +kernel
theorem dX6_settle_92 : decode cX6_settle 92 = .ok (.aload_n 1, 1) := by decide +kernel
theorem dX6_settle_93 : decode cX6_settle 93 = .ok (.getfield 108, 3) := by decide +kernel
theorem dX6_settle_96 : decode cX6_settle 96 = .ok (.iload_n 2, 1) := by decide +kernel
theorem dX6_settle_97 : decode cX6_settle 97 = .ok (.iaload, 1) := by decide +kernel
theorem dX6_settle_98 : decode cX6_settle 98 = .ok (.iload 4, 2) := by decide +kernel
theorem dX6_settle_100 : decode cX6_settle 100 = .ok (.aload_n 1, 1) := by decide +kernel
theorem dX6_settle_101 : decode cX6_settle 101 = .ok (.iload_n 3, 1) := by decide +kernel
theorem dX6_settle_102 : decode cX6_settle 102 = .ok (.iload 4, 2) := by decide +kernel
theorem dX6_settle_104 : decode cX6_settle 104 = .ok (.invokevirtual 111, 3) := by decide +kernel
theorem dX6_settle_107 : decode cX6_settle 107 = .ok (.invokevirtual 115, 3) := by decide +kernel
theorem dX6_settle_110 : decode cX6_settle 110 = .ok (.ifCond .eq 13, 3) := by decide +kernel
theorem dX6_settle_113 : decode cX6_settle 113 = .ok (.aload_n 0, 1) := by decide +kernel
theorem dX6_settle_114 : decode cX6_settle 114 = .ok (.getfield 31, 3) := by decide +kernel
theorem dX6_settle_117 : decode cX6_settle 117 = .ok (.iload_n 2, 1) := by decide +kernel
theorem dX6_settle_118 : decode cX6_settle 118 = .ok (.iconst 3, 1) := by decide +kernel
theorem dX6_settle_119 : decode cX6_settle 119 = .ok (.iastore, 1) := by decide +kernel
theorem dX6_settle_120 : decode cX6_settle 120 = .ok (.goto 59, 3) := by decide +kernel
theorem dX6_settle_123 : decode cX6_settle 123 = .ok (.iload 5, 2) := by decide +kernel
theorem dX6_settle_125 : decode cX6_settle 125 = .ok (.iconst (-1), 1) := by decide +kernel
theorem dX6_settle_126 : decode cX6_settle 126 = .ok (.if_icmp .ne 13, 3) := by decide +kernel
theorem dX6_settle_129 : decode cX6_settle 129 = .ok (.aload_n 0, 1) := by decide +kernel
theorem dX6_settle_130 : decode cX6_settle 130 = .ok (.getfield 31, 3) := by decide +kernel
theorem dX6_settle_133 : decode cX6_settle 133 = .ok (.iload_n 2, 1) := by decide +kernel
theorem dX6_settle_134 : decode cX6_settle 134 = .ok (.iconst 5, 1) := by decide +kernel
theorem dX6_settle_135 : decode cX6_settle 135 = .ok (.iastore, 1) := by decide +kernel
theorem dX6_settle_136 : decode cX6_settle 136 = .ok (.goto 43, 3) := by decide +kernel
theorem dX6_settle_139 : decode cX6_settle 139 = .ok (.aload_n 0, 1) := by decide +kernel
theorem dX6_settle_140 : decode cX6_settle 140 = .ok (.getfield 19, 3) := by decide +kernel
theorem dX6_settle_143 : decode cX6_settle 143 = .ok (.iload_n 2, 1) := by decide +kernel
theorem dX6_settle_144 : decode cX6_settle 144 = .ok (.iaload, 1) := by decide +kernel
theorem dX6_settle_145 : decode cX6_settle 145 = .ok (.iload 7, 2) := by decide +kernel
theorem dX6_settle_147 : decode cX6_settle 147 = .ok (.if_icmp .ge 32, 3) := by decide +kernel
theorem dX6_settle_150 : decode cX6_settle 150 = .ok (.aload_n 0, 1) := by decide +kernel
theorem dX6_settle_151 : decode cX6_settle 151 = .ok (.getfield 31, 3) := by decide +kernel
theorem dX6_settle_154 : decode cX6_settle 154 = .ok (.iload_n 2, 1) := by decide +kernel
theorem dX6_settle_155 : decode cX6_settle 155 = .ok (.iconst 4, 1) := by decide +kernel
theorem dX6_settle_156 : decode cX6_settle 156 = .ok (.iastore, 1) := by decide +kernel
theorem dX6_settle_157 : decode cX6_settle 157 = .ok (.aload_n 0, 1) := by decide +kernel
theorem dX6_settle_158 : decode cX6_settle 158 = .ok (.getfield 37, 3) := by decide +kernel
theorem dX6_settle_161 : decode cX6_settle 161 = .ok (.iload_n 2, 1) := by decide +kernel
theorem dX6_settle_162 : decode cX6_settle 162 = .ok (.aload_n 1, 1) := by decide +kernel
theorem dX6_settle_163 : decode cX6_settle 163 = .ok (.getfield 78, 3) := by decide +kernel
theorem dX6_settle_166 : decode cX6_settle 166 = .ok (.iload_n 2, 1) := by decide +kernel
theorem dX6_settle_167 : decode cX6_settle 167 = .ok (.iaload, 1) := by decide +kernel
theorem dX6_settle_168 : decode cX6_settle 168 = .ok (.aload_n 0, 1) := by decide +kernel
theorem dX6_settle_169 : decode cX6_settle 169 = .ok (.getfield 19, 3) := by decide +kernel
theorem dX6_settle_172 : decode cX6_settle 172 = .ok (.iload_n 2, 1) := by decide +kernel
theorem dX6_settle_173 : decode cX6_settle 173 = .ok (.iaload, 1) := by decide +kernel
theorem dX6_settle_174 : decode cX6_settle 174 = .ok (.isub, 1) := by decide +kernel
theorem dX6_settle_175 : decode cX6_settle 175 = .ok (.iload 7, 2) := by decide +kernel
theorem dX6_settle_177 : decode cX6_settle 177 = .ok (.iadd, 1) := by decide +kernel
theorem dX6_settle_178 : decode cX6_settle 178 = .ok (.iastore, 1) := by decide +kernel
theorem dX6_settle_179 : decode cX6_settle 179 = .ok (.aload_n 0, 1) := by decide +kernel
theorem dX6_settle_180 : decode cX6_settle 180 = .ok (.getfield 31, 3) := by decide +kernel
theorem dX6_settle_183 : decode cX6_settle 183 = .ok (.iload_n 2, 1) := by decide +kernel
theorem dX6_settle_184 : decode cX6_settle 184 = .ok (.iaload, 1) := by decide +kernel
theorem dX6_settle_185 : decode cX6_settle 185 = .ok (.iconst 1, 1) := by decide +kernel
theorem dX6_settle_186 : decode cX6_settle 186 = .ok (.if_icmp .ne 54, 3) := by decide +kernel
theorem dX6_settle_189 : decode cX6_settle 189 = .ok (.aload_n 0, 1) := by decide +kernel
theorem dX6_settle_190 : decode cX6_settle 190 = .ok (.getfield 19, 3) := by decide +kernel
theorem dX6_settle_193 : decode cX6_settle 193 = .ok (.iload_n 2, 1) := by decide +kernel
theorem dX6_settle_194 : decode cX6_settle 194 = .ok (.dup2, 1) := by decide +kernel
theorem dX6_settle_195 : decode cX6_settle 195 = .ok (.iaload, 1) := by decide +kernel
theorem dX6_settle_196 : decode cX6_settle 196 = .ok (.iload 7, 2) := by decide +kernel
theorem dX6_settle_198 : decode cX6_settle 198 = .ok (.isub, 1) := by decide +kernel
theorem dX6_settle_199 : decode cX6_settle 199 = .ok (.iastore, 1) := by decide +kernel
theorem dX6_settle_200 : decode cX6_settle 200 = .ok (.aload_n 0, 1) := by decide +kernel
theorem dX6_settle_201 : decode cX6_settle 201 = .ok (.getfield 15, 3) := by decide +kernel
theorem dX6_settle_204 : decode cX6_settle 204 = .ok (.iload_n 2, 1) := by decide +kernel
theorem dX6_settle_205 : decode cX6_settle 205 = .ok (.iload_n 3, 1) := by decide +kernel
theorem dX6_settle_206 : decode cX6_settle 206 = .ok (.iload 6, 2) := by decide +kernel
theorem dX6_settle_208 : decode cX6_settle 208 = .ok (.iadd, 1) := by decide +kernel
theorem dX6_settle_209 : decode cX6_settle 209 = .ok (.iastore, 1) := by decide +kernel
theorem dX6_settle_210 : decode cX6_settle 210 = .ok (.aload_n 0, 1) := by decide +kernel
theorem dX6_settle_211 : decode cX6_settle 211 = .ok (.getfield 28, 3) := by decide +kernel
theorem dX6_settle_214 : decode cX6_settle 214 = .ok (.iload_n 2, 1) := by decide +kernel
theorem dX6_settle_215 : decode cX6_settle 215 = .ok (.iload 5, 2) := by decide +kernel
theorem dX6_settle_217 : decode cX6_settle 217 = .ok (.iastore, 1) := by decide +kernel
theorem dX6_settle_218 : decode cX6_settle 218 = .ok (.aload_n 0, 1) := by decide +kernel
theorem dX6_settle_219 : decode cX6_settle 219 = .ok (.getfield 43, 3) := by decide +kernel
theorem dX6_settle_222 : decode cX6_settle 222 = .ok (.iload_n 2, 1) := by decide +kernel
theorem dX6_settle_223 : decode cX6_settle 223 = .ok (.iload_n 3, 1) := by decide +kernel
theorem dX6_settle_224 : decode cX6_settle 224 = .ok (.iload 4, 2) := by decide +kernel
theorem dX6_settle_226 : decode cX6_settle 226 = .ok (.aload_n 0, 1) := by decide +kernel
theorem dX6_settle_227 : decode cX6_settle 227 = .ok (.getfield 19, 3) := by decide +kernel
theorem dX6_settle_230 : decode cX6_settle 230 = .ok (.iload_n 2, 1) := by decide +kernel
theorem dX6_settle_231 : decode cX6_settle 231 = .ok (.iaload, 1) := by decide +kernel
theorem dX6_settle_232 : decode cX6_settle 232 = .ok (.iload 5, 2) := by decide +kernel
theorem dX6_settle_234 : decode cX6_settle 234 = .ok (.invokevirtual 119, 3) := by decide +kernel
theorem dX6_settle_237 : decode cX6_settle 237 = .ok (.goto 37, 3) := by decide +kernel
theorem dX6_settle_240 : decode cX6_settle 240 = .ok (.aload_n 0, 1) := by decide +kernel
theorem dX6_settle_241 : decode cX6_settle 241 = .ok (.getfield 34, 3) := by decide +kernel
theorem dX6_settle_244 : decode cX6_settle 244 = .ok (.iload_n 2, 1) := by decide +kernel
theorem dX6_settle_245 : decode cX6_settle 245 = .ok (.iload_n 3, 1) := by decide +kernel
theorem dX6_settle_246 : decode cX6_settle 246 = .ok (.iastore, 1) := by decide +kernel
theorem dX6_settle_247 : decode cX6_settle 247 = .ok (.aload_n 0, 1) := by decide +kernel
theorem dX6_settle_248 : decode cX6_settle 248 = .ok (.getfield 15, 3) := by decide +kernel
theorem dX6_settle_251 : decode cX6_settle 251 = .ok (.iload_n 2, 1) := by decide +kernel
theorem dX6_settle_252 : decode cX6_settle 252 = .ok (.sipush 1000, 3) := by decide +kernel
theorem dX6_settle_255 : decode cX6_settle 255 = .ok (.iastore, 1) := by decide +kernel
theorem dX6_settle_256 : decode cX6_settle 256 = .ok (.aload_n 0, 1) := by decide +kernel
theorem dX6_settle_257 : decode cX6_settle 257 = .ok (.getfield 43, 3) := by decide +kernel
theorem dX6_settle_260 : decode cX6_settle 260 = .ok (.iload_n 2, 1) := by decide +kernel
theorem dX6_settle_261 : decode cX6_settle 261 = .ok (.iload_n 3, 1) := by decide +kernel
theorem dX6_settle_262 : decode cX6_settle 262 = .ok (.iload 4, 2) := by decide +kernel
theorem dX6_settle_264 : decode cX6_settle 264 = .ok (.aload_n 0, 1) := by decide +kernel
theorem dX6_settle_265 : decode cX6_settle 265 = .ok (.getfield 19, 3) := by decide +kernel
theorem dX6_settle_268 : decode cX6_settle 268 = .ok (.iload_n 2, 1) := by decide +kernel
theorem dX6_settle_269 : decode cX6_settle 269 = .ok (.iaload, 1) := by decide +kernel
theorem dX6_settle_270 : decode cX6_settle 270 = .ok (.iconst (-1), 1) := by decide +kernel
theorem dX6_settle_271 : decode cX6_settle 271 = .ok (.invokevirtual 119, 3) := by decide +kernel
theorem dX6_settle_274 : decode cX6_settle 274 = .ok (.return_, 1) := by decide +kernel
theorem dX6_isTold_0 : decode cX6_isTold 0 = .ok (.iload_n 1, 1) := by decide +kernel
theorem dX6_isTold_1 : decode cX6_isTold 1 = .ok (.iconst 2, 1) := by decide +kernel
theorem dX6_isTold_2 : decode cX6_isTold 2 = .ok (.if_icmp .eq 7, 3) := by decide +kernel
theorem dX6_isTold_5 : decode cX6_isTold 5 = .ok (.iload_n 3, 1) := by decide +kernel
theorem dX6_isTold_6 : decode cX6_isTold 6 = .ok (.ifCond .ne 18, 3) := by decide +kernel
theorem dX6_isTold_9 : decode cX6_isTold 9 = .ok (.iload_n 1, 1) := by decide +kernel
theorem dX6_isTold_10 : decode cX6_isTold 10 = .ok (.iconst 1, 1) := by decide +kernel
theorem dX6_isTold_11 : decode cX6_isTold 11 = .ok (.if_icmp .ne 17, 3) := by decide +kernel
theorem dX6_isTold_14 : decode cX6_isTold 14 = .ok (.aload_n 0, 1) := by decide +kernel
theorem dX6_isTold_15 : decode cX6_isTold 15 = .ok (.getfield 22, 3) := by decide +kernel
theorem dX6_isTold_18 : decode cX6_isTold 18 = .ok (.iload_n 2, 1) := by decide +kernel
theorem dX6_isTold_19 : decode cX6_isTold 19 = .ok (.iaload, 1) := by decide +kernel
theorem dX6_isTold_20 : decode cX6_isTold 20 = .ok (.iconst 1, 1) := by decide +kernel
theorem dX6_isTold_21 : decode cX6_isTold 21 = .ok (.if_icmp .le 7, 3) := by decide +kernel
theorem dX6_isTold_24 : decode cX6_isTold 24 = .ok (.iconst 1, 1) := by decide +kernel
theorem dX6_isTold_25 : decode cX6_isTold 25 = .ok (.goto 4, 3) := by decide +kernel
theorem dX6_isTold_28 : decode cX6_isTold 28 = .ok (.iconst 0, 1) := by decide +kernel
theorem dX6_isTold_29 : decode cX6_isTold 29 = .ok (.ireturn, 1) := by decide +kernel
theorem dX6_stayBehind_0 : decode cX6_stayBehind 0 = .ok (.aload_n 0, 1) := by decide +kernel
theorem dX6_stayBehind_1 : decode cX6_stayBehind 1 = .ok (.getfield 34, 3) := by decide +kernel
theorem dX6_stayBehind_4 : decode cX6_stayBehind 4 = .ok (.iload_n 1, 1) := by decide +kernel
theorem dX6_stayBehind_5 : decode cX6_stayBehind 5 = .ok (.iaload, 1) := by decide +kernel
theorem dX6_stayBehind_6 : decode cX6_stayBehind 6 = .ok (.iconst (-1), 1) := by decide +kernel
theorem dX6_stayBehind_7 : decode cX6_stayBehind 7 = .ok (.if_icmp .eq 22, 3) := by decide +kernel
theorem dX6_stayBehind_10 : decode cX6_stayBehind 10 = .ok (.aload_n 0, 1) := by decide +kernel
theorem dX6_stayBehind_11 : decode cX6_stayBehind 11 = .ok (.getfield 34, 3) := by decide +kernel
theorem dX6_stayBehind_14 : decode cX6_stayBehind 14 = .ok (.iload_n 1, 1) := by decide +kernel
theorem dX6_stayBehind_15 : decode cX6_stayBehind 15 = .ok (.iaload, 1) := by decide +kernel
theorem dX6_stayBehind_16 : decode cX6_stayBehind 16 = .ok (.iload_n 2, 1) := by decide +kernel
theorem dX6_stayBehind_17 : decode cX6_stayBehind 17 = .ok (.if_icmp .gt 12, 3) := by decide +kernel
theorem dX6_stayBehind_20 : decode cX6_stayBehind 20 = .ok (.aload_n 0, 1) := by decide +kernel
theorem dX6_stayBehind_21 : decode cX6_stayBehind 21 = .ok (.getfield 28, 3) := by decide +kernel
theorem dX6_stayBehind_24 : decode cX6_stayBehind 24 = .ok (.iload_n 1, 1) := by decide +kernel
theorem dX6_stayBehind_25 : decode cX6_stayBehind 25 = .ok (.iaload, 1) := by decide +kernel
theorem dX6_stayBehind_26 : decode cX6_stayBehind 26 = .ok (.goto 4, 3) := by decide +kernel
theorem dX6_stayBehind_29 : decode cX6_stayBehind 29 = .ok (.iconst (-1), 1) := by decide +kernel
theorem dX6_stayBehind_30 : decode cX6_stayBehind 30 = .ok (.ireturn, 1) := by decide +kernel
theorem dX6_whoIs_0 : decode cX6_whoIs 0 = .ok (.iconst 0, 1) := by decide +kernel
theorem dX6_whoIs_1 : decode cX6_whoIs 1 = .ok (.istore_n 2, 1) := by decide +kernel
theorem dX6_whoIs_2 : decode cX6_whoIs 2 = .ok (.iconst 0, 1) := by decide +kernel
theorem dX6_whoIs_3 : decode cX6_whoIs 3 = .ok (.istore_n 3, 1) := by decide +kernel
theorem dX6_whoIs_4 : decode cX6_whoIs 4 = .ok (.iload_n 3, 1) := by decide +kernel
theorem dX6_whoIs_5 : decode cX6_whoIs 5 = .ok (.aload_n 0, 1) := by decide +kernel
theorem dX6_whoIs_6 : decode cX6_whoIs 6 = .ok (.getfield 9, 3) := by decide +kernel
theorem dX6_whoIs_9 : decode cX6_whoIs 9 = .ok (.if_icmp .ge 25, 3) := by decide +kernel
theorem dX6_whoIs_12 : decode cX6_whoIs 12 = .ok (.aload_n 0, 1) := by decide +kernel
theorem dX6_whoIs_13 : decode cX6_whoIs 13 = .ok (.getfield 31, 3) := by decide +kernel
theorem dX6_whoIs_16 : decode cX6_whoIs 16 = .ok (.iload_n 3, 1) := by decide +kernel
theorem dX6_whoIs_17 : decode cX6_whoIs 17 = .ok (.iaload, 1) := by decide +kernel
theorem dX6_whoIs_18 : decode cX6_whoIs 18 = .ok (.iload_n 1, 1) := by decide +kernel
theorem dX6_whoIs_19 : decode cX6_whoIs 19 = .ok (.if_icmp .ne 9, 3) := by decide +kernel
theorem dX6_whoIs_22 : decode cX6_whoIs 22 = .ok (.iload_n 2, 1) := by decide +kernel
theorem dX6_whoIs_23 : decode cX6_whoIs 23 = .ok (.iconst 1, 1) := by decide +kernel
theorem dX6_whoIs_24 : decode cX6_whoIs 24 = .ok (.iload_n 3, 1) := by decide +kernel
theorem dX6_whoIs_25 : decode cX6_whoIs 25 = .ok (.ishl, 1) := by decide +kernel
theorem dX6_whoIs_26 : decode cX6_whoIs 26 = .ok (.ior, 1) := by decide +kernel
theorem dX6_whoIs_27 : decode cX6_whoIs 27 = .ok (.istore_n 2, 1) := by decide +kernel
theorem dX6_whoIs_28 : decode cX6_whoIs 28 = .ok (.iinc 3 1, 3) := by decide +kernel
theorem dX6_whoIs_31 : decode cX6_whoIs 31 = .ok (.goto (-27), 3) := by decide +kernel
theorem dX6_whoIs_34 : decode cX6_whoIs 34 = .ok (.iload_n 2, 1) := by decide +kernel
theorem dX6_whoIs_35 : decode cX6_whoIs 35 = .ok (.ireturn, 1) := by decide +kernel
theorem dX6_howMany_0 : decode cX6_howMany 0 = .ok (.aload_n 0, 1) := by decide +kernel
theorem dX6_howMany_1 : decode cX6_howMany 1 = .ok (.iload_n 1, 1) := by decide +kernel
theorem dX6_howMany_2 : decode cX6_howMany 2 = .ok (.invokevirtual 123, 3) := by decide +kernel
theorem dX6_howMany_5 : decode cX6_howMany 5 = .ok (.invokestatic 127, 3) := by decide +kernel
theorem dX6_howMany_8 : decode cX6_howMany 8 = .ok (.ireturn, 1) := by decide +kernel
theorem dX6_allArrivals_0 : decode cX6_allArrivals 0 = .ok (.iconst 0, 1) := by decide +kernel
theorem dX6_allArrivals_1 : decode cX6_allArrivals 1 = .ok (.istore_n 1, 1) := by decide +kernel
theorem dX6_allArrivals_2 : decode cX6_allArrivals 2 = .ok (.iconst 0, 1) := by decide +kernel
theorem dX6_allArrivals_3 : decode cX6_allArrivals 3 = .ok (.istore_n 2, 1) := by decide +kernel
theorem dX6_allArrivals_4 : decode cX6_allArrivals 4 = .ok (.iload_n 2, 1) := by decide +kernel
theorem dX6_allArrivals_5 : decode cX6_allArrivals 5 = .ok (.bipush 8, 2) := by decide +kernel
theorem dX6_allArrivals_7 : decode cX6_allArrivals 7 = .ok (.if_icmp .ge 18, 3) := by decide +kernel
theorem dX6_allArrivals_10 : decode cX6_allArrivals 10 = .ok (.iload_n 1, 1) := by decide +kernel
theorem dX6_allArrivals_11 : decode cX6_allArrivals 11 = .ok (.aload_n 0, 1) := by decide +kernel
theorem dX6_allArrivals_12 : decode cX6_allArrivals 12 = .ok (.getfield 25, 3) := by decide +kernel
theorem dX6_allArrivals_15 : decode cX6_allArrivals 15 = .ok (.iload_n 2, 1) := by decide +kernel
theorem dX6_allArrivals_16 : decode cX6_allArrivals 16 = .ok (.iaload, 1) := by decide +kernel
theorem dX6_allArrivals_17 : decode cX6_allArrivals 17 = .ok (.iadd, 1) := by decide +kernel
theorem dX6_allArrivals_18 : decode cX6_allArrivals 18 = .ok (.istore_n 1, 1) := by decide +kernel
theorem dX6_allArrivals_19 : decode cX6_allArrivals 19 = .ok (.iinc 2 1, 3) := by decide +kernel
theorem dX6_allArrivals_22 : decode cX6_allArrivals 22 = .ok (.goto (-18), 3) := by decide +kernel
theorem dX6_allArrivals_25 : decode cX6_allArrivals 25 = .ok (.iload_n 1, 1) := by decide +kernel
theorem dX6_allArrivals_26 : decode cX6_allArrivals 26 = .ok (.ireturn, 1) := by decide +kernel
theorem dX6_mostArrivals_0 : decode cX6_mostArrivals 0 = .ok (.iconst 0, 1) := by decide +kernel
theorem dX6_mostArrivals_1 : decode cX6_mostArrivals 1 = .ok (.istore_n 1, 1) := by decide +kernel
theorem dX6_mostArrivals_2 : decode cX6_mostArrivals 2 = .ok (.iconst (-1), 1) := by decide +kernel
theorem dX6_mostArrivals_3 : decode cX6_mostArrivals 3 = .ok (.istore_n 2, 1) := by decide +kernel
theorem dX6_mostArrivals_4 : decode cX6_mostArrivals 4 = .ok (.iconst 0, 1) := by decide +kernel
theorem dX6_mostArrivals_5 : decode cX6_mostArrivals 5 = .ok (.istore_n 3, 1) := by decide +kernel
theorem dX6_mostArrivals_6 : decode cX6_mostArrivals 6 = .ok (.iload_n 3, 1) := by decide +kernel
theorem dX6_mostArrivals_7 : decode cX6_mostArrivals 7 = .ok (.bipush 8, 2) := by decide +kernel
theorem dX6_mostArrivals_9 : decode cX6_mostArrivals 9 = .ok (.if_icmp .ge 28, 3) := by decide +kernel
theorem dX6_mostArrivals_12 : decode cX6_mostArrivals 12 = .ok (.aload_n 0, 1) := by decide +kernel
theorem dX6_mostArrivals_13 : decode cX6_mostArrivals 13 = .ok (.getfield 25, 3) := by decide +kernel
theorem dX6_mostArrivals_16 : decode cX6_mostArrivals 16 = .ok (.iload_n 3, 1) := by decide +kernel
theorem dX6_mostArrivals_17 : decode cX6_mostArrivals 17 = .ok (.iaload, 1) := by decide +kernel
theorem dX6_mostArrivals_18 : decode cX6_mostArrivals 18 = .ok (.iload_n 1, 1) := by decide +kernel
theorem dX6_mostArrivals_19 : decode cX6_mostArrivals 19 = .ok (.if_icmp .le 12, 3) := by decide +kernel
theorem dX6_mostArrivals_22 : decode cX6_mostArrivals 22 = .ok (.aload_n 0, 1) := by decide +kernel
theorem dX6_mostArrivals_23 : decode cX6_mostArrivals 23 = .ok (.getfield 25, 3) := by decide +kernel
theorem dX6_mostArrivals_26 : decode cX6_mostArrivals 26 = .ok (.iload_n 3, 1) := by decide +kernel
theorem dX6_mostArrivals_27 : decode cX6_mostArrivals 27 = .ok (.iaload, 1) := by decide +kernel
theorem dX6_mostArrivals_28 : decode cX6_mostArrivals 28 = .ok (.istore_n 1, 1) := by decide +kernel
theorem dX6_mostArrivals_29 : decode cX6_mostArrivals 29 = .ok (.iload_n 3, 1) := by decide +kernel
theorem dX6_mostArrivals_30 : decode cX6_mostArrivals 30 = .ok (.istore_n 2, 1) := by decide +kernel
theorem dX6_mostArrivals_31 : decode cX6_mostArrivals 31 = .ok (.iinc 3 1, 3) := by decide +kernel
theorem dX6_mostArrivals_34 : decode cX6_mostArrivals 34 = .ok (.goto (-28), 3) := by decide +kernel
theorem dX6_mostArrivals_37 : decode cX6_mostArrivals 37 = .ok (.iload_n 2, 1) := by decide +kernel
theorem dX6_mostArrivals_38 : decode cX6_mostArrivals 38 = .ok (.ireturn, 1) := by decide +kernel
theorem dX7_init_0 : decode cX7_init 0 = .ok (.aload_n 0, 1) := by decide +kernel
theorem dX7_init_1 : decode cX7_init 1 = .ok (.invokespecial 3, 3) := by decide +kernel
theorem dX7_init_4 : decode cX7_init 4 = .ok (.aload_n 0, 1) := by decide +kernel
theorem dX7_init_5 : decode cX7_init 5 = .ok (.bipush 8, 2) := by decide +kernel
theorem dX7_init_7 : decode cX7_init 7 = .ok (.newarray .int, 2) := by decide +kernel
theorem dX7_init_9 : decode cX7_init 9 = .ok (.putfield 9, 3) := by decide +kernel
theorem dX7_init_12 : decode cX7_init 12 = .ok (.aload_n 0, 1) := by decide +kernel
theorem dX7_init_13 : decode cX7_init 13 = .ok (.bipush 8, 2) := by decide +kernel
theorem dX7_init_15 : decode cX7_init 15 = .ok (.newarray .int, 2) := by decide +kernel
theorem dX7_init_17 : decode cX7_init 17 = .ok (.putfield 15, 3) := by decide +kernel
theorem dX7_init_20 : decode cX7_init 20 = .ok (.aload_n 0, 1) := by decide +kernel
theorem dX7_init_21 : decode cX7_init 21 = .ok (.bipush 8, 2) := by decide +kernel
theorem dX7_init_23 : decode cX7_init 23 = .ok (.newarray .int, 2) := by decide +kernel
theorem dX7_init_25 : decode cX7_init 25 = .ok (.putfield 18, 3) := by decide +kernel
theorem dX7_init_28 : decode cX7_init 28 = .ok (.aload_n 0, 1) := by decide +kernel
theorem dX7_init_29 : decode cX7_init 29 = .ok (.bipush 8, 2) := by decide +kernel
theorem dX7_init_31 : decode cX7_init 31 = .ok (.newarray .int, 2) := by decide +kernel
theorem dX7_init_33 : decode cX7_init 33 = .ok (.putfield 21, 3) := by decide +kernel
theorem dX7_init_36 : decode cX7_init 36 = .ok (.aload_n 0, 1) := by decide +kernel
theorem dX7_init_37 : decode cX7_init 37 = .ok (.bipush 8, 2) := by decide +kernel
theorem dX7_init_39 : decode cX7_init 39 = .ok (.newarray .int, 2) := by decide +kernel
theorem dX7_init_41 : decode cX7_init 41 = .ok (.putfield 24, 3) := by decide +kernel
theorem dX7_init_44 : decode cX7_init 44 = .ok (.aload_n 0, 1) := by decide +kernel
theorem dX7_init_45 : decode cX7_init 45 = .ok (.bipush 8, 2) := by decide +kernel
theorem dX7_init_47 : decode cX7_init 47 = .ok (.newarray .int, 2) := by decide +kernel
theorem dX7_init_49 : decode cX7_init 49 = .ok (.putfield 27, 3) := by decide +kernel
theorem dX7_init_52 : decode cX7_init 52 = .ok (.aload_n 0, 1) := by decide +kernel
theorem dX7_init_53 : decode cX7_init 53 = .ok (.iconst 0, 1) := by decide +kernel
theorem dX7_init_54 : decode cX7_init 54 = .ok (.putfield 30, 3) := by decide +kernel
theorem dX7_init_57 : decode cX7_init 57 = .ok (.aload_n 0, 1) := by decide +kernel
theorem dX7_init_58 : decode cX7_init 58 = .ok (.iconst 0, 1) := by decide +kernel
theorem dX7_init_59 : decode cX7_init 59 = .ok (.putfield 34, 3) := by decide +kernel
theorem dX7_init_62 : decode cX7_init 62 = .ok (.aload_n 0, 1) := by decide +kernel
theorem dX7_init_63 : decode cX7_init 63 = .ok (.aload_n 1, 1) := by decide +kernel
theorem dX7_init_64 : decode cX7_init 64 = .ok (.putfield 37, 3) := by decide +kernel
theorem dX7_init_67 : decode cX7_init 67 = .ok (.aload_n 0, 1) := by decide +kernel
theorem dX7_init_68 : decode cX7_init 68 = .ok (.aload_n 2, 1) := by decide +kernel
theorem dX7_init_69 : decode cX7_init 69 = .ok (.putfield 41, 3) := by decide +kernel
theorem dX7_init_72 : decode cX7_init 72 = .ok (.return_, 1) := by decide +kernel
theorem dX7_take_0 : decode cX7_take 0 = .ok (.aload_n 0, 1) := by decide +kernel
theorem dX7_take_1 : decode cX7_take 1 = .ok (.aload_n 1, 1) := by decide +kernel
theorem dX7_take_2 : decode cX7_take 2 = .ok (.getfield 45, 3) := by decide +kernel
theorem dX7_take_5 : decode cX7_take 5 = .ok (.putfield 30, 3) := by decide +kernel
theorem dX7_take_8 : decode cX7_take 8 = .ok (.iconst 0, 1) := by decide +kernel
theorem dX7_take_9 : decode cX7_take 9 = .ok (.istore_n 2, 1) := by decide +kernel
theorem dX7_take_10 : decode cX7_take 10 = .ok (.iload_n 2, 1) := by decide +kernel
theorem dX7_take_11 : decode cX7_take 11 = .ok (.aload_n 0, 1) := by decide +kernel
theorem dX7_take_12 : decode cX7_take 12 = .ok (.getfield 30, 3) := by decide +kernel
theorem dX7_take_15 : decode cX7_take 15 = .ok (.if_icmp .ge 79, 3) := by decide +kernel
theorem dX7_take_18 : decode cX7_take 18 = .ok (.aload_n 0, 1) := by decide +kernel
theorem dX7_take_19 : decode cX7_take 19 = .ok (.getfield 9, 3) := by decide +kernel
theorem dX7_take_22 : decode cX7_take 22 = .ok (.iload_n 2, 1) := by decide +kernel
theorem dX7_take_23 : decode cX7_take 23 = .ok (.aload_n 1, 1) := by decide +kernel
theorem dX7_take_24 : decode cX7_take 24 = .ok (.iload_n 2, 1) := by decide +kernel
theorem dX7_take_25 : decode cX7_take 25 = .ok (.iconst 0, 1) := by decide +kernel
theorem dX7_take_26 : decode cX7_take 26 = .ok (.invokevirtual 50, 3) := by decide +kernel
theorem dX7_take_29 : decode cX7_take 29 = .ok (.iastore, 1) := by decide +kernel
theorem dX7_take_30 : decode cX7_take 30 = .ok (.aload_n 0, 1) := by decide +kernel
theorem dX7_take_31 : decode cX7_take 31 = .ok (.getfield 15, 3) := by decide +kernel
theorem dX7_take_34 : decode cX7_take 34 = .ok (.iload_n 2, 1) := by decide +kernel
theorem dX7_take_35 : decode cX7_take 35 = .ok (.aload_n 1, 1) := by decide +kernel
theorem dX7_take_36 : decode cX7_take 36 = .ok (.iload_n 2, 1) := by decide +kernel
theorem dX7_take_37 : decode cX7_take 37 = .ok (.iconst 1, 1) := by decide +kernel
theorem dX7_take_38 : decode cX7_take 38 = .ok (.invokevirtual 50, 3) := by decide +kernel
theorem dX7_take_41 : decode cX7_take 41 = .ok (.iastore, 1) := by decide +kernel
theorem dX7_take_42 : decode cX7_take 42 = .ok (.aload_n 0, 1) := by decide +kernel
theorem dX7_take_43 : decode cX7_take 43 = .ok (.getfield 18, 3) := by decide +kernel
theorem dX7_take_46 : decode cX7_take 46 = .ok (.iload_n 2, 1) := by decide +kernel
theorem dX7_take_47 : decode cX7_take 47 = .ok (.aload_n 1, 1) := by decide +kernel
theorem dX7_take_48 : decode cX7_take 48 = .ok (.iload_n 2, 1) := by decide +kernel
theorem dX7_take_49 : decode cX7_take 49 = .ok (.iconst 2, 1) := by decide +kernel
theorem dX7_take_50 : decode cX7_take 50 = .ok (.invokevirtual 50, 3) := by decide +kernel
theorem dX7_take_53 : decode cX7_take 53 = .ok (.iastore, 1) := by decide +kernel
theorem dX7_take_54 : decode cX7_take 54 = .ok (.aload_n 0, 1) := by decide +kernel
theorem dX7_take_55 : decode cX7_take 55 = .ok (.getfield 21, 3) := by decide +kernel
theorem dX7_take_58 : decode cX7_take 58 = .ok (.iload_n 2, 1) := by decide +kernel
theorem dX7_take_59 : decode cX7_take 59 = .ok (.bipush 10, 2) := by decide +kernel
theorem dX7_take_61 : decode cX7_take 61 = .ok (.aload_n 1, 1) := by decide +kernel
theorem dX7_take_62 : decode cX7_take 62 = .ok (.iload_n 2, 1) := by decide +kernel
theorem dX7_take_63 : decode cX7_take 63 = .ok (.iconst 3, 1) := by decide +kernel
theorem dX7_take_64 : decode cX7_take 64 = .ok (.invokevirtual 50, 3) := by decide +kernel
theorem dX7_take_67 : decode cX7_take 67 = .ok (.imul, 1) := by decide +kernel
theorem dX7_take_68 : decode cX7_take 68 = .ok (.aload_n 1, 1) := by decide +kernel
theorem dX7_take_69 : decode cX7_take 69 = .ok (.iload_n 2, 1) := by decide +kernel
theorem dX7_take_70 : decode cX7_take 70 = .ok (.iconst 4, 1) := by decide +kernel
theorem dX7_take_71 : decode cX7_take 71 = .ok (.invokevirtual 50, 3) := by decide +kernel
theorem dX7_take_74 : decode cX7_take 74 = .ok (.iadd, 1) := by decide +kernel
theorem dX7_take_75 : decode cX7_take 75 = .ok (.iastore, 1) := by decide +kernel
theorem dX7_take_76 : decode cX7_take 76 = .ok (.aload_n 0, 1) := by decide +kernel
theorem dX7_take_77 : decode cX7_take 77 = .ok (.getfield 24, 3) := by decide +kernel
theorem dX7_take_80 : decode cX7_take 80 = .ok (.iload_n 2, 1) := by decide +kernel
theorem dX7_take_81 : decode cX7_take 81 = .ok (.aload_n 1, 1) := by decide +kernel
theorem dX7_take_82 : decode cX7_take 82 = .ok (.iload_n 2, 1) := by decide +kernel
theorem dX7_take_83 : decode cX7_take 83 = .ok (.iconst 5, 1) := by decide +kernel
theorem dX7_take_84 : decode cX7_take 84 = .ok (.invokevirtual 50, 3) := by decide +kernel
theorem dX7_take_87 : decode cX7_take 87 = .ok (.iastore, 1) := by decide +kernel
theorem dX7_take_88 : decode cX7_take 88 = .ok (.iinc 2 1, 3) := by decide +kernel
theorem dX7_take_91 : decode cX7_take 91 = .ok (.goto (-81), 3) := by decide +kernel
theorem dX7_take_94 : decode cX7_take 94 = .ok (.return_, 1) := by decide +kernel
theorem dX7_part_0 : decode cX7_part 0 = .ok (.iload_n 2, 1) := by decide +kernel
theorem dX7_part_1 : decode cX7_part 1 = .ok (.tableswitch 59 0 3 #[31, 38, 45, 52], 31) := by decide +kernel
theorem dX7_part_32 : decode cX7_part 32 = .ok (.aload_n 0, 1) := by decide +kernel
theorem dX7_part_33 : decode cX7_part 33 = .ok (.getfield 9, 3) := by decide +kernel
theorem dX7_part_36 : decode cX7_part 36 = .ok (.iload_n 1, 1) := by decide +kernel
theorem dX7_part_37 : decode cX7_part 37 = .ok (.iaload, 1) := by decide +kernel
theorem dX7_part_38 : decode cX7_part 38 = .ok (.ireturn, 1) := by decide +kernel
theorem dX7_part_39 : decode cX7_part 39 = .ok (.aload_n 0, 1) := by decide +kernel
theorem dX7_part_40 : decode cX7_part 40 = .ok (.getfield 15, 3) := by decide +kernel
theorem dX7_part_43 : decode cX7_part 43 = .ok (.iload_n 1, 1) := by decide +kernel
theorem dX7_part_44 : decode cX7_part 44 = .ok (.iaload, 1) := by decide +kernel
theorem dX7_part_45 : decode cX7_part 45 = .ok (.ireturn, 1) := by decide +kernel
theorem dX7_part_46 : decode cX7_part 46 = .ok (.aload_n 0, 1) := by decide +kernel
theorem dX7_part_47 : decode cX7_part 47 = .ok (.getfield 18, 3) := by decide +kernel
theorem dX7_part_50 : decode cX7_part 50 = .ok (.iload_n 1, 1) := by decide +kernel
theorem dX7_part_51 : decode cX7_part 51 = .ok (.iaload, 1) := by decide +kernel
theorem dX7_part_52 : decode cX7_part 52 = .ok (.ireturn, 1) := by decide +kernel
theorem dX7_part_53 : decode cX7_part 53 = .ok (.aload_n 0, 1) := by decide +kernel
theorem dX7_part_54 : decode cX7_part 54 = .ok (.getfield 21, 3) := by decide +kernel
theorem dX7_part_57 : decode cX7_part 57 = .ok (.iload_n 1, 1) := by decide +kernel
theorem dX7_part_58 : decode cX7_part 58 = .ok (.iaload, 1) := by decide +kernel
theorem dX7_part_59 : decode cX7_part 59 = .ok (.ireturn, 1) := by decide +kernel
theorem dX7_part_60 : decode cX7_part 60 = .ok (.aload_n 0, 1) := by decide +kernel
theorem dX7_part_61 : decode cX7_part 61 = .ok (.getfield 24, 3) := by decide +kernel
theorem dX7_part_64 : decode cX7_part 64 = .ok (.iload_n 1, 1) := by decide +kernel
theorem dX7_part_65 : decode cX7_part 65 = .ok (.iaload, 1) := by decide +kernel
theorem dX7_part_66 : decode cX7_part 66 = .ok (.ireturn, 1) := by decide +kernel
theorem dX7_become_0 : decode cX7_become 0 = .ok (.aload_n 0, 1) := by decide +kernel
theorem dX7_become_1 : decode cX7_become 1 = .ok (.aload_n 1, 1) := by decide +kernel
theorem dX7_become_2 : decode cX7_become 2 = .ok (.getfield 30, 3) := by decide +kernel
theorem dX7_become_5 : decode cX7_become 5 = .ok (.putfield 30, 3) := by decide +kernel
theorem dX7_become_8 : decode cX7_become 8 = .ok (.aload_n 0, 1) := by decide +kernel
theorem dX7_become_9 : decode cX7_become 9 = .ok (.aload_n 1, 1) := by decide +kernel
theorem dX7_become_10 : decode cX7_become 10 = .ok (.getfield 41, 3) := by decide +kernel
theorem dX7_become_13 : decode cX7_become 13 = .ok (.putfield 41, 3) := by decide +kernel
theorem dX7_become_16 : decode cX7_become 16 = .ok (.aload_n 0, 1) := by decide +kernel
theorem dX7_become_17 : decode cX7_become 17 = .ok (.aload_n 1, 1) := by decide +kernel
theorem dX7_become_18 : decode cX7_become 18 = .ok (.getfield 34, 3) := by decide +kernel
theorem dX7_become_21 : decode cX7_become 21 = .ok (.putfield 34, 3) := by decide +kernel
theorem dX7_become_24 : decode cX7_become 24 = .ok (.iconst 0, 1) := by decide +kernel
theorem dX7_become_25 : decode cX7_become 25 = .ok (.istore_n 2, 1) := by decide +kernel
theorem dX7_become_26 : decode cX7_become 26 = .ok (.iload_n 2, 1) := by decide +kernel
theorem dX7_become_27 : decode cX7_become 27 = .ok (.aload_n 0, 1) := by decide +kernel
theorem dX7_become_28 : decode cX7_become 28 = .ok (.getfield 30, 3) := by decide +kernel
theorem dX7_become_31 : decode cX7_become 31 = .ok (.if_icmp .ge 81, 3) := by decide +kernel
theorem dX7_become_34 : decode cX7_become 34 = .ok (.aload_n 0, 1) := by decide +kernel
theorem dX7_become_35 : decode cX7_become 35 = .ok (.getfield 9, 3) := by decide +kernel
theorem dX7_become_38 : decode cX7_become 38 = .ok (.iload_n 2, 1) := by decide +kernel
theorem dX7_become_39 : decode cX7_become 39 = .ok (.aload_n 1, 1) := by decide +kernel
theorem dX7_become_40 : decode cX7_become 40 = .ok (.getfield 9, 3) := by decide +kernel
theorem dX7_become_43 : decode cX7_become 43 = .ok (.iload_n 2, 1) := by decide +kernel
theorem dX7_become_44 : decode cX7_become 44 = .ok (.iaload, 1) := by decide +kernel
theorem dX7_become_45 : decode cX7_become 45 = .ok (.iastore, 1) := by decide +kernel
theorem dX7_become_46 : decode cX7_become 46 = .ok (.aload_n 0, 1) := by decide +kernel
theorem dX7_become_47 : decode cX7_become 47 = .ok (.getfield 15, 3) := by decide +kernel
theorem dX7_become_50 : decode cX7_become 50 = .ok (.iload_n 2, 1) := by decide +kernel
theorem dX7_become_51 : decode cX7_become 51 = .ok (.aload_n 1, 1) := by decide +kernel
theorem dX7_become_52 : decode cX7_become 52 = .ok (.getfield 15, 3) := by decide +kernel
theorem dX7_become_55 : decode cX7_become 55 = .ok (.iload_n 2, 1) := by decide +kernel
theorem dX7_become_56 : decode cX7_become 56 = .ok (.iaload, 1) := by decide +kernel
theorem dX7_become_57 : decode cX7_become 57 = .ok (.iastore, 1) := by decide +kernel
theorem dX7_become_58 : decode cX7_become 58 = .ok (.aload_n 0, 1) := by decide +kernel
theorem dX7_become_59 : decode cX7_become 59 = .ok (.getfield 18, 3) := by decide +kernel
theorem dX7_become_62 : decode cX7_become 62 = .ok (.iload_n 2, 1) := by decide +kernel
theorem dX7_become_63 : decode cX7_become 63 = .ok (.aload_n 1, 1) := by decide +kernel
theorem dX7_become_64 : decode cX7_become 64 = .ok (.getfield 18, 3) := by decide +kernel
theorem dX7_become_67 : decode cX7_become 67 = .ok (.iload_n 2, 1) := by decide +kernel
theorem dX7_become_68 : decode cX7_become 68 = .ok (.iaload, 1) := by decide +kernel
theorem dX7_become_69 : decode cX7_become 69 = .ok (.iastore, 1) := by decide +kernel
theorem dX7_become_70 : decode cX7_become 70 = .ok (.aload_n 0, 1) := by decide +kernel
theorem dX7_become_71 : decode cX7_become 71 = .ok (.getfield 21, 3) := by decide +kernel
theorem dX7_become_74 : decode cX7_become 74 = .ok (.iload_n 2, 1) := by decide +kernel
theorem dX7_become_75 : decode cX7_become 75 = .ok (.aload_n 1, 1) := by decide +kernel
theorem dX7_become_76 : decode cX7_become 76 = .ok (.getfield 21, 3) := by decide +kernel
theorem dX7_become_79 : decode cX7_become 79 = .ok (.iload_n 2, 1) := by decide +kernel
theorem dX7_become_80 : decode cX7_become 80 = .ok (.iaload, 1) := by decide +kernel
theorem dX7_become_81 : decode cX7_become 81 = .ok (.iastore, 1) := by decide +kernel
theorem dX7_become_82 : decode cX7_become 82 = .ok (.aload_n 0, 1) := by decide +kernel
theorem dX7_become_83 : decode cX7_become 83 = .ok (.getfield 24, 3) := by decide +kernel
theorem dX7_become_86 : decode cX7_become 86 = .ok (.iload_n 2, 1) := by decide +kernel
theorem dX7_become_87 : decode cX7_become 87 = .ok (.aload_n 1, 1) := by decide +kernel
theorem dX7_become_88 : decode cX7_become 88 = .ok (.getfield 24, 3) := by decide +kernel
theorem dX7_become_91 : decode cX7_become 91 = .ok (.iload_n 2, 1) := by decide +kernel
theorem dX7_become_92 : decode cX7_become 92 = .ok (.iaload, 1) := by decide +kernel
theorem dX7_become_93 : decode cX7_become 93 = .ok (.iastore, 1) := by decide +kernel
theorem dX7_become_94 : decode cX7_become 94 = .ok (.aload_n 0, 1) := by decide +kernel
theorem dX7_become_95 : decode cX7_become 95 = .ok (.getfield 27, 3) := by decide +kernel
theorem dX7_become_98 : decode cX7_become 98 = .ok (.iload_n 2, 1) := by decide +kernel
theorem dX7_become_99 : decode cX7_become 99 = .ok (.aload_n 1, 1) := by decide +kernel
theorem dX7_become_100 : decode cX7_become 100 = .ok (.getfield 27, 3) := by decide +kernel
theorem dX7_become_103 : decode cX7_become 103 = .ok (.iload_n 2, 1) := by decide +kernel
theorem dX7_become_104 : decode cX7_become 104 = .ok (.iaload, 1) := by decide +kernel
theorem dX7_become_105 : decode cX7_become 105 = .ok (.iastore, 1) := by decide +kernel
theorem dX7_become_106 : decode cX7_become 106 = .ok (.iinc 2 1, 3) := by decide +kernel
theorem dX7_become_109 : decode cX7_become 109 = .ok (.goto (-83), 3) := by decide +kernel
theorem dX7_become_112 : decode cX7_become 112 = .ok (.return_, 1) := by decide +kernel
theorem dX7_tells_0 : decode cX7_tells 0 = .ok (.iconst 0, 1) := by decide +kernel
theorem dX7_tells_1 : decode cX7_tells 1 = .ok (.istore_n 3, 1) := by decide +kernel
theorem dX7_tells_2 : decode cX7_tells 2 = .ok (.iload_n 3, 1) := by decide +kernel
theorem dX7_tells_3 : decode cX7_tells 3 = .ok (.aload_n 0, 1) := by decide +kernel
theorem dX7_tells_4 : decode cX7_tells 4 = .ok (.getfield 37, 3) := by decide +kernel
theorem dX7_tells_7 : decode cX7_tells 7 = .ok (.getfield 53, 3) := by decide +kernel
theorem dX7_tells_10 : decode cX7_tells 10 = .ok (.if_icmp .ge 60, 3) := by decide +kernel
theorem dX7_tells_13 : decode cX7_tells 13 = .ok (.aload_n 0, 1) := by decide +kernel
theorem dX7_tells_14 : decode cX7_tells 14 = .ok (.getfield 34, 3) := by decide +kernel
theorem dX7_tells_17 : decode cX7_tells 17 = .ok (.iload_n 3, 1) := by decide +kernel
theorem dX7_tells_18 : decode cX7_tells 18 = .ok (.ishr, 1) := by decide +kernel
theorem dX7_tells_19 : decode cX7_tells 19 = .ok (.iconst 1, 1) := by decide +kernel
theorem dX7_tells_20 : decode cX7_tells 20 = .ok (.iand, 1) := by decide +kernel
theorem dX7_tells_21 : decode cX7_tells 21 = .ok (.ifCond .ne 7, 3) := by decide +kernel
theorem dX7_tells_24 : decode cX7_tells 24 = .ok (.iconst 1, 1) := by decide +kernel
theorem dX7_tells_25 : decode cX7_tells 25 = .ok (.goto 4, 3) := by decide +kernel
theorem dX7_tells_28 : decode cX7_tells 28 = .ok (.iconst 0, 1) := by decide +kernel
theorem dX7_tells_29 : decode cX7_tells 29 = .ok (.istore 4, 2) := by decide +kernel
theorem dX7_tells_31 : decode cX7_tells 31 = .ok (.iload 4, 2) := by decide +kernel
theorem dX7_tells_33 : decode cX7_tells 33 = .ok (.ifCond .eq 31, 3) := by decide +kernel
theorem dX7_tells_36 : decode cX7_tells 36 = .ok (.aload_n 0, 1) := by decide +kernel
theorem dX7_tells_37 : decode cX7_tells 37 = .ok (.getfield 37, 3) := by decide +kernel
theorem dX7_tells_40 : decode cX7_tells 40 = .ok (.getfield 56, 3) := by decide +kernel
theorem dX7_tells_43 : decode cX7_tells 43 = .ok (.iload_n 3, 1) := by decide +kernel
theorem dX7_tells_44 : decode cX7_tells 44 = .ok (.iaload, 1) := by decide +kernel
theorem dX7_tells_45 : decode cX7_tells 45 = .ok (.iload_n 1, 1) := by decide +kernel
theorem dX7_tells_46 : decode cX7_tells 46 = .ok (.if_icmp .ne 18, 3) := by decide +kernel
theorem dX7_tells_49 : decode cX7_tells 49 = .ok (.aload_n 0, 1) := by decide +kernel
theorem dX7_tells_50 : decode cX7_tells 50 = .ok (.getfield 37, 3) := by decide +kernel
theorem dX7_tells_53 : decode cX7_tells 53 = .ok (.getfield 59, 3) := by decide +kernel
theorem dX7_tells_56 : decode cX7_tells 56 = .ok (.iload_n 3, 1) := by decide +kernel
theorem dX7_tells_57 : decode cX7_tells 57 = .ok (.iaload, 1) := by decide +kernel
theorem dX7_tells_58 : decode cX7_tells 58 = .ok (.iload_n 2, 1) := by decide +kernel
theorem dX7_tells_59 : decode cX7_tells 59 = .ok (.if_icmp .ne 5, 3) := by decide +kernel
theorem dX7_tells_62 : decode cX7_tells 62 = .ok (.iconst 1, 1) := by decide +kernel
theorem dX7_tells_63 : decode cX7_tells 63 = .ok (.ireturn, 1) := by decide +kernel
theorem dX7_tells_64 : decode cX7_tells 64 = .ok (.iinc 3 1, 3) := by decide +kernel
theorem dX7_tells_67 : decode cX7_tells 67 = .ok (.goto (-65), 3) := by decide +kernel
theorem dX7_tells_70 : decode cX7_tells 70 = .ok (.iconst 0, 1) := by decide +kernel
theorem dX7_tells_71 : decode cX7_tells 71 = .ok (.ireturn, 1) := by decide +kernel
theorem dX7_swapQuestions_0 : decode cX7_swapQuestions 0 = .ok (.aload_n 0, 1) := by decide +kernel
theorem dX7_swapQuestions_1 : decode cX7_swapQuestions 1 = .ok (.getfield 18, 3) := by decide +kernel
theorem dX7_swapQuestions_4 : decode cX7_swapQuestions 4 = .ok (.iload_n 1, 1) := by decide +kernel
theorem dX7_swapQuestions_5 : decode cX7_swapQuestions 5 = .ok (.iaload, 1) := by decide +kernel
theorem dX7_swapQuestions_6 : decode cX7_swapQuestions 6 = .ok (.istore_n 3, 1) := by decide +kernel
theorem dX7_swapQuestions_7 : decode cX7_swapQuestions 7 = .ok (.aload_n 0, 1) := by decide +kernel
theorem dX7_swapQuestions_8 : decode cX7_swapQuestions 8 = .ok (.getfield 21, 3) := by decide +kernel
theorem dX7_swapQuestions_11 : decode cX7_swapQuestions 11 = .ok (.iload_n 1, 1) := by decide +kernel
theorem dX7_swapQuestions_12 : decode cX7_swapQuestions 12 = .ok (.iaload, 1) := by decide +kernel
theorem dX7_swapQuestions_13 : decode cX7_swapQuestions 13 = .ok (.istore 4, 2) := by decide +kernel
theorem dX7_swapQuestions_15 : decode cX7_swapQuestions 15 = .ok (.aload_n 0, 1) := by decide +kernel
theorem dX7_swapQuestions_16 : decode cX7_swapQuestions 16 = .ok (.getfield 18, 3) := by decide +kernel
theorem dX7_swapQuestions_19 : decode cX7_swapQuestions 19 = .ok (.iload_n 1, 1) := by decide +kernel
theorem dX7_swapQuestions_20 : decode cX7_swapQuestions 20 = .ok (.aload_n 0, 1) := by decide +kernel
theorem dX7_swapQuestions_21 : decode cX7_swapQuestions 21 = .ok (.getfield 18, 3) := by decide +kernel
theorem dX7_swapQuestions_24 : decode cX7_swapQuestions 24 = .ok (.iload_n 2, 1) := by decide +kernel
theorem dX7_swapQuestions_25 : decode cX7_swapQuestions 25 = .ok (.iaload, 1) := by decide +kernel
theorem dX7_swapQuestions_26 : decode cX7_swapQuestions 26 = .ok (.iastore, 1) := by decide +kernel
theorem dX7_swapQuestions_27 : decode cX7_swapQuestions 27 = .ok (.aload_n 0, 1) := by decide +kernel
theorem dX7_swapQuestions_28 : decode cX7_swapQuestions 28 = .ok (.getfield 21, 3) := by decide +kernel
theorem dX7_swapQuestions_31 : decode cX7_swapQuestions 31 = .ok (.iload_n 1, 1) := by decide +kernel
theorem dX7_swapQuestions_32 : decode cX7_swapQuestions 32 = .ok (.aload_n 0, 1) := by decide +kernel
theorem dX7_swapQuestions_33 : decode cX7_swapQuestions 33 = .ok (.getfield 21, 3) := by decide +kernel
theorem dX7_swapQuestions_36 : decode cX7_swapQuestions 36 = .ok (.iload_n 2, 1) := by decide +kernel
theorem dX7_swapQuestions_37 : decode cX7_swapQuestions 37 = .ok (.iaload, 1) := by decide +kernel
theorem dX7_swapQuestions_38 : decode cX7_swapQuestions 38 = .ok (.iastore, 1) := by decide +kernel
theorem dX7_swapQuestions_39 : decode cX7_swapQuestions 39 = .ok (.aload_n 0, 1) := by decide +kernel
theorem dX7_swapQuestions_40 : decode cX7_swapQuestions 40 = .ok (.getfield 18, 3) := by decide +kernel
theorem dX7_swapQuestions_43 : decode cX7_swapQuestions 43 = .ok (.iload_n 2, 1) := by decide +kernel
theorem dX7_swapQuestions_44 : decode cX7_swapQuestions 44 = .ok (.iload_n 3, 1) := by decide +kernel
theorem dX7_swapQuestions_45 : decode cX7_swapQuestions 45 = .ok (.iastore, 1) := by decide +kernel
theorem dX7_swapQuestions_46 : decode cX7_swapQuestions 46 = .ok (.aload_n 0, 1) := by decide +kernel
theorem dX7_swapQuestions_47 : decode cX7_swapQuestions 47 = .ok (.getfield 21, 3) := by decide +kernel
theorem dX7_swapQuestions_50 : decode cX7_swapQuestions 50 = .ok (.iload_n 2, 1) := by decide +kernel
theorem dX7_swapQuestions_51 : decode cX7_swapQuestions 51 = .ok (.iload 4, 2) := by decide +kernel
theorem dX7_swapQuestions_53 : decode cX7_swapQuestions 53 = .ok (.iastore, 1) := by decide +kernel
theorem dX7_swapQuestions_54 : decode cX7_swapQuestions 54 = .ok (.return_, 1) := by decide +kernel
theorem dX8_init_0 : decode cX8_init 0 = .ok (.aload_n 0, 1) := by decide +kernel
theorem dX8_init_1 : decode cX8_init 1 = .ok (.invokespecial 3, 3) := by decide +kernel
theorem dX8_init_4 : decode cX8_init 4 = .ok (.aload_n 0, 1) := by decide +kernel
theorem dX8_init_5 : decode cX8_init 5 = .ok (.bipush 60, 2) := by decide +kernel
theorem dX8_init_7 : decode cX8_init 7 = .ok (.newarray .int, 2) := by decide +kernel
theorem dX8_init_9 : decode cX8_init 9 = .ok (.putfield 9, 3) := by decide +kernel
theorem dX8_init_12 : decode cX8_init 12 = .ok (.aload_n 0, 1) := by decide +kernel
theorem dX8_init_13 : decode cX8_init 13 = .ok (.iconst 0, 1) := by decide +kernel
theorem dX8_init_14 : decode cX8_init 14 = .ok (.putfield 15, 3) := by decide +kernel
theorem dX8_init_17 : decode cX8_init 17 = .ok (.aload_n 0, 1) := by decide +kernel
theorem dX8_init_18 : decode cX8_init 18 = .ok (.iconst 0, 1) := by decide +kernel
theorem dX8_init_19 : decode cX8_init 19 = .ok (.putfield 19, 3) := by decide +kernel
theorem dX8_init_22 : decode cX8_init 22 = .ok (.aload_n 0, 1) := by decide +kernel
theorem dX8_init_23 : decode cX8_init 23 = .ok (.iconst 1, 1) := by decide +kernel
theorem dX8_init_24 : decode cX8_init 24 = .ok (.putfield 22, 3) := by decide +kernel
theorem dX8_init_27 : decode cX8_init 27 = .ok (.return_, 1) := by decide +kernel
theorem dX8_renew_0 : decode cX8_renew 0 = .ok (.aload_n 0, 1) := by decide +kernel
theorem dX8_renew_1 : decode cX8_renew 1 = .ok (.iload_n 1, 1) := by decide +kernel
theorem dX8_renew_2 : decode cX8_renew 2 = .ok (.putfield 15, 3) := by decide +kernel
theorem dX8_renew_5 : decode cX8_renew 5 = .ok (.aload_n 0, 1) := by decide +kernel
theorem dX8_renew_6 : decode cX8_renew 6 = .ok (.iload_n 2, 1) := by decide +kernel
theorem dX8_renew_7 : decode cX8_renew 7 = .ok (.putfield 19, 3) := by decide +kernel
theorem dX8_renew_10 : decode cX8_renew 10 = .ok (.aload_n 0, 1) := by decide +kernel
theorem dX8_renew_11 : decode cX8_renew 11 = .ok (.iconst 0, 1) := by decide +kernel
theorem dX8_renew_12 : decode cX8_renew 12 = .ok (.putfield 22, 3) := by decide +kernel
theorem dX8_renew_15 : decode cX8_renew 15 = .ok (.iconst 0, 1) := by decide +kernel
theorem dX8_renew_16 : decode cX8_renew 16 = .ok (.istore_n 3, 1) := by decide +kernel
theorem dX8_renew_17 : decode cX8_renew 17 = .ok (.iload_n 3, 1) := by decide +kernel
theorem dX8_renew_18 : decode cX8_renew 18 = .ok (.bipush 60, 2) := by decide +kernel
theorem dX8_renew_20 : decode cX8_renew 20 = .ok (.if_icmp .ge 16, 3) := by decide +kernel
theorem dX8_renew_23 : decode cX8_renew 23 = .ok (.aload_n 0, 1) := by decide +kernel
theorem dX8_renew_24 : decode cX8_renew 24 = .ok (.getfield 9, 3) := by decide +kernel
theorem dX8_renew_27 : decode cX8_renew 27 = .ok (.iload_n 3, 1) := by decide +kernel
theorem dX8_renew_28 : decode cX8_renew 28 = .ok (.iconst 0, 1) := by decide +kernel
theorem dX8_renew_29 : decode cX8_renew 29 = .ok (.iastore, 1) := by decide +kernel
theorem dX8_renew_30 : decode cX8_renew 30 = .ok (.iinc 3 1, 3) := by decide +kernel
theorem dX8_renew_33 : decode cX8_renew 33 = .ok (.goto (-16), 3) := by decide +kernel
