theorem dX2_init_0 : decode cX2_init 0 = .ok (.aload_n 0, 1) := by decide +kernel
theorem dX2_init_1 : decode cX2_init 1 = .ok (.invokespecial 3, 3) := by decide +kernel
theorem dX2_init_4 : decode cX2_init 4 = .ok (.aload_n 0, 1) := by decide +kernel
theorem dX2_init_5 : decode cX2_init 5 = .ok (.bipush 64, 2) := by decide +kernel
theorem dX2_init_7 : decode cX2_init 7 = .ok (.newarray .int, 2) := by decide +kernel
theorem dX2_init_9 : decode cX2_init 9 = .ok (.putfield 9, 3) := by decide +kernel
theorem dX2_init_12 : decode cX2_init 12 = .ok (.aload_n 0, 1) := by decide +kernel
theorem dX2_init_13 : decode cX2_init 13 = .ok (.bipush 64, 2) := by decide +kernel
theorem dX2_init_15 : decode cX2_init 15 = .ok (.newarray .int, 2) := by decide +kernel
theorem dX2_init_17 : decode cX2_init 17 = .ok (.putfield 15, 3) := by decide +kernel
theorem dX2_init_20 : decode cX2_init 20 = .ok (.aload_n 0, 1) := by decide +kernel
theorem dX2_init_21 : decode cX2_init 21 = .ok (.iconst 3, 1) := by decide +kernel
theorem dX2_init_22 : decode cX2_init 22 = .ok (.newarray .int, 2) := by decide +kernel
theorem dX2_init_24 : decode cX2_init 24 = .ok (.putfield 18, 3) := by decide +kernel
theorem dX2_init_27 : decode cX2_init 27 = .ok (.aload_n 0, 1) := by decide +kernel
theorem dX2_init_28 : decode cX2_init 28 = .ok (.iconst 3, 1) := by decide +kernel
theorem dX2_init_29 : decode cX2_init 29 = .ok (.newarray .int, 2) := by decide +kernel
theorem dX2_init_31 : decode cX2_init 31 = .ok (.putfield 21, 3) := by decide +kernel
theorem dX2_init_34 : decode cX2_init 34 = .ok (.return_, 1) := by decide +kernel
theorem dX2_empty_0 : decode cX2_empty 0 = .ok (.aload_n 0, 1) := by decide +kernel
theorem dX2_empty_1 : decode cX2_empty 1 = .ok (.iconst 0, 1) := by decide +kernel
theorem dX2_empty_2 : decode cX2_empty 2 = .ok (.putfield 24, 3) := by decide +kernel
theorem dX2_empty_5 : decode cX2_empty 5 = .ok (.iconst 0, 1) := by decide +kernel
theorem dX2_empty_6 : decode cX2_empty 6 = .ok (.istore_n 1, 1) := by decide +kernel
theorem dX2_empty_7 : decode cX2_empty 7 = .ok (.iload_n 1, 1) := by decide +kernel
theorem dX2_empty_8 : decode cX2_empty 8 = .ok (.iconst 3, 1) := by decide +kernel
theorem dX2_empty_9 : decode cX2_empty 9 = .ok (.if_icmp .ge 23, 3) := by decide +kernel
theorem dX2_empty_12 : decode cX2_empty 12 = .ok (.aload_n 0, 1) := by decide +kernel
theorem dX2_empty_13 : decode cX2_empty 13 = .ok (.getfield 18, 3) := by decide +kernel
theorem dX2_empty_16 : decode cX2_empty 16 = .ok (.iload_n 1, 1) := by decide +kernel
theorem dX2_empty_17 : decode cX2_empty 17 = .ok (.iconst 0, 1) := by decide +kernel
theorem dX2_empty_18 : decode cX2_empty 18 = .ok (.iastore, 1) := by decide +kernel
theorem dX2_empty_19 : decode cX2_empty 19 = .ok (.aload_n 0, 1) := by decide +kernel
theorem dX2_empty_20 : decode cX2_empty 20 = .ok (.getfield 21, 3) := by decide +kernel
theorem dX2_empty_23 : decode cX2_empty 23 = .ok (.iload_n 1, 1) := by decide +kernel
theorem dX2_empty_24 : decode cX2_empty 24 = .ok (.iconst 0, 1) := by decide +kernel
theorem dX2_empty_25 : decode cX2_empty 25 = .ok (.iastore, 1) := by decide +kernel
theorem dX2_empty_26 : decode cX2_empty 26 = .ok (.iinc 1 1, 3) := by decide +kernel
theorem dX2_empty_29 : decode cX2_empty 29 = .ok (.goto (-22), 3) := by decide +kernel
theorem dX2_empty_32 : decode cX2_empty 32 = .ok (.return_, 1) := by decide +kernel
theorem dX2_isTold_0 : decode cX2_isTold 0 = .ok (.aload_n 0, 1) := by decide +kernel
theorem dX2_isTold_1 : decode cX2_isTold 1 = .ok (.getfield 21, 3) := by decide +kernel
theorem dX2_isTold_4 : decode cX2_isTold 4 = .ok (.iload_n 1, 1) := by decide +kernel
theorem dX2_isTold_5 : decode cX2_isTold 5 = .ok (.iaload, 1) := by decide +kernel
theorem dX2_isTold_6 : decode cX2_isTold 6 = .ok (.aload_n 0, 1) := by decide +kernel
theorem dX2_isTold_7 : decode cX2_isTold 7 = .ok (.getfield 18, 3) := by decide +kernel
theorem dX2_isTold_10 : decode cX2_isTold 10 = .ok (.iload_n 1, 1) := by decide +kernel
theorem dX2_isTold_11 : decode cX2_isTold 11 = .ok (.iaload, 1) := by decide +kernel
theorem dX2_isTold_12 : decode cX2_isTold 12 = .ok (.if_icmp .le 7, 3) := by decide +kernel
theorem dX2_isTold_15 : decode cX2_isTold 15 = .ok (.iconst 1, 1) := by decide +kernel
theorem dX2_isTold_16 : decode cX2_isTold 16 = .ok (.goto 4, 3) := by decide +kernel
theorem dX2_isTold_19 : decode cX2_isTold 19 = .ok (.iconst 0, 1) := by decide +kernel
theorem dX2_isTold_20 : decode cX2_isTold 20 = .ok (.ireturn, 1) := by decide +kernel
theorem dX2_add_0 : decode cX2_add 0 = .ok (.aload_n 0, 1) := by decide +kernel
theorem dX2_add_1 : decode cX2_add 1 = .ok (.getfield 24, 3) := by decide +kernel
theorem dX2_add_4 : decode cX2_add 4 = .ok (.bipush 64, 2) := by decide +kernel
theorem dX2_add_6 : decode cX2_add 6 = .ok (.if_icmp .ge 33, 3) := by decide +kernel
theorem dX2_add_9 : decode cX2_add 9 = .ok (.aload_n 0, 1) := by decide +kernel
theorem dX2_add_10 : decode cX2_add 10 = .ok (.getfield 9, 3) := by decide +kernel
theorem dX2_add_13 : decode cX2_add 13 = .ok (.aload_n 0, 1) := by decide +kernel
theorem dX2_add_14 : decode cX2_add 14 = .ok (.getfield 24, 3) := by decide +kernel
theorem dX2_add_17 : decode cX2_add 17 = .ok (.iload_n 1, 1) := by decide +kernel
theorem dX2_add_18 : decode cX2_add 18 = .ok (.iastore, 1) := by decide +kernel
theorem dX2_add_19 : decode cX2_add 19 = .ok (.aload_n 0, 1) := by decide +kernel
theorem dX2_add_20 : decode cX2_add 20 = .ok (.getfield 15, 3) := by decide +kernel
theorem dX2_add_23 : decode cX2_add 23 = .ok (.aload_n 0, 1) := by decide +kernel
theorem dX2_add_24 : decode cX2_add 24 = .ok (.getfield 24, 3) := by decide +kernel
theorem dX2_add_27 : decode cX2_add 27 = .ok (.iload_n 2, 1) := by decide +kernel
theorem dX2_add_28 : decode cX2_add 28 = .ok (.iastore, 1) := by decide +kernel
theorem dX2_add_29 : decode cX2_add 29 = .ok (.aload_n 0, 1) := by decide +kernel
theorem dX2_add_30 : decode cX2_add 30 = .ok (.dup, 1) := by decide +kernel
theorem dX2_add_31 : decode cX2_add 31 = .ok (.getfield 24, 3) := by decide +kernel
theorem dX2_add_34 : decode cX2_add 34 = .ok (.iconst 1, 1) := by decide +kernel
theorem dX2_add_35 : decode cX2_add 35 = .ok (.iadd, 1) := by decide +kernel
theorem dX2_add_36 : decode cX2_add 36 = .ok (.putfield 24, 3) := by decide +kernel
theorem dX2_add_39 : decode cX2_add 39 = .ok (.return_, 1) := by decide +kernel
