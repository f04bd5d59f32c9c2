theorem dX9_bounds_19 : decode cX9_bounds 19 = .ok (.iconst 0, 1) := by decide +kernel
theorem dX9_bounds_20 : decode cX9_bounds 20 = .ok (.istore_n 3, 1) := by decide +kernel
theorem dX9_bounds_21 : decode cX9_bounds 21 = .ok (.iload_n 3, 1) := by decide +kernel
theorem dX9_bounds_22 : decode cX9_bounds 22 = .ok (.bipush 10, 2) := by decide +kernel
theorem dX9_bounds_24 : decode cX9_bounds 24 = .ok (.if_icmp .ge 27, 3) := by decide +kernel
theorem dX9_bounds_27 : decode cX9_bounds 27 = .ok (.aload_n 0, 1) := by decide +kernel
theorem dX9_bounds_28 : decode cX9_bounds 28 = .ok (.iload_n 1, 1) := by decide +kernel
theorem dX9_bounds_29 : decode cX9_bounds 29 = .ok (.bipush 20, 2) := by decide +kernel
theorem dX9_bounds_31 : decode cX9_bounds 31 = .ok (.iload_n 3, 1) := by decide +kernel
theorem dX9_bounds_32 : decode cX9_bounds 32 = .ok (.imul, 1) := by decide +kernel
theorem dX9_bounds_33 : decode cX9_bounds 33 = .ok (.invokevirtual 377, 3) := by decide +kernel
theorem dX9_bounds_36 : decode cX9_bounds 36 = .ok (.ifCond .eq 9, 3) := by decide +kernel
theorem dX9_bounds_39 : decode cX9_bounds 39 = .ok (.iload_n 2, 1) := by decide +kernel
theorem dX9_bounds_40 : decode cX9_bounds 40 = .ok (.iconst 1, 1) := by decide +kernel
theorem dX9_bounds_41 : decode cX9_bounds 41 = .ok (.iload_n 3, 1) := by decide +kernel
theorem dX9_bounds_42 : decode cX9_bounds 42 = .ok (.ishl, 1) := by decide +kernel
theorem dX9_bounds_43 : decode cX9_bounds 43 = .ok (.ior, 1) := by decide +kernel
theorem dX9_bounds_44 : decode cX9_bounds 44 = .ok (.istore_n 2, 1) := by decide +kernel
theorem dX9_bounds_45 : decode cX9_bounds 45 = .ok (.iinc 3 1, 3) := by decide +kernel
theorem dX9_bounds_48 : decode cX9_bounds 48 = .ok (.goto (-27), 3) := by decide +kernel
theorem dX9_bounds_51 : decode cX9_bounds 51 = .ok (.iload_n 2, 1) := by decide +kernel
theorem dX9_bounds_52 : decode cX9_bounds 52 = .ok (.ireturn, 1) := by decide +kernel
theorem dX9_agreesWithSeen_0 : decode cX9_agreesWithSeen 0 = .ok (.aload_n 0, 1) := by decide +kernel
theorem dX9_agreesWithSeen_1 : decode cX9_agreesWithSeen 1 = .ok (.getfield 83, 3) := by decide +kernel
theorem dX9_agreesWithSeen_4 : decode cX9_agreesWithSeen 4 = .ok (.aload_n 0, 1) := by decide +kernel
theorem dX9_agreesWithSeen_5 : decode cX9_agreesWithSeen 5 = .ok (.getfield 22, 3) := by decide +kernel
theorem dX9_agreesWithSeen_8 : decode cX9_agreesWithSeen 8 = .ok (.invokevirtual 194, 3) := by decide +kernel
theorem dX9_agreesWithSeen_11 : decode cX9_agreesWithSeen 11 = .ok (.aload_n 0, 1) := by decide +kernel
theorem dX9_agreesWithSeen_12 : decode cX9_agreesWithSeen 12 = .ok (.getfield 51, 3) := by decide +kernel
theorem dX9_agreesWithSeen_15 : decode cX9_agreesWithSeen 15 = .ok (.aload_n 0, 1) := by decide +kernel
theorem dX9_agreesWithSeen_16 : decode cX9_agreesWithSeen 16 = .ok (.getfield 22, 3) := by decide +kernel
theorem dX9_agreesWithSeen_19 : decode cX9_agreesWithSeen 19 = .ok (.invokevirtual 108, 3) := by decide +kernel
theorem dX9_agreesWithSeen_22 : decode cX9_agreesWithSeen 22 = .ok (.aload_n 0, 1) := by decide +kernel
theorem dX9_agreesWithSeen_23 : decode cX9_agreesWithSeen 23 = .ok (.getfield 51, 3) := by decide +kernel
theorem dX9_agreesWithSeen_26 : decode cX9_agreesWithSeen 26 = .ok (.getfield 153, 3) := by decide +kernel
theorem dX9_agreesWithSeen_29 : decode cX9_agreesWithSeen 29 = .ok (.iload_n 1, 1) := by decide +kernel
theorem dX9_agreesWithSeen_30 : decode cX9_agreesWithSeen 30 = .ok (.iload_n 2, 1) := by decide +kernel
theorem dX9_agreesWithSeen_31 : decode cX9_agreesWithSeen 31 = .ok (.iastore, 1) := by decide +kernel
theorem dX9_agreesWithSeen_32 : decode cX9_agreesWithSeen 32 = .ok (.iconst 1, 1) := by decide +kernel
theorem dX9_agreesWithSeen_33 : decode cX9_agreesWithSeen 33 = .ok (.istore_n 3, 1) := by decide +kernel
theorem dX9_agreesWithSeen_34 : decode cX9_agreesWithSeen 34 = .ok (.iload_n 3, 1) := by decide +kernel
theorem dX9_agreesWithSeen_35 : decode cX9_agreesWithSeen 35 = .ok (.bipush 99, 2) := by decide +kernel
theorem dX9_agreesWithSeen_37 : decode cX9_agreesWithSeen 37 = .ok (.if_icmp .gt 41, 3) := by decide +kernel
theorem dX9_agreesWithSeen_40 : decode cX9_agreesWithSeen 40 = .ok (.aload_n 0, 1) := by decide +kernel
theorem dX9_agreesWithSeen_41 : decode cX9_agreesWithSeen 41 = .ok (.getfield 83, 3) := by decide +kernel
theorem dX9_agreesWithSeen_44 : decode cX9_agreesWithSeen 44 = .ok (.aload_n 0, 1) := by decide +kernel
theorem dX9_agreesWithSeen_45 : decode cX9_agreesWithSeen 45 = .ok (.getfield 51, 3) := by decide +kernel
theorem dX9_agreesWithSeen_48 : decode cX9_agreesWithSeen 48 = .ok (.invokevirtual 266, 3) := by decide +kernel
theorem dX9_agreesWithSeen_51 : decode cX9_agreesWithSeen 51 = .ok (.pop, 1) := by decide +kernel
theorem dX9_agreesWithSeen_52 : decode cX9_agreesWithSeen 52 = .ok (.aload_n 0, 1) := by decide +kernel
theorem dX9_agreesWithSeen_53 : decode cX9_agreesWithSeen 53 = .ok (.getfield 74, 3) := by decide +kernel
theorem dX9_agreesWithSeen_56 : decode cX9_agreesWithSeen 56 = .ok (.iload_n 3, 1) := by decide +kernel
theorem dX9_agreesWithSeen_57 : decode cX9_agreesWithSeen 57 = .ok (.aload_n 0, 1) := by decide +kernel
theorem dX9_agreesWithSeen_58 : decode cX9_agreesWithSeen 58 = .ok (.getfield 51, 3) := by decide +kernel
theorem dX9_agreesWithSeen_61 : decode cX9_agreesWithSeen 61 = .ok (.getfield 213, 3) := by decide +kernel
theorem dX9_agreesWithSeen_64 : decode cX9_agreesWithSeen 64 = .ok (.invokevirtual 380, 3) := by decide +kernel
theorem dX9_agreesWithSeen_67 : decode cX9_agreesWithSeen 67 = .ok (.ifCond .ne 5, 3) := by decide +kernel
theorem dX9_agreesWithSeen_70 : decode cX9_agreesWithSeen 70 = .ok (.iconst 0, 1) := by decide +kernel
theorem dX9_agreesWithSeen_71 : decode cX9_agreesWithSeen 71 = .ok (.ireturn, 1) := by decide +kernel
theorem dX9_agreesWithSeen_72 : decode cX9_agreesWithSeen 72 = .ok (.iinc 3 1, 3) := by decide +kernel
theorem dX9_agreesWithSeen_75 : decode cX9_agreesWithSeen 75 = .ok (.goto (-41), 3) := by decide +kernel
theorem dX9_agreesWithSeen_78 : decode cX9_agreesWithSeen 78 = .ok (.iconst 1, 1) := by decide +kernel
theorem dX9_agreesWithSeen_79 : decode cX9_agreesWithSeen 79 = .ok (.ireturn, 1) := by decide +kernel
