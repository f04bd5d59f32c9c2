theorem dX9_outbid_35 : decode cX9_outbid 35 = .ok (.invokevirtual 332, 3) := by decide +kernel
theorem dX9_outbid_38 : decode cX9_outbid 38 = .ok (.ifCond .eq 5, 3) := by decide +kernel
theorem dX9_outbid_41 : decode cX9_outbid 41 = .ok (.iload_n 2, 1) := by decide +kernel
theorem dX9_outbid_42 : decode cX9_outbid 42 = .ok (.istore_n 1, 1) := by decide +kernel
theorem dX9_outbid_43 : decode cX9_outbid 43 = .ok (.iinc 2 1, 3) := by decide +kernel
theorem dX9_outbid_46 : decode cX9_outbid 46 = .ok (.goto (-41), 3) := by decide +kernel
theorem dX9_outbid_49 : decode cX9_outbid 49 = .ok (.iload_n 1, 1) := by decide +kernel
theorem dX9_outbid_50 : decode cX9_outbid 50 = .ok (.ireturn, 1) := by decide +kernel
theorem dX9_outbidsOthers_0 : decode cX9_outbidsOthers 0 = .ok (.aload_n 0, 1) := by decide +kernel
theorem dX9_outbidsOthers_1 : decode cX9_outbidsOthers 1 = .ok (.iload_n 1, 1) := by decide +kernel
theorem dX9_outbidsOthers_2 : decode cX9_outbidsOthers 2 = .ok (.invokevirtual 335, 3) := by decide +kernel
theorem dX9_outbidsOthers_5 : decode cX9_outbidsOthers 5 = .ok (.istore_n 2, 1) := by decide +kernel
theorem dX9_outbidsOthers_6 : decode cX9_outbidsOthers 6 = .ok (.iconst 0, 1) := by decide +kernel
theorem dX9_outbidsOthers_7 : decode cX9_outbidsOthers 7 = .ok (.istore_n 3, 1) := by decide +kernel
theorem dX9_outbidsOthers_8 : decode cX9_outbidsOthers 8 = .ok (.iload_n 3, 1) := by decide +kernel
theorem dX9_outbidsOthers_9 : decode cX9_outbidsOthers 9 = .ok (.aload_n 0, 1) := by decide +kernel
theorem dX9_outbidsOthers_10 : decode cX9_outbidsOthers 10 = .ok (.getfield 22, 3) := by decide +kernel
theorem dX9_outbidsOthers_13 : decode cX9_outbidsOthers 13 = .ok (.getfield 119, 3) := by decide +kernel
theorem dX9_outbidsOthers_16 : decode cX9_outbidsOthers 16 = .ok (.if_icmp .ge 55, 3) := by decide +kernel
theorem dX9_outbidsOthers_19 : decode cX9_outbidsOthers 19 = .ok (.aload_n 0, 1) := by decide +kernel
theorem dX9_outbidsOthers_20 : decode cX9_outbidsOthers 20 = .ok (.getfield 47, 3) := by decide +kernel
theorem dX9_outbidsOthers_23 : decode cX9_outbidsOthers 23 = .ok (.iload_n 3, 1) := by decide +kernel
theorem dX9_outbidsOthers_24 : decode cX9_outbidsOthers 24 = .ok (.invokevirtual 136, 3) := by decide +kernel
theorem dX9_outbidsOthers_27 : decode cX9_outbidsOthers 27 = .ok (.ifCond .eq 15, 3) := by decide +kernel
theorem dX9_outbidsOthers_30 : decode cX9_outbidsOthers 30 = .ok (.iload_n 1, 1) := by decide +kernel
theorem dX9_outbidsOthers_31 : decode cX9_outbidsOthers 31 = .ok (.iload_n 3, 1) := by decide +kernel
theorem dX9_outbidsOthers_32 : decode cX9_outbidsOthers 32 = .ok (.ishr, 1) := by decide +kernel
theorem dX9_outbidsOthers_33 : decode cX9_outbidsOthers 33 = .ok (.iconst 1, 1) := by decide +kernel
theorem dX9_outbidsOthers_34 : decode cX9_outbidsOthers 34 = .ok (.iand, 1) := by decide +kernel
theorem dX9_outbidsOthers_35 : decode cX9_outbidsOthers 35 = .ok (.ifCond .ne 7, 3) := by decide +kernel
theorem dX9_outbidsOthers_38 : decode cX9_outbidsOthers 38 = .ok (.iconst 1, 1) := by decide +kernel
theorem dX9_outbidsOthers_39 : decode cX9_outbidsOthers 39 = .ok (.goto 4, 3) := by decide +kernel
theorem dX9_outbidsOthers_42 : decode cX9_outbidsOthers 42 = .ok (.iconst 0, 1) := by decide +kernel
theorem dX9_outbidsOthers_43 : decode cX9_outbidsOthers 43 = .ok (.istore 4, 2) := by decide +kernel
theorem dX9_outbidsOthers_45 : decode cX9_outbidsOthers 45 = .ok (.iload 4, 2) := by decide +kernel
theorem dX9_outbidsOthers_47 : decode cX9_outbidsOthers 47 = .ok (.ifCond .eq 18, 3) := by decide +kernel
theorem dX9_outbidsOthers_50 : decode cX9_outbidsOthers 50 = .ok (.aload_n 0, 1) := by decide +kernel
theorem dX9_outbidsOthers_51 : decode cX9_outbidsOthers 51 = .ok (.getfield 47, 3) := by decide +kernel
theorem dX9_outbidsOthers_54 : decode cX9_outbidsOthers 54 = .ok (.getfield 153, 3) := by decide +kernel
theorem dX9_outbidsOthers_57 : decode cX9_outbidsOthers 57 = .ok (.iload_n 3, 1) := by decide +kernel
theorem dX9_outbidsOthers_58 : decode cX9_outbidsOthers 58 = .ok (.iaload, 1) := by decide +kernel
theorem dX9_outbidsOthers_59 : decode cX9_outbidsOthers 59 = .ok (.iload_n 2, 1) := by decide +kernel
theorem dX9_outbidsOthers_60 : decode cX9_outbidsOthers 60 = .ok (.if_icmp .lt 5, 3) := by decide +kernel
theorem dX9_outbidsOthers_63 : decode cX9_outbidsOthers 63 = .ok (.iconst 0, 1) := by decide +kernel
theorem dX9_outbidsOthers_64 : decode cX9_outbidsOthers 64 = .ok (.ireturn, 1) := by decide +kernel
theorem dX9_outbidsOthers_65 : decode cX9_outbidsOthers 65 = .ok (.iinc 3 1, 3) := by decide +kernel
theorem dX9_outbidsOthers_68 : decode cX9_outbidsOthers 68 = .ok (.goto (-60), 3) := by decide +kernel
theorem dX9_outbidsOthers_71 : decode cX9_outbidsOthers 71 = .ok (.iload_n 2, 1) := by decide +kernel
theorem dX9_outbidsOthers_72 : decode cX9_outbidsOthers 72 = .ok (.aload_n 0, 1) := by decide +kernel
theorem dX9_outbidsOthers_73 : decode cX9_outbidsOthers 73 = .ok (.getfield 47, 3) := by decide +kernel
theorem dX9_outbidsOthers_76 : decode cX9_outbidsOthers 76 = .ok (.getfield 213, 3) := by decide +kernel
theorem dX9_outbidsOthers_79 : decode cX9_outbidsOthers 79 = .ok (.aload_n 0, 1) := by decide +kernel
theorem dX9_outbidsOthers_80 : decode cX9_outbidsOthers 80 = .ok (.iload_n 1, 1) := by decide +kernel
theorem dX9_outbidsOthers_81 : decode cX9_outbidsOthers 81 = .ok (.invokevirtual 338, 3) := by decide +kernel
theorem dX9_outbidsOthers_84 : decode cX9_outbidsOthers 84 = .ok (.iadd, 1) := by decide +kernel
theorem dX9_outbidsOthers_85 : decode cX9_outbidsOthers 85 = .ok (.if_icmp .lt 7, 3) := by decide +kernel
theorem dX9_outbidsOthers_88 : decode cX9_outbidsOthers 88 = .ok (.iconst 1, 1) := by decide +kernel
theorem dX9_outbidsOthers_89 : decode cX9_outbidsOthers 89 = .ok (.goto 4, 3) := by decide +kernel
theorem dX9_outbidsOthers_92 : decode cX9_outbidsOthers 92 = .ok (.iconst 0, 1) := by decide +kernel
theorem dX9_outbidsOthers_93 : decode cX9_outbidsOthers 93 = .ok (.ireturn, 1) := by decide +kernel
theorem dX9_sumOfBounds_0 : decode cX9_sumOfBounds 0 = .ok (.iconst 0, 1) := by decide +kernel
theorem dX9_sumOfBounds_1 : decode cX9_sumOfBounds 1 = .ok (.istore_n 2, 1) := by decide +kernel
theorem dX9_sumOfBounds_2 : decode cX9_sumOfBounds 2 = .ok (.iconst 0, 1) := by decide +kernel
theorem dX9_sumOfBounds_3 : decode cX9_sumOfBounds 3 = .ok (.istore_n 3, 1) := by decide +kernel
theorem dX9_sumOfBounds_4 : decode cX9_sumOfBounds 4 = .ok (.iload_n 3, 1) := by decide +kernel
theorem dX9_sumOfBounds_5 : decode cX9_sumOfBounds 5 = .ok (.aload_n 0, 1) := by decide +kernel
theorem dX9_sumOfBounds_6 : decode cX9_sumOfBounds 6 = .ok (.getfield 22, 3) := by decide +kernel
theorem dX9_sumOfBounds_9 : decode cX9_sumOfBounds 9 = .ok (.getfield 119, 3) := by decide +kernel
theorem dX9_sumOfBounds_12 : decode cX9_sumOfBounds 12 = .ok (.if_icmp .ge 27, 3) := by decide +kernel
theorem dX9_sumOfBounds_15 : decode cX9_sumOfBounds 15 = .ok (.iload_n 2, 1) := by decide +kernel
theorem dX9_sumOfBounds_16 : decode cX9_sumOfBounds 16 = .ok (.iload_n 1, 1) := by decide +kernel
theorem dX9_sumOfBounds_17 : decode cX9_sumOfBounds 17 = .ok (.iload_n 3, 1) := by decide +kernel
theorem dX9_sumOfBounds_18 : decode cX9_sumOfBounds 18 = .ok (.ishr, 1) := by decide +kernel
theorem dX9_sumOfBounds_19 : decode cX9_sumOfBounds 19 = .ok (.iconst 1, 1) := by decide +kernel
theorem dX9_sumOfBounds_20 : decode cX9_sumOfBounds 20 = .ok (.iand, 1) := by decide +kernel
theorem dX9_sumOfBounds_21 : decode cX9_sumOfBounds 21 = .ok (.aload_n 0, 1) := by decide +kernel
theorem dX9_sumOfBounds_22 : decode cX9_sumOfBounds 22 = .ok (.getfield 47, 3) := by decide +kernel
theorem dX9_sumOfBounds_25 : decode cX9_sumOfBounds 25 = .ok (.getfield 153, 3) := by decide +kernel
theorem dX9_sumOfBounds_28 : decode cX9_sumOfBounds 28 = .ok (.iload_n 3, 1) := by decide +kernel
theorem dX9_sumOfBounds_29 : decode cX9_sumOfBounds 29 = .ok (.iaload, 1) := by decide +kernel
theorem dX9_sumOfBounds_30 : decode cX9_sumOfBounds 30 = .ok (.imul, 1) := by decide +kernel
theorem dX9_sumOfBounds_31 : decode cX9_sumOfBounds 31 = .ok (.iadd, 1) := by decide +kernel
theorem dX9_sumOfBounds_32 : decode cX9_sumOfBounds 32 = .ok (.istore_n 2, 1) := by decide +kernel
theorem dX9_sumOfBounds_33 : decode cX9_sumOfBounds 33 = .ok (.iinc 3 1, 3) := by decide +kernel
theorem dX9_sumOfBounds_36 : decode cX9_sumOfBounds 36 = .ok (.goto (-32), 3) := by decide +kernel
theorem dX9_sumOfBounds_39 : decode cX9_sumOfBounds 39 = .ok (.iload_n 2, 1) := by decide +kernel
theorem dX9_sumOfBounds_40 : decode cX9_sumOfBounds 40 = .ok (.ireturn, 1) := by decide +kernel
theorem dX9_leastStep_0 : decode cX9_leastStep 0 = .ok (.ldc_w 341, 3) := by decide +kernel
theorem dX9_leastStep_3 : decode cX9_leastStep 3 = .ok (.istore_n 2, 1) := by decide +kernel
theorem dX9_leastStep_4 : decode cX9_leastStep 4 = .ok (.iconst 0, 1) := by decide +kernel
theorem dX9_leastStep_5 : decode cX9_leastStep 5 = .ok (.istore_n 3, 1) := by decide +kernel
theorem dX9_leastStep_6 : decode cX9_leastStep 6 = .ok (.iload_n 3, 1) := by decide +kernel
theorem dX9_leastStep_7 : decode cX9_leastStep 7 = .ok (.aload_n 0, 1) := by decide +kernel
theorem dX9_leastStep_8 : decode cX9_leastStep 8 = .ok (.getfield 22, 3) := by decide +kernel
theorem dX9_leastStep_11 : decode cX9_leastStep 11 = .ok (.getfield 119, 3) := by decide +kernel
theorem dX9_leastStep_14 : decode cX9_leastStep 14 = .ok (.if_icmp .ge 32, 3) := by decide +kernel
theorem dX9_leastStep_17 : decode cX9_leastStep 17 = .ok (.iload_n 1, 1) := by decide +kernel
theorem dX9_leastStep_18 : decode cX9_leastStep 18 = .ok (.iload_n 3, 1) := by decide +kernel
theorem dX9_leastStep_19 : decode cX9_leastStep 19 = .ok (.ishr, 1) := by decide +kernel
theorem dX9_leastStep_20 : decode cX9_leastStep 20 = .ok (.iconst 1, 1) := by decide +kernel
theorem dX9_leastStep_21 : decode cX9_leastStep 21 = .ok (.iand, 1) := by decide +kernel
theorem dX9_leastStep_22 : decode cX9_leastStep 22 = .ok (.iconst 1, 1) := by decide +kernel
theorem dX9_leastStep_23 : decode cX9_leastStep 23 = .ok (.if_icmp .ne 17, 3) := by decide +kernel
theorem dX9_leastStep_26 : decode cX9_leastStep 26 = .ok (.iload_n 2, 1) := by decide +kernel
theorem dX9_leastStep_27 : decode cX9_leastStep 27 = .ok (.aload_n 0, 1) := by decide +kernel
theorem dX9_leastStep_28 : decode cX9_leastStep 28 = .ok (.getfield 22, 3) := by decide +kernel
theorem dX9_leastStep_31 : decode cX9_leastStep 31 = .ok (.getfield 159, 3) := by decide +kernel
theorem dX9_leastStep_34 : decode cX9_leastStep 34 = .ok (.iload_n 3, 1) := by decide +kernel
theorem dX9_leastStep_35 : decode cX9_leastStep 35 = .ok (.iaload, 1) := by decide +kernel
theorem dX9_leastStep_36 : decode cX9_leastStep 36 = .ok (.invokestatic 342, 3) := by decide +kernel
theorem dX9_leastStep_39 : decode cX9_leastStep 39 = .ok (.istore_n 2, 1) := by decide +kernel
theorem dX9_leastStep_40 : decode cX9_leastStep 40 = .ok (.iinc 3 1, 3) := by decide +kernel
theorem dX9_leastStep_43 : decode cX9_leastStep 43 = .ok (.goto (-37), 3) := by decide +kernel
theorem dX9_leastStep_46 : decode cX9_leastStep 46 = .ok (.iload_n 2, 1) := by decide +kernel
theorem dX9_leastStep_47 : decode cX9_leastStep 47 = .ok (.ireturn, 1) := by decide +kernel
theorem dX9_greatestWorth_0 : decode cX9_greatestWorth 0 = .ok (.iconst 0, 1) := by decide +kernel
theorem dX9_greatestWorth_1 : decode cX9_greatestWorth 1 = .ok (.istore_n 2, 1) := by decide +kernel
theorem dX9_greatestWorth_2 : decode cX9_greatestWorth 2 = .ok (.iconst 0, 1) := by decide +kernel
theorem dX9_greatestWorth_3 : decode cX9_greatestWorth 3 = .ok (.istore_n 3, 1) := by decide +kernel
theorem dX9_greatestWorth_4 : decode cX9_greatestWorth 4 = .ok (.iload_n 3, 1) := by decide +kernel
theorem dX9_greatestWorth_5 : decode cX9_greatestWorth 5 = .ok (.aload_n 0, 1) := by decide +kernel
theorem dX9_greatestWorth_6 : decode cX9_greatestWorth 6 = .ok (.getfield 22, 3) := by decide +kernel
theorem dX9_greatestWorth_9 : decode cX9_greatestWorth 9 = .ok (.getfield 119, 3) := by decide +kernel
theorem dX9_greatestWorth_12 : decode cX9_greatestWorth 12 = .ok (.if_icmp .ge 32, 3) := by decide +kernel
theorem dX9_greatestWorth_15 : decode cX9_greatestWorth 15 = .ok (.iload_n 1, 1) := by decide +kernel
theorem dX9_greatestWorth_16 : decode cX9_greatestWorth 16 = .ok (.iload_n 3, 1) := by decide +kernel
theorem dX9_greatestWorth_17 : decode cX9_greatestWorth 17 = .ok (.ishr, 1) := by decide +kernel
theorem dX9_greatestWorth_18 : decode cX9_greatestWorth 18 = .ok (.iconst 1, 1) := by decide +kernel
theorem dX9_greatestWorth_19 : decode cX9_greatestWorth 19 = .ok (.iand, 1) := by decide +kernel
theorem dX9_greatestWorth_20 : decode cX9_greatestWorth 20 = .ok (.iconst 1, 1) := by decide +kernel
theorem dX9_greatestWorth_21 : decode cX9_greatestWorth 21 = .ok (.if_icmp .ne 17, 3) := by decide +kernel
theorem dX9_greatestWorth_24 : decode cX9_greatestWorth 24 = .ok (.iload_n 2, 1) := by decide +kernel
theorem dX9_greatestWorth_25 : decode cX9_greatestWorth 25 = .ok (.aload_n 0, 1) := by decide +kernel
theorem dX9_greatestWorth_26 : decode cX9_greatestWorth 26 = .ok (.getfield 22, 3) := by decide +kernel
theorem dX9_greatestWorth_29 : decode cX9_greatestWorth 29 = .ok (.getfield 156, 3) := by decide +kernel
theorem dX9_greatestWorth_32 : decode cX9_greatestWorth 32 = .ok (.iload_n 3, 1) := by decide +kernel
theorem dX9_greatestWorth_33 : decode cX9_greatestWorth 33 = .ok (.iaload, 1) := by decide +kernel
theorem dX9_greatestWorth_34 : decode cX9_greatestWorth 34 = .ok (.invokestatic 346, 3) := by decide +kernel
theorem dX9_greatestWorth_37 : decode cX9_greatestWorth 37 = .ok (.istore_n 2, 1) := by decide +kernel
theorem dX9_greatestWorth_38 : decode cX9_greatestWorth 38 = .ok (.iinc 3 1, 3) := by decide +kernel
theorem dX9_greatestWorth_41 : decode cX9_greatestWorth 41 = .ok (.goto (-37), 3) := by decide +kernel
theorem dX9_greatestWorth_44 : decode cX9_greatestWorth 44 = .ok (.iload_n 2, 1) := by decide +kernel
theorem dX9_greatestWorth_45 : decode cX9_greatestWorth 45 = .ok (.ireturn, 1) := by decide +kernel
theorem dX9_gainOf_0 : decode cX9_gainOf 0 = .ok (.aload_n 0, 1) := by decide +kernel
theorem dX9_gainOf_1 : decode cX9_gainOf 1 = .ok (.iload_n 1, 1) := by decide +kernel
theorem dX9_gainOf_2 : decode cX9_gainOf 2 = .ok (.invokevirtual 335, 3) := by decide +kernel
theorem dX9_gainOf_5 : decode cX9_gainOf 5 = .ok (.aload_n 0, 1) := by decide +kernel
theorem dX9_gainOf_6 : decode cX9_gainOf 6 = .ok (.getfield 47, 3) := by decide +kernel
theorem dX9_gainOf_9 : decode cX9_gainOf 9 = .ok (.getfield 213, 3) := by decide +kernel
theorem dX9_gainOf_12 : decode cX9_gainOf 12 = .ok (.aload_n 0, 1) := by decide +kernel
theorem dX9_gainOf_13 : decode cX9_gainOf 13 = .ok (.iload_n 1, 1) := by decide +kernel
theorem dX9_gainOf_14 : decode cX9_gainOf 14 = .ok (.invokevirtual 338, 3) := by decide +kernel
theorem dX9_gainOf_17 : decode cX9_gainOf 17 = .ok (.iadd, 1) := by decide +kernel
theorem dX9_gainOf_18 : decode cX9_gainOf 18 = .ok (.if_icmp .ge 5, 3) := by decide +kernel
theorem dX9_gainOf_21 : decode cX9_gainOf 21 = .ok (.iconst 0, 1) := by decide +kernel
theorem dX9_gainOf_22 : decode cX9_gainOf 22 = .ok (.ireturn, 1) := by decide +kernel
theorem dX9_gainOf_23 : decode cX9_gainOf 23 = .ok (.iconst 0, 1) := by decide +kernel
theorem dX9_gainOf_24 : decode cX9_gainOf 24 = .ok (.aload_n 0, 1) := by decide +kernel
theorem dX9_gainOf_25 : decode cX9_gainOf 25 = .ok (.iload_n 1, 1) := by decide +kernel
theorem dX9_gainOf_26 : decode cX9_gainOf 26 = .ok (.invokevirtual 348, 3) := by decide +kernel
theorem dX9_gainOf_29 : decode cX9_gainOf 29 = .ok (.aload_n 0, 1) := by decide +kernel
theorem dX9_gainOf_30 : decode cX9_gainOf 30 = .ok (.getfield 47, 3) := by decide +kernel
theorem dX9_gainOf_33 : decode cX9_gainOf 33 = .ok (.getfield 213, 3) := by decide +kernel
theorem dX9_gainOf_36 : decode cX9_gainOf 36 = .ok (.isub, 1) := by decide +kernel
theorem dX9_gainOf_37 : decode cX9_gainOf 37 = .ok (.invokestatic 346, 3) := by decide +kernel
theorem dX9_gainOf_40 : decode cX9_gainOf 40 = .ok (.ireturn, 1) := by decide +kernel
theorem dX9_shares_0 : decode cX9_shares 0 = .ok (.aload_n 0, 1) := by decide +kernel
theorem dX9_shares_1 : decode cX9_shares 1 = .ok (.iload_n 1, 1) := by decide +kernel
theorem dX9_shares_2 : decode cX9_shares 2 = .ok (.iload_n 2, 1) := by decide +kernel
theorem dX9_shares_3 : decode cX9_shares 3 = .ok (.invokevirtual 142, 3) := by decide +kernel
theorem dX9_shares_6 : decode cX9_shares 6 = .ok (.ifCond .ne 5, 3) := by decide +kernel
theorem dX9_shares_9 : decode cX9_shares 9 = .ok (.iconst (-1), 1) := by decide +kernel
theorem dX9_shares_10 : decode cX9_shares 10 = .ok (.ireturn, 1) := by decide +kernel
theorem dX9_shares_11 : decode cX9_shares 11 = .ok (.aload_n 0, 1) := by decide +kernel
theorem dX9_shares_12 : decode cX9_shares 12 = .ok (.iconst 1, 1) := by decide +kernel
theorem dX9_shares_13 : decode cX9_shares 13 = .ok (.iload_n 1, 1) := by decide +kernel
theorem dX9_shares_14 : decode cX9_shares 14 = .ok (.ishl, 1) := by decide +kernel
theorem dX9_shares_15 : decode cX9_shares 15 = .ok (.invokevirtual 351, 3) := by decide +kernel
theorem dX9_shares_18 : decode cX9_shares 18 = .ok (.istore_n 3, 1) := by decide +kernel
theorem dX9_shares_19 : decode cX9_shares 19 = .ok (.aload_n 0, 1) := by decide +kernel
theorem dX9_shares_20 : decode cX9_shares 20 = .ok (.iconst 1, 1) := by decide +kernel
theorem dX9_shares_21 : decode cX9_shares 21 = .ok (.iload_n 2, 1) := by decide +kernel
theorem dX9_shares_22 : decode cX9_shares 22 = .ok (.ishl, 1) := by decide +kernel
theorem dX9_shares_23 : decode cX9_shares 23 = .ok (.invokevirtual 351, 3) := by decide +kernel
theorem dX9_shares_26 : decode cX9_shares 26 = .ok (.istore 4, 2) := by decide +kernel
theorem dX9_shares_28 : decode cX9_shares 28 = .ok (.aload_n 0, 1) := by decide +kernel
theorem dX9_shares_29 : decode cX9_shares 29 = .ok (.iconst 1, 1) := by decide +kernel
theorem dX9_shares_30 : decode cX9_shares 30 = .ok (.iload_n 1, 1) := by decide +kernel
theorem dX9_shares_31 : decode cX9_shares 31 = .ok (.ishl, 1) := by decide +kernel
theorem dX9_shares_32 : decode cX9_shares 32 = .ok (.iconst 1, 1) := by decide +kernel
theorem dX9_shares_33 : decode cX9_shares 33 = .ok (.iload_n 2, 1) := by decide +kernel
theorem dX9_shares_34 : decode cX9_shares 34 = .ok (.ishl, 1) := by decide +kernel
theorem dX9_shares_35 : decode cX9_shares 35 = .ok (.ior, 1) := by decide +kernel
theorem dX9_shares_36 : decode cX9_shares 36 = .ok (.invokevirtual 351, 3) := by decide +kernel
theorem dX9_shares_39 : decode cX9_shares 39 = .ok (.istore 5, 2) := by decide +kernel
theorem dX9_shares_41 : decode cX9_shares 41 = .ok (.iload_n 3, 1) := by decide +kernel
theorem dX9_shares_42 : decode cX9_shares 42 = .ok (.iload 5, 2) := by decide +kernel
theorem dX9_shares_44 : decode cX9_shares 44 = .ok (.iload_n 3, 1) := by decide +kernel
theorem dX9_shares_45 : decode cX9_shares 45 = .ok (.isub, 1) := by decide +kernel
theorem dX9_shares_46 : decode cX9_shares 46 = .ok (.iload 4, 2) := by decide +kernel
theorem dX9_shares_48 : decode cX9_shares 48 = .ok (.isub, 1) := by decide +kernel
theorem dX9_shares_49 : decode cX9_shares 49 = .ok (.iconst 2, 1) := by decide +kernel
theorem dX9_shares_50 : decode cX9_shares 50 = .ok (.idiv, 1) := by decide +kernel
theorem dX9_shares_51 : decode cX9_shares 51 = .ok (.iadd, 1) := by decide +kernel
theorem dX9_shares_52 : decode cX9_shares 52 = .ok (.ireturn, 1) := by decide +kernel
theorem dX9_stays_0 : decode cX9_stays 0 = .ok (.iload 4, 2) := by decide +kernel
theorem dX9_stays_2 : decode cX9_stays 2 = .ok (.sipush (-9999), 3) := by decide +kernel
theorem dX9_stays_5 : decode cX9_stays 5 = .ok (.sipush 9999, 3) := by decide +kernel
theorem dX9_stays_8 : decode cX9_stays 8 = .ok (.invokestatic 188, 3) := by decide +kernel
theorem dX9_stays_11 : decode cX9_stays 11 = .ok (.ifCond .eq 21, 3) := by decide +kernel
theorem dX9_stays_14 : decode cX9_stays 14 = .ok (.iload 5, 2) := by decide +kernel
theorem dX9_stays_16 : decode cX9_stays 16 = .ok (.sipush (-9999), 3) := by decide +kernel
theorem dX9_stays_19 : decode cX9_stays 19 = .ok (.sipush 9999, 3) := by decide +kernel
theorem dX9_stays_22 : decode cX9_stays 22 = .ok (.invokestatic 188, 3) := by decide +kernel
theorem dX9_stays_25 : decode cX9_stays 25 = .ok (.ifCond .eq 7, 3) := by decide +kernel
theorem dX9_stays_28 : decode cX9_stays 28 = .ok (.iconst 1, 1) := by decide +kernel
theorem dX9_stays_29 : decode cX9_stays 29 = .ok (.goto 4, 3) := by decide +kernel
theorem dX9_stays_32 : decode cX9_stays 32 = .ok (.iconst 0, 1) := by decide +kernel
theorem dX9_stays_33 : decode cX9_stays 33 = .ok (.istore 6, 2) := by decide +kernel
theorem dX9_stays_35 : decode cX9_stays 35 = .ok (.aload_n 0, 1) := by decide +kernel
theorem dX9_stays_36 : decode cX9_stays 36 = .ok (.iload_n 1, 1) := by decide +kernel
theorem dX9_stays_37 : decode cX9_stays 37 = .ok (.iload_n 2, 1) := by decide +kernel
theorem dX9_stays_38 : decode cX9_stays 38 = .ok (.iload_n 3, 1) := by decide +kernel
theorem dX9_stays_39 : decode cX9_stays 39 = .ok (.invokevirtual 354, 3) := by decide +kernel
theorem dX9_stays_42 : decode cX9_stays 42 = .ok (.ifCond .eq 8, 3) := by decide +kernel
theorem dX9_stays_45 : decode cX9_stays 45 = .ok (.iload 6, 2) := by decide +kernel
theorem dX9_stays_47 : decode cX9_stays 47 = .ok (.ifCond .ne 5, 3) := by decide +kernel
theorem dX9_stays_50 : decode cX9_stays 50 = .ok (.iconst (-1), 1) := by decide +kernel
theorem dX9_stays_51 : decode cX9_stays 51 = .ok (.ireturn, 1) := by decide +kernel
theorem dX9_stays_52 : decode cX9_stays 52 = .ok (.iconst 1, 1) := by decide +kernel
theorem dX9_stays_53 : decode cX9_stays 53 = .ok (.iload_n 1, 1) := by decide +kernel
theorem dX9_stays_54 : decode cX9_stays 54 = .ok (.ishl, 1) := by decide +kernel
theorem dX9_stays_55 : decode cX9_stays 55 = .ok (.istore 7, 2) := by decide +kernel
theorem dX9_stays_57 : decode cX9_stays 57 = .ok (.iconst 1, 1) := by decide +kernel
theorem dX9_stays_58 : decode cX9_stays 58 = .ok (.iload_n 2, 1) := by decide +kernel
theorem dX9_stays_59 : decode cX9_stays 59 = .ok (.ishl, 1) := by decide +kernel
theorem dX9_stays_60 : decode cX9_stays 60 = .ok (.istore 8, 2) := by decide +kernel
theorem dX9_stays_62 : decode cX9_stays 62 = .ok (.iconst 1, 1) := by decide +kernel
theorem dX9_stays_63 : decode cX9_stays 63 = .ok (.iload_n 3, 1) := by decide +kernel
theorem dX9_stays_64 : decode cX9_stays 64 = .ok (.ishl, 1) := by decide +kernel
theorem dX9_stays_65 : decode cX9_stays 65 = .ok (.istore 9, 2) := by decide +kernel
theorem dX9_stays_67 : decode cX9_stays 67 = .ok (.aload_n 0, 1) := by decide +kernel
theorem dX9_stays_68 : decode cX9_stays 68 = .ok (.iload 7, 2) := by decide +kernel
theorem dX9_stays_70 : decode cX9_stays 70 = .ok (.iload 8, 2) := by decide +kernel
theorem dX9_stays_72 : decode cX9_stays 72 = .ok (.ior, 1) := by decide +kernel
theorem dX9_stays_73 : decode cX9_stays 73 = .ok (.iload 9, 2) := by decide +kernel
theorem dX9_stays_75 : decode cX9_stays 75 = .ok (.ior, 1) := by decide +kernel
theorem dX9_stays_76 : decode cX9_stays 76 = .ok (.invokevirtual 351, 3) := by decide +kernel
theorem dX9_stays_79 : decode cX9_stays 79 = .ok (.iload 4, 2) := by decide +kernel
theorem dX9_stays_81 : decode cX9_stays 81 = .ok (.isub, 1) := by decide +kernel
theorem dX9_stays_82 : decode cX9_stays 82 = .ok (.iload 5, 2) := by decide +kernel
theorem dX9_stays_84 : decode cX9_stays 84 = .ok (.isub, 1) := by decide +kernel
theorem dX9_stays_85 : decode cX9_stays 85 = .ok (.istore 10, 2) := by decide +kernel
theorem dX9_stays_87 : decode cX9_stays 87 = .ok (.iload 4, 2) := by decide +kernel
theorem dX9_stays_89 : decode cX9_stays 89 = .ok (.aload_n 0, 1) := by decide +kernel
theorem dX9_stays_90 : decode cX9_stays 90 = .ok (.iload 7, 2) := by decide +kernel
theorem dX9_stays_92 : decode cX9_stays 92 = .ok (.invokevirtual 351, 3) := by decide +kernel
theorem dX9_stays_95 : decode cX9_stays 95 = .ok (.if_icmp .lt 29, 3) := by decide +kernel
theorem dX9_stays_98 : decode cX9_stays 98 = .ok (.iload 5, 2) := by decide +kernel
theorem dX9_stays_100 : decode cX9_stays 100 = .ok (.aload_n 0, 1) := by decide +kernel
theorem dX9_stays_101 : decode cX9_stays 101 = .ok (.iload 8, 2) := by decide +kernel
theorem dX9_stays_103 : decode cX9_stays 103 = .ok (.invokevirtual 351, 3) := by decide +kernel
theorem dX9_stays_106 : decode cX9_stays 106 = .ok (.if_icmp .lt 18, 3) := by decide +kernel
theorem dX9_stays_109 : decode cX9_stays 109 = .ok (.iload 10, 2) := by decide +kernel
theorem dX9_stays_111 : decode cX9_stays 111 = .ok (.aload_n 0, 1) := by decide +kernel
theorem dX9_stays_112 : decode cX9_stays 112 = .ok (.iload 9, 2) := by decide +kernel
theorem dX9_stays_114 : decode cX9_stays 114 = .ok (.invokevirtual 351, 3) := by decide +kernel
theorem dX9_stays_117 : decode cX9_stays 117 = .ok (.if_icmp .lt 7, 3) := by decide +kernel
theorem dX9_stays_120 : decode cX9_stays 120 = .ok (.iconst 1, 1) := by decide +kernel
theorem dX9_stays_121 : decode cX9_stays 121 = .ok (.goto 4, 3) := by decide +kernel
theorem dX9_stays_124 : decode cX9_stays 124 = .ok (.iconst 0, 1) := by decide +kernel
theorem dX9_stays_125 : decode cX9_stays 125 = .ok (.istore 11, 2) := by decide +kernel
theorem dX9_stays_127 : decode cX9_stays 127 = .ok (.iload 4, 2) := by decide +kernel
theorem dX9_stays_129 : decode cX9_stays 129 = .ok (.iload 5, 2) := by decide +kernel
theorem dX9_stays_131 : decode cX9_stays 131 = .ok (.iadd, 1) := by decide +kernel
theorem dX9_stays_132 : decode cX9_stays 132 = .ok (.aload_n 0, 1) := by decide +kernel
theorem dX9_stays_133 : decode cX9_stays 133 = .ok (.iload 7, 2) := by decide +kernel
theorem dX9_stays_135 : decode cX9_stays 135 = .ok (.iload 8, 2) := by decide +kernel
theorem dX9_stays_137 : decode cX9_stays 137 = .ok (.ior, 1) := by decide +kernel
theorem dX9_stays_138 : decode cX9_stays 138 = .ok (.invokevirtual 351, 3) := by decide +kernel
theorem dX9_stays_141 : decode cX9_stays 141 = .ok (.if_icmp .lt 41, 3) := by decide +kernel
theorem dX9_stays_144 : decode cX9_stays 144 = .ok (.iload 4, 2) := by decide +kernel
theorem dX9_stays_146 : decode cX9_stays 146 = .ok (.iload 10, 2) := by decide +kernel
theorem dX9_stays_148 : decode cX9_stays 148 = .ok (.iadd, 1) := by decide +kernel
theorem dX9_stays_149 : decode cX9_stays 149 = .ok (.aload_n 0, 1) := by decide +kernel
theorem dX9_stays_150 : decode cX9_stays 150 = .ok (.iload 7, 2) := by decide +kernel
theorem dX9_stays_152 : decode cX9_stays 152 = .ok (.iload 9, 2) := by decide +kernel
theorem dX9_stays_154 : decode cX9_stays 154 = .ok (.ior, 1) := by decide +kernel
theorem dX9_stays_155 : decode cX9_stays 155 = .ok (.invokevirtual 351, 3) := by decide +kernel
theorem dX9_stays_158 : decode cX9_stays 158 = .ok (.if_icmp .lt 24, 3) := by decide +kernel
theorem dX9_stays_161 : decode cX9_stays 161 = .ok (.iload 5, 2) := by decide +kernel
theorem dX9_stays_163 : decode cX9_stays 163 = .ok (.iload 10, 2) := by decide +kernel
theorem dX9_stays_165 : decode cX9_stays 165 = .ok (.iadd, 1) := by decide +kernel
theorem dX9_stays_166 : decode cX9_stays 166 = .ok (.aload_n 0, 1) := by decide +kernel
theorem dX9_stays_167 : decode cX9_stays 167 = .ok (.iload 8, 2) := by decide +kernel
theorem dX9_stays_169 : decode cX9_stays 169 = .ok (.iload 9, 2) := by decide +kernel
theorem dX9_stays_171 : decode cX9_stays 171 = .ok (.ior, 1) := by decide +kernel
theorem dX9_stays_172 : decode cX9_stays 172 = .ok (.invokevirtual 351, 3) := by decide +kernel
theorem dX9_stays_175 : decode cX9_stays 175 = .ok (.if_icmp .lt 7, 3) := by decide +kernel
theorem dX9_stays_178 : decode cX9_stays 178 = .ok (.iconst 1, 1) := by decide +kernel
theorem dX9_stays_179 : decode cX9_stays 179 = .ok (.goto 4, 3) := by decide +kernel
theorem dX9_stays_182 : decode cX9_stays 182 = .ok (.iconst 0, 1) := by decide +kernel
theorem dX9_stays_183 : decode cX9_stays 183 = .ok (.istore 12, 2) := by decide +kernel
theorem dX9_stays_185 : decode cX9_stays 185 = .ok (.iload 11, 2) := by decide +kernel
theorem dX9_stays_187 : decode cX9_stays 187 = .ok (.ifCond .eq 12, 3) := by decide +kernel
theorem dX9_stays_190 : decode cX9_stays 190 = .ok (.iload 12, 2) := by decide +kernel
theorem dX9_stays_192 : decode cX9_stays 192 = .ok (.ifCond .eq 7, 3) := by decide +kernel
theorem dX9_stays_195 : decode cX9_stays 195 = .ok (.iconst 1, 1) := by decide +kernel
theorem dX9_stays_196 : decode cX9_stays 196 = .ok (.goto 4, 3) := by decide +kernel
theorem dX9_stays_199 : decode cX9_stays 199 = .ok (.iconst 0, 1) := by decide +kernel
theorem dX9_stays_200 : decode cX9_stays 200 = .ok (.ireturn, 1) := by decide +kernel
theorem dX9_against_0 : decode cX9_against 0 = .ok (.aload_n 0, 1) := by decide +kernel
theorem dX9_against_1 : decode cX9_against 1 = .ok (.iload_n 1, 1) := by decide +kernel
theorem dX9_against_2 : decode cX9_against 2 = .ok (.iload_n 2, 1) := by decide +kernel
theorem dX9_against_3 : decode cX9_against 3 = .ok (.invokevirtual 142, 3) := by decide +kernel
theorem dX9_against_6 : decode cX9_against 6 = .ok (.ifCond .eq 12, 3) := by decide +kernel
theorem dX9_against_9 : decode cX9_against 9 = .ok (.iload_n 3, 1) := by decide +kernel
theorem dX9_against_10 : decode cX9_against 10 = .ok (.iconst 0, 1) := by decide +kernel
theorem dX9_against_11 : decode cX9_against 11 = .ok (.iconst 1, 1) := by decide +kernel
theorem dX9_against_12 : decode cX9_against 12 = .ok (.invokestatic 188, 3) := by decide +kernel
theorem dX9_against_15 : decode cX9_against 15 = .ok (.ifCond .ne 5, 3) := by decide +kernel
theorem dX9_against_18 : decode cX9_against 18 = .ok (.iconst (-1), 1) := by decide +kernel
theorem dX9_against_19 : decode cX9_against 19 = .ok (.ireturn, 1) := by decide +kernel
theorem dX9_against_20 : decode cX9_against 20 = .ok (.aload_n 0, 1) := by decide +kernel
theorem dX9_against_21 : decode cX9_against 21 = .ok (.getfield 47, 3) := by decide +kernel
theorem dX9_against_24 : decode cX9_against 24 = .ok (.getfield 213, 3) := by decide +kernel
theorem dX9_against_27 : decode cX9_against 27 = .ok (.istore 4, 2) := by decide +kernel
theorem dX9_against_29 : decode cX9_against 29 = .ok (.iload_n 1, 1) := by decide +kernel
theorem dX9_against_30 : decode cX9_against 30 = .ok (.istore 5, 2) := by decide +kernel
theorem dX9_against_32 : decode cX9_against 32 = .ok (.iload_n 2, 1) := by decide +kernel
theorem dX9_against_33 : decode cX9_against 33 = .ok (.istore 6, 2) := by decide +kernel
theorem dX9_against_35 : decode cX9_against 35 = .ok (.iconst 0, 1) := by decide +kernel
theorem dX9_against_36 : decode cX9_against 36 = .ok (.istore 7, 2) := by decide +kernel
theorem dX9_against_38 : decode cX9_against 38 = .ok (.iload 7, 2) := by decide +kernel
theorem dX9_against_40 : decode cX9_against 40 = .ok (.sipush 20000, 3) := by decide +kernel
theorem dX9_against_43 : decode cX9_against 43 = .ok (.if_icmp .ge 73, 3) := by decide +kernel
theorem dX9_against_46 : decode cX9_against 46 = .ok (.iload 4, 2) := by decide +kernel
theorem dX9_against_48 : decode cX9_against 48 = .ok (.aload_n 0, 1) := by decide +kernel
theorem dX9_against_49 : decode cX9_against 49 = .ok (.getfield 22, 3) := by decide +kernel
theorem dX9_against_52 : decode cX9_against 52 = .ok (.getfield 159, 3) := by decide +kernel
theorem dX9_against_55 : decode cX9_against 55 = .ok (.iload 5, 2) := by decide +kernel
theorem dX9_against_57 : decode cX9_against 57 = .ok (.iaload, 1) := by decide +kernel
theorem dX9_against_58 : decode cX9_against 58 = .ok (.iadd, 1) := by decide +kernel
theorem dX9_against_59 : decode cX9_against 59 = .ok (.istore 8, 2) := by decide +kernel
theorem dX9_against_61 : decode cX9_against 61 = .ok (.iload 8, 2) := by decide +kernel
theorem dX9_against_63 : decode cX9_against 63 = .ok (.aload_n 0, 1) := by decide +kernel
theorem dX9_against_64 : decode cX9_against 64 = .ok (.getfield 47, 3) := by decide +kernel
theorem dX9_against_67 : decode cX9_against 67 = .ok (.getfield 153, 3) := by decide +kernel
theorem dX9_against_70 : decode cX9_against 70 = .ok (.iload 5, 2) := by decide +kernel
theorem dX9_against_72 : decode cX9_against 72 = .ok (.iaload, 1) := by decide +kernel
theorem dX9_against_73 : decode cX9_against 73 = .ok (.if_icmp .gt 43, 3) := by decide +kernel
theorem dX9_against_76 : decode cX9_against 76 = .ok (.iload 8, 2) := by decide +kernel
theorem dX9_against_78 : decode cX9_against 78 = .ok (.aload_n 0, 1) := by decide +kernel
theorem dX9_against_79 : decode cX9_against 79 = .ok (.getfield 22, 3) := by decide +kernel
theorem dX9_against_82 : decode cX9_against 82 = .ok (.getfield 156, 3) := by decide +kernel
theorem dX9_against_85 : decode cX9_against 85 = .ok (.iload 5, 2) := by decide +kernel
theorem dX9_against_87 : decode cX9_against 87 = .ok (.iaload, 1) := by decide +kernel
theorem dX9_against_88 : decode cX9_against 88 = .ok (.if_icmp .lt 6, 3) := by decide +kernel
theorem dX9_against_91 : decode cX9_against 91 = .ok (.goto 25, 3) := by decide +kernel
theorem dX9_against_94 : decode cX9_against 94 = .ok (.iload 8, 2) := by decide +kernel
theorem dX9_against_96 : decode cX9_against 96 = .ok (.istore 4, 2) := by decide +kernel
theorem dX9_against_98 : decode cX9_against 98 = .ok (.iload 6, 2) := by decide +kernel
theorem dX9_against_100 : decode cX9_against 100 = .ok (.istore 9, 2) := by decide +kernel
theorem dX9_against_102 : decode cX9_against 102 = .ok (.iload 5, 2) := by decide +kernel
theorem dX9_against_104 : decode cX9_against 104 = .ok (.istore 6, 2) := by decide +kernel
theorem dX9_against_106 : decode cX9_against 106 = .ok (.iload 9, 2) := by decide +kernel
theorem dX9_against_108 : decode cX9_against 108 = .ok (.istore 5, 2) := by decide +kernel
theorem dX9_against_110 : decode cX9_against 110 = .ok (.iinc 7 1, 3) := by decide +kernel
theorem dX9_against_113 : decode cX9_against 113 = .ok (.goto (-75), 3) := by decide +kernel
theorem dX9_against_116 : decode cX9_against 116 = .ok (.iload_n 3, 1) := by decide +kernel
theorem dX9_against_117 : decode cX9_against 117 = .ok (.iconst 1, 1) := by decide +kernel
theorem dX9_against_118 : decode cX9_against 118 = .ok (.if_icmp .ne 6, 3) := by decide +kernel
theorem dX9_against_121 : decode cX9_against 121 = .ok (.iload 4, 2) := by decide +kernel
theorem dX9_against_123 : decode cX9_against 123 = .ok (.ireturn, 1) := by decide +kernel
theorem dX9_against_124 : decode cX9_against 124 = .ok (.iload 6, 2) := by decide +kernel
theorem dX9_against_126 : decode cX9_against 126 = .ok (.iload_n 1, 1) := by decide +kernel
theorem dX9_against_127 : decode cX9_against 127 = .ok (.if_icmp .ne 7, 3) := by decide +kernel
theorem dX9_against_130 : decode cX9_against 130 = .ok (.iconst 0, 1) := by decide +kernel
theorem dX9_against_131 : decode cX9_against 131 = .ok (.goto 4, 3) := by decide +kernel
theorem dX9_against_134 : decode cX9_against 134 = .ok (.iconst 1, 1) := by decide +kernel
theorem dX9_against_135 : decode cX9_against 135 = .ok (.ireturn, 1) := by decide +kernel
theorem dX9_still_0 : decode cX9_still 0 = .ok (.iconst 0, 1) := by decide +kernel
theorem dX9_still_1 : decode cX9_still 1 = .ok (.istore_n 1, 1) := by decide +kernel
theorem dX9_still_2 : decode cX9_still 2 = .ok (.iconst 0, 1) := by decide +kernel
theorem dX9_still_3 : decode cX9_still 3 = .ok (.istore_n 2, 1) := by decide +kernel
theorem dX9_still_4 : decode cX9_still 4 = .ok (.iload_n 2, 1) := by decide +kernel
theorem dX9_still_5 : decode cX9_still 5 = .ok (.aload_n 0, 1) := by decide +kernel
theorem dX9_still_6 : decode cX9_still 6 = .ok (.getfield 22, 3) := by decide +kernel
theorem dX9_still_9 : decode cX9_still 9 = .ok (.getfield 119, 3) := by decide +kernel
theorem dX9_still_12 : decode cX9_still 12 = .ok (.if_icmp .ge 55, 3) := by decide +kernel
theorem dX9_still_15 : decode cX9_still 15 = .ok (.aload_n 0, 1) := by decide +kernel
theorem dX9_still_16 : decode cX9_still 16 = .ok (.getfield 47, 3) := by decide +kernel
theorem dX9_still_19 : decode cX9_still 19 = .ok (.iload_n 2, 1) := by decide +kernel
theorem dX9_still_20 : decode cX9_still 20 = .ok (.invokevirtual 136, 3) := by decide +kernel
theorem dX9_still_23 : decode cX9_still 23 = .ok (.ifCond .eq 38, 3) := by decide +kernel
theorem dX9_still_26 : decode cX9_still 26 = .ok (.aload_n 0, 1) := by decide +kernel
theorem dX9_still_27 : decode cX9_still 27 = .ok (.getfield 47, 3) := by decide +kernel
theorem dX9_still_30 : decode cX9_still 30 = .ok (.getfield 213, 3) := by decide +kernel
theorem dX9_still_33 : decode cX9_still 33 = .ok (.aload_n 0, 1) := by decide +kernel
theorem dX9_still_34 : decode cX9_still 34 = .ok (.getfield 22, 3) := by decide +kernel
theorem dX9_still_37 : decode cX9_still 37 = .ok (.getfield 159, 3) := by decide +kernel
theorem dX9_still_40 : decode cX9_still 40 = .ok (.iload_n 2, 1) := by decide +kernel
theorem dX9_still_41 : decode cX9_still 41 = .ok (.iaload, 1) := by decide +kernel
theorem dX9_still_42 : decode cX9_still 42 = .ok (.iadd, 1) := by decide +kernel
theorem dX9_still_43 : decode cX9_still 43 = .ok (.aload_n 0, 1) := by decide +kernel
theorem dX9_still_44 : decode cX9_still 44 = .ok (.getfield 47, 3) := by decide +kernel
theorem dX9_still_47 : decode cX9_still 47 = .ok (.getfield 153, 3) := by decide +kernel
theorem dX9_still_50 : decode cX9_still 50 = .ok (.iload_n 2, 1) := by decide +kernel
theorem dX9_still_51 : decode cX9_still 51 = .ok (.iaload, 1) := by decide +kernel
theorem dX9_still_52 : decode cX9_still 52 = .ok (.if_icmp .gt 9, 3) := by decide +kernel
theorem dX9_still_55 : decode cX9_still 55 = .ok (.iload_n 1, 1) := by decide +kernel
theorem dX9_still_56 : decode cX9_still 56 = .ok (.iconst 1, 1) := by decide +kernel
theorem dX9_still_57 : decode cX9_still 57 = .ok (.iload_n 2, 1) := by decide +kernel
theorem dX9_still_58 : decode cX9_still 58 = .ok (.ishl, 1) := by decide +kernel
theorem dX9_still_59 : decode cX9_still 59 = .ok (.ior, 1) := by decide +kernel
theorem dX9_still_60 : decode cX9_still 60 = .ok (.istore_n 1, 1) := by decide +kernel
theorem dX9_still_61 : decode cX9_still 61 = .ok (.iinc 2 1, 3) := by decide +kernel
theorem dX9_still_64 : decode cX9_still 64 = .ok (.goto (-60), 3) := by decide +kernel
theorem dX9_still_67 : decode cX9_still 67 = .ok (.iload_n 1, 1) := by decide +kernel
theorem dX9_still_68 : decode cX9_still 68 = .ok (.ireturn, 1) := by decide +kernel
theorem dX9_most_0 : decode cX9_most 0 = .ok (.aload_n 0, 1) := by decide +kernel
theorem dX9_most_1 : decode cX9_most 1 = .ok (.invokevirtual 279, 3) := by decide +kernel
theorem dX9_most_4 : decode cX9_most 4 = .ok (.iconst 0, 1) := by decide +kernel
theorem dX9_most_5 : decode cX9_most 5 = .ok (.istore_n 1, 1) := by decide +kernel
theorem dX9_most_6 : decode cX9_most 6 = .ok (.iconst 0, 1) := by decide +kernel
theorem dX9_most_7 : decode cX9_most 7 = .ok (.istore_n 2, 1) := by decide +kernel
theorem dX9_most_8 : decode cX9_most 8 = .ok (.iload_n 2, 1) := by decide +kernel
theorem dX9_most_9 : decode cX9_most 9 = .ok (.sipush 20000, 3) := by decide +kernel
theorem dX9_most_12 : decode cX9_most 12 = .ok (.if_icmp .ge 25, 3) := by decide +kernel
theorem dX9_most_15 : decode cX9_most 15 = .ok (.aload_n 0, 1) := by decide +kernel
theorem dX9_most_16 : decode cX9_most 16 = .ok (.invokevirtual 357, 3) := by decide +kernel
theorem dX9_most_19 : decode cX9_most 19 = .ok (.istore_n 3, 1) := by decide +kernel
theorem dX9_most_20 : decode cX9_most 20 = .ok (.iload_n 3, 1) := by decide +kernel
theorem dX9_most_21 : decode cX9_most 21 = .ok (.ifCond .ne 6, 3) := by decide +kernel
theorem dX9_most_24 : decode cX9_most 24 = .ok (.goto 13, 3) := by decide +kernel
theorem dX9_most_27 : decode cX9_most 27 = .ok (.iload_n 1, 1) := by decide +kernel
theorem dX9_most_28 : decode cX9_most 28 = .ok (.iload_n 3, 1) := by decide +kernel
theorem dX9_most_29 : decode cX9_most 29 = .ok (.iadd, 1) := by decide +kernel
theorem dX9_most_30 : decode cX9_most 30 = .ok (.istore_n 1, 1) := by decide +kernel
theorem dX9_most_31 : decode cX9_most 31 = .ok (.iinc 2 1, 3) := by decide +kernel
theorem dX9_most_34 : decode cX9_most 34 = .ok (.goto (-26), 3) := by decide +kernel
theorem dX9_most_37 : decode cX9_most 37 = .ok (.iload_n 1, 1) := by decide +kernel
theorem dX9_most_38 : decode cX9_most 38 = .ok (.ireturn, 1) := by decide +kernel
theorem dX9_raisesInRow_0 : decode cX9_raisesInRow 0 = .ok (.iconst 0, 1) := by decide +kernel
theorem dX9_raisesInRow_1 : decode cX9_raisesInRow 1 = .ok (.istore_n 1, 1) := by decide +kernel
theorem dX9_raisesInRow_2 : decode cX9_raisesInRow 2 = .ok (.iconst 0, 1) := by decide +kernel
theorem dX9_raisesInRow_3 : decode cX9_raisesInRow 3 = .ok (.istore_n 2, 1) := by decide +kernel
theorem dX9_raisesInRow_4 : decode cX9_raisesInRow 4 = .ok (.iload_n 2, 1) := by decide +kernel
theorem dX9_raisesInRow_5 : decode cX9_raisesInRow 5 = .ok (.aload_n 0, 1) := by decide +kernel
theorem dX9_raisesInRow_6 : decode cX9_raisesInRow 6 = .ok (.getfield 22, 3) := by decide +kernel
theorem dX9_raisesInRow_9 : decode cX9_raisesInRow 9 = .ok (.getfield 119, 3) := by decide +kernel
theorem dX9_raisesInRow_12 : decode cX9_raisesInRow 12 = .ok (.if_icmp .ge 39, 3) := by decide +kernel
theorem dX9_raisesInRow_15 : decode cX9_raisesInRow 15 = .ok (.aload_n 0, 1) := by decide +kernel
theorem dX9_raisesInRow_16 : decode cX9_raisesInRow 16 = .ok (.getfield 83, 3) := by decide +kernel
theorem dX9_raisesInRow_19 : decode cX9_raisesInRow 19 = .ok (.aload_n 0, 1) := by decide +kernel
theorem dX9_raisesInRow_20 : decode cX9_raisesInRow 20 = .ok (.getfield 51, 3) := by decide +kernel
theorem dX9_raisesInRow_23 : decode cX9_raisesInRow 23 = .ok (.iload_n 2, 1) := by decide +kernel
theorem dX9_raisesInRow_24 : decode cX9_raisesInRow 24 = .ok (.invokevirtual 248, 3) := by decide +kernel
theorem dX9_raisesInRow_27 : decode cX9_raisesInRow 27 = .ok (.ifCond .eq 18, 3) := by decide +kernel
theorem dX9_raisesInRow_30 : decode cX9_raisesInRow 30 = .ok (.aload_n 0, 1) := by decide +kernel
theorem dX9_raisesInRow_31 : decode cX9_raisesInRow 31 = .ok (.getfield 83, 3) := by decide +kernel
theorem dX9_raisesInRow_34 : decode cX9_raisesInRow 34 = .ok (.aload_n 0, 1) := by decide +kernel
theorem dX9_raisesInRow_35 : decode cX9_raisesInRow 35 = .ok (.getfield 51, 3) := by decide +kernel
theorem dX9_raisesInRow_38 : decode cX9_raisesInRow 38 = .ok (.iload_n 2, 1) := by decide +kernel
theorem dX9_raisesInRow_39 : decode cX9_raisesInRow 39 = .ok (.invokevirtual 256, 3) := by decide +kernel
theorem dX9_raisesInRow_42 : decode cX9_raisesInRow 42 = .ok (.iinc 1 1, 3) := by decide +kernel
theorem dX9_raisesInRow_45 : decode cX9_raisesInRow 45 = .ok (.iinc 2 1, 3) := by decide +kernel
theorem dX9_raisesInRow_48 : decode cX9_raisesInRow 48 = .ok (.goto (-44), 3) := by decide +kernel
theorem dX9_raisesInRow_51 : decode cX9_raisesInRow 51 = .ok (.iload_n 1, 1) := by decide +kernel
theorem dX9_raisesInRow_52 : decode cX9_raisesInRow 52 = .ok (.ireturn, 1) := by decide +kernel
theorem dX9_rival_0 : decode cX9_rival 0 = .ok (.aload_n 0, 1) := by decide +kernel
theorem dX9_rival_1 : decode cX9_rival 1 = .ok (.iload_n 1, 1) := by decide +kernel
theorem dX9_rival_2 : decode cX9_rival 2 = .ok (.invokevirtual 132, 3) := by decide +kernel
theorem dX9_rival_5 : decode cX9_rival 5 = .ok (.ifCond .ne 5, 3) := by decide +kernel
theorem dX9_rival_8 : decode cX9_rival 8 = .ok (.iconst (-1), 1) := by decide +kernel
theorem dX9_rival_9 : decode cX9_rival 9 = .ok (.ireturn, 1) := by decide +kernel
theorem dX9_rival_10 : decode cX9_rival 10 = .ok (.bipush (-2), 2) := by decide +kernel
theorem dX9_rival_12 : decode cX9_rival 12 = .ok (.istore_n 2, 1) := by decide +kernel
theorem dX9_rival_13 : decode cX9_rival 13 = .ok (.iconst 0, 1) := by decide +kernel
theorem dX9_rival_14 : decode cX9_rival 14 = .ok (.istore_n 3, 1) := by decide +kernel
theorem dX9_rival_15 : decode cX9_rival 15 = .ok (.iload_n 3, 1) := by decide +kernel
theorem dX9_rival_16 : decode cX9_rival 16 = .ok (.aload_n 0, 1) := by decide +kernel
theorem dX9_rival_17 : decode cX9_rival 17 = .ok (.getfield 22, 3) := by decide +kernel
theorem dX9_rival_20 : decode cX9_rival 20 = .ok (.getfield 119, 3) := by decide +kernel
theorem dX9_rival_23 : decode cX9_rival 23 = .ok (.if_icmp .ge 64, 3) := by decide +kernel
theorem dX9_rival_26 : decode cX9_rival 26 = .ok (.iload_n 2, 1) := by decide +kernel
theorem dX9_rival_27 : decode cX9_rival 27 = .ok (.ifCond .lt 24, 3) := by decide +kernel
theorem dX9_rival_30 : decode cX9_rival 30 = .ok (.aload_n 0, 1) := by decide +kernel
theorem dX9_rival_31 : decode cX9_rival 31 = .ok (.getfield 47, 3) := by decide +kernel
theorem dX9_rival_34 : decode cX9_rival 34 = .ok (.getfield 153, 3) := by decide +kernel
theorem dX9_rival_37 : decode cX9_rival 37 = .ok (.iload_n 3, 1) := by decide +kernel
theorem dX9_rival_38 : decode cX9_rival 38 = .ok (.iaload, 1) := by decide +kernel
theorem dX9_rival_39 : decode cX9_rival 39 = .ok (.aload_n 0, 1) := by decide +kernel
theorem dX9_rival_40 : decode cX9_rival 40 = .ok (.getfield 47, 3) := by decide +kernel
theorem dX9_rival_43 : decode cX9_rival 43 = .ok (.getfield 153, 3) := by decide +kernel
theorem dX9_rival_46 : decode cX9_rival 46 = .ok (.iload_n 2, 1) := by decide +kernel
theorem dX9_rival_47 : decode cX9_rival 47 = .ok (.iaload, 1) := by decide +kernel
theorem dX9_rival_48 : decode cX9_rival 48 = .ok (.if_icmp .le 7, 3) := by decide +kernel
theorem dX9_rival_51 : decode cX9_rival 51 = .ok (.iconst 1, 1) := by decide +kernel
theorem dX9_rival_52 : decode cX9_rival 52 = .ok (.goto 4, 3) := by decide +kernel
theorem dX9_rival_55 : decode cX9_rival 55 = .ok (.iconst 0, 1) := by decide +kernel
theorem dX9_rival_56 : decode cX9_rival 56 = .ok (.istore 4, 2) := by decide +kernel
theorem dX9_rival_58 : decode cX9_rival 58 = .ok (.iload_n 3, 1) := by decide +kernel
theorem dX9_rival_59 : decode cX9_rival 59 = .ok (.iload_n 1, 1) := by decide +kernel
theorem dX9_rival_60 : decode cX9_rival 60 = .ok (.if_icmp .eq 21, 3) := by decide +kernel
theorem dX9_rival_63 : decode cX9_rival 63 = .ok (.aload_n 0, 1) := by decide +kernel
theorem dX9_rival_64 : decode cX9_rival 64 = .ok (.getfield 47, 3) := by decide +kernel
theorem dX9_rival_67 : decode cX9_rival 67 = .ok (.iload_n 3, 1) := by decide +kernel
theorem dX9_rival_68 : decode cX9_rival 68 = .ok (.invokevirtual 136, 3) := by decide +kernel
theorem dX9_rival_71 : decode cX9_rival 71 = .ok (.ifCond .eq 10, 3) := by decide +kernel
theorem dX9_rival_74 : decode cX9_rival 74 = .ok (.iload 4, 2) := by decide +kernel
theorem dX9_rival_76 : decode cX9_rival 76 = .ok (.ifCond .eq 5, 3) := by decide +kernel
theorem dX9_rival_79 : decode cX9_rival 79 = .ok (.iload_n 3, 1) := by decide +kernel
theorem dX9_rival_80 : decode cX9_rival 80 = .ok (.istore_n 2, 1) := by decide +kernel
theorem dX9_rival_81 : decode cX9_rival 81 = .ok (.iinc 3 1, 3) := by decide +kernel
theorem dX9_rival_84 : decode cX9_rival 84 = .ok (.goto (-69), 3) := by decide +kernel
theorem dX9_rival_87 : decode cX9_rival 87 = .ok (.iload_n 2, 1) := by decide +kernel
theorem dX9_rival_88 : decode cX9_rival 88 = .ok (.ireturn, 1) := by decide +kernel
theorem dX9_same_0 : decode cX9_same 0 = .ok (.aload_n 0, 1) := by decide +kernel
theorem dX9_same_1 : decode cX9_same 1 = .ok (.iconst 0, 1) := by decide +kernel
theorem dX9_same_2 : decode cX9_same 2 = .ok (.invokevirtual 360, 3) := by decide +kernel
theorem dX9_same_5 : decode cX9_same 5 = .ok (.ireturn, 1) := by decide +kernel
theorem dX9_sameIn_0 : decode cX9_sameIn 0 = .ok (.iload_n 1, 1) := by decide +kernel
theorem dX9_sameIn_1 : decode cX9_sameIn 1 = .ok (.iconst 0, 1) := by decide +kernel
theorem dX9_sameIn_2 : decode cX9_sameIn 2 = .ok (.sipush 999, 3) := by decide +kernel
theorem dX9_sameIn_5 : decode cX9_sameIn 5 = .ok (.invokestatic 188, 3) := by decide +kernel
theorem dX9_sameIn_8 : decode cX9_sameIn 8 = .ok (.ifCond .eq 11, 3) := by decide +kernel
theorem dX9_sameIn_11 : decode cX9_sameIn 11 = .ok (.aload_n 0, 1) := by decide +kernel
theorem dX9_sameIn_12 : decode cX9_sameIn 12 = .ok (.iload_n 1, 1) := by decide +kernel
theorem dX9_sameIn_13 : decode cX9_sameIn 13 = .ok (.invokevirtual 360, 3) := by decide +kernel
theorem dX9_sameIn_16 : decode cX9_sameIn 16 = .ok (.goto 4, 3) := by decide +kernel
theorem dX9_sameIn_19 : decode cX9_sameIn 19 = .ok (.iconst (-1), 1) := by decide +kernel
theorem dX9_sameIn_20 : decode cX9_sameIn 20 = .ok (.ireturn, 1) := by decide +kernel
theorem dX9_partsLeftIn_0 : decode cX9_partsLeftIn 0 = .ok (.iconst 0, 1) := by decide +kernel
theorem dX9_partsLeftIn_1 : decode cX9_partsLeftIn 1 = .ok (.istore_n 2, 1) := by decide +kernel
theorem dX9_partsLeftIn_2 : decode cX9_partsLeftIn 2 = .ok (.iconst 0, 1) := by decide +kernel
theorem dX9_partsLeftIn_3 : decode cX9_partsLeftIn 3 = .ok (.istore_n 3, 1) := by decide +kernel
theorem dX9_partsLeftIn_4 : decode cX9_partsLeftIn 4 = .ok (.iload_n 3, 1) := by decide +kernel
theorem dX9_partsLeftIn_5 : decode cX9_partsLeftIn 5 = .ok (.aload_n 0, 1) := by decide +kernel
theorem dX9_partsLeftIn_6 : decode cX9_partsLeftIn 6 = .ok (.getfield 22, 3) := by decide +kernel
theorem dX9_partsLeftIn_9 : decode cX9_partsLeftIn 9 = .ok (.getfield 129, 3) := by decide +kernel
theorem dX9_partsLeftIn_12 : decode cX9_partsLeftIn 12 = .ok (.if_icmp .ge 39, 3) := by decide +kernel
theorem dX9_partsLeftIn_15 : decode cX9_partsLeftIn 15 = .ok (.aload_n 0, 1) := by decide +kernel
theorem dX9_partsLeftIn_16 : decode cX9_partsLeftIn 16 = .ok (.getfield 47, 3) := by decide +kernel
theorem dX9_partsLeftIn_19 : decode cX9_partsLeftIn 19 = .ok (.iload_n 3, 1) := by decide +kernel
theorem dX9_partsLeftIn_20 : decode cX9_partsLeftIn 20 = .ok (.invokevirtual 185, 3) := by decide +kernel
theorem dX9_partsLeftIn_23 : decode cX9_partsLeftIn 23 = .ok (.ifCond .eq 22, 3) := by decide +kernel
theorem dX9_partsLeftIn_26 : decode cX9_partsLeftIn 26 = .ok (.aload_n 0, 1) := by decide +kernel
theorem dX9_partsLeftIn_27 : decode cX9_partsLeftIn 27 = .ok (.getfield 47, 3) := by decide +kernel
theorem dX9_partsLeftIn_30 : decode cX9_partsLeftIn 30 = .ok (.aload_n 0, 1) := by decide +kernel
theorem dX9_partsLeftIn_31 : decode cX9_partsLeftIn 31 = .ok (.getfield 22, 3) := by decide +kernel
theorem dX9_partsLeftIn_34 : decode cX9_partsLeftIn 34 = .ok (.iload_n 3, 1) := by decide +kernel
theorem dX9_partsLeftIn_35 : decode cX9_partsLeftIn 35 = .ok (.invokevirtual 363, 3) := by decide +kernel
theorem dX9_partsLeftIn_38 : decode cX9_partsLeftIn 38 = .ok (.iload_n 1, 1) := by decide +kernel
theorem dX9_partsLeftIn_39 : decode cX9_partsLeftIn 39 = .ok (.if_icmp .le 6, 3) := by decide +kernel
theorem dX9_partsLeftIn_42 : decode cX9_partsLeftIn 42 = .ok (.iinc 2 1, 3) := by decide +kernel
theorem dX9_partsLeftIn_45 : decode cX9_partsLeftIn 45 = .ok (.iinc 3 1, 3) := by decide +kernel
theorem dX9_partsLeftIn_48 : decode cX9_partsLeftIn 48 = .ok (.goto (-44), 3) := by decide +kernel
theorem dX9_partsLeftIn_51 : decode cX9_partsLeftIn 51 = .ok (.iload_n 2, 1) := by decide +kernel
theorem dX9_partsLeftIn_52 : decode cX9_partsLeftIn 52 = .ok (.ireturn, 1) := by decide +kernel
theorem dX9_noneLeft_0 : decode cX9_noneLeft 0 = .ok (.iconst 0, 1) := by decide +kernel
theorem dX9_noneLeft_1 : decode cX9_noneLeft 1 = .ok (.istore_n 1, 1) := by decide +kernel
theorem dX9_noneLeft_2 : decode cX9_noneLeft 2 = .ok (.iconst 0, 1) := by decide +kernel
theorem dX9_noneLeft_3 : decode cX9_noneLeft 3 = .ok (.istore_n 2, 1) := by decide +kernel
theorem dX9_noneLeft_4 : decode cX9_noneLeft 4 = .ok (.iload_n 2, 1) := by decide +kernel
theorem dX9_noneLeft_5 : decode cX9_noneLeft 5 = .ok (.aload_n 0, 1) := by decide +kernel
theorem dX9_noneLeft_6 : decode cX9_noneLeft 6 = .ok (.getfield 22, 3) := by decide +kernel
theorem dX9_noneLeft_9 : decode cX9_noneLeft 9 = .ok (.getfield 129, 3) := by decide +kernel
theorem dX9_noneLeft_12 : decode cX9_noneLeft 12 = .ok (.if_icmp .ge 37, 3) := by decide +kernel
theorem dX9_noneLeft_15 : decode cX9_noneLeft 15 = .ok (.aload_n 0, 1) := by decide +kernel
theorem dX9_noneLeft_16 : decode cX9_noneLeft 16 = .ok (.getfield 47, 3) := by decide +kernel
theorem dX9_noneLeft_19 : decode cX9_noneLeft 19 = .ok (.iload_n 2, 1) := by decide +kernel
theorem dX9_noneLeft_20 : decode cX9_noneLeft 20 = .ok (.invokevirtual 185, 3) := by decide +kernel
theorem dX9_noneLeft_23 : decode cX9_noneLeft 23 = .ok (.ifCond .eq 20, 3) := by decide +kernel
theorem dX9_noneLeft_26 : decode cX9_noneLeft 26 = .ok (.iload_n 1, 1) := by decide +kernel
theorem dX9_noneLeft_27 : decode cX9_noneLeft 27 = .ok (.aload_n 0, 1) := by decide +kernel
theorem dX9_noneLeft_28 : decode cX9_noneLeft 28 = .ok (.getfield 47, 3) := by decide +kernel
theorem dX9_noneLeft_31 : decode cX9_noneLeft 31 = .ok (.aload_n 0, 1) := by decide +kernel
theorem dX9_noneLeft_32 : decode cX9_noneLeft 32 = .ok (.getfield 22, 3) := by decide +kernel
theorem dX9_noneLeft_35 : decode cX9_noneLeft 35 = .ok (.iload_n 2, 1) := by decide +kernel
theorem dX9_noneLeft_36 : decode cX9_noneLeft 36 = .ok (.invokevirtual 363, 3) := by decide +kernel
theorem dX9_noneLeft_39 : decode cX9_noneLeft 39 = .ok (.invokestatic 346, 3) := by decide +kernel
theorem dX9_noneLeft_42 : decode cX9_noneLeft 42 = .ok (.istore_n 1, 1) := by decide +kernel
theorem dX9_noneLeft_43 : decode cX9_noneLeft 43 = .ok (.iinc 2 1, 3) := by decide +kernel
theorem dX9_noneLeft_46 : decode cX9_noneLeft 46 = .ok (.goto (-42), 3) := by decide +kernel
theorem dX9_noneLeft_49 : decode cX9_noneLeft 49 = .ok (.iload_n 1, 1) := by decide +kernel
theorem dX9_noneLeft_50 : decode cX9_noneLeft 50 = .ok (.sipush 999, 3) := by decide +kernel
theorem dX9_noneLeft_53 : decode cX9_noneLeft 53 = .ok (.if_icmp .gt 7, 3) := by decide +kernel
theorem dX9_noneLeft_56 : decode cX9_noneLeft 56 = .ok (.iload_n 1, 1) := by decide +kernel
theorem dX9_noneLeft_57 : decode cX9_noneLeft 57 = .ok (.goto 5, 3) := by decide +kernel
theorem dX9_noneLeft_60 : decode cX9_noneLeft 60 = .ok (.bipush (-2), 2) := by decide +kernel
theorem dX9_noneLeft_62 : decode cX9_noneLeft 62 = .ok (.ireturn, 1) := by decide +kernel
theorem dX9_nextPart_0 : decode cX9_nextPart 0 = .ok (.iload_n 1, 1) := by decide +kernel
theorem dX9_nextPart_1 : decode cX9_nextPart 1 = .ok (.iconst 0, 1) := by decide +kernel
theorem dX9_nextPart_2 : decode cX9_nextPart 2 = .ok (.iconst 1, 1) := by decide +kernel
theorem dX9_nextPart_3 : decode cX9_nextPart 3 = .ok (.invokestatic 188, 3) := by decide +kernel
theorem dX9_nextPart_6 : decode cX9_nextPart 6 = .ok (.ifCond .ne 5, 3) := by decide +kernel
theorem dX9_nextPart_9 : decode cX9_nextPart 9 = .ok (.iconst (-1), 1) := by decide +kernel
theorem dX9_nextPart_10 : decode cX9_nextPart 10 = .ok (.ireturn, 1) := by decide +kernel
theorem dX9_nextPart_11 : decode cX9_nextPart 11 = .ok (.bipush (-2), 2) := by decide +kernel
theorem dX9_nextPart_13 : decode cX9_nextPart 13 = .ok (.istore_n 2, 1) := by decide +kernel
theorem dX9_nextPart_14 : decode cX9_nextPart 14 = .ok (.bipush (-2), 2) := by decide +kernel
theorem dX9_nextPart_16 : decode cX9_nextPart 16 = .ok (.istore_n 3, 1) := by decide +kernel
theorem dX9_nextPart_17 : decode cX9_nextPart 17 = .ok (.iconst 0, 1) := by decide +kernel
theorem dX9_nextPart_18 : decode cX9_nextPart 18 = .ok (.istore 4, 2) := by decide +kernel
theorem dX9_nextPart_20 : decode cX9_nextPart 20 = .ok (.iload 4, 2) := by decide +kernel
theorem dX9_nextPart_22 : decode cX9_nextPart 22 = .ok (.aload_n 0, 1) := by decide +kernel
theorem dX9_nextPart_23 : decode cX9_nextPart 23 = .ok (.getfield 22, 3) := by decide +kernel
theorem dX9_nextPart_26 : decode cX9_nextPart 26 = .ok (.getfield 129, 3) := by decide +kernel
theorem dX9_nextPart_29 : decode cX9_nextPart 29 = .ok (.if_icmp .ge 42, 3) := by decide +kernel
theorem dX9_nextPart_32 : decode cX9_nextPart 32 = .ok (.aload_n 0, 1) := by decide +kernel
theorem dX9_nextPart_33 : decode cX9_nextPart 33 = .ok (.getfield 47, 3) := by decide +kernel
theorem dX9_nextPart_36 : decode cX9_nextPart 36 = .ok (.aload_n 0, 1) := by decide +kernel
theorem dX9_nextPart_37 : decode cX9_nextPart 37 = .ok (.getfield 22, 3) := by decide +kernel
theorem dX9_nextPart_40 : decode cX9_nextPart 40 = .ok (.iload 4, 2) := by decide +kernel
theorem dX9_nextPart_42 : decode cX9_nextPart 42 = .ok (.invokevirtual 363, 3) := by decide +kernel
theorem dX9_nextPart_45 : decode cX9_nextPart 45 = .ok (.istore 5, 2) := by decide +kernel
theorem dX9_nextPart_47 : decode cX9_nextPart 47 = .ok (.iload_n 2, 1) := by decide +kernel
theorem dX9_nextPart_48 : decode cX9_nextPart 48 = .ok (.bipush (-2), 2) := by decide +kernel
theorem dX9_nextPart_50 : decode cX9_nextPart 50 = .ok (.if_icmp .eq 9, 3) := by decide +kernel
theorem dX9_nextPart_53 : decode cX9_nextPart 53 = .ok (.iload 5, 2) := by decide +kernel
theorem dX9_nextPart_55 : decode cX9_nextPart 55 = .ok (.iload_n 3, 1) := by decide +kernel
theorem dX9_nextPart_56 : decode cX9_nextPart 56 = .ok (.if_icmp .ge 9, 3) := by decide +kernel
theorem dX9_nextPart_59 : decode cX9_nextPart 59 = .ok (.iload 4, 2) := by decide +kernel
theorem dX9_nextPart_61 : decode cX9_nextPart 61 = .ok (.istore_n 2, 1) := by decide +kernel
theorem dX9_nextPart_62 : decode cX9_nextPart 62 = .ok (.iload 5, 2) := by decide +kernel
theorem dX9_nextPart_64 : decode cX9_nextPart 64 = .ok (.istore_n 3, 1) := by decide +kernel
theorem dX9_nextPart_65 : decode cX9_nextPart 65 = .ok (.iinc 4 1, 3) := by decide +kernel
theorem dX9_nextPart_68 : decode cX9_nextPart 68 = .ok (.goto (-48), 3) := by decide +kernel
theorem dX9_nextPart_71 : decode cX9_nextPart 71 = .ok (.iload_n 1, 1) := by decide +kernel
theorem dX9_nextPart_72 : decode cX9_nextPart 72 = .ok (.ifCond .ne 7, 3) := by decide +kernel
theorem dX9_nextPart_75 : decode cX9_nextPart 75 = .ok (.iload_n 2, 1) := by decide +kernel
theorem dX9_nextPart_76 : decode cX9_nextPart 76 = .ok (.goto 4, 3) := by decide +kernel
theorem dX9_nextPart_79 : decode cX9_nextPart 79 = .ok (.iload_n 3, 1) := by decide +kernel
theorem dX9_nextPart_80 : decode cX9_nextPart 80 = .ok (.ireturn, 1) := by decide +kernel
theorem dX9_see_0 : decode cX9_see 0 = .ok (.iload_n 1, 1) := by decide +kernel
theorem dX9_see_1 : decode cX9_see 1 = .ok (.iconst 1, 1) := by decide +kernel
theorem dX9_see_2 : decode cX9_see 2 = .ok (.bipush 99, 2) := by decide +kernel
theorem dX9_see_4 : decode cX9_see 4 = .ok (.invokestatic 188, 3) := by decide +kernel
theorem dX9_see_7 : decode cX9_see 7 = .ok (.ifCond .eq 14, 3) := by decide +kernel
theorem dX9_see_10 : decode cX9_see 10 = .ok (.iload_n 2, 1) := by decide +kernel
theorem dX9_see_11 : decode cX9_see 11 = .ok (.iconst 0, 1) := by decide +kernel
theorem dX9_see_12 : decode cX9_see 12 = .ok (.sipush 9999, 3) := by decide +kernel
theorem dX9_see_15 : decode cX9_see 15 = .ok (.invokestatic 188, 3) := by decide +kernel
theorem dX9_see_18 : decode cX9_see 18 = .ok (.ifCond .ne 5, 3) := by decide +kernel
theorem dX9_see_21 : decode cX9_see 21 = .ok (.iconst (-1), 1) := by decide +kernel
theorem dX9_see_22 : decode cX9_see 22 = .ok (.ireturn, 1) := by decide +kernel
theorem dX9_see_23 : decode cX9_see 23 = .ok (.aload_n 0, 1) := by decide +kernel
theorem dX9_see_24 : decode cX9_see 24 = .ok (.getfield 74, 3) := by decide +kernel
theorem dX9_see_27 : decode cX9_see 27 = .ok (.iload_n 3, 1) := by decide +kernel
theorem dX9_see_28 : decode cX9_see 28 = .ok (.ifCond .eq 7, 3) := by decide +kernel
theorem dX9_see_31 : decode cX9_see 31 = .ok (.iconst 1, 1) := by decide +kernel
theorem dX9_see_32 : decode cX9_see 32 = .ok (.goto 4, 3) := by decide +kernel
theorem dX9_see_35 : decode cX9_see 35 = .ok (.iconst 0, 1) := by decide +kernel
theorem dX9_see_36 : decode cX9_see 36 = .ok (.iload_n 1, 1) := by decide +kernel
theorem dX9_see_37 : decode cX9_see 37 = .ok (.iload_n 2, 1) := by decide +kernel
theorem dX9_see_38 : decode cX9_see 38 = .ok (.invokevirtual 367, 3) := by decide +kernel
theorem dX9_see_41 : decode cX9_see 41 = .ok (.ireturn, 1) := by decide +kernel
theorem dX9_strike_0 : decode cX9_strike 0 = .ok (.iload_n 1, 1) := by decide +kernel
theorem dX9_strike_1 : decode cX9_strike 1 = .ok (.ifCond .lt 14, 3) := by decide +kernel
theorem dX9_strike_4 : decode cX9_strike 4 = .ok (.iload_n 1, 1) := by decide +kernel
theorem dX9_strike_5 : decode cX9_strike 5 = .ok (.aload_n 0, 1) := by decide +kernel
theorem dX9_strike_6 : decode cX9_strike 6 = .ok (.getfield 74, 3) := by decide +kernel
theorem dX9_strike_9 : decode cX9_strike 9 = .ok (.getfield 237, 3) := by decide +kernel
theorem dX9_strike_12 : decode cX9_strike 12 = .ok (.if_icmp .lt 5, 3) := by decide +kernel
theorem dX9_strike_15 : decode cX9_strike 15 = .ok (.iconst (-1), 1) := by decide +kernel
theorem dX9_strike_16 : decode cX9_strike 16 = .ok (.ireturn, 1) := by decide +kernel
theorem dX9_strike_17 : decode cX9_strike 17 = .ok (.aload_n 0, 1) := by decide +kernel
theorem dX9_strike_18 : decode cX9_strike 18 = .ok (.getfield 74, 3) := by decide +kernel
theorem dX9_strike_21 : decode cX9_strike 21 = .ok (.iconst 2, 1) := by decide +kernel
theorem dX9_strike_22 : decode cX9_strike 22 = .ok (.iconst 0, 1) := by decide +kernel
theorem dX9_strike_23 : decode cX9_strike 23 = .ok (.iload_n 1, 1) := by decide +kernel
theorem dX9_strike_24 : decode cX9_strike 24 = .ok (.invokevirtual 367, 3) := by decide +kernel
theorem dX9_strike_27 : decode cX9_strike 27 = .ok (.ireturn, 1) := by decide +kernel
theorem dX9_known_0 : decode cX9_known 0 = .ok (.iload_n 1, 1) := by decide +kernel
theorem dX9_known_1 : decode cX9_known 1 = .ok (.iconst (-1), 1) := by decide +kernel
theorem dX9_known_2 : decode cX9_known 2 = .ok (.aload_n 0, 1) := by decide +kernel
theorem dX9_known_3 : decode cX9_known 3 = .ok (.getfield 74, 3) := by decide +kernel
theorem dX9_known_6 : decode cX9_known 6 = .ok (.getfield 237, 3) := by decide +kernel
theorem dX9_known_9 : decode cX9_known 9 = .ok (.invokestatic 188, 3) := by decide +kernel
theorem dX9_known_12 : decode cX9_known 12 = .ok (.ifCond .ne 5, 3) := by decide +kernel
theorem dX9_known_15 : decode cX9_known 15 = .ok (.iconst 0, 1) := by decide +kernel
theorem dX9_known_16 : decode cX9_known 16 = .ok (.ireturn, 1) := by decide +kernel
theorem dX9_known_17 : decode cX9_known 17 = .ok (.aload_n 0, 1) := by decide +kernel
theorem dX9_known_18 : decode cX9_known 18 = .ok (.getfield 74, 3) := by decide +kernel
theorem dX9_known_21 : decode cX9_known 21 = .ok (.iload_n 1, 1) := by decide +kernel
theorem dX9_known_22 : decode cX9_known 22 = .ok (.putfield 371, 3) := by decide +kernel
theorem dX9_known_25 : decode cX9_known 25 = .ok (.iconst 1, 1) := by decide +kernel
theorem dX9_known_26 : decode cX9_known 26 = .ok (.ireturn, 1) := by decide +kernel
theorem dX9_bounds_0 : decode cX9_bounds 0 = .ok (.aload_n 0, 1) := by decide +kernel
theorem dX9_bounds_1 : decode cX9_bounds 1 = .ok (.iload_n 1, 1) := by decide +kernel
theorem dX9_bounds_2 : decode cX9_bounds 2 = .ok (.invokevirtual 132, 3) := by decide +kernel
theorem dX9_bounds_5 : decode cX9_bounds 5 = .ok (.ifCond .ne 5, 3) := by decide +kernel
theorem dX9_bounds_8 : decode cX9_bounds 8 = .ok (.iconst (-1), 1) := by decide +kernel
theorem dX9_bounds_9 : decode cX9_bounds 9 = .ok (.ireturn, 1) := by decide +kernel
theorem dX9_bounds_10 : decode cX9_bounds 10 = .ok (.aload_n 0, 1) := by decide +kernel
theorem dX9_bounds_11 : decode cX9_bounds 11 = .ok (.getfield 74, 3) := by decide +kernel
theorem dX9_bounds_14 : decode cX9_bounds 14 = .ok (.invokevirtual 374, 3) := by decide +kernel
theorem dX9_bounds_17 : decode cX9_bounds 17 = .ok (.iconst 0, 1) := by decide +kernel
theorem dX9_bounds_18 : decode cX9_bounds 18 = .ok (.istore_n 2, 1) := by decide +kernel
