theorem dX0_init_0 : decode cX0_init 0 = .ok (.aload_n 0, 1) := by decide +kernel
theorem dX0_init_1 : decode cX0_init 1 = .ok (.invokespecial 3, 3) := by decide +kernel
theorem dX0_init_4 : decode cX0_init 4 = .ok (.aload_n 0, 1) := by decide +kernel
theorem dX0_init_5 : decode cX0_init 5 = .ok (.bipush 8, 2) := by decide +kernel
theorem dX0_init_7 : decode cX0_init 7 = .ok (.bipush 8, 2) := by decide +kernel
theorem dX0_init_9 : decode cX0_init 9 = .ok (.multianewarray 9 2, 4) := by decide +kernel
theorem dX0_init_13 : decode cX0_init 13 = .ok (.putfield 11, 3) := by decide +kernel
theorem dX0_init_16 : decode cX0_init 16 = .ok (.aload_n 0, 1) := by decide +kernel
theorem dX0_init_17 : decode cX0_init 17 = .ok (.bipush 8, 2) := by decide +kernel
theorem dX0_init_19 : decode cX0_init 19 = .ok (.bipush 8, 2) := by decide +kernel
theorem dX0_init_21 : decode cX0_init 21 = .ok (.multianewarray 9 2, 4) := by decide +kernel
theorem dX0_init_25 : decode cX0_init 25 = .ok (.putfield 16, 3) := by decide +kernel
theorem dX0_init_28 : decode cX0_init 28 = .ok (.aload_n 0, 1) := by decide +kernel
theorem dX0_init_29 : decode cX0_init 29 = .ok (.bipush 8, 2) := by decide +kernel
theorem dX0_init_31 : decode cX0_init 31 = .ok (.newarray .int, 2) := by decide +kernel
theorem dX0_init_33 : decode cX0_init 33 = .ok (.putfield 19, 3) := by decide +kernel
theorem dX0_init_36 : decode cX0_init 36 = .ok (.aload_n 0, 1) := by decide +kernel
theorem dX0_init_37 : decode cX0_init 37 = .ok (.bipush 8, 2) := by decide +kernel
theorem dX0_init_39 : decode cX0_init 39 = .ok (.newarray .int, 2) := by decide +kernel
theorem dX0_init_41 : decode cX0_init 41 = .ok (.putfield 23, 3) := by decide +kernel
theorem dX0_init_44 : decode cX0_init 44 = .ok (.aload_n 0, 1) := by decide +kernel
theorem dX0_init_45 : decode cX0_init 45 = .ok (.bipush 8, 2) := by decide +kernel
theorem dX0_init_47 : decode cX0_init 47 = .ok (.newarray .int, 2) := by decide +kernel
theorem dX0_init_49 : decode cX0_init 49 = .ok (.putfield 26, 3) := by decide +kernel
theorem dX0_init_52 : decode cX0_init 52 = .ok (.aload_n 0, 1) := by decide +kernel
theorem dX0_init_53 : decode cX0_init 53 = .ok (.bipush 8, 2) := by decide +kernel
theorem dX0_init_55 : decode cX0_init 55 = .ok (.newarray .int, 2) := by decide +kernel
theorem dX0_init_57 : decode cX0_init 57 = .ok (.putfield 29, 3) := by decide +kernel
theorem dX0_init_60 : decode cX0_init 60 = .ok (.return_, 1) := by decide +kernel
theorem dX0_make_0 : decode cX0_make 0 = .ok (.iconst 0, 1) := by decide +kernel
theorem dX0_make_1 : decode cX0_make 1 = .ok (.istore_n 2, 1) := by decide +kernel
theorem dX0_make_2 : decode cX0_make 2 = .ok (.iload_n 2, 1) := by decide +kernel
theorem dX0_make_3 : decode cX0_make 3 = .ok (.bipush 8, 2) := by decide +kernel
theorem dX0_make_5 : decode cX0_make 5 = .ok (.if_icmp .ge 41, 3) := by decide +kernel
theorem dX0_make_8 : decode cX0_make 8 = .ok (.iconst 0, 1) := by decide +kernel
theorem dX0_make_9 : decode cX0_make 9 = .ok (.istore_n 3, 1) := by decide +kernel
theorem dX0_make_10 : decode cX0_make 10 = .ok (.iload_n 3, 1) := by decide +kernel
theorem dX0_make_11 : decode cX0_make 11 = .ok (.bipush 8, 2) := by decide +kernel
theorem dX0_make_13 : decode cX0_make 13 = .ok (.if_icmp .ge 27, 3) := by decide +kernel
theorem dX0_make_16 : decode cX0_make 16 = .ok (.aload_n 0, 1) := by decide +kernel
theorem dX0_make_17 : decode cX0_make 17 = .ok (.getfield 11, 3) := by decide +kernel
theorem dX0_make_20 : decode cX0_make 20 = .ok (.iload_n 2, 1) := by decide +kernel
theorem dX0_make_21 : decode cX0_make 21 = .ok (.aaload, 1) := by decide +kernel
theorem dX0_make_22 : decode cX0_make 22 = .ok (.iload_n 3, 1) := by decide +kernel
theorem dX0_make_23 : decode cX0_make 23 = .ok (.sipush 512, 3) := by decide +kernel
theorem dX0_make_26 : decode cX0_make 26 = .ok (.aload_n 1, 1) := by decide +kernel
theorem dX0_make_27 : decode cX0_make 27 = .ok (.iload_n 2, 1) := by decide +kernel
theorem dX0_make_28 : decode cX0_make 28 = .ok (.iload_n 3, 1) := by decide +kernel
theorem dX0_make_29 : decode cX0_make 29 = .ok (.invokestatic 32, 3) := by decide +kernel
theorem dX0_make_32 : decode cX0_make 32 = .ok (.imul, 1) := by decide +kernel
theorem dX0_make_33 : decode cX0_make 33 = .ok (.iastore, 1) := by decide +kernel
theorem dX0_make_34 : decode cX0_make 34 = .ok (.iinc 3 1, 3) := by decide +kernel
theorem dX0_make_37 : decode cX0_make 37 = .ok (.goto (-27), 3) := by decide +kernel
theorem dX0_make_40 : decode cX0_make 40 = .ok (.iinc 2 1, 3) := by decide +kernel
theorem dX0_make_43 : decode cX0_make 43 = .ok (.goto (-41), 3) := by decide +kernel
theorem dX0_make_46 : decode cX0_make 46 = .ok (.iconst 0, 1) := by decide +kernel
theorem dX0_make_47 : decode cX0_make 47 = .ok (.istore_n 2, 1) := by decide +kernel
theorem dX0_make_48 : decode cX0_make 48 = .ok (.iload_n 2, 1) := by decide +kernel
theorem dX0_make_49 : decode cX0_make 49 = .ok (.aload_n 1, 1) := by decide +kernel
theorem dX0_make_50 : decode cX0_make 50 = .ok (.invokevirtual 36, 3) := by decide +kernel
theorem dX0_make_53 : decode cX0_make 53 = .ok (.if_icmp .ge 14, 3) := by decide +kernel
theorem dX0_make_56 : decode cX0_make 56 = .ok (.aload_n 0, 1) := by decide +kernel
theorem dX0_make_57 : decode cX0_make 57 = .ok (.aload_n 1, 1) := by decide +kernel
theorem dX0_make_58 : decode cX0_make 58 = .ok (.invokevirtual 42, 3) := by decide +kernel
theorem dX0_make_61 : decode cX0_make 61 = .ok (.iinc 2 1, 3) := by decide +kernel
theorem dX0_make_64 : decode cX0_make 64 = .ok (.goto (-16), 3) := by decide +kernel
theorem dX0_make_67 : decode cX0_make 67 = .ok (.aload_n 0, 1) := by decide +kernel
theorem dX0_make_68 : decode cX0_make 68 = .ok (.aload_n 0, 1) := by decide +kernel
theorem dX0_make_69 : decode cX0_make 69 = .ok (.iconst 0, 1) := by decide +kernel
theorem dX0_make_70 : decode cX0_make 70 = .ok (.aload_n 0, 1) := by decide +kernel
theorem dX0_make_71 : decode cX0_make 71 = .ok (.getfield 19, 3) := by decide +kernel
theorem dX0_make_74 : decode cX0_make 74 = .ok (.aload_n 0, 1) := by decide +kernel
theorem dX0_make_75 : decode cX0_make 75 = .ok (.getfield 23, 3) := by decide +kernel
theorem dX0_make_78 : decode cX0_make 78 = .ok (.invokevirtual 46, 3) := by decide +kernel
theorem dX0_make_81 : decode cX0_make 81 = .ok (.putfield 50, 3) := by decide +kernel
theorem dX0_make_84 : decode cX0_make 84 = .ok (.return_, 1) := by decide +kernel
theorem dX0_pairs_0 : decode cX0_pairs 0 = .ok (.aload_n 0, 1) := by decide +kernel
theorem dX0_pairs_1 : decode cX0_pairs 1 = .ok (.getfield 50, 3) := by decide +kernel
theorem dX0_pairs_4 : decode cX0_pairs 4 = .ok (.ireturn, 1) := by decide +kernel
theorem dX0_beliefIn_0 : decode cX0_beliefIn 0 = .ok (.iload_n 1, 1) := by decide +kernel
theorem dX0_beliefIn_1 : decode cX0_beliefIn 1 = .ok (.iload_n 2, 1) := by decide +kernel
theorem dX0_beliefIn_2 : decode cX0_beliefIn 2 = .ok (.invokestatic 54, 3) := by decide +kernel
theorem dX0_beliefIn_5 : decode cX0_beliefIn 5 = .ok (.ifCond .eq 14, 3) := by decide +kernel
theorem dX0_beliefIn_8 : decode cX0_beliefIn 8 = .ok (.aload_n 0, 1) := by decide +kernel
theorem dX0_beliefIn_9 : decode cX0_beliefIn 9 = .ok (.getfield 11, 3) := by decide +kernel
theorem dX0_beliefIn_12 : decode cX0_beliefIn 12 = .ok (.iload_n 1, 1) := by decide +kernel
theorem dX0_beliefIn_13 : decode cX0_beliefIn 13 = .ok (.aaload, 1) := by decide +kernel
theorem dX0_beliefIn_14 : decode cX0_beliefIn 14 = .ok (.iload_n 2, 1) := by decide +kernel
theorem dX0_beliefIn_15 : decode cX0_beliefIn 15 = .ok (.iaload, 1) := by decide +kernel
theorem dX0_beliefIn_16 : decode cX0_beliefIn 16 = .ok (.goto 4, 3) := by decide +kernel
theorem dX0_beliefIn_19 : decode cX0_beliefIn 19 = .ok (.iconst 0, 1) := by decide +kernel
theorem dX0_beliefIn_20 : decode cX0_beliefIn 20 = .ok (.ireturn, 1) := by decide +kernel
theorem dX0_isPair_0 : decode cX0_isPair 0 = .ok (.aload_n 0, 1) := by decide +kernel
theorem dX0_isPair_1 : decode cX0_isPair 1 = .ok (.iload_n 1, 1) := by decide +kernel
theorem dX0_isPair_2 : decode cX0_isPair 2 = .ok (.iload_n 2, 1) := by decide +kernel
theorem dX0_isPair_3 : decode cX0_isPair 3 = .ok (.invokevirtual 58, 3) := by decide +kernel
theorem dX0_isPair_6 : decode cX0_isPair 6 = .ok (.ifCond .le 7, 3) := by decide +kernel
theorem dX0_isPair_9 : decode cX0_isPair 9 = .ok (.iconst 1, 1) := by decide +kernel
theorem dX0_isPair_10 : decode cX0_isPair 10 = .ok (.goto 4, 3) := by decide +kernel
theorem dX0_isPair_13 : decode cX0_isPair 13 = .ok (.iconst 0, 1) := by decide +kernel
theorem dX0_isPair_14 : decode cX0_isPair 14 = .ok (.ireturn, 1) := by decide +kernel
theorem dX0_mateOf_0 : decode cX0_mateOf 0 = .ok (.iload_n 2, 1) := by decide +kernel
theorem dX0_mateOf_1 : decode cX0_mateOf 1 = .ok (.iconst 0, 1) := by decide +kernel
theorem dX0_mateOf_2 : decode cX0_mateOf 2 = .ok (.bipush 7, 2) := by decide +kernel
theorem dX0_mateOf_4 : decode cX0_mateOf 4 = .ok (.invokestatic 62, 3) := by decide +kernel
theorem dX0_mateOf_7 : decode cX0_mateOf 7 = .ok (.ifCond .ne 5, 3) := by decide +kernel
theorem dX0_mateOf_10 : decode cX0_mateOf 10 = .ok (.iconst (-1), 1) := by decide +kernel
theorem dX0_mateOf_11 : decode cX0_mateOf 11 = .ok (.ireturn, 1) := by decide +kernel
theorem dX0_mateOf_12 : decode cX0_mateOf 12 = .ok (.iload_n 1, 1) := by decide +kernel
theorem dX0_mateOf_13 : decode cX0_mateOf 13 = .ok (.ifCond .ne 12, 3) := by decide +kernel
theorem dX0_mateOf_16 : decode cX0_mateOf 16 = .ok (.aload_n 0, 1) := by decide +kernel
theorem dX0_mateOf_17 : decode cX0_mateOf 17 = .ok (.getfield 19, 3) := by decide +kernel
theorem dX0_mateOf_20 : decode cX0_mateOf 20 = .ok (.iload_n 2, 1) := by decide +kernel
theorem dX0_mateOf_21 : decode cX0_mateOf 21 = .ok (.iaload, 1) := by decide +kernel
theorem dX0_mateOf_22 : decode cX0_mateOf 22 = .ok (.goto 9, 3) := by decide +kernel
theorem dX0_mateOf_25 : decode cX0_mateOf 25 = .ok (.aload_n 0, 1) := by decide +kernel
theorem dX0_mateOf_26 : decode cX0_mateOf 26 = .ok (.getfield 23, 3) := by decide +kernel
theorem dX0_mateOf_29 : decode cX0_mateOf 29 = .ok (.iload_n 2, 1) := by decide +kernel
theorem dX0_mateOf_30 : decode cX0_mateOf 30 = .ok (.iaload, 1) := by decide +kernel
theorem dX0_mateOf_31 : decode cX0_mateOf 31 = .ok (.ireturn, 1) := by decide +kernel
theorem dX0_unmatched_0 : decode cX0_unmatched 0 = .ok (.iconst 0, 1) := by decide +kernel
theorem dX0_unmatched_1 : decode cX0_unmatched 1 = .ok (.istore_n 3, 1) := by decide +kernel
theorem dX0_unmatched_2 : decode cX0_unmatched 2 = .ok (.iconst 0, 1) := by decide +kernel
theorem dX0_unmatched_3 : decode cX0_unmatched 3 = .ok (.istore 4, 2) := by decide +kernel
theorem dX0_unmatched_5 : decode cX0_unmatched 5 = .ok (.iload 4, 2) := by decide +kernel
theorem dX0_unmatched_7 : decode cX0_unmatched 7 = .ok (.aload_n 1, 1) := by decide +kernel
theorem dX0_unmatched_8 : decode cX0_unmatched 8 = .ok (.iload_n 2, 1) := by decide +kernel
theorem dX0_unmatched_9 : decode cX0_unmatched 9 = .ok (.invokevirtual 66, 3) := by decide +kernel
theorem dX0_unmatched_12 : decode cX0_unmatched 12 = .ok (.invokevirtual 70, 3) := by decide +kernel
theorem dX0_unmatched_15 : decode cX0_unmatched 15 = .ok (.if_icmp .ge 27, 3) := by decide +kernel
theorem dX0_unmatched_18 : decode cX0_unmatched 18 = .ok (.aload_n 0, 1) := by decide +kernel
theorem dX0_unmatched_19 : decode cX0_unmatched 19 = .ok (.iload_n 2, 1) := by decide +kernel
theorem dX0_unmatched_20 : decode cX0_unmatched 20 = .ok (.iload 4, 2) := by decide +kernel
theorem dX0_unmatched_22 : decode cX0_unmatched 22 = .ok (.invokevirtual 75, 3) := by decide +kernel
theorem dX0_unmatched_25 : decode cX0_unmatched 25 = .ok (.iconst (-1), 1) := by decide +kernel
theorem dX0_unmatched_26 : decode cX0_unmatched 26 = .ok (.if_icmp .ne 10, 3) := by decide +kernel
theorem dX0_unmatched_29 : decode cX0_unmatched 29 = .ok (.iload_n 3, 1) := by decide +kernel
theorem dX0_unmatched_30 : decode cX0_unmatched 30 = .ok (.iconst 1, 1) := by decide +kernel
theorem dX0_unmatched_31 : decode cX0_unmatched 31 = .ok (.iload 4, 2) := by decide +kernel
theorem dX0_unmatched_33 : decode cX0_unmatched 33 = .ok (.ishl, 1) := by decide +kernel
theorem dX0_unmatched_34 : decode cX0_unmatched 34 = .ok (.ior, 1) := by decide +kernel
theorem dX0_unmatched_35 : decode cX0_unmatched 35 = .ok (.istore_n 3, 1) := by decide +kernel
theorem dX0_unmatched_36 : decode cX0_unmatched 36 = .ok (.iinc 4 1, 3) := by decide +kernel
theorem dX0_unmatched_39 : decode cX0_unmatched 39 = .ok (.goto (-34), 3) := by decide +kernel
theorem dX0_unmatched_42 : decode cX0_unmatched 42 = .ok (.iload_n 3, 1) := by decide +kernel
theorem dX0_unmatched_43 : decode cX0_unmatched 43 = .ok (.ireturn, 1) := by decide +kernel
theorem dX0_isSameExchanged_0 : decode cX0_isSameExchanged 0 = .ok (.aload_n 0, 1) := by decide +kernel
theorem dX0_isSameExchanged_1 : decode cX0_isSameExchanged 1 = .ok (.iconst 1, 1) := by decide +kernel
theorem dX0_isSameExchanged_2 : decode cX0_isSameExchanged 2 = .ok (.aload_n 0, 1) := by decide +kernel
theorem dX0_isSameExchanged_3 : decode cX0_isSameExchanged 3 = .ok (.getfield 26, 3) := by decide +kernel
theorem dX0_isSameExchanged_6 : decode cX0_isSameExchanged 6 = .ok (.aload_n 0, 1) := by decide +kernel
theorem dX0_isSameExchanged_7 : decode cX0_isSameExchanged 7 = .ok (.getfield 29, 3) := by decide +kernel
theorem dX0_isSameExchanged_10 : decode cX0_isSameExchanged 10 = .ok (.invokevirtual 46, 3) := by decide +kernel
theorem dX0_isSameExchanged_13 : decode cX0_isSameExchanged 13 = .ok (.pop, 1) := by decide +kernel
theorem dX0_isSameExchanged_14 : decode cX0_isSameExchanged 14 = .ok (.iconst 0, 1) := by decide +kernel
theorem dX0_isSameExchanged_15 : decode cX0_isSameExchanged 15 = .ok (.istore_n 1, 1) := by decide +kernel
theorem dX0_isSameExchanged_16 : decode cX0_isSameExchanged 16 = .ok (.iload_n 1, 1) := by decide +kernel
theorem dX0_isSameExchanged_17 : decode cX0_isSameExchanged 17 = .ok (.bipush 8, 2) := by decide +kernel
theorem dX0_isSameExchanged_19 : decode cX0_isSameExchanged 19 = .ok (.if_icmp .ge 26, 3) := by decide +kernel
theorem dX0_isSameExchanged_22 : decode cX0_isSameExchanged 22 = .ok (.aload_n 0, 1) := by decide +kernel
theorem dX0_isSameExchanged_23 : decode cX0_isSameExchanged 23 = .ok (.getfield 19, 3) := by decide +kernel
theorem dX0_isSameExchanged_26 : decode cX0_isSameExchanged 26 = .ok (.iload_n 1, 1) := by decide +kernel
theorem dX0_isSameExchanged_27 : decode cX0_isSameExchanged 27 = .ok (.iaload, 1) := by decide +kernel
theorem dX0_isSameExchanged_28 : decode cX0_isSameExchanged 28 = .ok (.aload_n 0, 1) := by decide +kernel
theorem dX0_isSameExchanged_29 : decode cX0_isSameExchanged 29 = .ok (.getfield 26, 3) := by decide +kernel
theorem dX0_isSameExchanged_32 : decode cX0_isSameExchanged 32 = .ok (.iload_n 1, 1) := by decide +kernel
theorem dX0_isSameExchanged_33 : decode cX0_isSameExchanged 33 = .ok (.iaload, 1) := by decide +kernel
theorem dX0_isSameExchanged_34 : decode cX0_isSameExchanged 34 = .ok (.if_icmp .eq 5, 3) := by decide +kernel
theorem dX0_isSameExchanged_37 : decode cX0_isSameExchanged 37 = .ok (.iconst 0, 1) := by decide +kernel
theorem dX0_isSameExchanged_38 : decode cX0_isSameExchanged 38 = .ok (.ireturn, 1) := by decide +kernel
theorem dX0_isSameExchanged_39 : decode cX0_isSameExchanged 39 = .ok (.iinc 1 1, 3) := by decide +kernel
theorem dX0_isSameExchanged_42 : decode cX0_isSameExchanged 42 = .ok (.goto (-26), 3) := by decide +kernel
theorem dX0_isSameExchanged_45 : decode cX0_isSameExchanged 45 = .ok (.iconst 1, 1) := by decide +kernel
theorem dX0_isSameExchanged_46 : decode cX0_isSameExchanged 46 = .ok (.ireturn, 1) := by decide +kernel
theorem dX0_turnedTriples_0 : decode cX0_turnedTriples 0 = .ok (.aload_n 1, 1) := by decide +kernel
theorem dX0_turnedTriples_1 : decode cX0_turnedTriples 1 = .ok (.iconst 0, 1) := by decide +kernel
theorem dX0_turnedTriples_2 : decode cX0_turnedTriples 2 = .ok (.invokevirtual 66, 3) := by decide +kernel
theorem dX0_turnedTriples_5 : decode cX0_turnedTriples 5 = .ok (.invokevirtual 70, 3) := by decide +kernel
theorem dX0_turnedTriples_8 : decode cX0_turnedTriples 8 = .ok (.istore_n 2, 1) := by decide +kernel
theorem dX0_turnedTriples_9 : decode cX0_turnedTriples 9 = .ok (.iconst 0, 1) := by decide +kernel
theorem dX0_turnedTriples_10 : decode cX0_turnedTriples 10 = .ok (.istore_n 3, 1) := by decide +kernel
theorem dX0_turnedTriples_11 : decode cX0_turnedTriples 11 = .ok (.iconst 0, 1) := by decide +kernel
theorem dX0_turnedTriples_12 : decode cX0_turnedTriples 12 = .ok (.istore 4, 2) := by decide +kernel
theorem dX0_turnedTriples_14 : decode cX0_turnedTriples 14 = .ok (.iload 4, 2) := by decide +kernel
theorem dX0_turnedTriples_16 : decode cX0_turnedTriples 16 = .ok (.iload_n 2, 1) := by decide +kernel
theorem dX0_turnedTriples_17 : decode cX0_turnedTriples 17 = .ok (.if_icmp .ge 75, 3) := by decide +kernel
theorem dX0_turnedTriples_20 : decode cX0_turnedTriples 20 = .ok (.iload 4, 2) := by decide +kernel
theorem dX0_turnedTriples_22 : decode cX0_turnedTriples 22 = .ok (.iconst 1, 1) := by decide +kernel
theorem dX0_turnedTriples_23 : decode cX0_turnedTriples 23 = .ok (.iadd, 1) := by decide +kernel
theorem dX0_turnedTriples_24 : decode cX0_turnedTriples 24 = .ok (.istore 5, 2) := by decide +kernel
theorem dX0_turnedTriples_26 : decode cX0_turnedTriples 26 = .ok (.iload 5, 2) := by decide +kernel
theorem dX0_turnedTriples_28 : decode cX0_turnedTriples 28 = .ok (.iload_n 2, 1) := by decide +kernel
theorem dX0_turnedTriples_29 : decode cX0_turnedTriples 29 = .ok (.if_icmp .ge 57, 3) := by decide +kernel
theorem dX0_turnedTriples_32 : decode cX0_turnedTriples 32 = .ok (.iload 5, 2) := by decide +kernel
theorem dX0_turnedTriples_34 : decode cX0_turnedTriples 34 = .ok (.iconst 1, 1) := by decide +kernel
theorem dX0_turnedTriples_35 : decode cX0_turnedTriples 35 = .ok (.iadd, 1) := by decide +kernel
theorem dX0_turnedTriples_36 : decode cX0_turnedTriples 36 = .ok (.istore 6, 2) := by decide +kernel
theorem dX0_turnedTriples_38 : decode cX0_turnedTriples 38 = .ok (.iload 6, 2) := by decide +kernel
theorem dX0_turnedTriples_40 : decode cX0_turnedTriples 40 = .ok (.iload_n 2, 1) := by decide +kernel
theorem dX0_turnedTriples_41 : decode cX0_turnedTriples 41 = .ok (.if_icmp .ge 39, 3) := by decide +kernel
theorem dX0_turnedTriples_44 : decode cX0_turnedTriples 44 = .ok (.aload_n 0, 1) := by decide +kernel
theorem dX0_turnedTriples_45 : decode cX0_turnedTriples 45 = .ok (.iload 4, 2) := by decide +kernel
theorem dX0_turnedTriples_47 : decode cX0_turnedTriples 47 = .ok (.iload 5, 2) := by decide +kernel
theorem dX0_turnedTriples_49 : decode cX0_turnedTriples 49 = .ok (.iload 6, 2) := by decide +kernel
theorem dX0_turnedTriples_51 : decode cX0_turnedTriples 51 = .ok (.invokevirtual 78, 3) := by decide +kernel
theorem dX0_turnedTriples_54 : decode cX0_turnedTriples 54 = .ok (.ifCond .eq 20, 3) := by decide +kernel
theorem dX0_turnedTriples_57 : decode cX0_turnedTriples 57 = .ok (.aload_n 0, 1) := by decide +kernel
theorem dX0_turnedTriples_58 : decode cX0_turnedTriples 58 = .ok (.aload_n 1, 1) := by decide +kernel
theorem dX0_turnedTriples_59 : decode cX0_turnedTriples 59 = .ok (.iload 4, 2) := by decide +kernel
theorem dX0_turnedTriples_61 : decode cX0_turnedTriples 61 = .ok (.iload 5, 2) := by decide +kernel
theorem dX0_turnedTriples_63 : decode cX0_turnedTriples 63 = .ok (.iload 6, 2) := by decide +kernel
theorem dX0_turnedTriples_65 : decode cX0_turnedTriples 65 = .ok (.invokevirtual 81, 3) := by decide +kernel
theorem dX0_turnedTriples_68 : decode cX0_turnedTriples 68 = .ok (.ifCond .eq 6, 3) := by decide +kernel
theorem dX0_turnedTriples_71 : decode cX0_turnedTriples 71 = .ok (.iinc 3 1, 3) := by decide +kernel
theorem dX0_turnedTriples_74 : decode cX0_turnedTriples 74 = .ok (.iinc 6 1, 3) := by decide +kernel
theorem dX0_turnedTriples_77 : decode cX0_turnedTriples 77 = .ok (.goto (-39), 3) := by decide +kernel
theorem dX0_turnedTriples_80 : decode cX0_turnedTriples 80 = .ok (.iinc 5 1, 3) := by decide +kernel
theorem dX0_turnedTriples_83 : decode cX0_turnedTriples 83 = .ok (.goto (-57), 3) := by decide +kernel
theorem dX0_turnedTriples_86 : decode cX0_turnedTriples 86 = .ok (.iinc 4 1, 3) := by decide +kernel
theorem dX0_turnedTriples_89 : decode cX0_turnedTriples 89 = .ok (.goto (-75), 3) := by decide +kernel
theorem dX0_turnedTriples_92 : decode cX0_turnedTriples 92 = .ok (.iload_n 3, 1) := by decide +kernel
theorem dX0_turnedTriples_93 : decode cX0_turnedTriples 93 = .ok (.ireturn, 1) := by decide +kernel
theorem dX0_areMatched_0 : decode cX0_areMatched 0 = .ok (.aload_n 0, 1) := by decide +kernel
theorem dX0_areMatched_1 : decode cX0_areMatched 1 = .ok (.iconst 0, 1) := by decide +kernel
theorem dX0_areMatched_2 : decode cX0_areMatched 2 = .ok (.iload_n 1, 1) := by decide +kernel
theorem dX0_areMatched_3 : decode cX0_areMatched 3 = .ok (.invokevirtual 75, 3) := by decide +kernel
theorem dX0_areMatched_6 : decode cX0_areMatched 6 = .ok (.iconst (-1), 1) := by decide +kernel
theorem dX0_areMatched_7 : decode cX0_areMatched 7 = .ok (.if_icmp .eq 27, 3) := by decide +kernel
theorem dX0_areMatched_10 : decode cX0_areMatched 10 = .ok (.aload_n 0, 1) := by decide +kernel
theorem dX0_areMatched_11 : decode cX0_areMatched 11 = .ok (.iconst 0, 1) := by decide +kernel
theorem dX0_areMatched_12 : decode cX0_areMatched 12 = .ok (.iload_n 2, 1) := by decide +kernel
theorem dX0_areMatched_13 : decode cX0_areMatched 13 = .ok (.invokevirtual 75, 3) := by decide +kernel
theorem dX0_areMatched_16 : decode cX0_areMatched 16 = .ok (.iconst (-1), 1) := by decide +kernel
theorem dX0_areMatched_17 : decode cX0_areMatched 17 = .ok (.if_icmp .eq 17, 3) := by decide +kernel
theorem dX0_areMatched_20 : decode cX0_areMatched 20 = .ok (.aload_n 0, 1) := by decide +kernel
theorem dX0_areMatched_21 : decode cX0_areMatched 21 = .ok (.iconst 0, 1) := by decide +kernel
theorem dX0_areMatched_22 : decode cX0_areMatched 22 = .ok (.iload_n 3, 1) := by decide +kernel
theorem dX0_areMatched_23 : decode cX0_areMatched 23 = .ok (.invokevirtual 75, 3) := by decide +kernel
theorem dX0_areMatched_26 : decode cX0_areMatched 26 = .ok (.iconst (-1), 1) := by decide +kernel
theorem dX0_areMatched_27 : decode cX0_areMatched 27 = .ok (.if_icmp .eq 7, 3) := by decide +kernel
theorem dX0_areMatched_30 : decode cX0_areMatched 30 = .ok (.iconst 1, 1) := by decide +kernel
theorem dX0_areMatched_31 : decode cX0_areMatched 31 = .ok (.goto 4, 3) := by decide +kernel
theorem dX0_areMatched_34 : decode cX0_areMatched 34 = .ok (.iconst 0, 1) := by decide +kernel
theorem dX0_areMatched_35 : decode cX0_areMatched 35 = .ok (.ireturn, 1) := by decide +kernel
theorem dX0_isTurned_0 : decode cX0_isTurned 0 = .ok (.aload_n 1, 1) := by decide +kernel
theorem dX0_isTurned_1 : decode cX0_isTurned 1 = .ok (.iconst 0, 1) := by decide +kernel
theorem dX0_isTurned_2 : decode cX0_isTurned 2 = .ok (.invokevirtual 66, 3) := by decide +kernel
theorem dX0_isTurned_5 : decode cX0_isTurned 5 = .ok (.iload_n 2, 1) := by decide +kernel
theorem dX0_isTurned_6 : decode cX0_isTurned 6 = .ok (.iload_n 3, 1) := by decide +kernel
theorem dX0_isTurned_7 : decode cX0_isTurned 7 = .ok (.iload 4, 2) := by decide +kernel
theorem dX0_isTurned_9 : decode cX0_isTurned 9 = .ok (.invokevirtual 85, 3) := by decide +kernel
theorem dX0_isTurned_12 : decode cX0_isTurned 12 = .ok (.istore 5, 2) := by decide +kernel
theorem dX0_isTurned_14 : decode cX0_isTurned 14 = .ok (.aload_n 1, 1) := by decide +kernel
theorem dX0_isTurned_15 : decode cX0_isTurned 15 = .ok (.iconst 1, 1) := by decide +kernel
theorem dX0_isTurned_16 : decode cX0_isTurned 16 = .ok (.invokevirtual 66, 3) := by decide +kernel
theorem dX0_isTurned_19 : decode cX0_isTurned 19 = .ok (.aload_n 0, 1) := by decide +kernel
theorem dX0_isTurned_20 : decode cX0_isTurned 20 = .ok (.iconst 0, 1) := by decide +kernel
theorem dX0_isTurned_21 : decode cX0_isTurned 21 = .ok (.iload_n 2, 1) := by decide +kernel
theorem dX0_isTurned_22 : decode cX0_isTurned 22 = .ok (.invokevirtual 75, 3) := by decide +kernel
theorem dX0_isTurned_25 : decode cX0_isTurned 25 = .ok (.aload_n 0, 1) := by decide +kernel
theorem dX0_isTurned_26 : decode cX0_isTurned 26 = .ok (.iconst 0, 1) := by decide +kernel
theorem dX0_isTurned_27 : decode cX0_isTurned 27 = .ok (.iload_n 3, 1) := by decide +kernel
theorem dX0_isTurned_28 : decode cX0_isTurned 28 = .ok (.invokevirtual 75, 3) := by decide +kernel
theorem dX0_isTurned_31 : decode cX0_isTurned 31 = .ok (.aload_n 0, 1) := by decide +kernel
theorem dX0_isTurned_32 : decode cX0_isTurned 32 = .ok (.iconst 0, 1) := by decide +kernel
theorem dX0_isTurned_33 : decode cX0_isTurned 33 = .ok (.iload 4, 2) := by decide +kernel
theorem dX0_isTurned_35 : decode cX0_isTurned 35 = .ok (.invokevirtual 75, 3) := by decide +kernel
theorem dX0_isTurned_38 : decode cX0_isTurned 38 = .ok (.invokevirtual 85, 3) := by decide +kernel
theorem dX0_isTurned_41 : decode cX0_isTurned 41 = .ok (.istore 6, 2) := by decide +kernel
theorem dX0_isTurned_43 : decode cX0_isTurned 43 = .ok (.iload 5, 2) := by decide +kernel
theorem dX0_isTurned_45 : decode cX0_isTurned 45 = .ok (.ifCond .le 8, 3) := by decide +kernel
theorem dX0_isTurned_48 : decode cX0_isTurned 48 = .ok (.iload 6, 2) := by decide +kernel
theorem dX0_isTurned_50 : decode cX0_isTurned 50 = .ok (.ifCond .lt 13, 3) := by decide +kernel
theorem dX0_isTurned_53 : decode cX0_isTurned 53 = .ok (.iload 5, 2) := by decide +kernel
theorem dX0_isTurned_55 : decode cX0_isTurned 55 = .ok (.ifCond .ge 12, 3) := by decide +kernel
theorem dX0_isTurned_58 : decode cX0_isTurned 58 = .ok (.iload 6, 2) := by decide +kernel
theorem dX0_isTurned_60 : decode cX0_isTurned 60 = .ok (.ifCond .le 7, 3) := by decide +kernel
theorem dX0_isTurned_63 : decode cX0_isTurned 63 = .ok (.iconst 1, 1) := by decide +kernel
theorem dX0_isTurned_64 : decode cX0_isTurned 64 = .ok (.goto 4, 3) := by decide +kernel
theorem dX0_isTurned_67 : decode cX0_isTurned 67 = .ok (.iconst 0, 1) := by decide +kernel
theorem dX0_isTurned_68 : decode cX0_isTurned 68 = .ok (.ireturn, 1) := by decide +kernel
theorem dX0_areNumbers_0 : decode cX0_areNumbers 0 = .ok (.iload_n 0, 1) := by decide +kernel
theorem dX0_areNumbers_1 : decode cX0_areNumbers 1 = .ok (.ifCond .lt 23, 3) := by decide +kernel
theorem dX0_areNumbers_4 : decode cX0_areNumbers 4 = .ok (.iload_n 0, 1) := by decide +kernel
theorem dX0_areNumbers_5 : decode cX0_areNumbers 5 = .ok (.bipush 8, 2) := by decide +kernel
theorem dX0_areNumbers_7 : decode cX0_areNumbers 7 = .ok (.if_icmp .ge 17, 3) := by decide +kernel
theorem dX0_areNumbers_10 : decode cX0_areNumbers 10 = .ok (.iload_n 1, 1) := by decide +kernel
theorem dX0_areNumbers_11 : decode cX0_areNumbers 11 = .ok (.ifCond .lt 13, 3) := by decide +kernel
theorem dX0_areNumbers_14 : decode cX0_areNumbers 14 = .ok (.iload_n 1, 1) := by decide +kernel
theorem dX0_areNumbers_15 : decode cX0_areNumbers 15 = .ok (.bipush 8, 2) := by decide +kernel
theorem dX0_areNumbers_17 : decode cX0_areNumbers 17 = .ok (.if_icmp .ge 7, 3) := by decide +kernel
theorem dX0_areNumbers_20 : decode cX0_areNumbers 20 = .ok (.iconst 1, 1) := by decide +kernel
theorem dX0_areNumbers_21 : decode cX0_areNumbers 21 = .ok (.goto 4, 3) := by decide +kernel
theorem dX0_areNumbers_24 : decode cX0_areNumbers 24 = .ok (.iconst 0, 1) := by decide +kernel
theorem dX0_areNumbers_25 : decode cX0_areNumbers 25 = .ok (.ireturn, 1) := by decide +kernel
theorem dX0_firstBelief_0 : decode cX0_firstBelief 0 = .ok (.aload_n 0, 1) := by decide +kernel
theorem dX0_firstBelief_1 : decode cX0_firstBelief 1 = .ok (.iconst 0, 1) := by decide +kernel
theorem dX0_firstBelief_2 : decode cX0_firstBelief 2 = .ok (.invokevirtual 66, 3) := by decide +kernel
theorem dX0_firstBelief_5 : decode cX0_firstBelief 5 = .ok (.iload_n 1, 1) := by decide +kernel
theorem dX0_firstBelief_6 : decode cX0_firstBelief 6 = .ok (.invokevirtual 89, 3) := by decide +kernel
theorem dX0_firstBelief_9 : decode cX0_firstBelief 9 = .ok (.ifCond .eq 15, 3) := by decide +kernel
theorem dX0_firstBelief_12 : decode cX0_firstBelief 12 = .ok (.aload_n 0, 1) := by decide +kernel
theorem dX0_firstBelief_13 : decode cX0_firstBelief 13 = .ok (.iconst 1, 1) := by decide +kernel
theorem dX0_firstBelief_14 : decode cX0_firstBelief 14 = .ok (.invokevirtual 66, 3) := by decide +kernel
theorem dX0_firstBelief_17 : decode cX0_firstBelief 17 = .ok (.iload_n 2, 1) := by decide +kernel
theorem dX0_firstBelief_18 : decode cX0_firstBelief 18 = .ok (.invokevirtual 89, 3) := by decide +kernel
theorem dX0_firstBelief_21 : decode cX0_firstBelief 21 = .ok (.ifCond .ne 5, 3) := by decide +kernel
theorem dX0_firstBelief_24 : decode cX0_firstBelief 24 = .ok (.iconst 0, 1) := by decide +kernel
theorem dX0_firstBelief_25 : decode cX0_firstBelief 25 = .ok (.ireturn, 1) := by decide +kernel
theorem dX0_firstBelief_26 : decode cX0_firstBelief 26 = .ok (.aload_n 0, 1) := by decide +kernel
theorem dX0_firstBelief_27 : decode cX0_firstBelief 27 = .ok (.iconst 0, 1) := by decide +kernel
theorem dX0_firstBelief_28 : decode cX0_firstBelief 28 = .ok (.iload_n 1, 1) := by decide +kernel
theorem dX0_firstBelief_29 : decode cX0_firstBelief 29 = .ok (.invokevirtual 93, 3) := by decide +kernel
theorem dX0_firstBelief_32 : decode cX0_firstBelief 32 = .ok (.aload_n 0, 1) := by decide +kernel
theorem dX0_firstBelief_33 : decode cX0_firstBelief 33 = .ok (.iconst 1, 1) := by decide +kernel
theorem dX0_firstBelief_34 : decode cX0_firstBelief 34 = .ok (.iload_n 2, 1) := by decide +kernel
theorem dX0_firstBelief_35 : decode cX0_firstBelief 35 = .ok (.invokevirtual 93, 3) := by decide +kernel
theorem dX0_firstBelief_38 : decode cX0_firstBelief 38 = .ok (.invokestatic 96, 3) := by decide +kernel
theorem dX0_firstBelief_41 : decode cX0_firstBelief 41 = .ok (.istore_n 3, 1) := by decide +kernel
theorem dX0_firstBelief_42 : decode cX0_firstBelief 42 = .ok (.aload_n 0, 1) := by decide +kernel
theorem dX0_firstBelief_43 : decode cX0_firstBelief 43 = .ok (.iload_n 1, 1) := by decide +kernel
theorem dX0_firstBelief_44 : decode cX0_firstBelief 44 = .ok (.iload_n 2, 1) := by decide +kernel
theorem dX0_firstBelief_45 : decode cX0_firstBelief 45 = .ok (.invokevirtual 101, 3) := by decide +kernel
theorem dX0_firstBelief_48 : decode cX0_firstBelief 48 = .ok (.istore 4, 2) := by decide +kernel
theorem dX0_firstBelief_50 : decode cX0_firstBelief 50 = .ok (.iload 4, 2) := by decide +kernel
theorem dX0_firstBelief_52 : decode cX0_firstBelief 52 = .ok (.iload_n 3, 1) := by decide +kernel
theorem dX0_firstBelief_53 : decode cX0_firstBelief 53 = .ok (.iload_n 3, 1) := by decide +kernel
theorem dX0_firstBelief_54 : decode cX0_firstBelief 54 = .ok (.imul, 1) := by decide +kernel
theorem dX0_firstBelief_55 : decode cX0_firstBelief 55 = .ok (.if_icmp .le 5, 3) := by decide +kernel
theorem dX0_firstBelief_58 : decode cX0_firstBelief 58 = .ok (.iconst 0, 1) := by decide +kernel
theorem dX0_firstBelief_59 : decode cX0_firstBelief 59 = .ok (.ireturn, 1) := by decide +kernel
theorem dX0_firstBelief_60 : decode cX0_firstBelief 60 = .ok (.iconst 1, 1) := by decide +kernel
theorem dX0_firstBelief_61 : decode cX0_firstBelief 61 = .ok (.aload_n 0, 1) := by decide +kernel
theorem dX0_firstBelief_62 : decode cX0_firstBelief 62 = .ok (.invokevirtual 104, 3) := by decide +kernel
theorem dX0_firstBelief_65 : decode cX0_firstBelief 65 = .ok (.aload_n 0, 1) := by decide +kernel
theorem dX0_firstBelief_66 : decode cX0_firstBelief 66 = .ok (.invokevirtual 104, 3) := by decide +kernel
theorem dX0_firstBelief_69 : decode cX0_firstBelief 69 = .ok (.imul, 1) := by decide +kernel
theorem dX0_firstBelief_70 : decode cX0_firstBelief 70 = .ok (.iconst 1, 1) := by decide +kernel
theorem dX0_firstBelief_71 : decode cX0_firstBelief 71 = .ok (.iadd, 1) := by decide +kernel
theorem dX0_firstBelief_72 : decode cX0_firstBelief 72 = .ok (.iload 4, 2) := by decide +kernel
theorem dX0_firstBelief_74 : decode cX0_firstBelief 74 = .ok (.isub, 1) := by decide +kernel
theorem dX0_firstBelief_75 : decode cX0_firstBelief 75 = .ok (.invokestatic 107, 3) := by decide +kernel
theorem dX0_firstBelief_78 : decode cX0_firstBelief 78 = .ok (.ireturn, 1) := by decide +kernel
theorem dX0_improve_0 : decode cX0_improve 0 = .ok (.iconst 0, 1) := by decide +kernel
theorem dX0_improve_1 : decode cX0_improve 1 = .ok (.istore_n 2, 1) := by decide +kernel
theorem dX0_improve_2 : decode cX0_improve 2 = .ok (.iload_n 2, 1) := by decide +kernel
theorem dX0_improve_3 : decode cX0_improve 3 = .ok (.bipush 8, 2) := by decide +kernel
theorem dX0_improve_5 : decode cX0_improve 5 = .ok (.if_icmp .ge 28, 3) := by decide +kernel
theorem dX0_improve_8 : decode cX0_improve 8 = .ok (.aload_n 0, 1) := by decide +kernel
theorem dX0_improve_9 : decode cX0_improve 9 = .ok (.getfield 11, 3) := by decide +kernel
theorem dX0_improve_12 : decode cX0_improve 12 = .ok (.iload_n 2, 1) := by decide +kernel
theorem dX0_improve_13 : decode cX0_improve 13 = .ok (.aaload, 1) := by decide +kernel
theorem dX0_improve_14 : decode cX0_improve 14 = .ok (.iconst 0, 1) := by decide +kernel
theorem dX0_improve_15 : decode cX0_improve 15 = .ok (.aload_n 0, 1) := by decide +kernel
theorem dX0_improve_16 : decode cX0_improve 16 = .ok (.getfield 16, 3) := by decide +kernel
theorem dX0_improve_19 : decode cX0_improve 19 = .ok (.iload_n 2, 1) := by decide +kernel
theorem dX0_improve_20 : decode cX0_improve 20 = .ok (.aaload, 1) := by decide +kernel
theorem dX0_improve_21 : decode cX0_improve 21 = .ok (.iconst 0, 1) := by decide +kernel
theorem dX0_improve_22 : decode cX0_improve 22 = .ok (.bipush 8, 2) := by decide +kernel
theorem dX0_improve_24 : decode cX0_improve 24 = .ok (.invokestatic 110, 3) := by decide +kernel
theorem dX0_improve_27 : decode cX0_improve 27 = .ok (.iinc 2 1, 3) := by decide +kernel
theorem dX0_improve_30 : decode cX0_improve 30 = .ok (.goto (-28), 3) := by decide +kernel
theorem dX0_improve_33 : decode cX0_improve 33 = .ok (.iconst 0, 1) := by decide +kernel
theorem dX0_improve_34 : decode cX0_improve 34 = .ok (.istore_n 2, 1) := by decide +kernel
theorem dX0_improve_35 : decode cX0_improve 35 = .ok (.iload_n 2, 1) := by decide +kernel
theorem dX0_improve_36 : decode cX0_improve 36 = .ok (.bipush 8, 2) := by decide +kernel
theorem dX0_improve_38 : decode cX0_improve 38 = .ok (.if_icmp .ge 77, 3) := by decide +kernel
theorem dX0_improve_41 : decode cX0_improve 41 = .ok (.iconst 0, 1) := by decide +kernel
theorem dX0_improve_42 : decode cX0_improve 42 = .ok (.istore_n 3, 1) := by decide +kernel
theorem dX0_improve_43 : decode cX0_improve 43 = .ok (.iload_n 3, 1) := by decide +kernel
theorem dX0_improve_44 : decode cX0_improve 44 = .ok (.bipush 8, 2) := by decide +kernel
theorem dX0_improve_46 : decode cX0_improve 46 = .ok (.if_icmp .ge 63, 3) := by decide +kernel
theorem dX0_improve_49 : decode cX0_improve 49 = .ok (.aload_n 0, 1) := by decide +kernel
theorem dX0_improve_50 : decode cX0_improve 50 = .ok (.getfield 16, 3) := by decide +kernel
theorem dX0_improve_53 : decode cX0_improve 53 = .ok (.iload_n 2, 1) := by decide +kernel
theorem dX0_improve_54 : decode cX0_improve 54 = .ok (.aaload, 1) := by decide +kernel
theorem dX0_improve_55 : decode cX0_improve 55 = .ok (.iload_n 3, 1) := by decide +kernel
theorem dX0_improve_56 : decode cX0_improve 56 = .ok (.iaload, 1) := by decide +kernel
theorem dX0_improve_57 : decode cX0_improve 57 = .ok (.ifCond .le 46, 3) := by decide +kernel
theorem dX0_improve_60 : decode cX0_improve 60 = .ok (.aload_n 0, 1) := by decide +kernel
theorem dX0_improve_61 : decode cX0_improve 61 = .ok (.aload_n 1, 1) := by decide +kernel
theorem dX0_improve_62 : decode cX0_improve 62 = .ok (.iconst 0, 1) := by decide +kernel
theorem dX0_improve_63 : decode cX0_improve 63 = .ok (.iload_n 2, 1) := by decide +kernel
theorem dX0_improve_64 : decode cX0_improve 64 = .ok (.iload_n 3, 1) := by decide +kernel
theorem dX0_improve_65 : decode cX0_improve 65 = .ok (.invokevirtual 116, 3) := by decide +kernel
theorem dX0_improve_68 : decode cX0_improve 68 = .ok (.aload_n 0, 1) := by decide +kernel
theorem dX0_improve_69 : decode cX0_improve 69 = .ok (.aload_n 1, 1) := by decide +kernel
theorem dX0_improve_70 : decode cX0_improve 70 = .ok (.iconst 1, 1) := by decide +kernel
theorem dX0_improve_71 : decode cX0_improve 71 = .ok (.iload_n 3, 1) := by decide +kernel
theorem dX0_improve_72 : decode cX0_improve 72 = .ok (.iload_n 2, 1) := by decide +kernel
theorem dX0_improve_73 : decode cX0_improve 73 = .ok (.invokevirtual 116, 3) := by decide +kernel
theorem dX0_improve_76 : decode cX0_improve 76 = .ok (.iadd, 1) := by decide +kernel
theorem dX0_improve_77 : decode cX0_improve 77 = .ok (.istore 4, 2) := by decide +kernel
theorem dX0_improve_79 : decode cX0_improve 79 = .ok (.aload_n 0, 1) := by decide +kernel
theorem dX0_improve_80 : decode cX0_improve 80 = .ok (.getfield 11, 3) := by decide +kernel
theorem dX0_improve_83 : decode cX0_improve 83 = .ok (.iload_n 2, 1) := by decide +kernel
theorem dX0_improve_84 : decode cX0_improve 84 = .ok (.aaload, 1) := by decide +kernel
theorem dX0_improve_85 : decode cX0_improve 85 = .ok (.iload_n 3, 1) := by decide +kernel
theorem dX0_improve_86 : decode cX0_improve 86 = .ok (.aload_n 0, 1) := by decide +kernel
theorem dX0_improve_87 : decode cX0_improve 87 = .ok (.getfield 16, 3) := by decide +kernel
theorem dX0_improve_90 : decode cX0_improve 90 = .ok (.iload_n 2, 1) := by decide +kernel
theorem dX0_improve_91 : decode cX0_improve 91 = .ok (.aaload, 1) := by decide +kernel
theorem dX0_improve_92 : decode cX0_improve 92 = .ok (.iload_n 3, 1) := by decide +kernel
theorem dX0_improve_93 : decode cX0_improve 93 = .ok (.iaload, 1) := by decide +kernel
theorem dX0_improve_94 : decode cX0_improve 94 = .ok (.iconst 2, 1) := by decide +kernel
theorem dX0_improve_95 : decode cX0_improve 95 = .ok (.idiv, 1) := by decide +kernel
theorem dX0_improve_96 : decode cX0_improve 96 = .ok (.iload 4, 2) := by decide +kernel
theorem dX0_improve_98 : decode cX0_improve 98 = .ok (.bipush 8, 2) := by decide +kernel
theorem dX0_improve_100 : decode cX0_improve 100 = .ok (.idiv, 1) := by decide +kernel
theorem dX0_improve_101 : decode cX0_improve 101 = .ok (.iadd, 1) := by decide +kernel
theorem dX0_improve_102 : decode cX0_improve 102 = .ok (.iastore, 1) := by decide +kernel
theorem dX0_improve_103 : decode cX0_improve 103 = .ok (.iinc 3 1, 3) := by decide +kernel
theorem dX0_improve_106 : decode cX0_improve 106 = .ok (.goto (-63), 3) := by decide +kernel
theorem dX0_improve_109 : decode cX0_improve 109 = .ok (.iinc 2 1, 3) := by decide +kernel
theorem dX0_improve_112 : decode cX0_improve 112 = .ok (.goto (-77), 3) := by decide +kernel
theorem dX0_improve_115 : decode cX0_improve 115 = .ok (.return_, 1) := by decide +kernel
theorem dX0_support_0 : decode cX0_support 0 = .ok (.aload_n 1, 1) := by decide +kernel
theorem dX0_support_1 : decode cX0_support 1 = .ok (.iload_n 2, 1) := by decide +kernel
theorem dX0_support_2 : decode cX0_support 2 = .ok (.invokevirtual 66, 3) := by decide +kernel
theorem dX0_support_5 : decode cX0_support 5 = .ok (.astore 5, 2) := by decide +kernel
theorem dX0_support_7 : decode cX0_support 7 = .ok (.aload_n 1, 1) := by decide +kernel
theorem dX0_support_8 : decode cX0_support 8 = .ok (.iconst 1, 1) := by decide +kernel
theorem dX0_support_9 : decode cX0_support 9 = .ok (.iload_n 2, 1) := by decide +kernel
theorem dX0_support_10 : decode cX0_support 10 = .ok (.isub, 1) := by decide +kernel
theorem dX0_support_11 : decode cX0_support 11 = .ok (.invokevirtual 66, 3) := by decide +kernel
theorem dX0_support_14 : decode cX0_support 14 = .ok (.astore 6, 2) := by decide +kernel
theorem dX0_support_16 : decode cX0_support 16 = .ok (.iconst 0, 1) := by decide +kernel
theorem dX0_support_17 : decode cX0_support 17 = .ok (.istore 7, 2) := by decide +kernel
theorem dX0_support_19 : decode cX0_support 19 = .ok (.iconst 0, 1) := by decide +kernel
theorem dX0_support_20 : decode cX0_support 20 = .ok (.istore 8, 2) := by decide +kernel
theorem dX0_support_22 : decode cX0_support 22 = .ok (.iload 8, 2) := by decide +kernel
theorem dX0_support_24 : decode cX0_support 24 = .ok (.aload 5, 2) := by decide +kernel
theorem dX0_support_26 : decode cX0_support 26 = .ok (.invokevirtual 120, 3) := by decide +kernel
theorem dX0_support_29 : decode cX0_support 29 = .ok (.if_icmp .ge 99, 3) := by decide +kernel
theorem dX0_support_32 : decode cX0_support 32 = .ok (.aload 5, 2) := by decide +kernel
theorem dX0_support_34 : decode cX0_support 34 = .ok (.iload 8, 2) := by decide +kernel
theorem dX0_support_36 : decode cX0_support 36 = .ok (.iload_n 3, 1) := by decide +kernel
theorem dX0_support_37 : decode cX0_support 37 = .ok (.invokevirtual 123, 3) := by decide +kernel
theorem dX0_support_40 : decode cX0_support 40 = .ok (.istore 9, 2) := by decide +kernel
theorem dX0_support_42 : decode cX0_support 42 = .ok (.iconst 0, 1) := by decide +kernel
theorem dX0_support_43 : decode cX0_support 43 = .ok (.istore 10, 2) := by decide +kernel
theorem dX0_support_45 : decode cX0_support 45 = .ok (.iconst 0, 1) := by decide +kernel
theorem dX0_support_46 : decode cX0_support 46 = .ok (.istore 11, 2) := by decide +kernel
theorem dX0_support_48 : decode cX0_support 48 = .ok (.iload 9, 2) := by decide +kernel
theorem dX0_support_50 : decode cX0_support 50 = .ok (.iconst (-1), 1) := by decide +kernel
theorem dX0_support_51 : decode cX0_support 51 = .ok (.if_icmp .eq 64, 3) := by decide +kernel
theorem dX0_support_54 : decode cX0_support 54 = .ok (.iload 11, 2) := by decide +kernel
theorem dX0_support_56 : decode cX0_support 56 = .ok (.aload 6, 2) := by decide +kernel
theorem dX0_support_58 : decode cX0_support 58 = .ok (.invokevirtual 120, 3) := by decide +kernel
theorem dX0_support_61 : decode cX0_support 61 = .ok (.if_icmp .ge 54, 3) := by decide +kernel
theorem dX0_support_64 : decode cX0_support 64 = .ok (.aload 6, 2) := by decide +kernel
theorem dX0_support_66 : decode cX0_support 66 = .ok (.iload 11, 2) := by decide +kernel
theorem dX0_support_68 : decode cX0_support 68 = .ok (.iload 4, 2) := by decide +kernel
theorem dX0_support_70 : decode cX0_support 70 = .ok (.invokevirtual 123, 3) := by decide +kernel
theorem dX0_support_73 : decode cX0_support 73 = .ok (.istore 12, 2) := by decide +kernel
theorem dX0_support_75 : decode cX0_support 75 = .ok (.iload_n 2, 1) := by decide +kernel
theorem dX0_support_76 : decode cX0_support 76 = .ok (.ifCond .ne 14, 3) := by decide +kernel
theorem dX0_support_79 : decode cX0_support 79 = .ok (.aload_n 0, 1) := by decide +kernel
theorem dX0_support_80 : decode cX0_support 80 = .ok (.iload 9, 2) := by decide +kernel
theorem dX0_support_82 : decode cX0_support 82 = .ok (.iload 12, 2) := by decide +kernel
theorem dX0_support_84 : decode cX0_support 84 = .ok (.invokevirtual 126, 3) := by decide +kernel
theorem dX0_support_87 : decode cX0_support 87 = .ok (.goto 11, 3) := by decide +kernel
theorem dX0_support_90 : decode cX0_support 90 = .ok (.aload_n 0, 1) := by decide +kernel
theorem dX0_support_91 : decode cX0_support 91 = .ok (.iload 12, 2) := by decide +kernel
theorem dX0_support_93 : decode cX0_support 93 = .ok (.iload 9, 2) := by decide +kernel
theorem dX0_support_95 : decode cX0_support 95 = .ok (.invokevirtual 126, 3) := by decide +kernel
theorem dX0_support_98 : decode cX0_support 98 = .ok (.istore 13, 2) := by decide +kernel
theorem dX0_support_100 : decode cX0_support 100 = .ok (.iload 10, 2) := by decide +kernel
theorem dX0_support_102 : decode cX0_support 102 = .ok (.iload 13, 2) := by decide +kernel
theorem dX0_support_104 : decode cX0_support 104 = .ok (.invokestatic 107, 3) := by decide +kernel
theorem dX0_support_107 : decode cX0_support 107 = .ok (.istore 10, 2) := by decide +kernel
theorem dX0_support_109 : decode cX0_support 109 = .ok (.iinc 11 1, 3) := by decide +kernel
theorem dX0_support_112 : decode cX0_support 112 = .ok (.goto (-64), 3) := by decide +kernel
theorem dX0_support_115 : decode cX0_support 115 = .ok (.iload 7, 2) := by decide +kernel
theorem dX0_support_117 : decode cX0_support 117 = .ok (.iload 10, 2) := by decide +kernel
theorem dX0_support_119 : decode cX0_support 119 = .ok (.iadd, 1) := by decide +kernel
theorem dX0_support_120 : decode cX0_support 120 = .ok (.istore 7, 2) := by decide +kernel
theorem dX0_support_122 : decode cX0_support 122 = .ok (.iinc 8 1, 3) := by decide +kernel
theorem dX0_support_125 : decode cX0_support 125 = .ok (.goto (-103), 3) := by decide +kernel
theorem dX0_support_128 : decode cX0_support 128 = .ok (.iload 7, 2) := by decide +kernel
theorem dX0_support_130 : decode cX0_support 130 = .ok (.ireturn, 1) := by decide +kernel
theorem dX0_beliefBefore_0 : decode cX0_beliefBefore 0 = .ok (.iload_n 1, 1) := by decide +kernel
theorem dX0_beliefBefore_1 : decode cX0_beliefBefore 1 = .ok (.iload_n 2, 1) := by decide +kernel
theorem dX0_beliefBefore_2 : decode cX0_beliefBefore 2 = .ok (.invokestatic 54, 3) := by decide +kernel
theorem dX0_beliefBefore_5 : decode cX0_beliefBefore 5 = .ok (.ifCond .eq 14, 3) := by decide +kernel
theorem dX0_beliefBefore_8 : decode cX0_beliefBefore 8 = .ok (.aload_n 0, 1) := by decide +kernel
theorem dX0_beliefBefore_9 : decode cX0_beliefBefore 9 = .ok (.getfield 16, 3) := by decide +kernel
theorem dX0_beliefBefore_12 : decode cX0_beliefBefore 12 = .ok (.iload_n 1, 1) := by decide +kernel
theorem dX0_beliefBefore_13 : decode cX0_beliefBefore 13 = .ok (.aaload, 1) := by decide +kernel
theorem dX0_beliefBefore_14 : decode cX0_beliefBefore 14 = .ok (.iload_n 2, 1) := by decide +kernel
theorem dX0_beliefBefore_15 : decode cX0_beliefBefore 15 = .ok (.iaload, 1) := by decide +kernel
theorem dX0_beliefBefore_16 : decode cX0_beliefBefore 16 = .ok (.goto 4, 3) := by decide +kernel
theorem dX0_beliefBefore_19 : decode cX0_beliefBefore 19 = .ok (.iconst 0, 1) := by decide +kernel
theorem dX0_beliefBefore_20 : decode cX0_beliefBefore 20 = .ok (.ireturn, 1) := by decide +kernel
theorem dX0_pairUp_0 : decode cX0_pairUp 0 = .ok (.iconst 0, 1) := by decide +kernel
theorem dX0_pairUp_1 : decode cX0_pairUp 1 = .ok (.istore 4, 2) := by decide +kernel
theorem dX0_pairUp_3 : decode cX0_pairUp 3 = .ok (.iload 4, 2) := by decide +kernel
theorem dX0_pairUp_5 : decode cX0_pairUp 5 = .ok (.bipush 8, 2) := by decide +kernel
theorem dX0_pairUp_7 : decode cX0_pairUp 7 = .ok (.if_icmp .ge 19, 3) := by decide +kernel
theorem dX0_pairUp_10 : decode cX0_pairUp 10 = .ok (.aload_n 2, 1) := by decide +kernel
theorem dX0_pairUp_11 : decode cX0_pairUp 11 = .ok (.iload 4, 2) := by decide +kernel
theorem dX0_pairUp_13 : decode cX0_pairUp 13 = .ok (.iconst (-1), 1) := by decide +kernel
theorem dX0_pairUp_14 : decode cX0_pairUp 14 = .ok (.iastore, 1) := by decide +kernel
theorem dX0_pairUp_15 : decode cX0_pairUp 15 = .ok (.aload_n 3, 1) := by decide +kernel
theorem dX0_pairUp_16 : decode cX0_pairUp 16 = .ok (.iload 4, 2) := by decide +kernel
theorem dX0_pairUp_18 : decode cX0_pairUp 18 = .ok (.iconst (-1), 1) := by decide +kernel
theorem dX0_pairUp_19 : decode cX0_pairUp 19 = .ok (.iastore, 1) := by decide +kernel
theorem dX0_pairUp_20 : decode cX0_pairUp 20 = .ok (.iinc 4 1, 3) := by decide +kernel
theorem dX0_pairUp_23 : decode cX0_pairUp 23 = .ok (.goto (-20), 3) := by decide +kernel
theorem dX0_pairUp_26 : decode cX0_pairUp 26 = .ok (.iconst 0, 1) := by decide +kernel
theorem dX0_pairUp_27 : decode cX0_pairUp 27 = .ok (.istore 4, 2) := by decide +kernel
theorem dX0_pairUp_29 : decode cX0_pairUp 29 = .ok (.iload 4, 2) := by decide +kernel
theorem dX0_pairUp_31 : decode cX0_pairUp 31 = .ok (.bipush 8, 2) := by decide +kernel
theorem dX0_pairUp_33 : decode cX0_pairUp 33 = .ok (.if_icmp .ge 19, 3) := by decide +kernel
theorem dX0_pairUp_36 : decode cX0_pairUp 36 = .ok (.aload_n 0, 1) := by decide +kernel
theorem dX0_pairUp_37 : decode cX0_pairUp 37 = .ok (.iload_n 1, 1) := by decide +kernel
theorem dX0_pairUp_38 : decode cX0_pairUp 38 = .ok (.aload_n 2, 1) := by decide +kernel
theorem dX0_pairUp_39 : decode cX0_pairUp 39 = .ok (.aload_n 3, 1) := by decide +kernel
theorem dX0_pairUp_40 : decode cX0_pairUp 40 = .ok (.invokevirtual 129, 3) := by decide +kernel
theorem dX0_pairUp_43 : decode cX0_pairUp 43 = .ok (.ifCond .eq 9, 3) := by decide +kernel
theorem dX0_pairUp_46 : decode cX0_pairUp 46 = .ok (.iinc 4 1, 3) := by decide +kernel
theorem dX0_pairUp_49 : decode cX0_pairUp 49 = .ok (.goto (-20), 3) := by decide +kernel
theorem dX0_pairUp_52 : decode cX0_pairUp 52 = .ok (.iload 4, 2) := by decide +kernel
theorem dX0_pairUp_54 : decode cX0_pairUp 54 = .ok (.ireturn, 1) := by decide +kernel
theorem dX0_pairUpOne_0 : decode cX0_pairUpOne 0 = .ok (.iconst 0, 1) := by decide +kernel
theorem dX0_pairUpOne_1 : decode cX0_pairUpOne 1 = .ok (.istore 4, 2) := by decide +kernel
theorem dX0_pairUpOne_3 : decode cX0_pairUpOne 3 = .ok (.iconst 0, 1) := by decide +kernel
theorem dX0_pairUpOne_4 : decode cX0_pairUpOne 4 = .ok (.istore 5, 2) := by decide +kernel
theorem dX0_pairUpOne_6 : decode cX0_pairUpOne 6 = .ok (.iconst 0, 1) := by decide +kernel
theorem dX0_pairUpOne_7 : decode cX0_pairUpOne 7 = .ok (.istore 6, 2) := by decide +kernel
theorem dX0_pairUpOne_9 : decode cX0_pairUpOne 9 = .ok (.iconst 0, 1) := by decide +kernel
theorem dX0_pairUpOne_10 : decode cX0_pairUpOne 10 = .ok (.istore 7, 2) := by decide +kernel
theorem dX0_pairUpOne_12 : decode cX0_pairUpOne 12 = .ok (.iload 7, 2) := by decide +kernel
theorem dX0_pairUpOne_14 : decode cX0_pairUpOne 14 = .ok (.bipush 8, 2) := by decide +kernel
theorem dX0_pairUpOne_16 : decode cX0_pairUpOne 16 = .ok (.if_icmp .ge 102, 3) := by decide +kernel
theorem dX0_pairUpOne_19 : decode cX0_pairUpOne 19 = .ok (.iconst 0, 1) := by decide +kernel
theorem dX0_pairUpOne_20 : decode cX0_pairUpOne 20 = .ok (.istore 8, 2) := by decide +kernel
theorem dX0_pairUpOne_22 : decode cX0_pairUpOne 22 = .ok (.iload 8, 2) := by decide +kernel
theorem dX0_pairUpOne_24 : decode cX0_pairUpOne 24 = .ok (.bipush 8, 2) := by decide +kernel
theorem dX0_pairUpOne_26 : decode cX0_pairUpOne 26 = .ok (.if_icmp .ge 86, 3) := by decide +kernel
theorem dX0_pairUpOne_29 : decode cX0_pairUpOne 29 = .ok (.iload_n 1, 1) := by decide +kernel
theorem dX0_pairUpOne_30 : decode cX0_pairUpOne 30 = .ok (.ifCond .ne 8, 3) := by decide +kernel
theorem dX0_pairUpOne_33 : decode cX0_pairUpOne 33 = .ok (.iload 7, 2) := by decide +kernel
theorem dX0_pairUpOne_35 : decode cX0_pairUpOne 35 = .ok (.goto 5, 3) := by decide +kernel
theorem dX0_pairUpOne_38 : decode cX0_pairUpOne 38 = .ok (.iload 8, 2) := by decide +kernel
theorem dX0_pairUpOne_40 : decode cX0_pairUpOne 40 = .ok (.istore 9, 2) := by decide +kernel
theorem dX0_pairUpOne_42 : decode cX0_pairUpOne 42 = .ok (.iload_n 1, 1) := by decide +kernel
theorem dX0_pairUpOne_43 : decode cX0_pairUpOne 43 = .ok (.ifCond .ne 8, 3) := by decide +kernel
theorem dX0_pairUpOne_46 : decode cX0_pairUpOne 46 = .ok (.iload 8, 2) := by decide +kernel
theorem dX0_pairUpOne_48 : decode cX0_pairUpOne 48 = .ok (.goto 5, 3) := by decide +kernel
theorem dX0_pairUpOne_51 : decode cX0_pairUpOne 51 = .ok (.iload 7, 2) := by decide +kernel
theorem dX0_pairUpOne_53 : decode cX0_pairUpOne 53 = .ok (.istore 10, 2) := by decide +kernel
theorem dX0_pairUpOne_55 : decode cX0_pairUpOne 55 = .ok (.aload_n 2, 1) := by decide +kernel
theorem dX0_pairUpOne_56 : decode cX0_pairUpOne 56 = .ok (.iload 9, 2) := by decide +kernel
theorem dX0_pairUpOne_58 : decode cX0_pairUpOne 58 = .ok (.iaload, 1) := by decide +kernel
theorem dX0_pairUpOne_59 : decode cX0_pairUpOne 59 = .ok (.iconst (-1), 1) := by decide +kernel
theorem dX0_pairUpOne_60 : decode cX0_pairUpOne 60 = .ok (.if_icmp .ne 46, 3) := by decide +kernel
theorem dX0_pairUpOne_63 : decode cX0_pairUpOne 63 = .ok (.aload_n 3, 1) := by decide +kernel
theorem dX0_pairUpOne_64 : decode cX0_pairUpOne 64 = .ok (.iload 10, 2) := by decide +kernel
theorem dX0_pairUpOne_66 : decode cX0_pairUpOne 66 = .ok (.iaload, 1) := by decide +kernel
theorem dX0_pairUpOne_67 : decode cX0_pairUpOne 67 = .ok (.iconst (-1), 1) := by decide +kernel
theorem dX0_pairUpOne_68 : decode cX0_pairUpOne 68 = .ok (.if_icmp .ne 38, 3) := by decide +kernel
theorem dX0_pairUpOne_71 : decode cX0_pairUpOne 71 = .ok (.aload_n 0, 1) := by decide +kernel
theorem dX0_pairUpOne_72 : decode cX0_pairUpOne 72 = .ok (.getfield 11, 3) := by decide +kernel
theorem dX0_pairUpOne_75 : decode cX0_pairUpOne 75 = .ok (.iload 9, 2) := by decide +kernel
theorem dX0_pairUpOne_77 : decode cX0_pairUpOne 77 = .ok (.aaload, 1) := by decide +kernel
theorem dX0_pairUpOne_78 : decode cX0_pairUpOne 78 = .ok (.iload 10, 2) := by decide +kernel
theorem dX0_pairUpOne_80 : decode cX0_pairUpOne 80 = .ok (.iaload, 1) := by decide +kernel
theorem dX0_pairUpOne_81 : decode cX0_pairUpOne 81 = .ok (.iload 4, 2) := by decide +kernel
theorem dX0_pairUpOne_83 : decode cX0_pairUpOne 83 = .ok (.if_icmp .le 23, 3) := by decide +kernel
theorem dX0_pairUpOne_86 : decode cX0_pairUpOne 86 = .ok (.aload_n 0, 1) := by decide +kernel
theorem dX0_pairUpOne_87 : decode cX0_pairUpOne 87 = .ok (.getfield 11, 3) := by decide +kernel
theorem dX0_pairUpOne_90 : decode cX0_pairUpOne 90 = .ok (.iload 9, 2) := by decide +kernel
theorem dX0_pairUpOne_92 : decode cX0_pairUpOne 92 = .ok (.aaload, 1) := by decide +kernel
theorem dX0_pairUpOne_93 : decode cX0_pairUpOne 93 = .ok (.iload 10, 2) := by decide +kernel
theorem dX0_pairUpOne_95 : decode cX0_pairUpOne 95 = .ok (.iaload, 1) := by decide +kernel
theorem dX0_pairUpOne_96 : decode cX0_pairUpOne 96 = .ok (.istore 4, 2) := by decide +kernel
theorem dX0_pairUpOne_98 : decode cX0_pairUpOne 98 = .ok (.iload 9, 2) := by decide +kernel
theorem dX0_pairUpOne_100 : decode cX0_pairUpOne 100 = .ok (.istore 5, 2) := by decide +kernel
theorem dX0_pairUpOne_102 : decode cX0_pairUpOne 102 = .ok (.iload 10, 2) := by decide +kernel
theorem dX0_pairUpOne_104 : decode cX0_pairUpOne 104 = .ok (.istore 6, 2) := by decide +kernel
theorem dX0_pairUpOne_106 : decode cX0_pairUpOne 106 = .ok (.iinc 8 1, 3) := by decide +kernel
theorem dX0_pairUpOne_109 : decode cX0_pairUpOne 109 = .ok (.goto (-87), 3) := by decide +kernel
theorem dX0_pairUpOne_112 : decode cX0_pairUpOne 112 = .ok (.iinc 7 1, 3) := by decide +kernel
theorem dX0_pairUpOne_115 : decode cX0_pairUpOne 115 = .ok (.goto (-103), 3) := by decide +kernel
theorem dX0_pairUpOne_118 : decode cX0_pairUpOne 118 = .ok (.iload 4, 2) := by decide +kernel
theorem dX0_pairUpOne_120 : decode cX0_pairUpOne 120 = .ok (.ifCond .ne 5, 3) := by decide +kernel
theorem dX0_pairUpOne_123 : decode cX0_pairUpOne 123 = .ok (.iconst 0, 1) := by decide +kernel
theorem dX0_pairUpOne_124 : decode cX0_pairUpOne 124 = .ok (.ireturn, 1) := by decide +kernel
theorem dX0_pairUpOne_125 : decode cX0_pairUpOne 125 = .ok (.aload_n 2, 1) := by decide +kernel
theorem dX0_pairUpOne_126 : decode cX0_pairUpOne 126 = .ok (.iload 5, 2) := by decide +kernel
theorem dX0_pairUpOne_128 : decode cX0_pairUpOne 128 = .ok (.iload 6, 2) := by decide +kernel
theorem dX0_pairUpOne_130 : decode cX0_pairUpOne 130 = .ok (.iastore, 1) := by decide +kernel
theorem dX0_pairUpOne_131 : decode cX0_pairUpOne 131 = .ok (.aload_n 3, 1) := by decide +kernel
theorem dX0_pairUpOne_132 : decode cX0_pairUpOne 132 = .ok (.iload 6, 2) := by decide +kernel
theorem dX0_pairUpOne_134 : decode cX0_pairUpOne 134 = .ok (.iload 5, 2) := by decide +kernel
theorem dX0_pairUpOne_136 : decode cX0_pairUpOne 136 = .ok (.iastore, 1) := by decide +kernel
theorem dX0_pairUpOne_137 : decode cX0_pairUpOne 137 = .ok (.iconst 1, 1) := by decide +kernel
theorem dX0_pairUpOne_138 : decode cX0_pairUpOne 138 = .ok (.ireturn, 1) := by decide +kernel
theorem dX1_init_0 : decode cX1_init 0 = .ok (.aload_n 0, 1) := by decide +kernel
theorem dX1_init_1 : decode cX1_init 1 = .ok (.invokespecial 1, 3) := by decide +kernel
theorem dX1_init_4 : decode cX1_init 4 = .ok (.aload_n 0, 1) := by decide +kernel
theorem dX1_init_5 : decode cX1_init 5 = .ok (.iload_n 1, 1) := by decide +kernel
theorem dX1_init_6 : decode cX1_init 6 = .ok (.iconst 1, 1) := by decide +kernel
theorem dX1_init_7 : decode cX1_init 7 = .ok (.invokestatic 7, 3) := by decide +kernel
theorem dX1_init_10 : decode cX1_init 10 = .ok (.anewarray 13, 3) := by decide +kernel
theorem dX1_init_13 : decode cX1_init 13 = .ok (.putfield 15, 3) := by decide +kernel
theorem dX1_init_16 : decode cX1_init 16 = .ok (.iconst 0, 1) := by decide +kernel
theorem dX1_init_17 : decode cX1_init 17 = .ok (.istore_n 2, 1) := by decide +kernel
theorem dX1_init_18 : decode cX1_init 18 = .ok (.iload_n 2, 1) := by decide +kernel
theorem dX1_init_19 : decode cX1_init 19 = .ok (.aload_n 0, 1) := by decide +kernel
theorem dX1_init_20 : decode cX1_init 20 = .ok (.getfield 15, 3) := by decide +kernel
theorem dX1_init_23 : decode cX1_init 23 = .ok (.arraylength, 1) := by decide +kernel
theorem dX1_init_24 : decode cX1_init 24 = .ok (.if_icmp .ge 22, 3) := by decide +kernel
theorem dX1_init_27 : decode cX1_init 27 = .ok (.aload_n 0, 1) := by decide +kernel
theorem dX1_init_28 : decode cX1_init 28 = .ok (.getfield 15, 3) := by decide +kernel
theorem dX1_init_31 : decode cX1_init 31 = .ok (.iload_n 2, 1) := by decide +kernel
theorem dX1_init_32 : decode cX1_init 32 = .ok (.new 13, 3) := by decide +kernel
theorem dX1_init_35 : decode cX1_init 35 = .ok (.dup, 1) := by decide +kernel
theorem dX1_init_36 : decode cX1_init 36 = .ok (.invokespecial 21, 3) := by decide +kernel
theorem dX1_init_39 : decode cX1_init 39 = .ok (.aastore, 1) := by decide +kernel
theorem dX1_init_40 : decode cX1_init 40 = .ok (.iinc 2 1, 3) := by decide +kernel
theorem dX1_init_43 : decode cX1_init 43 = .ok (.goto (-25), 3) := by decide +kernel
theorem dX1_init_46 : decode cX1_init 46 = .ok (.return_, 1) := by decide +kernel
theorem dX1_height_0 : decode cX1_height 0 = .ok (.aload_n 0, 1) := by decide +kernel
theorem dX1_height_1 : decode cX1_height 1 = .ok (.getfield 22, 3) := by decide +kernel
theorem dX1_height_4 : decode cX1_height 4 = .ok (.ireturn, 1) := by decide +kernel
theorem dX1_clear_0 : decode cX1_clear 0 = .ok (.aload_n 0, 1) := by decide +kernel
theorem dX1_clear_1 : decode cX1_clear 1 = .ok (.iconst 0, 1) := by decide +kernel
theorem dX1_clear_2 : decode cX1_clear 2 = .ok (.putfield 22, 3) := by decide +kernel
theorem dX1_clear_5 : decode cX1_clear 5 = .ok (.return_, 1) := by decide +kernel
theorem dX1_push_0 : decode cX1_push 0 = .ok (.aload_n 0, 1) := by decide +kernel
theorem dX1_push_1 : decode cX1_push 1 = .ok (.getfield 22, 3) := by decide +kernel
theorem dX1_push_4 : decode cX1_push 4 = .ok (.aload_n 0, 1) := by decide +kernel
theorem dX1_push_5 : decode cX1_push 5 = .ok (.getfield 15, 3) := by decide +kernel
theorem dX1_push_8 : decode cX1_push 8 = .ok (.arraylength, 1) := by decide +kernel
theorem dX1_push_9 : decode cX1_push 9 = .ok (.if_icmp .lt 7, 3) := by decide +kernel
theorem dX1_push_12 : decode cX1_push 12 = .ok (.aload_n 0, 1) := by decide +kernel
theorem dX1_push_13 : decode cX1_push 13 = .ok (.invokevirtual 26, 3) := by decide +kernel
theorem dX1_push_16 : decode cX1_push 16 = .ok (.aload_n 0, 1) := by decide +kernel
theorem dX1_push_17 : decode cX1_push 17 = .ok (.getfield 15, 3) := by decide +kernel
theorem dX1_push_20 : decode cX1_push 20 = .ok (.aload_n 0, 1) := by decide +kernel
theorem dX1_push_21 : decode cX1_push 21 = .ok (.getfield 22, 3) := by decide +kernel
theorem dX1_push_24 : decode cX1_push 24 = .ok (.aaload, 1) := by decide +kernel
theorem dX1_push_25 : decode cX1_push 25 = .ok (.aload_n 1, 1) := by decide +kernel
theorem dX1_push_26 : decode cX1_push 26 = .ok (.invokevirtual 29, 3) := by decide +kernel
theorem dX1_push_29 : decode cX1_push 29 = .ok (.aload_n 0, 1) := by decide +kernel
theorem dX1_push_30 : decode cX1_push 30 = .ok (.dup, 1) := by decide +kernel
theorem dX1_push_31 : decode cX1_push 31 = .ok (.getfield 22, 3) := by decide +kernel
theorem dX1_push_34 : decode cX1_push 34 = .ok (.iconst 1, 1) := by decide +kernel
theorem dX1_push_35 : decode cX1_push 35 = .ok (.iadd, 1) := by decide +kernel
theorem dX1_push_36 : decode cX1_push 36 = .ok (.putfield 22, 3) := by decide +kernel
theorem dX1_push_39 : decode cX1_push 39 = .ok (.return_, 1) := by decide +kernel
theorem dX1_pop_0 : decode cX1_pop 0 = .ok (.aload_n 0, 1) := by decide +kernel
theorem dX1_pop_1 : decode cX1_pop 1 = .ok (.getfield 22, 3) := by decide +kernel
theorem dX1_pop_4 : decode cX1_pop 4 = .ok (.ifCond .gt 5, 3) := by decide +kernel
theorem dX1_pop_7 : decode cX1_pop 7 = .ok (.iconst 0, 1) := by decide +kernel
theorem dX1_pop_8 : decode cX1_pop 8 = .ok (.ireturn, 1) := by decide +kernel
theorem dX1_pop_9 : decode cX1_pop 9 = .ok (.aload_n 0, 1) := by decide +kernel
theorem dX1_pop_10 : decode cX1_pop 10 = .ok (.dup, 1) := by decide +kernel
theorem dX1_pop_11 : decode cX1_pop 11 = .ok (.getfield 22, 3) := by decide +kernel
theorem dX1_pop_14 : decode cX1_pop 14 = .ok (.iconst 1, 1) := by decide +kernel
theorem dX1_pop_15 : decode cX1_pop 15 = .ok (.isub, 1) := by decide +kernel
theorem dX1_pop_16 : decode cX1_pop 16 = .ok (.putfield 22, 3) := by decide +kernel
theorem dX1_pop_19 : decode cX1_pop 19 = .ok (.aload_n 1, 1) := by decide +kernel
theorem dX1_pop_20 : decode cX1_pop 20 = .ok (.aload_n 0, 1) := by decide +kernel
theorem dX1_pop_21 : decode cX1_pop 21 = .ok (.getfield 15, 3) := by decide +kernel
theorem dX1_pop_24 : decode cX1_pop 24 = .ok (.aload_n 0, 1) := by decide +kernel
theorem dX1_pop_25 : decode cX1_pop 25 = .ok (.getfield 22, 3) := by decide +kernel
theorem dX1_pop_28 : decode cX1_pop 28 = .ok (.aaload, 1) := by decide +kernel
theorem dX1_pop_29 : decode cX1_pop 29 = .ok (.invokevirtual 29, 3) := by decide +kernel
theorem dX1_pop_32 : decode cX1_pop 32 = .ok (.iconst 1, 1) := by decide +kernel
theorem dX1_pop_33 : decode cX1_pop 33 = .ok (.ireturn, 1) := by decide +kernel
theorem dX1_dropOldest_0 : decode cX1_dropOldest 0 = .ok (.aload_n 0, 1) := by decide +kernel
theorem dX1_dropOldest_1 : decode cX1_dropOldest 1 = .ok (.getfield 15, 3) := by decide +kernel
theorem dX1_dropOldest_4 : decode cX1_dropOldest 4 = .ok (.iconst 0, 1) := by decide +kernel
theorem dX1_dropOldest_5 : decode cX1_dropOldest 5 = .ok (.aaload, 1) := by decide +kernel
theorem dX1_dropOldest_6 : decode cX1_dropOldest 6 = .ok (.astore_n 1, 1) := by decide +kernel
theorem dX1_dropOldest_7 : decode cX1_dropOldest 7 = .ok (.iconst 1, 1) := by decide +kernel
theorem dX1_dropOldest_8 : decode cX1_dropOldest 8 = .ok (.istore_n 2, 1) := by decide +kernel
theorem dX1_dropOldest_9 : decode cX1_dropOldest 9 = .ok (.iload_n 2, 1) := by decide +kernel
theorem dX1_dropOldest_10 : decode cX1_dropOldest 10 = .ok (.aload_n 0, 1) := by decide +kernel
theorem dX1_dropOldest_11 : decode cX1_dropOldest 11 = .ok (.getfield 15, 3) := by decide +kernel
theorem dX1_dropOldest_14 : decode cX1_dropOldest 14 = .ok (.arraylength, 1) := by decide +kernel
theorem dX1_dropOldest_15 : decode cX1_dropOldest 15 = .ok (.if_icmp .ge 23, 3) := by decide +kernel
theorem dX1_dropOldest_18 : decode cX1_dropOldest 18 = .ok (.aload_n 0, 1) := by decide +kernel
theorem dX1_dropOldest_19 : decode cX1_dropOldest 19 = .ok (.getfield 15, 3) := by decide +kernel
theorem dX1_dropOldest_22 : decode cX1_dropOldest 22 = .ok (.iload_n 2, 1) := by decide +kernel
theorem dX1_dropOldest_23 : decode cX1_dropOldest 23 = .ok (.iconst 1, 1) := by decide +kernel
theorem dX1_dropOldest_24 : decode cX1_dropOldest 24 = .ok (.isub, 1) := by decide +kernel
theorem dX1_dropOldest_25 : decode cX1_dropOldest 25 = .ok (.aload_n 0, 1) := by decide +kernel
theorem dX1_dropOldest_26 : decode cX1_dropOldest 26 = .ok (.getfield 15, 3) := by decide +kernel
theorem dX1_dropOldest_29 : decode cX1_dropOldest 29 = .ok (.iload_n 2, 1) := by decide +kernel
theorem dX1_dropOldest_30 : decode cX1_dropOldest 30 = .ok (.aaload, 1) := by decide +kernel
theorem dX1_dropOldest_31 : decode cX1_dropOldest 31 = .ok (.aastore, 1) := by decide +kernel
theorem dX1_dropOldest_32 : decode cX1_dropOldest 32 = .ok (.iinc 2 1, 3) := by decide +kernel
theorem dX1_dropOldest_35 : decode cX1_dropOldest 35 = .ok (.goto (-26), 3) := by decide +kernel
theorem dX1_dropOldest_38 : decode cX1_dropOldest 38 = .ok (.aload_n 0, 1) := by decide +kernel
theorem dX1_dropOldest_39 : decode cX1_dropOldest 39 = .ok (.getfield 15, 3) := by decide +kernel
theorem dX1_dropOldest_42 : decode cX1_dropOldest 42 = .ok (.aload_n 0, 1) := by decide +kernel
theorem dX1_dropOldest_43 : decode cX1_dropOldest 43 = .ok (.getfield 15, 3) := by decide +kernel
theorem dX1_dropOldest_46 : decode cX1_dropOldest 46 = .ok (.arraylength, 1) := by decide +kernel
theorem dX1_dropOldest_47 : decode cX1_dropOldest 47 = .ok (.iconst 1, 1) := by decide +kernel
theorem dX1_dropOldest_48 : decode cX1_dropOldest 48 = .ok (.isub, 1) := by decide +kernel
theorem dX1_dropOldest_49 : decode cX1_dropOldest 49 = .ok (.aload_n 1, 1) := by decide +kernel
theorem dX1_dropOldest_50 : decode cX1_dropOldest 50 = .ok (.aastore, 1) := by decide +kernel
theorem dX1_dropOldest_51 : decode cX1_dropOldest 51 = .ok (.aload_n 0, 1) := by decide +kernel
theorem dX1_dropOldest_52 : decode cX1_dropOldest 52 = .ok (.aload_n 0, 1) := by decide +kernel
theorem dX1_dropOldest_53 : decode cX1_dropOldest 53 = .ok (.getfield 15, 3) := by decide +kernel
theorem dX1_dropOldest_56 : decode cX1_dropOldest 56 = .ok (.arraylength, 1) := by decide +kernel
theorem dX1_dropOldest_57 : decode cX1_dropOldest 57 = .ok (.iconst 1, 1) := by decide +kernel
theorem dX1_dropOldest_58 : decode cX1_dropOldest 58 = .ok (.isub, 1) := by decide +kernel
theorem dX1_dropOldest_59 : decode cX1_dropOldest 59 = .ok (.putfield 22, 3) := by decide +kernel
theorem dX1_dropOldest_62 : decode cX1_dropOldest 62 = .ok (.return_, 1) := by decide +kernel
theorem dX2_init_0 : decode cX2_init 0 = .ok (.aload_n 0, 1) := by decide +kernel
theorem dX2_init_1 : decode cX2_init 1 = .ok (.invokespecial 3, 3) := by decide +kernel
theorem dX2_init_4 : decode cX2_init 4 = .ok (.aload_n 0, 1) := by decide +kernel
theorem dX2_init_5 : decode cX2_init 5 = .ok (.iconst 3, 1) := by decide +kernel
theorem dX2_init_6 : decode cX2_init 6 = .ok (.newarray .int, 2) := by decide +kernel
theorem dX2_init_8 : decode cX2_init 8 = .ok (.putfield 9, 3) := by decide +kernel
theorem dX2_init_11 : decode cX2_init 11 = .ok (.return_, 1) := by decide +kernel
theorem dX2_read_0 : decode cX2_read 0 = .ok (.aload_n 2, 1) := by decide +kernel
theorem dX2_read_1 : decode cX2_read 1 = .ok (.invokevirtual 15, 3) := by decide +kernel
theorem dX2_read_4 : decode cX2_read 4 = .ok (.aload_n 0, 1) := by decide +kernel
theorem dX2_read_5 : decode cX2_read 5 = .ok (.iconst 0, 1) := by decide +kernel
theorem dX2_read_6 : decode cX2_read 6 = .ok (.putfield 20, 3) := by decide +kernel
theorem dX2_read_9 : decode cX2_read 9 = .ok (.iconst 0, 1) := by decide +kernel
theorem dX2_read_10 : decode cX2_read 10 = .ok (.istore_n 3, 1) := by decide +kernel
theorem dX2_read_11 : decode cX2_read 11 = .ok (.iload_n 3, 1) := by decide +kernel
theorem dX2_read_12 : decode cX2_read 12 = .ok (.sipush 200, 3) := by decide +kernel
theorem dX2_read_15 : decode cX2_read 15 = .ok (.if_icmp .ge 38, 3) := by decide +kernel
theorem dX2_read_18 : decode cX2_read 18 = .ok (.aload_n 0, 1) := by decide +kernel
theorem dX2_read_19 : decode cX2_read 19 = .ok (.getfield 20, 3) := by decide +kernel
theorem dX2_read_22 : decode cX2_read 22 = .ok (.aload_n 1, 1) := by decide +kernel
theorem dX2_read_23 : decode cX2_read 23 = .ok (.invokevirtual 24, 3) := by decide +kernel
theorem dX2_read_26 : decode cX2_read 26 = .ok (.if_icmp .ge 27, 3) := by decide +kernel
theorem dX2_read_29 : decode cX2_read 29 = .ok (.aload_n 0, 1) := by decide +kernel
theorem dX2_read_30 : decode cX2_read 30 = .ok (.getfield 20, 3) := by decide +kernel
theorem dX2_read_33 : decode cX2_read 33 = .ok (.istore 4, 2) := by decide +kernel
theorem dX2_read_35 : decode cX2_read 35 = .ok (.aload_n 0, 1) := by decide +kernel
theorem dX2_read_36 : decode cX2_read 36 = .ok (.aload_n 1, 1) := by decide +kernel
theorem dX2_read_37 : decode cX2_read 37 = .ok (.aload_n 2, 1) := by decide +kernel
theorem dX2_read_38 : decode cX2_read 38 = .ok (.invokevirtual 30, 3) := by decide +kernel
theorem dX2_read_41 : decode cX2_read 41 = .ok (.ifCond .ne 6, 3) := by decide +kernel
theorem dX2_read_44 : decode cX2_read 44 = .ok (.iload 4, 2) := by decide +kernel
theorem dX2_read_46 : decode cX2_read 46 = .ok (.ireturn, 1) := by decide +kernel
theorem dX2_read_47 : decode cX2_read 47 = .ok (.iinc 3 1, 3) := by decide +kernel
theorem dX2_read_50 : decode cX2_read 50 = .ok (.goto (-39), 3) := by decide +kernel
theorem dX2_read_53 : decode cX2_read 53 = .ok (.bipush (-4), 2) := by decide +kernel
theorem dX2_read_55 : decode cX2_read 55 = .ok (.ireturn, 1) := by decide +kernel
theorem dX2_readItem_0 : decode cX2_readItem 0 = .ok (.aload_n 1, 1) := by decide +kernel
theorem dX2_readItem_1 : decode cX2_readItem 1 = .ok (.aload_n 0, 1) := by decide +kernel
theorem dX2_readItem_2 : decode cX2_readItem 2 = .ok (.getfield 20, 3) := by decide +kernel
theorem dX2_readItem_5 : decode cX2_readItem 5 = .ok (.invokevirtual 34, 3) := by decide +kernel
theorem dX2_readItem_8 : decode cX2_readItem 8 = .ok (.istore_n 3, 1) := by decide +kernel
theorem dX2_readItem_9 : decode cX2_readItem 9 = .ok (.iload_n 3, 1) := by decide +kernel
theorem dX2_readItem_10 : decode cX2_readItem 10 = .ok (.invokestatic 38, 3) := by decide +kernel
theorem dX2_readItem_13 : decode cX2_readItem 13 = .ok (.istore 4, 2) := by decide +kernel
theorem dX2_readItem_15 : decode cX2_readItem 15 = .ok (.aload_n 0, 1) := by decide +kernel
theorem dX2_readItem_16 : decode cX2_readItem 16 = .ok (.dup, 1) := by decide +kernel
theorem dX2_readItem_17 : decode cX2_readItem 17 = .ok (.getfield 20, 3) := by decide +kernel
theorem dX2_readItem_20 : decode cX2_readItem 20 = .ok (.iconst 1, 1) := by decide +kernel
theorem dX2_readItem_21 : decode cX2_readItem 21 = .ok (.iadd, 1) := by decide +kernel
theorem dX2_readItem_22 : decode cX2_readItem 22 = .ok (.putfield 20, 3) := by decide +kernel
theorem dX2_readItem_25 : decode cX2_readItem 25 = .ok (.iconst 0, 1) := by decide +kernel
theorem dX2_readItem_26 : decode cX2_readItem 26 = .ok (.istore 5, 2) := by decide +kernel
theorem dX2_readItem_28 : decode cX2_readItem 28 = .ok (.iload 5, 2) := by decide +kernel
theorem dX2_readItem_30 : decode cX2_readItem 30 = .ok (.iload 4, 2) := by decide +kernel
theorem dX2_readItem_32 : decode cX2_readItem 32 = .ok (.if_icmp .ge 73, 3) := by decide +kernel
theorem dX2_readItem_35 : decode cX2_readItem 35 = .ok (.aload_n 0, 1) := by decide +kernel
theorem dX2_readItem_36 : decode cX2_readItem 36 = .ok (.aload_n 1, 1) := by decide +kernel
theorem dX2_readItem_37 : decode cX2_readItem 37 = .ok (.invokevirtual 41, 3) := by decide +kernel
theorem dX2_readItem_40 : decode cX2_readItem 40 = .ok (.istore 6, 2) := by decide +kernel
theorem dX2_readItem_42 : decode cX2_readItem 42 = .ok (.iload 5, 2) := by decide +kernel
theorem dX2_readItem_44 : decode cX2_readItem 44 = .ok (.iload 4, 2) := by decide +kernel
theorem dX2_readItem_46 : decode cX2_readItem 46 = .ok (.iconst 1, 1) := by decide +kernel
theorem dX2_readItem_47 : decode cX2_readItem 47 = .ok (.isub, 1) := by decide +kernel
theorem dX2_readItem_48 : decode cX2_readItem 48 = .ok (.if_icmp .ne 8, 3) := by decide +kernel
theorem dX2_readItem_51 : decode cX2_readItem 51 = .ok (.bipush 59, 2) := by decide +kernel
theorem dX2_readItem_53 : decode cX2_readItem 53 = .ok (.goto 5, 3) := by decide +kernel
theorem dX2_readItem_56 : decode cX2_readItem 56 = .ok (.bipush 44, 2) := by decide +kernel
theorem dX2_readItem_58 : decode cX2_readItem 58 = .ok (.istore 7, 2) := by decide +kernel
theorem dX2_readItem_60 : decode cX2_readItem 60 = .ok (.iload 6, 2) := by decide +kernel
theorem dX2_readItem_62 : decode cX2_readItem 62 = .ok (.ifCond .lt 16, 3) := by decide +kernel
theorem dX2_readItem_65 : decode cX2_readItem 65 = .ok (.aload_n 1, 1) := by decide +kernel
theorem dX2_readItem_66 : decode cX2_readItem 66 = .ok (.aload_n 0, 1) := by decide +kernel
theorem dX2_readItem_67 : decode cX2_readItem 67 = .ok (.getfield 20, 3) := by decide +kernel
theorem dX2_readItem_70 : decode cX2_readItem 70 = .ok (.invokevirtual 34, 3) := by decide +kernel
theorem dX2_readItem_73 : decode cX2_readItem 73 = .ok (.iload 7, 2) := by decide +kernel
theorem dX2_readItem_75 : decode cX2_readItem 75 = .ok (.if_icmp .eq 5, 3) := by decide +kernel
theorem dX2_readItem_78 : decode cX2_readItem 78 = .ok (.iconst 0, 1) := by decide +kernel
theorem dX2_readItem_79 : decode cX2_readItem 79 = .ok (.ireturn, 1) := by decide +kernel
theorem dX2_readItem_80 : decode cX2_readItem 80 = .ok (.aload_n 0, 1) := by decide +kernel
theorem dX2_readItem_81 : decode cX2_readItem 81 = .ok (.getfield 9, 3) := by decide +kernel
theorem dX2_readItem_84 : decode cX2_readItem 84 = .ok (.iload 5, 2) := by decide +kernel
theorem dX2_readItem_86 : decode cX2_readItem 86 = .ok (.iload 6, 2) := by decide +kernel
theorem dX2_readItem_88 : decode cX2_readItem 88 = .ok (.iastore, 1) := by decide +kernel
theorem dX2_readItem_89 : decode cX2_readItem 89 = .ok (.aload_n 0, 1) := by decide +kernel
theorem dX2_readItem_90 : decode cX2_readItem 90 = .ok (.dup, 1) := by decide +kernel
theorem dX2_readItem_91 : decode cX2_readItem 91 = .ok (.getfield 20, 3) := by decide +kernel
theorem dX2_readItem_94 : decode cX2_readItem 94 = .ok (.iconst 1, 1) := by decide +kernel
theorem dX2_readItem_95 : decode cX2_readItem 95 = .ok (.iadd, 1) := by decide +kernel
theorem dX2_readItem_96 : decode cX2_readItem 96 = .ok (.putfield 20, 3) := by decide +kernel
theorem dX2_readItem_99 : decode cX2_readItem 99 = .ok (.iinc 5 1, 3) := by decide +kernel
theorem dX2_readItem_102 : decode cX2_readItem 102 = .ok (.goto (-74), 3) := by decide +kernel
theorem dX2_readItem_105 : decode cX2_readItem 105 = .ok (.aload_n 0, 1) := by decide +kernel
theorem dX2_readItem_106 : decode cX2_readItem 106 = .ok (.iload_n 3, 1) := by decide +kernel
theorem dX2_readItem_107 : decode cX2_readItem 107 = .ok (.aload_n 2, 1) := by decide +kernel
theorem dX2_readItem_108 : decode cX2_readItem 108 = .ok (.invokevirtual 45, 3) := by decide +kernel
theorem dX2_readItem_111 : decode cX2_readItem 111 = .ok (.ireturn, 1) := by decide +kernel
theorem dX2_numbersOf_0 : decode cX2_numbersOf 0 = .ok (.iload_n 0, 1) := by decide +kernel
theorem dX2_numbersOf_1 : decode cX2_numbersOf 1 = .ok (.tableswitch 99 97 116 #[97, 97, 99, 99, 99, 99, 99, 99, 99, 99, 99, 99, 99, 95, 99, 99, 99, 95, 97, 97], 95) := by decide +kernel
theorem dX2_numbersOf_96 : decode cX2_numbersOf 96 = .ok (.iconst 1, 1) := by decide +kernel
theorem dX2_numbersOf_97 : decode cX2_numbersOf 97 = .ok (.ireturn, 1) := by decide +kernel
theorem dX2_numbersOf_98 : decode cX2_numbersOf 98 = .ok (.iconst 3, 1) := by decide +kernel
theorem dX2_numbersOf_99 : decode cX2_numbersOf 99 = .ok (.ireturn, 1) := by decide +kernel
theorem dX2_numbersOf_100 : decode cX2_numbersOf 100 = .ok (.iconst 0, 1) := by decide +kernel
theorem dX2_numbersOf_101 : decode cX2_numbersOf 101 = .ok (.ireturn, 1) := by decide +kernel
theorem dX2_readNumber_0 : decode cX2_readNumber 0 = .ok (.iconst (-1), 1) := by decide +kernel
theorem dX2_readNumber_1 : decode cX2_readNumber 1 = .ok (.istore_n 2, 1) := by decide +kernel
theorem dX2_readNumber_2 : decode cX2_readNumber 2 = .ok (.iconst 0, 1) := by decide +kernel
theorem dX2_readNumber_3 : decode cX2_readNumber 3 = .ok (.istore_n 3, 1) := by decide +kernel
theorem dX2_readNumber_4 : decode cX2_readNumber 4 = .ok (.iload_n 3, 1) := by decide +kernel
theorem dX2_readNumber_5 : decode cX2_readNumber 5 = .ok (.iconst 2, 1) := by decide +kernel
theorem dX2_readNumber_6 : decode cX2_readNumber 6 = .ok (.if_icmp .ge 58, 3) := by decide +kernel
theorem dX2_readNumber_9 : decode cX2_readNumber 9 = .ok (.aload_n 1, 1) := by decide +kernel
theorem dX2_readNumber_10 : decode cX2_readNumber 10 = .ok (.aload_n 0, 1) := by decide +kernel
theorem dX2_readNumber_11 : decode cX2_readNumber 11 = .ok (.getfield 20, 3) := by decide +kernel
theorem dX2_readNumber_14 : decode cX2_readNumber 14 = .ok (.invokevirtual 34, 3) := by decide +kernel
theorem dX2_readNumber_17 : decode cX2_readNumber 17 = .ok (.istore 4, 2) := by decide +kernel
theorem dX2_readNumber_19 : decode cX2_readNumber 19 = .ok (.iload 4, 2) := by decide +kernel
theorem dX2_readNumber_21 : decode cX2_readNumber 21 = .ok (.bipush 48, 2) := by decide +kernel
theorem dX2_readNumber_23 : decode cX2_readNumber 23 = .ok (.bipush 57, 2) := by decide +kernel
theorem dX2_readNumber_25 : decode cX2_readNumber 25 = .ok (.invokestatic 49, 3) := by decide +kernel
theorem dX2_readNumber_28 : decode cX2_readNumber 28 = .ok (.ifCond .ne 5, 3) := by decide +kernel
theorem dX2_readNumber_31 : decode cX2_readNumber 31 = .ok (.iload_n 2, 1) := by decide +kernel
theorem dX2_readNumber_32 : decode cX2_readNumber 32 = .ok (.ireturn, 1) := by decide +kernel
theorem dX2_readNumber_33 : decode cX2_readNumber 33 = .ok (.iload_n 2, 1) := by decide +kernel
theorem dX2_readNumber_34 : decode cX2_readNumber 34 = .ok (.iconst 0, 1) := by decide +kernel
theorem dX2_readNumber_35 : decode cX2_readNumber 35 = .ok (.invokestatic 53, 3) := by decide +kernel
theorem dX2_readNumber_38 : decode cX2_readNumber 38 = .ok (.bipush 10, 2) := by decide +kernel
theorem dX2_readNumber_40 : decode cX2_readNumber 40 = .ok (.imul, 1) := by decide +kernel
theorem dX2_readNumber_41 : decode cX2_readNumber 41 = .ok (.iload 4, 2) := by decide +kernel
theorem dX2_readNumber_43 : decode cX2_readNumber 43 = .ok (.iadd, 1) := by decide +kernel
theorem dX2_readNumber_44 : decode cX2_readNumber 44 = .ok (.bipush 48, 2) := by decide +kernel
theorem dX2_readNumber_46 : decode cX2_readNumber 46 = .ok (.isub, 1) := by decide +kernel
theorem dX2_readNumber_47 : decode cX2_readNumber 47 = .ok (.istore_n 2, 1) := by decide +kernel
theorem dX2_readNumber_48 : decode cX2_readNumber 48 = .ok (.aload_n 0, 1) := by decide +kernel
theorem dX2_readNumber_49 : decode cX2_readNumber 49 = .ok (.dup, 1) := by decide +kernel
theorem dX2_readNumber_50 : decode cX2_readNumber 50 = .ok (.getfield 20, 3) := by decide +kernel
theorem dX2_readNumber_53 : decode cX2_readNumber 53 = .ok (.iconst 1, 1) := by decide +kernel
theorem dX2_readNumber_54 : decode cX2_readNumber 54 = .ok (.iadd, 1) := by decide +kernel
theorem dX2_readNumber_55 : decode cX2_readNumber 55 = .ok (.putfield 20, 3) := by decide +kernel
theorem dX2_readNumber_58 : decode cX2_readNumber 58 = .ok (.iinc 3 1, 3) := by decide +kernel
theorem dX2_readNumber_61 : decode cX2_readNumber 61 = .ok (.goto (-57), 3) := by decide +kernel
theorem dX2_readNumber_64 : decode cX2_readNumber 64 = .ok (.iload_n 2, 1) := by decide +kernel
theorem dX2_readNumber_65 : decode cX2_readNumber 65 = .ok (.ireturn, 1) := by decide +kernel
theorem dX2_take_0 : decode cX2_take 0 = .ok (.iload_n 1, 1) := by decide +kernel
theorem dX2_take_1 : decode cX2_take 1 = .ok (.tableswitch 225 97 116 #[117, 144, 225, 225, 225, 225, 225, 225, 225, 225, 225, 225, 225, 106, 225, 225, 225, 95, 171, 198], 95) := by decide +kernel
theorem dX2_take_96 : decode cX2_take 96 = .ok (.aload_n 2, 1) := by decide +kernel
theorem dX2_take_97 : decode cX2_take 97 = .ok (.aload_n 0, 1) := by decide +kernel
theorem dX2_take_98 : decode cX2_take 98 = .ok (.getfield 9, 3) := by decide +kernel
theorem dX2_take_101 : decode cX2_take 101 = .ok (.iconst 0, 1) := by decide +kernel
theorem dX2_take_102 : decode cX2_take 102 = .ok (.iaload, 1) := by decide +kernel
theorem dX2_take_103 : decode cX2_take 103 = .ok (.invokevirtual 59, 3) := by decide +kernel
theorem dX2_take_106 : decode cX2_take 106 = .ok (.ireturn, 1) := by decide +kernel
theorem dX2_take_107 : decode cX2_take 107 = .ok (.aload_n 2, 1) := by decide +kernel
theorem dX2_take_108 : decode cX2_take 108 = .ok (.aload_n 0, 1) := by decide +kernel
theorem dX2_take_109 : decode cX2_take 109 = .ok (.getfield 9, 3) := by decide +kernel
theorem dX2_take_112 : decode cX2_take 112 = .ok (.iconst 0, 1) := by decide +kernel
theorem dX2_take_113 : decode cX2_take 113 = .ok (.iaload, 1) := by decide +kernel
theorem dX2_take_114 : decode cX2_take 114 = .ok (.invokevirtual 63, 3) := by decide +kernel
theorem dX2_take_117 : decode cX2_take 117 = .ok (.ireturn, 1) := by decide +kernel
theorem dX2_take_118 : decode cX2_take 118 = .ok (.aload_n 2, 1) := by decide +kernel
theorem dX2_take_119 : decode cX2_take 119 = .ok (.iconst 0, 1) := by decide +kernel
theorem dX2_take_120 : decode cX2_take 120 = .ok (.invokevirtual 66, 3) := by decide +kernel
theorem dX2_take_123 : decode cX2_take 123 = .ok (.aload_n 0, 1) := by decide +kernel
theorem dX2_take_124 : decode cX2_take 124 = .ok (.getfield 9, 3) := by decide +kernel
theorem dX2_take_127 : decode cX2_take 127 = .ok (.iconst 0, 1) := by decide +kernel
theorem dX2_take_128 : decode cX2_take 128 = .ok (.iaload, 1) := by decide +kernel
theorem dX2_take_129 : decode cX2_take 129 = .ok (.aload_n 0, 1) := by decide +kernel
theorem dX2_take_130 : decode cX2_take 130 = .ok (.getfield 9, 3) := by decide +kernel
theorem dX2_take_133 : decode cX2_take 133 = .ok (.iconst 1, 1) := by decide +kernel
theorem dX2_take_134 : decode cX2_take 134 = .ok (.iaload, 1) := by decide +kernel
theorem dX2_take_135 : decode cX2_take 135 = .ok (.aload_n 0, 1) := by decide +kernel
theorem dX2_take_136 : decode cX2_take 136 = .ok (.getfield 9, 3) := by decide +kernel
theorem dX2_take_139 : decode cX2_take 139 = .ok (.iconst 2, 1) := by decide +kernel
theorem dX2_take_140 : decode cX2_take 140 = .ok (.iaload, 1) := by decide +kernel
theorem dX2_take_141 : decode cX2_take 141 = .ok (.invokevirtual 70, 3) := by decide +kernel
theorem dX2_take_144 : decode cX2_take 144 = .ok (.ireturn, 1) := by decide +kernel
theorem dX2_take_145 : decode cX2_take 145 = .ok (.aload_n 2, 1) := by decide +kernel
theorem dX2_take_146 : decode cX2_take 146 = .ok (.iconst 1, 1) := by decide +kernel
theorem dX2_take_147 : decode cX2_take 147 = .ok (.invokevirtual 66, 3) := by decide +kernel
theorem dX2_take_150 : decode cX2_take 150 = .ok (.aload_n 0, 1) := by decide +kernel
theorem dX2_take_151 : decode cX2_take 151 = .ok (.getfield 9, 3) := by decide +kernel
theorem dX2_take_154 : decode cX2_take 154 = .ok (.iconst 0, 1) := by decide +kernel
theorem dX2_take_155 : decode cX2_take 155 = .ok (.iaload, 1) := by decide +kernel
theorem dX2_take_156 : decode cX2_take 156 = .ok (.aload_n 0, 1) := by decide +kernel
theorem dX2_take_157 : decode cX2_take 157 = .ok (.getfield 9, 3) := by decide +kernel
theorem dX2_take_160 : decode cX2_take 160 = .ok (.iconst 1, 1) := by decide +kernel
theorem dX2_take_161 : decode cX2_take 161 = .ok (.iaload, 1) := by decide +kernel
theorem dX2_take_162 : decode cX2_take 162 = .ok (.aload_n 0, 1) := by decide +kernel
theorem dX2_take_163 : decode cX2_take 163 = .ok (.getfield 9, 3) := by decide +kernel
theorem dX2_take_166 : decode cX2_take 166 = .ok (.iconst 2, 1) := by decide +kernel
theorem dX2_take_167 : decode cX2_take 167 = .ok (.iaload, 1) := by decide +kernel
theorem dX2_take_168 : decode cX2_take 168 = .ok (.invokevirtual 70, 3) := by decide +kernel
theorem dX2_take_171 : decode cX2_take 171 = .ok (.ireturn, 1) := by decide +kernel
theorem dX2_take_172 : decode cX2_take 172 = .ok (.aload_n 2, 1) := by decide +kernel
theorem dX2_take_173 : decode cX2_take 173 = .ok (.iconst 0, 1) := by decide +kernel
theorem dX2_take_174 : decode cX2_take 174 = .ok (.invokevirtual 66, 3) := by decide +kernel
theorem dX2_take_177 : decode cX2_take 177 = .ok (.aload_n 0, 1) := by decide +kernel
theorem dX2_take_178 : decode cX2_take 178 = .ok (.getfield 9, 3) := by decide +kernel
theorem dX2_take_181 : decode cX2_take 181 = .ok (.iconst 0, 1) := by decide +kernel
theorem dX2_take_182 : decode cX2_take 182 = .ok (.iaload, 1) := by decide +kernel
theorem dX2_take_183 : decode cX2_take 183 = .ok (.aload_n 0, 1) := by decide +kernel
theorem dX2_take_184 : decode cX2_take 184 = .ok (.getfield 9, 3) := by decide +kernel
theorem dX2_take_187 : decode cX2_take 187 = .ok (.iconst 1, 1) := by decide +kernel
theorem dX2_take_188 : decode cX2_take 188 = .ok (.iaload, 1) := by decide +kernel
theorem dX2_take_189 : decode cX2_take 189 = .ok (.aload_n 0, 1) := by decide +kernel
theorem dX2_take_190 : decode cX2_take 190 = .ok (.getfield 9, 3) := by decide +kernel
theorem dX2_take_193 : decode cX2_take 193 = .ok (.iconst 2, 1) := by decide +kernel
theorem dX2_take_194 : decode cX2_take 194 = .ok (.iaload, 1) := by decide +kernel
theorem dX2_take_195 : decode cX2_take 195 = .ok (.invokevirtual 75, 3) := by decide +kernel
theorem dX2_take_198 : decode cX2_take 198 = .ok (.ireturn, 1) := by decide +kernel
theorem dX2_take_199 : decode cX2_take 199 = .ok (.aload_n 2, 1) := by decide +kernel
theorem dX2_take_200 : decode cX2_take 200 = .ok (.iconst 1, 1) := by decide +kernel
theorem dX2_take_201 : decode cX2_take 201 = .ok (.invokevirtual 66, 3) := by decide +kernel
theorem dX2_take_204 : decode cX2_take 204 = .ok (.aload_n 0, 1) := by decide +kernel
theorem dX2_take_205 : decode cX2_take 205 = .ok (.getfield 9, 3) := by decide +kernel
theorem dX2_take_208 : decode cX2_take 208 = .ok (.iconst 0, 1) := by decide +kernel
theorem dX2_take_209 : decode cX2_take 209 = .ok (.iaload, 1) := by decide +kernel
theorem dX2_take_210 : decode cX2_take 210 = .ok (.aload_n 0, 1) := by decide +kernel
theorem dX2_take_211 : decode cX2_take 211 = .ok (.getfield 9, 3) := by decide +kernel
theorem dX2_take_214 : decode cX2_take 214 = .ok (.iconst 1, 1) := by decide +kernel
theorem dX2_take_215 : decode cX2_take 215 = .ok (.iaload, 1) := by decide +kernel
theorem dX2_take_216 : decode cX2_take 216 = .ok (.aload_n 0, 1) := by decide +kernel
theorem dX2_take_217 : decode cX2_take 217 = .ok (.getfield 9, 3) := by decide +kernel
theorem dX2_take_220 : decode cX2_take 220 = .ok (.iconst 2, 1) := by decide +kernel
theorem dX2_take_221 : decode cX2_take 221 = .ok (.iaload, 1) := by decide +kernel
theorem dX2_take_222 : decode cX2_take 222 = .ok (.invokevirtual 75, 3) := by decide +kernel
theorem dX2_take_225 : decode cX2_take 225 = .ok (.ireturn, 1) := by decide +kernel
theorem dX2_take_226 : decode cX2_take 226 = .ok (.iconst 0, 1) := by decide +kernel
theorem dX2_take_227 : decode cX2_take 227 = .ok (.ireturn, 1) := by decide +kernel
theorem dX3_init_0 : decode cX3_init 0 = .ok (.aload_n 0, 1) := by decide +kernel
theorem dX3_init_1 : decode cX3_init 1 = .ok (.invokespecial 3, 3) := by decide +kernel
theorem dX3_init_4 : decode cX3_init 4 = .ok (.aload_n 0, 1) := by decide +kernel
theorem dX3_init_5 : decode cX3_init 5 = .ok (.bipush 12, 2) := by decide +kernel
theorem dX3_init_7 : decode cX3_init 7 = .ok (.newarray .int, 2) := by decide +kernel
theorem dX3_init_9 : decode cX3_init 9 = .ok (.putfield 9, 3) := by decide +kernel
theorem dX3_init_12 : decode cX3_init 12 = .ok (.aload_n 0, 1) := by decide +kernel
theorem dX3_init_13 : decode cX3_init 13 = .ok (.invokevirtual 15, 3) := by decide +kernel
theorem dX3_init_16 : decode cX3_init 16 = .ok (.return_, 1) := by decide +kernel
theorem dX3_clear_0 : decode cX3_clear 0 = .ok (.iconst 0, 1) := by decide +kernel
theorem dX3_clear_1 : decode cX3_clear 1 = .ok (.istore_n 1, 1) := by decide +kernel
theorem dX3_clear_2 : decode cX3_clear 2 = .ok (.iload_n 1, 1) := by decide +kernel
theorem dX3_clear_3 : decode cX3_clear 3 = .ok (.aload_n 0, 1) := by decide +kernel
theorem dX3_clear_4 : decode cX3_clear 4 = .ok (.getfield 9, 3) := by decide +kernel
theorem dX3_clear_7 : decode cX3_clear 7 = .ok (.arraylength, 1) := by decide +kernel
theorem dX3_clear_8 : decode cX3_clear 8 = .ok (.if_icmp .ge 17, 3) := by decide +kernel
theorem dX3_clear_11 : decode cX3_clear 11 = .ok (.aload_n 0, 1) := by decide +kernel
theorem dX3_clear_12 : decode cX3_clear 12 = .ok (.getfield 9, 3) := by decide +kernel
theorem dX3_clear_15 : decode cX3_clear 15 = .ok (.iload_n 1, 1) := by decide +kernel
theorem dX3_clear_16 : decode cX3_clear 16 = .ok (.bipush (-4), 2) := by decide +kernel
theorem dX3_clear_18 : decode cX3_clear 18 = .ok (.iastore, 1) := by decide +kernel
theorem dX3_clear_19 : decode cX3_clear 19 = .ok (.iinc 1 1, 3) := by decide +kernel
theorem dX3_clear_22 : decode cX3_clear 22 = .ok (.goto (-20), 3) := by decide +kernel
theorem dX3_clear_25 : decode cX3_clear 25 = .ok (.return_, 1) := by decide +kernel
theorem dX3_hasPlace_0 : decode cX3_hasPlace 0 = .ok (.iload_n 1, 1) := by decide +kernel
theorem dX3_hasPlace_1 : decode cX3_hasPlace 1 = .ok (.iconst 0, 1) := by decide +kernel
theorem dX3_hasPlace_2 : decode cX3_hasPlace 2 = .ok (.iconst 2, 1) := by decide +kernel
theorem dX3_hasPlace_3 : decode cX3_hasPlace 3 = .ok (.invokestatic 18, 3) := by decide +kernel
theorem dX3_hasPlace_6 : decode cX3_hasPlace 6 = .ok (.ifCond .eq 16, 3) := by decide +kernel
theorem dX3_hasPlace_9 : decode cX3_hasPlace 9 = .ok (.iload_n 2, 1) := by decide +kernel
theorem dX3_hasPlace_10 : decode cX3_hasPlace 10 = .ok (.iconst 0, 1) := by decide +kernel
theorem dX3_hasPlace_11 : decode cX3_hasPlace 11 = .ok (.iconst 3, 1) := by decide +kernel
theorem dX3_hasPlace_12 : decode cX3_hasPlace 12 = .ok (.invokestatic 18, 3) := by decide +kernel
theorem dX3_hasPlace_15 : decode cX3_hasPlace 15 = .ok (.ifCond .eq 7, 3) := by decide +kernel
theorem dX3_hasPlace_18 : decode cX3_hasPlace 18 = .ok (.iconst 1, 1) := by decide +kernel
theorem dX3_hasPlace_19 : decode cX3_hasPlace 19 = .ok (.goto 4, 3) := by decide +kernel
theorem dX3_hasPlace_22 : decode cX3_hasPlace 22 = .ok (.iconst 0, 1) := by decide +kernel
theorem dX3_hasPlace_23 : decode cX3_hasPlace 23 = .ok (.ireturn, 1) := by decide +kernel
theorem dX3_takes_0 : decode cX3_takes 0 = .ok (.iload_n 1, 1) := by decide +kernel
theorem dX3_takes_1 : decode cX3_takes 1 = .ok (.bipush 8, 2) := by decide +kernel
theorem dX3_takes_3 : decode cX3_takes 3 = .ok (.if_icmp .lt 7, 3) := by decide +kernel
theorem dX3_takes_6 : decode cX3_takes 6 = .ok (.iconst 1, 1) := by decide +kernel
theorem dX3_takes_7 : decode cX3_takes 7 = .ok (.goto 4, 3) := by decide +kernel
theorem dX3_takes_10 : decode cX3_takes 10 = .ok (.iconst 0, 1) := by decide +kernel
theorem dX3_takes_11 : decode cX3_takes 11 = .ok (.istore_n 2, 1) := by decide +kernel
theorem dX3_takes_12 : decode cX3_takes 12 = .ok (.iload_n 0, 1) := by decide +kernel
theorem dX3_takes_13 : decode cX3_takes 13 = .ok (.iconst 2, 1) := by decide +kernel
theorem dX3_takes_14 : decode cX3_takes 14 = .ok (.if_icmp .eq 17, 3) := by decide +kernel
theorem dX3_takes_17 : decode cX3_takes 17 = .ok (.iload_n 2, 1) := by decide +kernel
theorem dX3_takes_18 : decode cX3_takes 18 = .ok (.iload_n 0, 1) := by decide +kernel
theorem dX3_takes_19 : decode cX3_takes 19 = .ok (.iconst 1, 1) := by decide +kernel
theorem dX3_takes_20 : decode cX3_takes 20 = .ok (.if_icmp .ne 7, 3) := by decide +kernel
theorem dX3_takes_23 : decode cX3_takes 23 = .ok (.iconst 1, 1) := by decide +kernel
theorem dX3_takes_24 : decode cX3_takes 24 = .ok (.goto 4, 3) := by decide +kernel
theorem dX3_takes_27 : decode cX3_takes 27 = .ok (.iconst 0, 1) := by decide +kernel
theorem dX3_takes_28 : decode cX3_takes 28 = .ok (.if_icmp .ne 7, 3) := by decide +kernel
theorem dX3_takes_31 : decode cX3_takes 31 = .ok (.iconst 1, 1) := by decide +kernel
theorem dX3_takes_32 : decode cX3_takes 32 = .ok (.goto 4, 3) := by decide +kernel
theorem dX3_takes_35 : decode cX3_takes 35 = .ok (.iconst 0, 1) := by decide +kernel
theorem dX3_takes_36 : decode cX3_takes 36 = .ok (.ireturn, 1) := by decide +kernel
theorem dX3_put_0 : decode cX3_put 0 = .ok (.aload_n 0, 1) := by decide +kernel
theorem dX3_put_1 : decode cX3_put 1 = .ok (.iload_n 1, 1) := by decide +kernel
theorem dX3_put_2 : decode cX3_put 2 = .ok (.iload_n 2, 1) := by decide +kernel
theorem dX3_put_3 : decode cX3_put 3 = .ok (.invokevirtual 22, 3) := by decide +kernel
theorem dX3_put_6 : decode cX3_put 6 = .ok (.ifCond .eq 14, 3) := by decide +kernel
theorem dX3_put_9 : decode cX3_put 9 = .ok (.aload_n 0, 1) := by decide +kernel
theorem dX3_put_10 : decode cX3_put 10 = .ok (.getfield 9, 3) := by decide +kernel
theorem dX3_put_13 : decode cX3_put 13 = .ok (.iload_n 1, 1) := by decide +kernel
theorem dX3_put_14 : decode cX3_put 14 = .ok (.iconst 4, 1) := by decide +kernel
theorem dX3_put_15 : decode cX3_put 15 = .ok (.imul, 1) := by decide +kernel
theorem dX3_put_16 : decode cX3_put 16 = .ok (.iload_n 2, 1) := by decide +kernel
theorem dX3_put_17 : decode cX3_put 17 = .ok (.iadd, 1) := by decide +kernel
theorem dX3_put_18 : decode cX3_put 18 = .ok (.iload_n 3, 1) := by decide +kernel
theorem dX3_put_19 : decode cX3_put 19 = .ok (.iastore, 1) := by decide +kernel
theorem dX3_put_20 : decode cX3_put 20 = .ok (.return_, 1) := by decide +kernel
theorem dX3_thingAt_0 : decode cX3_thingAt 0 = .ok (.aload_n 0, 1) := by decide +kernel
theorem dX3_thingAt_1 : decode cX3_thingAt 1 = .ok (.iload_n 1, 1) := by decide +kernel
theorem dX3_thingAt_2 : decode cX3_thingAt 2 = .ok (.iload_n 2, 1) := by decide +kernel
theorem dX3_thingAt_3 : decode cX3_thingAt 3 = .ok (.invokevirtual 22, 3) := by decide +kernel
theorem dX3_thingAt_6 : decode cX3_thingAt 6 = .ok (.ifCond .eq 16, 3) := by decide +kernel
theorem dX3_thingAt_9 : decode cX3_thingAt 9 = .ok (.aload_n 0, 1) := by decide +kernel
theorem dX3_thingAt_10 : decode cX3_thingAt 10 = .ok (.getfield 9, 3) := by decide +kernel
theorem dX3_thingAt_13 : decode cX3_thingAt 13 = .ok (.iload_n 1, 1) := by decide +kernel
theorem dX3_thingAt_14 : decode cX3_thingAt 14 = .ok (.iconst 4, 1) := by decide +kernel
theorem dX3_thingAt_15 : decode cX3_thingAt 15 = .ok (.imul, 1) := by decide +kernel
theorem dX3_thingAt_16 : decode cX3_thingAt 16 = .ok (.iload_n 2, 1) := by decide +kernel
theorem dX3_thingAt_17 : decode cX3_thingAt 17 = .ok (.iadd, 1) := by decide +kernel
theorem dX3_thingAt_18 : decode cX3_thingAt 18 = .ok (.iaload, 1) := by decide +kernel
theorem dX3_thingAt_19 : decode cX3_thingAt 19 = .ok (.goto 5, 3) := by decide +kernel
theorem dX3_thingAt_22 : decode cX3_thingAt 22 = .ok (.bipush (-4), 2) := by decide +kernel
theorem dX3_thingAt_24 : decode cX3_thingAt 24 = .ok (.ireturn, 1) := by decide +kernel
theorem dX3_things_0 : decode cX3_things 0 = .ok (.iconst 0, 1) := by decide +kernel
theorem dX3_things_1 : decode cX3_things 1 = .ok (.istore_n 1, 1) := by decide +kernel
theorem dX3_things_2 : decode cX3_things 2 = .ok (.iconst 0, 1) := by decide +kernel
theorem dX3_things_3 : decode cX3_things 3 = .ok (.istore_n 2, 1) := by decide +kernel
theorem dX3_things_4 : decode cX3_things 4 = .ok (.iload_n 2, 1) := by decide +kernel
theorem dX3_things_5 : decode cX3_things 5 = .ok (.aload_n 0, 1) := by decide +kernel
theorem dX3_things_6 : decode cX3_things 6 = .ok (.getfield 9, 3) := by decide +kernel
theorem dX3_things_9 : decode cX3_things 9 = .ok (.arraylength, 1) := by decide +kernel
theorem dX3_things_10 : decode cX3_things 10 = .ok (.if_icmp .ge 23, 3) := by decide +kernel
theorem dX3_things_13 : decode cX3_things 13 = .ok (.aload_n 0, 1) := by decide +kernel
theorem dX3_things_14 : decode cX3_things 14 = .ok (.getfield 9, 3) := by decide +kernel
theorem dX3_things_17 : decode cX3_things 17 = .ok (.iload_n 2, 1) := by decide +kernel
theorem dX3_things_18 : decode cX3_things 18 = .ok (.iaload, 1) := by decide +kernel
theorem dX3_things_19 : decode cX3_things 19 = .ok (.bipush (-4), 2) := by decide +kernel
theorem dX3_things_21 : decode cX3_things 21 = .ok (.if_icmp .eq 6, 3) := by decide +kernel
theorem dX3_things_24 : decode cX3_things 24 = .ok (.iinc 1 1, 3) := by decide +kernel
theorem dX3_things_27 : decode cX3_things 27 = .ok (.iinc 2 1, 3) := by decide +kernel
theorem dX3_things_30 : decode cX3_things 30 = .ok (.goto (-26), 3) := by decide +kernel
theorem dX3_things_33 : decode cX3_things 33 = .ok (.iload_n 1, 1) := by decide +kernel
theorem dX3_things_34 : decode cX3_things 34 = .ok (.ireturn, 1) := by decide +kernel
theorem dX4_init_0 : decode cX4_init 0 = .ok (.aload_n 0, 1) := by decide +kernel
theorem dX4_init_1 : decode cX4_init 1 = .ok (.invokespecial 3, 3) := by decide +kernel
theorem dX4_init_4 : decode cX4_init 4 = .ok (.aload_n 0, 1) := by decide +kernel
theorem dX4_init_5 : decode cX4_init 5 = .ok (.bipush 8, 2) := by decide +kernel
theorem dX4_init_7 : decode cX4_init 7 = .ok (.newarray .int, 2) := by decide +kernel
theorem dX4_init_9 : decode cX4_init 9 = .ok (.putfield 9, 3) := by decide +kernel
theorem dX4_init_12 : decode cX4_init 12 = .ok (.aload_n 0, 1) := by decide +kernel
theorem dX4_init_13 : decode cX4_init 13 = .ok (.bipush 8, 2) := by decide +kernel
theorem dX4_init_15 : decode cX4_init 15 = .ok (.newarray .int, 2) := by decide +kernel
theorem dX4_init_17 : decode cX4_init 17 = .ok (.putfield 15, 3) := by decide +kernel
theorem dX4_init_20 : decode cX4_init 20 = .ok (.aload_n 0, 1) := by decide +kernel
theorem dX4_init_21 : decode cX4_init 21 = .ok (.bipush 8, 2) := by decide +kernel
theorem dX4_init_23 : decode cX4_init 23 = .ok (.newarray .int, 2) := by decide +kernel
theorem dX4_init_25 : decode cX4_init 25 = .ok (.putfield 18, 3) := by decide +kernel
theorem dX4_init_28 : decode cX4_init 28 = .ok (.aload_n 0, 1) := by decide +kernel
theorem dX4_init_29 : decode cX4_init 29 = .ok (.bipush 8, 2) := by decide +kernel
theorem dX4_init_31 : decode cX4_init 31 = .ok (.newarray .int, 2) := by decide +kernel
theorem dX4_init_33 : decode cX4_init 33 = .ok (.putfield 21, 3) := by decide +kernel
theorem dX4_init_36 : decode cX4_init 36 = .ok (.aload_n 0, 1) := by decide +kernel
theorem dX4_init_37 : decode cX4_init 37 = .ok (.bipush 8, 2) := by decide +kernel
theorem dX4_init_39 : decode cX4_init 39 = .ok (.newarray .int, 2) := by decide +kernel
theorem dX4_init_41 : decode cX4_init 41 = .ok (.putfield 24, 3) := by decide +kernel
theorem dX4_init_44 : decode cX4_init 44 = .ok (.aload_n 0, 1) := by decide +kernel
theorem dX4_init_45 : decode cX4_init 45 = .ok (.bipush 8, 2) := by decide +kernel
theorem dX4_init_47 : decode cX4_init 47 = .ok (.newarray .int, 2) := by decide +kernel
theorem dX4_init_49 : decode cX4_init 49 = .ok (.putfield 27, 3) := by decide +kernel
theorem dX4_init_52 : decode cX4_init 52 = .ok (.return_, 1) := by decide +kernel
theorem dX4_clear_0 : decode cX4_clear 0 = .ok (.aload_n 0, 1) := by decide +kernel
theorem dX4_clear_1 : decode cX4_clear 1 = .ok (.iconst 0, 1) := by decide +kernel
theorem dX4_clear_2 : decode cX4_clear 2 = .ok (.putfield 30, 3) := by decide +kernel
theorem dX4_clear_5 : decode cX4_clear 5 = .ok (.aload_n 0, 1) := by decide +kernel
theorem dX4_clear_6 : decode cX4_clear 6 = .ok (.iconst 0, 1) := by decide +kernel
theorem dX4_clear_7 : decode cX4_clear 7 = .ok (.putfield 34, 3) := by decide +kernel
theorem dX4_clear_10 : decode cX4_clear 10 = .ok (.return_, 1) := by decide +kernel
theorem dX4_copy_0 : decode cX4_copy 0 = .ok (.aload_n 1, 1) := by decide +kernel
theorem dX4_copy_1 : decode cX4_copy 1 = .ok (.getfield 9, 3) := by decide +kernel
theorem dX4_copy_4 : decode cX4_copy 4 = .ok (.iconst 0, 1) := by decide +kernel
theorem dX4_copy_5 : decode cX4_copy 5 = .ok (.aload_n 0, 1) := by decide +kernel
theorem dX4_copy_6 : decode cX4_copy 6 = .ok (.getfield 9, 3) := by decide +kernel
theorem dX4_copy_9 : decode cX4_copy 9 = .ok (.iconst 0, 1) := by decide +kernel
theorem dX4_copy_10 : decode cX4_copy 10 = .ok (.bipush 8, 2) := by decide +kernel
theorem dX4_copy_12 : decode cX4_copy 12 = .ok (.invokestatic 37, 3) := by decide +kernel
theorem dX4_copy_15 : decode cX4_copy 15 = .ok (.aload_n 1, 1) := by decide +kernel
theorem dX4_copy_16 : decode cX4_copy 16 = .ok (.getfield 15, 3) := by decide +kernel
theorem dX4_copy_19 : decode cX4_copy 19 = .ok (.iconst 0, 1) := by decide +kernel
theorem dX4_copy_20 : decode cX4_copy 20 = .ok (.aload_n 0, 1) := by decide +kernel
theorem dX4_copy_21 : decode cX4_copy 21 = .ok (.getfield 15, 3) := by decide +kernel
theorem dX4_copy_24 : decode cX4_copy 24 = .ok (.iconst 0, 1) := by decide +kernel
theorem dX4_copy_25 : decode cX4_copy 25 = .ok (.bipush 8, 2) := by decide +kernel
theorem dX4_copy_27 : decode cX4_copy 27 = .ok (.invokestatic 37, 3) := by decide +kernel
theorem dX4_copy_30 : decode cX4_copy 30 = .ok (.aload_n 1, 1) := by decide +kernel
theorem dX4_copy_31 : decode cX4_copy 31 = .ok (.getfield 18, 3) := by decide +kernel
theorem dX4_copy_34 : decode cX4_copy 34 = .ok (.iconst 0, 1) := by decide +kernel
theorem dX4_copy_35 : decode cX4_copy 35 = .ok (.aload_n 0, 1) := by decide +kernel
theorem dX4_copy_36 : decode cX4_copy 36 = .ok (.getfield 18, 3) := by decide +kernel
theorem dX4_copy_39 : decode cX4_copy 39 = .ok (.iconst 0, 1) := by decide +kernel
theorem dX4_copy_40 : decode cX4_copy 40 = .ok (.bipush 8, 2) := by decide +kernel
theorem dX4_copy_42 : decode cX4_copy 42 = .ok (.invokestatic 37, 3) := by decide +kernel
theorem dX4_copy_45 : decode cX4_copy 45 = .ok (.aload_n 1, 1) := by decide +kernel
theorem dX4_copy_46 : decode cX4_copy 46 = .ok (.getfield 21, 3) := by decide +kernel
theorem dX4_copy_49 : decode cX4_copy 49 = .ok (.iconst 0, 1) := by decide +kernel
theorem dX4_copy_50 : decode cX4_copy 50 = .ok (.aload_n 0, 1) := by decide +kernel
theorem dX4_copy_51 : decode cX4_copy 51 = .ok (.getfield 21, 3) := by decide +kernel
theorem dX4_copy_54 : decode cX4_copy 54 = .ok (.iconst 0, 1) := by decide +kernel
theorem dX4_copy_55 : decode cX4_copy 55 = .ok (.bipush 8, 2) := by decide +kernel
theorem dX4_copy_57 : decode cX4_copy 57 = .ok (.invokestatic 37, 3) := by decide +kernel
theorem dX4_copy_60 : decode cX4_copy 60 = .ok (.aload_n 1, 1) := by decide +kernel
theorem dX4_copy_61 : decode cX4_copy 61 = .ok (.getfield 24, 3) := by decide +kernel
theorem dX4_copy_64 : decode cX4_copy 64 = .ok (.iconst 0, 1) := by decide +kernel
theorem dX4_copy_65 : decode cX4_copy 65 = .ok (.aload_n 0, 1) := by decide +kernel
theorem dX4_copy_66 : decode cX4_copy 66 = .ok (.getfield 24, 3) := by decide +kernel
theorem dX4_copy_69 : decode cX4_copy 69 = .ok (.iconst 0, 1) := by decide +kernel
theorem dX4_copy_70 : decode cX4_copy 70 = .ok (.bipush 8, 2) := by decide +kernel
theorem dX4_copy_72 : decode cX4_copy 72 = .ok (.invokestatic 37, 3) := by decide +kernel
theorem dX4_copy_75 : decode cX4_copy 75 = .ok (.aload_n 1, 1) := by decide +kernel
theorem dX4_copy_76 : decode cX4_copy 76 = .ok (.getfield 27, 3) := by decide +kernel
theorem dX4_copy_79 : decode cX4_copy 79 = .ok (.iconst 0, 1) := by decide +kernel
theorem dX4_copy_80 : decode cX4_copy 80 = .ok (.aload_n 0, 1) := by decide +kernel
theorem dX4_copy_81 : decode cX4_copy 81 = .ok (.getfield 27, 3) := by decide +kernel
theorem dX4_copy_84 : decode cX4_copy 84 = .ok (.iconst 0, 1) := by decide +kernel
theorem dX4_copy_85 : decode cX4_copy 85 = .ok (.bipush 8, 2) := by decide +kernel
theorem dX4_copy_87 : decode cX4_copy 87 = .ok (.invokestatic 37, 3) := by decide +kernel
theorem dX4_copy_90 : decode cX4_copy 90 = .ok (.aload_n 0, 1) := by decide +kernel
theorem dX4_copy_91 : decode cX4_copy 91 = .ok (.aload_n 1, 1) := by decide +kernel
theorem dX4_copy_92 : decode cX4_copy 92 = .ok (.getfield 30, 3) := by decide +kernel
theorem dX4_copy_95 : decode cX4_copy 95 = .ok (.putfield 30, 3) := by decide +kernel
theorem dX4_copy_98 : decode cX4_copy 98 = .ok (.aload_n 0, 1) := by decide +kernel
theorem dX4_copy_99 : decode cX4_copy 99 = .ok (.aload_n 1, 1) := by decide +kernel
theorem dX4_copy_100 : decode cX4_copy 100 = .ok (.getfield 34, 3) := by decide +kernel
theorem dX4_copy_103 : decode cX4_copy 103 = .ok (.putfield 34, 3) := by decide +kernel
theorem dX4_copy_106 : decode cX4_copy 106 = .ok (.return_, 1) := by decide +kernel
theorem dX4_meetings_0 : decode cX4_meetings 0 = .ok (.aload_n 0, 1) := by decide +kernel
theorem dX4_meetings_1 : decode cX4_meetings 1 = .ok (.getfield 30, 3) := by decide +kernel
theorem dX4_meetings_4 : decode cX4_meetings 4 = .ok (.ireturn, 1) := by decide +kernel
theorem dX4_streets_0 : decode cX4_streets 0 = .ok (.aload_n 0, 1) := by decide +kernel
theorem dX4_streets_1 : decode cX4_streets 1 = .ok (.getfield 34, 3) := by decide +kernel
theorem dX4_streets_4 : decode cX4_streets 4 = .ok (.ireturn, 1) := by decide +kernel
theorem dX4_hasMeeting_0 : decode cX4_hasMeeting 0 = .ok (.iload_n 1, 1) := by decide +kernel
theorem dX4_hasMeeting_1 : decode cX4_hasMeeting 1 = .ok (.ifCond .lt 15, 3) := by decide +kernel
theorem dX4_hasMeeting_4 : decode cX4_hasMeeting 4 = .ok (.iload_n 1, 1) := by decide +kernel
theorem dX4_hasMeeting_5 : decode cX4_hasMeeting 5 = .ok (.aload_n 0, 1) := by decide +kernel
theorem dX4_hasMeeting_6 : decode cX4_hasMeeting 6 = .ok (.getfield 30, 3) := by decide +kernel
theorem dX4_hasMeeting_9 : decode cX4_hasMeeting 9 = .ok (.if_icmp .ge 7, 3) := by decide +kernel
theorem dX4_hasMeeting_12 : decode cX4_hasMeeting 12 = .ok (.iconst 1, 1) := by decide +kernel
theorem dX4_hasMeeting_13 : decode cX4_hasMeeting 13 = .ok (.goto 4, 3) := by decide +kernel
theorem dX4_hasMeeting_16 : decode cX4_hasMeeting 16 = .ok (.iconst 0, 1) := by decide +kernel
theorem dX4_hasMeeting_17 : decode cX4_hasMeeting 17 = .ok (.ireturn, 1) := by decide +kernel
theorem dX4_hasStreet_0 : decode cX4_hasStreet 0 = .ok (.iload_n 1, 1) := by decide +kernel
theorem dX4_hasStreet_1 : decode cX4_hasStreet 1 = .ok (.ifCond .lt 15, 3) := by decide +kernel
theorem dX4_hasStreet_4 : decode cX4_hasStreet 4 = .ok (.iload_n 1, 1) := by decide +kernel
theorem dX4_hasStreet_5 : decode cX4_hasStreet 5 = .ok (.aload_n 0, 1) := by decide +kernel
theorem dX4_hasStreet_6 : decode cX4_hasStreet 6 = .ok (.getfield 34, 3) := by decide +kernel
theorem dX4_hasStreet_9 : decode cX4_hasStreet 9 = .ok (.if_icmp .ge 7, 3) := by decide +kernel
theorem dX4_hasStreet_12 : decode cX4_hasStreet 12 = .ok (.iconst 1, 1) := by decide +kernel
theorem dX4_hasStreet_13 : decode cX4_hasStreet 13 = .ok (.goto 4, 3) := by decide +kernel
theorem dX4_hasStreet_16 : decode cX4_hasStreet 16 = .ok (.iconst 0, 1) := by decide +kernel
theorem dX4_hasStreet_17 : decode cX4_hasStreet 17 = .ok (.ireturn, 1) := by decide +kernel
theorem dX4_kindOf_0 : decode cX4_kindOf 0 = .ok (.aload_n 0, 1) := by decide +kernel
theorem dX4_kindOf_1 : decode cX4_kindOf 1 = .ok (.iload_n 1, 1) := by decide +kernel
theorem dX4_kindOf_2 : decode cX4_kindOf 2 = .ok (.invokevirtual 43, 3) := by decide +kernel
theorem dX4_kindOf_5 : decode cX4_kindOf 5 = .ok (.ifCond .eq 12, 3) := by decide +kernel
theorem dX4_kindOf_8 : decode cX4_kindOf 8 = .ok (.aload_n 0, 1) := by decide +kernel
theorem dX4_kindOf_9 : decode cX4_kindOf 9 = .ok (.getfield 9, 3) := by decide +kernel
theorem dX4_kindOf_12 : decode cX4_kindOf 12 = .ok (.iload_n 1, 1) := by decide +kernel
theorem dX4_kindOf_13 : decode cX4_kindOf 13 = .ok (.iaload, 1) := by decide +kernel
theorem dX4_kindOf_14 : decode cX4_kindOf 14 = .ok (.goto 4, 3) := by decide +kernel
theorem dX4_kindOf_17 : decode cX4_kindOf 17 = .ok (.iconst 0, 1) := by decide +kernel
theorem dX4_kindOf_18 : decode cX4_kindOf 18 = .ok (.ireturn, 1) := by decide +kernel
theorem dX4_xOf_0 : decode cX4_xOf 0 = .ok (.aload_n 0, 1) := by decide +kernel
theorem dX4_xOf_1 : decode cX4_xOf 1 = .ok (.iload_n 1, 1) := by decide +kernel
theorem dX4_xOf_2 : decode cX4_xOf 2 = .ok (.invokevirtual 43, 3) := by decide +kernel
theorem dX4_xOf_5 : decode cX4_xOf 5 = .ok (.ifCond .eq 12, 3) := by decide +kernel
theorem dX4_xOf_8 : decode cX4_xOf 8 = .ok (.aload_n 0, 1) := by decide +kernel
theorem dX4_xOf_9 : decode cX4_xOf 9 = .ok (.getfield 15, 3) := by decide +kernel
theorem dX4_xOf_12 : decode cX4_xOf 12 = .ok (.iload_n 1, 1) := by decide +kernel
theorem dX4_xOf_13 : decode cX4_xOf 13 = .ok (.iaload, 1) := by decide +kernel
theorem dX4_xOf_14 : decode cX4_xOf 14 = .ok (.goto 4, 3) := by decide +kernel
theorem dX4_xOf_17 : decode cX4_xOf 17 = .ok (.iconst 0, 1) := by decide +kernel
theorem dX4_xOf_18 : decode cX4_xOf 18 = .ok (.ireturn, 1) := by decide +kernel
theorem dX4_yOf_0 : decode cX4_yOf 0 = .ok (.aload_n 0, 1) := by decide +kernel
theorem dX4_yOf_1 : decode cX4_yOf 1 = .ok (.iload_n 1, 1) := by decide +kernel
theorem dX4_yOf_2 : decode cX4_yOf 2 = .ok (.invokevirtual 43, 3) := by decide +kernel
theorem dX4_yOf_5 : decode cX4_yOf 5 = .ok (.ifCond .eq 12, 3) := by decide +kernel
theorem dX4_yOf_8 : decode cX4_yOf 8 = .ok (.aload_n 0, 1) := by decide +kernel
theorem dX4_yOf_9 : decode cX4_yOf 9 = .ok (.getfield 18, 3) := by decide +kernel
theorem dX4_yOf_12 : decode cX4_yOf 12 = .ok (.iload_n 1, 1) := by decide +kernel
theorem dX4_yOf_13 : decode cX4_yOf 13 = .ok (.iaload, 1) := by decide +kernel
theorem dX4_yOf_14 : decode cX4_yOf 14 = .ok (.goto 4, 3) := by decide +kernel
theorem dX4_yOf_17 : decode cX4_yOf 17 = .ok (.iconst 0, 1) := by decide +kernel
theorem dX4_yOf_18 : decode cX4_yOf 18 = .ok (.ireturn, 1) := by decide +kernel
theorem dX4_startOf_0 : decode cX4_startOf 0 = .ok (.aload_n 0, 1) := by decide +kernel
theorem dX4_startOf_1 : decode cX4_startOf 1 = .ok (.iload_n 1, 1) := by decide +kernel
theorem dX4_startOf_2 : decode cX4_startOf 2 = .ok (.invokevirtual 47, 3) := by decide +kernel
theorem dX4_startOf_5 : decode cX4_startOf 5 = .ok (.ifCond .eq 12, 3) := by decide +kernel
theorem dX4_startOf_8 : decode cX4_startOf 8 = .ok (.aload_n 0, 1) := by decide +kernel
theorem dX4_startOf_9 : decode cX4_startOf 9 = .ok (.getfield 21, 3) := by decide +kernel
theorem dX4_startOf_12 : decode cX4_startOf 12 = .ok (.iload_n 1, 1) := by decide +kernel
theorem dX4_startOf_13 : decode cX4_startOf 13 = .ok (.iaload, 1) := by decide +kernel
theorem dX4_startOf_14 : decode cX4_startOf 14 = .ok (.goto 4, 3) := by decide +kernel
theorem dX4_startOf_17 : decode cX4_startOf 17 = .ok (.iconst 0, 1) := by decide +kernel
theorem dX4_startOf_18 : decode cX4_startOf 18 = .ok (.ireturn, 1) := by decide +kernel
theorem dX4_endOf_0 : decode cX4_endOf 0 = .ok (.aload_n 0, 1) := by decide +kernel
theorem dX4_endOf_1 : decode cX4_endOf 1 = .ok (.iload_n 1, 1) := by decide +kernel
theorem dX4_endOf_2 : decode cX4_endOf 2 = .ok (.invokevirtual 47, 3) := by decide +kernel
theorem dX4_endOf_5 : decode cX4_endOf 5 = .ok (.ifCond .eq 12, 3) := by decide +kernel
theorem dX4_endOf_8 : decode cX4_endOf 8 = .ok (.aload_n 0, 1) := by decide +kernel
theorem dX4_endOf_9 : decode cX4_endOf 9 = .ok (.getfield 24, 3) := by decide +kernel
theorem dX4_endOf_12 : decode cX4_endOf 12 = .ok (.iload_n 1, 1) := by decide +kernel
theorem dX4_endOf_13 : decode cX4_endOf 13 = .ok (.iaload, 1) := by decide +kernel
theorem dX4_endOf_14 : decode cX4_endOf 14 = .ok (.goto 4, 3) := by decide +kernel
theorem dX4_endOf_17 : decode cX4_endOf 17 = .ok (.iconst 0, 1) := by decide +kernel
theorem dX4_endOf_18 : decode cX4_endOf 18 = .ok (.ireturn, 1) := by decide +kernel
theorem dX4_nameOf_0 : decode cX4_nameOf 0 = .ok (.aload_n 0, 1) := by decide +kernel
theorem dX4_nameOf_1 : decode cX4_nameOf 1 = .ok (.iload_n 1, 1) := by decide +kernel
theorem dX4_nameOf_2 : decode cX4_nameOf 2 = .ok (.invokevirtual 47, 3) := by decide +kernel
theorem dX4_nameOf_5 : decode cX4_nameOf 5 = .ok (.ifCond .eq 12, 3) := by decide +kernel
theorem dX4_nameOf_8 : decode cX4_nameOf 8 = .ok (.aload_n 0, 1) := by decide +kernel
theorem dX4_nameOf_9 : decode cX4_nameOf 9 = .ok (.getfield 27, 3) := by decide +kernel
theorem dX4_nameOf_12 : decode cX4_nameOf 12 = .ok (.iload_n 1, 1) := by decide +kernel
theorem dX4_nameOf_13 : decode cX4_nameOf 13 = .ok (.iaload, 1) := by decide +kernel
theorem dX4_nameOf_14 : decode cX4_nameOf 14 = .ok (.goto 4, 3) := by decide +kernel
theorem dX4_nameOf_17 : decode cX4_nameOf 17 = .ok (.iconst 0, 1) := by decide +kernel
theorem dX4_nameOf_18 : decode cX4_nameOf 18 = .ok (.ireturn, 1) := by decide +kernel
theorem dX4_otherEnd_0 : decode cX4_otherEnd 0 = .ok (.aload_n 0, 1) := by decide +kernel
theorem dX4_otherEnd_1 : decode cX4_otherEnd 1 = .ok (.iload_n 1, 1) := by decide +kernel
theorem dX4_otherEnd_2 : decode cX4_otherEnd 2 = .ok (.invokevirtual 47, 3) := by decide +kernel
theorem dX4_otherEnd_5 : decode cX4_otherEnd 5 = .ok (.ifCond .ne 5, 3) := by decide +kernel
theorem dX4_otherEnd_8 : decode cX4_otherEnd 8 = .ok (.iconst (-1), 1) := by decide +kernel
theorem dX4_otherEnd_9 : decode cX4_otherEnd 9 = .ok (.ireturn, 1) := by decide +kernel
theorem dX4_otherEnd_10 : decode cX4_otherEnd 10 = .ok (.aload_n 0, 1) := by decide +kernel
theorem dX4_otherEnd_11 : decode cX4_otherEnd 11 = .ok (.getfield 21, 3) := by decide +kernel
theorem dX4_otherEnd_14 : decode cX4_otherEnd 14 = .ok (.iload_n 1, 1) := by decide +kernel
theorem dX4_otherEnd_15 : decode cX4_otherEnd 15 = .ok (.iaload, 1) := by decide +kernel
theorem dX4_otherEnd_16 : decode cX4_otherEnd 16 = .ok (.iload_n 2, 1) := by decide +kernel
theorem dX4_otherEnd_17 : decode cX4_otherEnd 17 = .ok (.if_icmp .ne 10, 3) := by decide +kernel
theorem dX4_otherEnd_20 : decode cX4_otherEnd 20 = .ok (.aload_n 0, 1) := by decide +kernel
theorem dX4_otherEnd_21 : decode cX4_otherEnd 21 = .ok (.getfield 24, 3) := by decide +kernel
theorem dX4_otherEnd_24 : decode cX4_otherEnd 24 = .ok (.iload_n 1, 1) := by decide +kernel
theorem dX4_otherEnd_25 : decode cX4_otherEnd 25 = .ok (.iaload, 1) := by decide +kernel
theorem dX4_otherEnd_26 : decode cX4_otherEnd 26 = .ok (.ireturn, 1) := by decide +kernel
theorem dX4_otherEnd_27 : decode cX4_otherEnd 27 = .ok (.aload_n 0, 1) := by decide +kernel
theorem dX4_otherEnd_28 : decode cX4_otherEnd 28 = .ok (.getfield 24, 3) := by decide +kernel
theorem dX4_otherEnd_31 : decode cX4_otherEnd 31 = .ok (.iload_n 1, 1) := by decide +kernel
theorem dX4_otherEnd_32 : decode cX4_otherEnd 32 = .ok (.iaload, 1) := by decide +kernel
theorem dX4_otherEnd_33 : decode cX4_otherEnd 33 = .ok (.iload_n 2, 1) := by decide +kernel
theorem dX4_otherEnd_34 : decode cX4_otherEnd 34 = .ok (.if_icmp .ne 12, 3) := by decide +kernel
theorem dX4_otherEnd_37 : decode cX4_otherEnd 37 = .ok (.aload_n 0, 1) := by decide +kernel
theorem dX4_otherEnd_38 : decode cX4_otherEnd 38 = .ok (.getfield 21, 3) := by decide +kernel
theorem dX4_otherEnd_41 : decode cX4_otherEnd 41 = .ok (.iload_n 1, 1) := by decide +kernel
theorem dX4_otherEnd_42 : decode cX4_otherEnd 42 = .ok (.iaload, 1) := by decide +kernel
theorem dX4_otherEnd_43 : decode cX4_otherEnd 43 = .ok (.goto 4, 3) := by decide +kernel
theorem dX4_otherEnd_46 : decode cX4_otherEnd 46 = .ok (.iconst (-1), 1) := by decide +kernel
theorem dX4_otherEnd_47 : decode cX4_otherEnd 47 = .ok (.ireturn, 1) := by decide +kernel
theorem dX4_streetsAt_0 : decode cX4_streetsAt 0 = .ok (.iconst 0, 1) := by decide +kernel
theorem dX4_streetsAt_1 : decode cX4_streetsAt 1 = .ok (.istore_n 2, 1) := by decide +kernel
theorem dX4_streetsAt_2 : decode cX4_streetsAt 2 = .ok (.iconst 0, 1) := by decide +kernel
theorem dX4_streetsAt_3 : decode cX4_streetsAt 3 = .ok (.istore_n 3, 1) := by decide +kernel
theorem dX4_streetsAt_4 : decode cX4_streetsAt 4 = .ok (.iload_n 3, 1) := by decide +kernel
theorem dX4_streetsAt_5 : decode cX4_streetsAt 5 = .ok (.aload_n 0, 1) := by decide +kernel
theorem dX4_streetsAt_6 : decode cX4_streetsAt 6 = .ok (.getfield 34, 3) := by decide +kernel
theorem dX4_streetsAt_9 : decode cX4_streetsAt 9 = .ok (.if_icmp .ge 22, 3) := by decide +kernel
theorem dX4_streetsAt_12 : decode cX4_streetsAt 12 = .ok (.aload_n 0, 1) := by decide +kernel
theorem dX4_streetsAt_13 : decode cX4_streetsAt 13 = .ok (.iload_n 3, 1) := by decide +kernel
theorem dX4_streetsAt_14 : decode cX4_streetsAt 14 = .ok (.iload_n 1, 1) := by decide +kernel
theorem dX4_streetsAt_15 : decode cX4_streetsAt 15 = .ok (.invokevirtual 50, 3) := by decide +kernel
theorem dX4_streetsAt_18 : decode cX4_streetsAt 18 = .ok (.iconst (-1), 1) := by decide +kernel
theorem dX4_streetsAt_19 : decode cX4_streetsAt 19 = .ok (.if_icmp .eq 6, 3) := by decide +kernel
theorem dX4_streetsAt_22 : decode cX4_streetsAt 22 = .ok (.iinc 2 1, 3) := by decide +kernel
theorem dX4_streetsAt_25 : decode cX4_streetsAt 25 = .ok (.iinc 3 1, 3) := by decide +kernel
theorem dX4_streetsAt_28 : decode cX4_streetsAt 28 = .ok (.goto (-24), 3) := by decide +kernel
theorem dX4_streetsAt_31 : decode cX4_streetsAt 31 = .ok (.iload_n 2, 1) := by decide +kernel
theorem dX4_streetsAt_32 : decode cX4_streetsAt 32 = .ok (.ireturn, 1) := by decide +kernel
theorem dX4_streetBetween_0 : decode cX4_streetBetween 0 = .ok (.iconst 0, 1) := by decide +kernel
theorem dX4_streetBetween_1 : decode cX4_streetBetween 1 = .ok (.istore_n 3, 1) := by decide +kernel
theorem dX4_streetBetween_2 : decode cX4_streetBetween 2 = .ok (.iload_n 3, 1) := by decide +kernel
theorem dX4_streetBetween_3 : decode cX4_streetBetween 3 = .ok (.aload_n 0, 1) := by decide +kernel
theorem dX4_streetBetween_4 : decode cX4_streetBetween 4 = .ok (.getfield 34, 3) := by decide +kernel
theorem dX4_streetBetween_7 : decode cX4_streetBetween 7 = .ok (.if_icmp .ge 75, 3) := by decide +kernel
theorem dX4_streetBetween_10 : decode cX4_streetBetween 10 = .ok (.aload_n 0, 1) := by decide +kernel
theorem dX4_streetBetween_11 : decode cX4_streetBetween 11 = .ok (.getfield 21, 3) := by decide +kernel
theorem dX4_streetBetween_14 : decode cX4_streetBetween 14 = .ok (.iload_n 3, 1) := by decide +kernel
theorem dX4_streetBetween_15 : decode cX4_streetBetween 15 = .ok (.iaload, 1) := by decide +kernel
theorem dX4_streetBetween_16 : decode cX4_streetBetween 16 = .ok (.iload_n 1, 1) := by decide +kernel
theorem dX4_streetBetween_17 : decode cX4_streetBetween 17 = .ok (.if_icmp .ne 17, 3) := by decide +kernel
theorem dX4_streetBetween_20 : decode cX4_streetBetween 20 = .ok (.aload_n 0, 1) := by decide +kernel
theorem dX4_streetBetween_21 : decode cX4_streetBetween 21 = .ok (.getfield 24, 3) := by decide +kernel
theorem dX4_streetBetween_24 : decode cX4_streetBetween 24 = .ok (.iload_n 3, 1) := by decide +kernel
theorem dX4_streetBetween_25 : decode cX4_streetBetween 25 = .ok (.iaload, 1) := by decide +kernel
theorem dX4_streetBetween_26 : decode cX4_streetBetween 26 = .ok (.iload_n 2, 1) := by decide +kernel
theorem dX4_streetBetween_27 : decode cX4_streetBetween 27 = .ok (.if_icmp .ne 7, 3) := by decide +kernel
theorem dX4_streetBetween_30 : decode cX4_streetBetween 30 = .ok (.iconst 1, 1) := by decide +kernel
theorem dX4_streetBetween_31 : decode cX4_streetBetween 31 = .ok (.goto 4, 3) := by decide +kernel
theorem dX4_streetBetween_34 : decode cX4_streetBetween 34 = .ok (.iconst 0, 1) := by decide +kernel
theorem dX4_streetBetween_35 : decode cX4_streetBetween 35 = .ok (.istore 4, 2) := by decide +kernel
theorem dX4_streetBetween_37 : decode cX4_streetBetween 37 = .ok (.aload_n 0, 1) := by decide +kernel
theorem dX4_streetBetween_38 : decode cX4_streetBetween 38 = .ok (.getfield 21, 3) := by decide +kernel
theorem dX4_streetBetween_41 : decode cX4_streetBetween 41 = .ok (.iload_n 3, 1) := by decide +kernel
theorem dX4_streetBetween_42 : decode cX4_streetBetween 42 = .ok (.iaload, 1) := by decide +kernel
theorem dX4_streetBetween_43 : decode cX4_streetBetween 43 = .ok (.iload_n 2, 1) := by decide +kernel
theorem dX4_streetBetween_44 : decode cX4_streetBetween 44 = .ok (.if_icmp .ne 17, 3) := by decide +kernel
theorem dX4_streetBetween_47 : decode cX4_streetBetween 47 = .ok (.aload_n 0, 1) := by decide +kernel
theorem dX4_streetBetween_48 : decode cX4_streetBetween 48 = .ok (.getfield 24, 3) := by decide +kernel
theorem dX4_streetBetween_51 : decode cX4_streetBetween 51 = .ok (.iload_n 3, 1) := by decide +kernel
theorem dX4_streetBetween_52 : decode cX4_streetBetween 52 = .ok (.iaload, 1) := by decide +kernel
theorem dX4_streetBetween_53 : decode cX4_streetBetween 53 = .ok (.iload_n 1, 1) := by decide +kernel
theorem dX4_streetBetween_54 : decode cX4_streetBetween 54 = .ok (.if_icmp .ne 7, 3) := by decide +kernel
theorem dX4_streetBetween_57 : decode cX4_streetBetween 57 = .ok (.iconst 1, 1) := by decide +kernel
theorem dX4_streetBetween_58 : decode cX4_streetBetween 58 = .ok (.goto 4, 3) := by decide +kernel
theorem dX4_streetBetween_61 : decode cX4_streetBetween 61 = .ok (.iconst 0, 1) := by decide +kernel
theorem dX4_streetBetween_62 : decode cX4_streetBetween 62 = .ok (.istore 5, 2) := by decide +kernel
theorem dX4_streetBetween_64 : decode cX4_streetBetween 64 = .ok (.iload 4, 2) := by decide +kernel
theorem dX4_streetBetween_66 : decode cX4_streetBetween 66 = .ok (.ifCond .ne 8, 3) := by decide +kernel
theorem dX4_streetBetween_69 : decode cX4_streetBetween 69 = .ok (.iload 5, 2) := by decide +kernel
theorem dX4_streetBetween_71 : decode cX4_streetBetween 71 = .ok (.ifCond .eq 5, 3) := by decide +kernel
theorem dX4_streetBetween_74 : decode cX4_streetBetween 74 = .ok (.iload_n 3, 1) := by decide +kernel
theorem dX4_streetBetween_75 : decode cX4_streetBetween 75 = .ok (.ireturn, 1) := by decide +kernel
theorem dX4_streetBetween_76 : decode cX4_streetBetween 76 = .ok (.iinc 3 1, 3) := by decide +kernel
theorem dX4_streetBetween_79 : decode cX4_streetBetween 79 = .ok (.goto (-77), 3) := by decide +kernel
theorem dX4_streetBetween_82 : decode cX4_streetBetween 82 = .ok (.iconst (-1), 1) := by decide +kernel
theorem dX4_streetBetween_83 : decode cX4_streetBetween 83 = .ok (.ireturn, 1) := by decide +kernel
theorem dX4_twiceArea_0 : decode cX4_twiceArea 0 = .ok (.aload_n 0, 1) := by decide +kernel
theorem dX4_twiceArea_1 : decode cX4_twiceArea 1 = .ok (.iload_n 2, 1) := by decide +kernel
theorem dX4_twiceArea_2 : decode cX4_twiceArea 2 = .ok (.invokevirtual 54, 3) := by decide +kernel
theorem dX4_twiceArea_5 : decode cX4_twiceArea 5 = .ok (.aload_n 0, 1) := by decide +kernel
theorem dX4_twiceArea_6 : decode cX4_twiceArea 6 = .ok (.iload_n 1, 1) := by decide +kernel
theorem dX4_twiceArea_7 : decode cX4_twiceArea 7 = .ok (.invokevirtual 54, 3) := by decide +kernel
theorem dX4_twiceArea_10 : decode cX4_twiceArea 10 = .ok (.isub, 1) := by decide +kernel
theorem dX4_twiceArea_11 : decode cX4_twiceArea 11 = .ok (.istore 4, 2) := by decide +kernel
theorem dX4_twiceArea_13 : decode cX4_twiceArea 13 = .ok (.aload_n 0, 1) := by decide +kernel
theorem dX4_twiceArea_14 : decode cX4_twiceArea 14 = .ok (.iload_n 2, 1) := by decide +kernel
theorem dX4_twiceArea_15 : decode cX4_twiceArea 15 = .ok (.invokevirtual 58, 3) := by decide +kernel
theorem dX4_twiceArea_18 : decode cX4_twiceArea 18 = .ok (.aload_n 0, 1) := by decide +kernel
theorem dX4_twiceArea_19 : decode cX4_twiceArea 19 = .ok (.iload_n 1, 1) := by decide +kernel
theorem dX4_twiceArea_20 : decode cX4_twiceArea 20 = .ok (.invokevirtual 58, 3) := by decide +kernel
theorem dX4_twiceArea_23 : decode cX4_twiceArea 23 = .ok (.isub, 1) := by decide +kernel
theorem dX4_twiceArea_24 : decode cX4_twiceArea 24 = .ok (.istore 5, 2) := by decide +kernel
theorem dX4_twiceArea_26 : decode cX4_twiceArea 26 = .ok (.aload_n 0, 1) := by decide +kernel
theorem dX4_twiceArea_27 : decode cX4_twiceArea 27 = .ok (.iload_n 3, 1) := by decide +kernel
theorem dX4_twiceArea_28 : decode cX4_twiceArea 28 = .ok (.invokevirtual 54, 3) := by decide +kernel
theorem dX4_twiceArea_31 : decode cX4_twiceArea 31 = .ok (.aload_n 0, 1) := by decide +kernel
theorem dX4_twiceArea_32 : decode cX4_twiceArea 32 = .ok (.iload_n 1, 1) := by decide +kernel
theorem dX4_twiceArea_33 : decode cX4_twiceArea 33 = .ok (.invokevirtual 54, 3) := by decide +kernel
theorem dX4_twiceArea_36 : decode cX4_twiceArea 36 = .ok (.isub, 1) := by decide +kernel
theorem dX4_twiceArea_37 : decode cX4_twiceArea 37 = .ok (.istore 6, 2) := by decide +kernel
theorem dX4_twiceArea_39 : decode cX4_twiceArea 39 = .ok (.aload_n 0, 1) := by decide +kernel
theorem dX4_twiceArea_40 : decode cX4_twiceArea 40 = .ok (.iload_n 3, 1) := by decide +kernel
theorem dX4_twiceArea_41 : decode cX4_twiceArea 41 = .ok (.invokevirtual 58, 3) := by decide +kernel
theorem dX4_twiceArea_44 : decode cX4_twiceArea 44 = .ok (.aload_n 0, 1) := by decide +kernel
theorem dX4_twiceArea_45 : decode cX4_twiceArea 45 = .ok (.iload_n 1, 1) := by decide +kernel
theorem dX4_twiceArea_46 : decode cX4_twiceArea 46 = .ok (.invokevirtual 58, 3) := by decide +kernel
theorem dX4_twiceArea_49 : decode cX4_twiceArea 49 = .ok (.isub, 1) := by decide +kernel
theorem dX4_twiceArea_50 : decode cX4_twiceArea 50 = .ok (.istore 7, 2) := by decide +kernel
theorem dX4_twiceArea_52 : decode cX4_twiceArea 52 = .ok (.iload 4, 2) := by decide +kernel
theorem dX4_twiceArea_54 : decode cX4_twiceArea 54 = .ok (.iload 7, 2) := by decide +kernel
theorem dX4_twiceArea_56 : decode cX4_twiceArea 56 = .ok (.imul, 1) := by decide +kernel
theorem dX4_twiceArea_57 : decode cX4_twiceArea 57 = .ok (.iload 5, 2) := by decide +kernel
theorem dX4_twiceArea_59 : decode cX4_twiceArea 59 = .ok (.iload 6, 2) := by decide +kernel
theorem dX4_twiceArea_61 : decode cX4_twiceArea 61 = .ok (.imul, 1) := by decide +kernel
theorem dX4_twiceArea_62 : decode cX4_twiceArea 62 = .ok (.isub, 1) := by decide +kernel
theorem dX4_twiceArea_63 : decode cX4_twiceArea 63 = .ok (.ireturn, 1) := by decide +kernel
theorem dX4_addMeeting_0 : decode cX4_addMeeting 0 = .ok (.aload_n 0, 1) := by decide +kernel
theorem dX4_addMeeting_1 : decode cX4_addMeeting 1 = .ok (.getfield 30, 3) := by decide +kernel
theorem dX4_addMeeting_4 : decode cX4_addMeeting 4 = .ok (.bipush 8, 2) := by decide +kernel
theorem dX4_addMeeting_6 : decode cX4_addMeeting 6 = .ok (.if_icmp .ge 12, 3) := by decide +kernel
theorem dX4_addMeeting_9 : decode cX4_addMeeting 9 = .ok (.iload_n 1, 1) := by decide +kernel
theorem dX4_addMeeting_10 : decode cX4_addMeeting 10 = .ok (.iconst 0, 1) := by decide +kernel
theorem dX4_addMeeting_11 : decode cX4_addMeeting 11 = .ok (.iconst 3, 1) := by decide +kernel
theorem dX4_addMeeting_12 : decode cX4_addMeeting 12 = .ok (.invokestatic 61, 3) := by decide +kernel
theorem dX4_addMeeting_15 : decode cX4_addMeeting 15 = .ok (.ifCond .ne 5, 3) := by decide +kernel
theorem dX4_addMeeting_18 : decode cX4_addMeeting 18 = .ok (.iconst 0, 1) := by decide +kernel
theorem dX4_addMeeting_19 : decode cX4_addMeeting 19 = .ok (.ireturn, 1) := by decide +kernel
theorem dX4_addMeeting_20 : decode cX4_addMeeting 20 = .ok (.iload_n 2, 1) := by decide +kernel
theorem dX4_addMeeting_21 : decode cX4_addMeeting 21 = .ok (.iconst 0, 1) := by decide +kernel
theorem dX4_addMeeting_22 : decode cX4_addMeeting 22 = .ok (.bipush 60, 2) := by decide +kernel
theorem dX4_addMeeting_24 : decode cX4_addMeeting 24 = .ok (.invokestatic 61, 3) := by decide +kernel
theorem dX4_addMeeting_27 : decode cX4_addMeeting 27 = .ok (.ifCond .eq 13, 3) := by decide +kernel
theorem dX4_addMeeting_30 : decode cX4_addMeeting 30 = .ok (.iload_n 3, 1) := by decide +kernel
theorem dX4_addMeeting_31 : decode cX4_addMeeting 31 = .ok (.iconst 0, 1) := by decide +kernel
theorem dX4_addMeeting_32 : decode cX4_addMeeting 32 = .ok (.bipush 60, 2) := by decide +kernel
theorem dX4_addMeeting_34 : decode cX4_addMeeting 34 = .ok (.invokestatic 61, 3) := by decide +kernel
theorem dX4_addMeeting_37 : decode cX4_addMeeting 37 = .ok (.ifCond .ne 5, 3) := by decide +kernel
theorem dX4_addMeeting_40 : decode cX4_addMeeting 40 = .ok (.iconst 0, 1) := by decide +kernel
theorem dX4_addMeeting_41 : decode cX4_addMeeting 41 = .ok (.ireturn, 1) := by decide +kernel
theorem dX4_addMeeting_42 : decode cX4_addMeeting 42 = .ok (.aload_n 0, 1) := by decide +kernel
theorem dX4_addMeeting_43 : decode cX4_addMeeting 43 = .ok (.getfield 9, 3) := by decide +kernel
theorem dX4_addMeeting_46 : decode cX4_addMeeting 46 = .ok (.aload_n 0, 1) := by decide +kernel
theorem dX4_addMeeting_47 : decode cX4_addMeeting 47 = .ok (.getfield 30, 3) := by decide +kernel
theorem dX4_addMeeting_50 : decode cX4_addMeeting 50 = .ok (.iload_n 1, 1) := by decide +kernel
theorem dX4_addMeeting_51 : decode cX4_addMeeting 51 = .ok (.iastore, 1) := by decide +kernel
theorem dX4_addMeeting_52 : decode cX4_addMeeting 52 = .ok (.aload_n 0, 1) := by decide +kernel
theorem dX4_addMeeting_53 : decode cX4_addMeeting 53 = .ok (.getfield 15, 3) := by decide +kernel
theorem dX4_addMeeting_56 : decode cX4_addMeeting 56 = .ok (.aload_n 0, 1) := by decide +kernel
theorem dX4_addMeeting_57 : decode cX4_addMeeting 57 = .ok (.getfield 30, 3) := by decide +kernel
theorem dX4_addMeeting_60 : decode cX4_addMeeting 60 = .ok (.iload_n 2, 1) := by decide +kernel
theorem dX4_addMeeting_61 : decode cX4_addMeeting 61 = .ok (.iastore, 1) := by decide +kernel
theorem dX4_addMeeting_62 : decode cX4_addMeeting 62 = .ok (.aload_n 0, 1) := by decide +kernel
theorem dX4_addMeeting_63 : decode cX4_addMeeting 63 = .ok (.getfield 18, 3) := by decide +kernel
theorem dX4_addMeeting_66 : decode cX4_addMeeting 66 = .ok (.aload_n 0, 1) := by decide +kernel
theorem dX4_addMeeting_67 : decode cX4_addMeeting 67 = .ok (.getfield 30, 3) := by decide +kernel
theorem dX4_addMeeting_70 : decode cX4_addMeeting 70 = .ok (.iload_n 3, 1) := by decide +kernel
theorem dX4_addMeeting_71 : decode cX4_addMeeting 71 = .ok (.iastore, 1) := by decide +kernel
theorem dX4_addMeeting_72 : decode cX4_addMeeting 72 = .ok (.aload_n 0, 1) := by decide +kernel
theorem dX4_addMeeting_73 : decode cX4_addMeeting 73 = .ok (.dup, 1) := by decide +kernel
theorem dX4_addMeeting_74 : decode cX4_addMeeting 74 = .ok (.getfield 30, 3) := by decide +kernel
theorem dX4_addMeeting_77 : decode cX4_addMeeting 77 = .ok (.iconst 1, 1) := by decide +kernel
theorem dX4_addMeeting_78 : decode cX4_addMeeting 78 = .ok (.iadd, 1) := by decide +kernel
theorem dX4_addMeeting_79 : decode cX4_addMeeting 79 = .ok (.putfield 30, 3) := by decide +kernel
theorem dX4_addMeeting_82 : decode cX4_addMeeting 82 = .ok (.iconst 1, 1) := by decide +kernel
theorem dX4_addMeeting_83 : decode cX4_addMeeting 83 = .ok (.ireturn, 1) := by decide +kernel
theorem dX4_addStreet_0 : decode cX4_addStreet 0 = .ok (.aload_n 0, 1) := by decide +kernel
theorem dX4_addStreet_1 : decode cX4_addStreet 1 = .ok (.getfield 34, 3) := by decide +kernel
theorem dX4_addStreet_4 : decode cX4_addStreet 4 = .ok (.bipush 8, 2) := by decide +kernel
theorem dX4_addStreet_6 : decode cX4_addStreet 6 = .ok (.if_icmp .ge 24, 3) := by decide +kernel
theorem dX4_addStreet_9 : decode cX4_addStreet 9 = .ok (.aload_n 0, 1) := by decide +kernel
theorem dX4_addStreet_10 : decode cX4_addStreet 10 = .ok (.iload_n 1, 1) := by decide +kernel
theorem dX4_addStreet_11 : decode cX4_addStreet 11 = .ok (.invokevirtual 43, 3) := by decide +kernel
theorem dX4_addStreet_14 : decode cX4_addStreet 14 = .ok (.ifCond .eq 16, 3) := by decide +kernel
theorem dX4_addStreet_17 : decode cX4_addStreet 17 = .ok (.aload_n 0, 1) := by decide +kernel
theorem dX4_addStreet_18 : decode cX4_addStreet 18 = .ok (.iload_n 2, 1) := by decide +kernel
theorem dX4_addStreet_19 : decode cX4_addStreet 19 = .ok (.invokevirtual 43, 3) := by decide +kernel
theorem dX4_addStreet_22 : decode cX4_addStreet 22 = .ok (.ifCond .eq 8, 3) := by decide +kernel
theorem dX4_addStreet_25 : decode cX4_addStreet 25 = .ok (.iload_n 1, 1) := by decide +kernel
theorem dX4_addStreet_26 : decode cX4_addStreet 26 = .ok (.iload_n 2, 1) := by decide +kernel
theorem dX4_addStreet_27 : decode cX4_addStreet 27 = .ok (.if_icmp .ne 5, 3) := by decide +kernel
theorem dX4_addStreet_30 : decode cX4_addStreet 30 = .ok (.iconst 0, 1) := by decide +kernel
theorem dX4_addStreet_31 : decode cX4_addStreet 31 = .ok (.ireturn, 1) := by decide +kernel
theorem dX4_addStreet_32 : decode cX4_addStreet 32 = .ok (.aload_n 0, 1) := by decide +kernel
theorem dX4_addStreet_33 : decode cX4_addStreet 33 = .ok (.iload_n 1, 1) := by decide +kernel
theorem dX4_addStreet_34 : decode cX4_addStreet 34 = .ok (.iload_n 2, 1) := by decide +kernel
theorem dX4_addStreet_35 : decode cX4_addStreet 35 = .ok (.invokevirtual 65, 3) := by decide +kernel
theorem dX4_addStreet_38 : decode cX4_addStreet 38 = .ok (.iconst (-1), 1) := by decide +kernel
theorem dX4_addStreet_39 : decode cX4_addStreet 39 = .ok (.if_icmp .ne 13, 3) := by decide +kernel
theorem dX4_addStreet_42 : decode cX4_addStreet 42 = .ok (.iload_n 3, 1) := by decide +kernel
theorem dX4_addStreet_43 : decode cX4_addStreet 43 = .ok (.iconst 0, 1) := by decide +kernel
theorem dX4_addStreet_44 : decode cX4_addStreet 44 = .ok (.bipush 9, 2) := by decide +kernel
theorem dX4_addStreet_46 : decode cX4_addStreet 46 = .ok (.invokestatic 61, 3) := by decide +kernel
theorem dX4_addStreet_49 : decode cX4_addStreet 49 = .ok (.ifCond .ne 5, 3) := by decide +kernel
theorem dX4_addStreet_52 : decode cX4_addStreet 52 = .ok (.iconst 0, 1) := by decide +kernel
theorem dX4_addStreet_53 : decode cX4_addStreet 53 = .ok (.ireturn, 1) := by decide +kernel
theorem dX4_addStreet_54 : decode cX4_addStreet 54 = .ok (.aload_n 0, 1) := by decide +kernel
theorem dX4_addStreet_55 : decode cX4_addStreet 55 = .ok (.getfield 21, 3) := by decide +kernel
theorem dX4_addStreet_58 : decode cX4_addStreet 58 = .ok (.aload_n 0, 1) := by decide +kernel
theorem dX4_addStreet_59 : decode cX4_addStreet 59 = .ok (.getfield 34, 3) := by decide +kernel
theorem dX4_addStreet_62 : decode cX4_addStreet 62 = .ok (.iload_n 1, 1) := by decide +kernel
theorem dX4_addStreet_63 : decode cX4_addStreet 63 = .ok (.iastore, 1) := by decide +kernel
theorem dX4_addStreet_64 : decode cX4_addStreet 64 = .ok (.aload_n 0, 1) := by decide +kernel
theorem dX4_addStreet_65 : decode cX4_addStreet 65 = .ok (.getfield 24, 3) := by decide +kernel
theorem dX4_addStreet_68 : decode cX4_addStreet 68 = .ok (.aload_n 0, 1) := by decide +kernel
theorem dX4_addStreet_69 : decode cX4_addStreet 69 = .ok (.getfield 34, 3) := by decide +kernel
theorem dX4_addStreet_72 : decode cX4_addStreet 72 = .ok (.iload_n 2, 1) := by decide +kernel
theorem dX4_addStreet_73 : decode cX4_addStreet 73 = .ok (.iastore, 1) := by decide +kernel
theorem dX4_addStreet_74 : decode cX4_addStreet 74 = .ok (.aload_n 0, 1) := by decide +kernel
theorem dX4_addStreet_75 : decode cX4_addStreet 75 = .ok (.getfield 27, 3) := by decide +kernel
theorem dX4_addStreet_78 : decode cX4_addStreet 78 = .ok (.aload_n 0, 1) := by decide +kernel
theorem dX4_addStreet_79 : decode cX4_addStreet 79 = .ok (.getfield 34, 3) := by decide +kernel
theorem dX4_addStreet_82 : decode cX4_addStreet 82 = .ok (.iload_n 3, 1) := by decide +kernel
theorem dX4_addStreet_83 : decode cX4_addStreet 83 = .ok (.iastore, 1) := by decide +kernel
theorem dX4_addStreet_84 : decode cX4_addStreet 84 = .ok (.aload_n 0, 1) := by decide +kernel
theorem dX4_addStreet_85 : decode cX4_addStreet 85 = .ok (.dup, 1) := by decide +kernel
theorem dX4_addStreet_86 : decode cX4_addStreet 86 = .ok (.getfield 34, 3) := by decide +kernel
theorem dX4_addStreet_89 : decode cX4_addStreet 89 = .ok (.iconst 1, 1) := by decide +kernel
theorem dX4_addStreet_90 : decode cX4_addStreet 90 = .ok (.iadd, 1) := by decide +kernel
theorem dX4_addStreet_91 : decode cX4_addStreet 91 = .ok (.putfield 34, 3) := by decide +kernel
theorem dX4_addStreet_94 : decode cX4_addStreet 94 = .ok (.iconst 1, 1) := by decide +kernel
theorem dX4_addStreet_95 : decode cX4_addStreet 95 = .ok (.ireturn, 1) := by decide +kernel
theorem dX4_dropStreet_0 : decode cX4_dropStreet 0 = .ok (.aload_n 0, 1) := by decide +kernel
theorem dX4_dropStreet_1 : decode cX4_dropStreet 1 = .ok (.iload_n 1, 1) := by decide +kernel
theorem dX4_dropStreet_2 : decode cX4_dropStreet 2 = .ok (.invokevirtual 47, 3) := by decide +kernel
theorem dX4_dropStreet_5 : decode cX4_dropStreet 5 = .ok (.ifCond .ne 4, 3) := by decide +kernel
theorem dX4_dropStreet_8 : decode cX4_dropStreet 8 = .ok (.return_, 1) := by decide +kernel
theorem dX4_dropStreet_9 : decode cX4_dropStreet 9 = .ok (.iload_n 1, 1) := by decide +kernel
theorem dX4_dropStreet_10 : decode cX4_dropStreet 10 = .ok (.iconst 1, 1) := by decide +kernel
theorem dX4_dropStreet_11 : decode cX4_dropStreet 11 = .ok (.iadd, 1) := by decide +kernel
theorem dX4_dropStreet_12 : decode cX4_dropStreet 12 = .ok (.istore_n 2, 1) := by decide +kernel
theorem dX4_dropStreet_13 : decode cX4_dropStreet 13 = .ok (.iload_n 2, 1) := by decide +kernel
theorem dX4_dropStreet_14 : decode cX4_dropStreet 14 = .ok (.aload_n 0, 1) := by decide +kernel
theorem dX4_dropStreet_15 : decode cX4_dropStreet 15 = .ok (.getfield 34, 3) := by decide +kernel
theorem dX4_dropStreet_18 : decode cX4_dropStreet 18 = .ok (.if_icmp .ge 51, 3) := by decide +kernel
theorem dX4_dropStreet_21 : decode cX4_dropStreet 21 = .ok (.aload_n 0, 1) := by decide +kernel
theorem dX4_dropStreet_22 : decode cX4_dropStreet 22 = .ok (.getfield 21, 3) := by decide +kernel
theorem dX4_dropStreet_25 : decode cX4_dropStreet 25 = .ok (.iload_n 2, 1) := by decide +kernel
theorem dX4_dropStreet_26 : decode cX4_dropStreet 26 = .ok (.iconst 1, 1) := by decide +kernel
theorem dX4_dropStreet_27 : decode cX4_dropStreet 27 = .ok (.isub, 1) := by decide +kernel
theorem dX4_dropStreet_28 : decode cX4_dropStreet 28 = .ok (.aload_n 0, 1) := by decide +kernel
theorem dX4_dropStreet_29 : decode cX4_dropStreet 29 = .ok (.getfield 21, 3) := by decide +kernel
theorem dX4_dropStreet_32 : decode cX4_dropStreet 32 = .ok (.iload_n 2, 1) := by decide +kernel
theorem dX4_dropStreet_33 : decode cX4_dropStreet 33 = .ok (.iaload, 1) := by decide +kernel
theorem dX4_dropStreet_34 : decode cX4_dropStreet 34 = .ok (.iastore, 1) := by decide +kernel
theorem dX4_dropStreet_35 : decode cX4_dropStreet 35 = .ok (.aload_n 0, 1) := by decide +kernel
theorem dX4_dropStreet_36 : decode cX4_dropStreet 36 = .ok (.getfield 24, 3) := by decide +kernel
theorem dX4_dropStreet_39 : decode cX4_dropStreet 39 = .ok (.iload_n 2, 1) := by decide +kernel
theorem dX4_dropStreet_40 : decode cX4_dropStreet 40 = .ok (.iconst 1, 1) := by decide +kernel
theorem dX4_dropStreet_41 : decode cX4_dropStreet 41 = .ok (.isub, 1) := by decide +kernel
theorem dX4_dropStreet_42 : decode cX4_dropStreet 42 = .ok (.aload_n 0, 1) := by decide +kernel
theorem dX4_dropStreet_43 : decode cX4_dropStreet 43 = .ok (.getfield 24, 3) := by decide +kernel
theorem dX4_dropStreet_46 : decode cX4_dropStreet 46 = .ok (.iload_n 2, 1) := by decide +kernel
theorem dX4_dropStreet_47 : decode cX4_dropStreet 47 = .ok (.iaload, 1) := by decide +kernel
theorem dX4_dropStreet_48 : decode cX4_dropStreet 48 = .ok (.iastore, 1) := by decide +kernel
theorem dX4_dropStreet_49 : decode cX4_dropStreet 49 = .ok (.aload_n 0, 1) := by decide +kernel
theorem dX4_dropStreet_50 : decode cX4_dropStreet 50 = .ok (.getfield 27, 3) := by decide +kernel
theorem dX4_dropStreet_53 : decode cX4_dropStreet 53 = .ok (.iload_n 2, 1) := by decide +kernel
theorem dX4_dropStreet_54 : decode cX4_dropStreet 54 = .ok (.iconst 1, 1) := by decide +kernel
theorem dX4_dropStreet_55 : decode cX4_dropStreet 55 = .ok (.isub, 1) := by decide +kernel
theorem dX4_dropStreet_56 : decode cX4_dropStreet 56 = .ok (.aload_n 0, 1) := by decide +kernel
theorem dX4_dropStreet_57 : decode cX4_dropStreet 57 = .ok (.getfield 27, 3) := by decide +kernel
theorem dX4_dropStreet_60 : decode cX4_dropStreet 60 = .ok (.iload_n 2, 1) := by decide +kernel
theorem dX4_dropStreet_61 : decode cX4_dropStreet 61 = .ok (.iaload, 1) := by decide +kernel
theorem dX4_dropStreet_62 : decode cX4_dropStreet 62 = .ok (.iastore, 1) := by decide +kernel
theorem dX4_dropStreet_63 : decode cX4_dropStreet 63 = .ok (.iinc 2 1, 3) := by decide +kernel
theorem dX4_dropStreet_66 : decode cX4_dropStreet 66 = .ok (.goto (-53), 3) := by decide +kernel
theorem dX4_dropStreet_69 : decode cX4_dropStreet 69 = .ok (.aload_n 0, 1) := by decide +kernel
theorem dX4_dropStreet_70 : decode cX4_dropStreet 70 = .ok (.dup, 1) := by decide +kernel
theorem dX4_dropStreet_71 : decode cX4_dropStreet 71 = .ok (.getfield 34, 3) := by decide +kernel
theorem dX4_dropStreet_74 : decode cX4_dropStreet 74 = .ok (.iconst 1, 1) := by decide +kernel
theorem dX4_dropStreet_75 : decode cX4_dropStreet 75 = .ok (.isub, 1) := by decide +kernel
theorem dX4_dropStreet_76 : decode cX4_dropStreet 76 = .ok (.putfield 34, 3) := by decide +kernel
theorem dX4_dropStreet_79 : decode cX4_dropStreet 79 = .ok (.return_, 1) := by decide +kernel
theorem dX4_put_0 : decode cX4_put 0 = .ok (.aload_n 0, 1) := by decide +kernel
theorem dX4_put_1 : decode cX4_put 1 = .ok (.iload_n 1, 1) := by decide +kernel
theorem dX4_put_2 : decode cX4_put 2 = .ok (.invokevirtual 43, 3) := by decide +kernel
theorem dX4_put_5 : decode cX4_put 5 = .ok (.ifCond .eq 17, 3) := by decide +kernel
theorem dX4_put_8 : decode cX4_put 8 = .ok (.aload_n 0, 1) := by decide +kernel
theorem dX4_put_9 : decode cX4_put 9 = .ok (.getfield 15, 3) := by decide +kernel
theorem dX4_put_12 : decode cX4_put 12 = .ok (.iload_n 1, 1) := by decide +kernel
theorem dX4_put_13 : decode cX4_put 13 = .ok (.iload_n 2, 1) := by decide +kernel
theorem dX4_put_14 : decode cX4_put 14 = .ok (.iastore, 1) := by decide +kernel
theorem dX4_put_15 : decode cX4_put 15 = .ok (.aload_n 0, 1) := by decide +kernel
theorem dX4_put_16 : decode cX4_put 16 = .ok (.getfield 18, 3) := by decide +kernel
theorem dX4_put_19 : decode cX4_put 19 = .ok (.iload_n 1, 1) := by decide +kernel
theorem dX4_put_20 : decode cX4_put 20 = .ok (.iload_n 3, 1) := by decide +kernel
theorem dX4_put_21 : decode cX4_put 21 = .ok (.iastore, 1) := by decide +kernel
theorem dX4_put_22 : decode cX4_put 22 = .ok (.return_, 1) := by decide +kernel
theorem dX4_setKind_0 : decode cX4_setKind 0 = .ok (.aload_n 0, 1) := by decide +kernel
theorem dX4_setKind_1 : decode cX4_setKind 1 = .ok (.iload_n 1, 1) := by decide +kernel
theorem dX4_setKind_2 : decode cX4_setKind 2 = .ok (.invokevirtual 43, 3) := by decide +kernel
theorem dX4_setKind_5 : decode cX4_setKind 5 = .ok (.ifCond .eq 10, 3) := by decide +kernel
theorem dX4_setKind_8 : decode cX4_setKind 8 = .ok (.aload_n 0, 1) := by decide +kernel
theorem dX4_setKind_9 : decode cX4_setKind 9 = .ok (.getfield 9, 3) := by decide +kernel
theorem dX4_setKind_12 : decode cX4_setKind 12 = .ok (.iload_n 1, 1) := by decide +kernel
theorem dX4_setKind_13 : decode cX4_setKind 13 = .ok (.iload_n 2, 1) := by decide +kernel
theorem dX4_setKind_14 : decode cX4_setKind 14 = .ok (.iastore, 1) := by decide +kernel
theorem dX4_setKind_15 : decode cX4_setKind 15 = .ok (.return_, 1) := by decide +kernel
theorem dX4_setName_0 : decode cX4_setName 0 = .ok (.aload_n 0, 1) := by decide +kernel
theorem dX4_setName_1 : decode cX4_setName 1 = .ok (.iload_n 1, 1) := by decide +kernel
theorem dX4_setName_2 : decode cX4_setName 2 = .ok (.invokevirtual 47, 3) := by decide +kernel
theorem dX4_setName_5 : decode cX4_setName 5 = .ok (.ifCond .eq 10, 3) := by decide +kernel
theorem dX4_setName_8 : decode cX4_setName 8 = .ok (.aload_n 0, 1) := by decide +kernel
theorem dX4_setName_9 : decode cX4_setName 9 = .ok (.getfield 27, 3) := by decide +kernel
theorem dX4_setName_12 : decode cX4_setName 12 = .ok (.iload_n 1, 1) := by decide +kernel
theorem dX4_setName_13 : decode cX4_setName 13 = .ok (.iload_n 2, 1) := by decide +kernel
theorem dX4_setName_14 : decode cX4_setName 14 = .ok (.iastore, 1) := by decide +kernel
theorem dX4_setName_15 : decode cX4_setName 15 = .ok (.return_, 1) := by decide +kernel
theorem dX5_init_0 : decode cX5_init 0 = .ok (.aload_n 0, 1) := by decide +kernel
theorem dX5_init_1 : decode cX5_init 1 = .ok (.invokespecial 3, 3) := by decide +kernel
theorem dX5_init_4 : decode cX5_init 4 = .ok (.aload_n 0, 1) := by decide +kernel
theorem dX5_init_5 : decode cX5_init 5 = .ok (.sipush 200, 3) := by decide +kernel
theorem dX5_init_8 : decode cX5_init 8 = .ok (.newarray .char, 2) := by decide +kernel
theorem dX5_init_10 : decode cX5_init 10 = .ok (.putfield 9, 3) := by decide +kernel
theorem dX5_init_13 : decode cX5_init 13 = .ok (.return_, 1) := by decide +kernel
theorem dX5_length_0 : decode cX5_length 0 = .ok (.aload_n 0, 1) := by decide +kernel
theorem dX5_length_1 : decode cX5_length 1 = .ok (.getfield 15, 3) := by decide +kernel
theorem dX5_length_4 : decode cX5_length 4 = .ok (.ireturn, 1) := by decide +kernel
theorem dX5_add_0 : decode cX5_add 0 = .ok (.aload_n 0, 1) := by decide +kernel
theorem dX5_add_1 : decode cX5_add 1 = .ok (.getfield 15, 3) := by decide +kernel
theorem dX5_add_4 : decode cX5_add 4 = .ok (.aload_n 0, 1) := by decide +kernel
theorem dX5_add_5 : decode cX5_add 5 = .ok (.getfield 9, 3) := by decide +kernel
theorem dX5_add_8 : decode cX5_add 8 = .ok (.arraylength, 1) := by decide +kernel
theorem dX5_add_9 : decode cX5_add 9 = .ok (.if_icmp .lt 5, 3) := by decide +kernel
theorem dX5_add_12 : decode cX5_add 12 = .ok (.iconst 0, 1) := by decide +kernel
theorem dX5_add_13 : decode cX5_add 13 = .ok (.ireturn, 1) := by decide +kernel
theorem dX5_add_14 : decode cX5_add 14 = .ok (.aload_n 0, 1) := by decide +kernel
theorem dX5_add_15 : decode cX5_add 15 = .ok (.getfield 9, 3) := by decide +kernel
theorem dX5_add_18 : decode cX5_add 18 = .ok (.aload_n 0, 1) := by decide +kernel
theorem dX5_add_19 : decode cX5_add 19 = .ok (.getfield 15, 3) := by decide +kernel
theorem dX5_add_22 : decode cX5_add 22 = .ok (.iload_n 1, 1) := by decide +kernel
theorem dX5_add_23 : decode cX5_add 23 = .ok (.i2c, 1) := by decide +kernel
theorem dX5_add_24 : decode cX5_add 24 = .ok (.castore, 1) := by decide +kernel
theorem dX5_add_25 : decode cX5_add 25 = .ok (.aload_n 0, 1) := by decide +kernel
theorem dX5_add_26 : decode cX5_add 26 = .ok (.dup, 1) := by decide +kernel
theorem dX5_add_27 : decode cX5_add 27 = .ok (.getfield 15, 3) := by decide +kernel
theorem dX5_add_30 : decode cX5_add 30 = .ok (.iconst 1, 1) := by decide +kernel
theorem dX5_add_31 : decode cX5_add 31 = .ok (.iadd, 1) := by decide +kernel
theorem dX5_add_32 : decode cX5_add 32 = .ok (.putfield 15, 3) := by decide +kernel
theorem dX5_add_35 : decode cX5_add 35 = .ok (.iconst 1, 1) := by decide +kernel
theorem dX5_add_36 : decode cX5_add 36 = .ok (.ireturn, 1) := by decide +kernel
theorem dX5_clear_0 : decode cX5_clear 0 = .ok (.aload_n 0, 1) := by decide +kernel
theorem dX5_clear_1 : decode cX5_clear 1 = .ok (.iconst 0, 1) := by decide +kernel
theorem dX5_clear_2 : decode cX5_clear 2 = .ok (.putfield 15, 3) := by decide +kernel
theorem dX5_clear_5 : decode cX5_clear 5 = .ok (.return_, 1) := by decide +kernel
theorem dX5_letterAt_0 : decode cX5_letterAt 0 = .ok (.iload_n 1, 1) := by decide +kernel
theorem dX5_letterAt_1 : decode cX5_letterAt 1 = .ok (.ifCond .lt 20, 3) := by decide +kernel
theorem dX5_letterAt_4 : decode cX5_letterAt 4 = .ok (.iload_n 1, 1) := by decide +kernel
theorem dX5_letterAt_5 : decode cX5_letterAt 5 = .ok (.aload_n 0, 1) := by decide +kernel
theorem dX5_letterAt_6 : decode cX5_letterAt 6 = .ok (.getfield 15, 3) := by decide +kernel
theorem dX5_letterAt_9 : decode cX5_letterAt 9 = .ok (.if_icmp .ge 12, 3) := by decide +kernel
theorem dX5_letterAt_12 : decode cX5_letterAt 12 = .ok (.aload_n 0, 1) := by decide +kernel
theorem dX5_letterAt_13 : decode cX5_letterAt 13 = .ok (.getfield 9, 3) := by decide +kernel
theorem dX5_letterAt_16 : decode cX5_letterAt 16 = .ok (.iload_n 1, 1) := by decide +kernel
theorem dX5_letterAt_17 : decode cX5_letterAt 17 = .ok (.caload, 1) := by decide +kernel
theorem dX5_letterAt_18 : decode cX5_letterAt 18 = .ok (.goto 4, 3) := by decide +kernel
theorem dX5_letterAt_21 : decode cX5_letterAt 21 = .ok (.iconst 0, 1) := by decide +kernel
theorem dX5_letterAt_22 : decode cX5_letterAt 22 = .ok (.ireturn, 1) := by decide +kernel
theorem dX6_init_0 : decode cX6_init 0 = .ok (.aload_n 0, 1) := by decide +kernel
theorem dX6_init_1 : decode cX6_init 1 = .ok (.invokespecial 3, 3) := by decide +kernel
theorem dX6_init_4 : decode cX6_init 4 = .ok (.aload_n 0, 1) := by decide +kernel
theorem dX6_init_5 : decode cX6_init 5 = .ok (.new 9, 3) := by decide +kernel
theorem dX6_init_8 : decode cX6_init 8 = .ok (.dup, 1) := by decide +kernel
theorem dX6_init_9 : decode cX6_init 9 = .ok (.invokespecial 11, 3) := by decide +kernel
theorem dX6_init_12 : decode cX6_init 12 = .ok (.putfield 12, 3) := by decide +kernel
theorem dX6_init_15 : decode cX6_init 15 = .ok (.aload_n 0, 1) := by decide +kernel
theorem dX6_init_16 : decode cX6_init 16 = .ok (.new 9, 3) := by decide +kernel
theorem dX6_init_19 : decode cX6_init 19 = .ok (.dup, 1) := by decide +kernel
theorem dX6_init_20 : decode cX6_init 20 = .ok (.invokespecial 11, 3) := by decide +kernel
theorem dX6_init_23 : decode cX6_init 23 = .ok (.putfield 18, 3) := by decide +kernel
theorem dX6_init_26 : decode cX6_init 26 = .ok (.return_, 1) := by decide +kernel
theorem dX6_clear_0 : decode cX6_clear 0 = .ok (.aload_n 0, 1) := by decide +kernel
theorem dX6_clear_1 : decode cX6_clear 1 = .ok (.getfield 12, 3) := by decide +kernel
theorem dX6_clear_4 : decode cX6_clear 4 = .ok (.invokevirtual 21, 3) := by decide +kernel
theorem dX6_clear_7 : decode cX6_clear 7 = .ok (.aload_n 0, 1) := by decide +kernel
theorem dX6_clear_8 : decode cX6_clear 8 = .ok (.getfield 18, 3) := by decide +kernel
theorem dX6_clear_11 : decode cX6_clear 11 = .ok (.invokevirtual 21, 3) := by decide +kernel
theorem dX6_clear_14 : decode cX6_clear 14 = .ok (.aload_n 0, 1) := by decide +kernel
theorem dX6_clear_15 : decode cX6_clear 15 = .ok (.bipush 10, 2) := by decide +kernel
theorem dX6_clear_17 : decode cX6_clear 17 = .ok (.putfield 24, 3) := by decide +kernel
theorem dX6_clear_20 : decode cX6_clear 20 = .ok (.aload_n 0, 1) := by decide +kernel
theorem dX6_clear_21 : decode cX6_clear 21 = .ok (.iconst 2, 1) := by decide +kernel
theorem dX6_clear_22 : decode cX6_clear 22 = .ok (.putfield 28, 3) := by decide +kernel
theorem dX6_clear_25 : decode cX6_clear 25 = .ok (.return_, 1) := by decide +kernel
theorem dX6_copy_0 : decode cX6_copy 0 = .ok (.aload_n 0, 1) := by decide +kernel
theorem dX6_copy_1 : decode cX6_copy 1 = .ok (.getfield 12, 3) := by decide +kernel
theorem dX6_copy_4 : decode cX6_copy 4 = .ok (.aload_n 1, 1) := by decide +kernel
theorem dX6_copy_5 : decode cX6_copy 5 = .ok (.getfield 12, 3) := by decide +kernel
theorem dX6_copy_8 : decode cX6_copy 8 = .ok (.invokevirtual 31, 3) := by decide +kernel
theorem dX6_copy_11 : decode cX6_copy 11 = .ok (.aload_n 0, 1) := by decide +kernel
theorem dX6_copy_12 : decode cX6_copy 12 = .ok (.getfield 18, 3) := by decide +kernel
theorem dX6_copy_15 : decode cX6_copy 15 = .ok (.aload_n 1, 1) := by decide +kernel
theorem dX6_copy_16 : decode cX6_copy 16 = .ok (.getfield 18, 3) := by decide +kernel
theorem dX6_copy_19 : decode cX6_copy 19 = .ok (.invokevirtual 31, 3) := by decide +kernel
theorem dX6_copy_22 : decode cX6_copy 22 = .ok (.aload_n 0, 1) := by decide +kernel
theorem dX6_copy_23 : decode cX6_copy 23 = .ok (.aload_n 1, 1) := by decide +kernel
theorem dX6_copy_24 : decode cX6_copy 24 = .ok (.getfield 24, 3) := by decide +kernel
theorem dX6_copy_27 : decode cX6_copy 27 = .ok (.putfield 24, 3) := by decide +kernel
theorem dX6_copy_30 : decode cX6_copy 30 = .ok (.aload_n 0, 1) := by decide +kernel
theorem dX6_copy_31 : decode cX6_copy 31 = .ok (.aload_n 1, 1) := by decide +kernel
theorem dX6_copy_32 : decode cX6_copy 32 = .ok (.getfield 28, 3) := by decide +kernel
theorem dX6_copy_35 : decode cX6_copy 35 = .ok (.putfield 28, 3) := by decide +kernel
theorem dX6_copy_38 : decode cX6_copy 38 = .ok (.return_, 1) := by decide +kernel
theorem dX6_surveyOf_0 : decode cX6_surveyOf 0 = .ok (.iload_n 1, 1) := by decide +kernel
theorem dX6_surveyOf_1 : decode cX6_surveyOf 1 = .ok (.ifCond .ne 10, 3) := by decide +kernel
theorem dX6_surveyOf_4 : decode cX6_surveyOf 4 = .ok (.aload_n 0, 1) := by decide +kernel
theorem dX6_surveyOf_5 : decode cX6_surveyOf 5 = .ok (.getfield 12, 3) := by decide +kernel
theorem dX6_surveyOf_8 : decode cX6_surveyOf 8 = .ok (.goto 7, 3) := by decide +kernel
theorem dX6_surveyOf_11 : decode cX6_surveyOf 11 = .ok (.aload_n 0, 1) := by decide +kernel
theorem dX6_surveyOf_12 : decode cX6_surveyOf 12 = .ok (.getfield 18, 3) := by decide +kernel
theorem dX6_surveyOf_15 : decode cX6_surveyOf 15 = .ok (.areturn, 1) := by decide +kernel
theorem dX6_radius_0 : decode cX6_radius 0 = .ok (.aload_n 0, 1) := by decide +kernel
theorem dX6_radius_1 : decode cX6_radius 1 = .ok (.getfield 24, 3) := by decide +kernel
theorem dX6_radius_4 : decode cX6_radius 4 = .ok (.ireturn, 1) := by decide +kernel
theorem dX6_rounds_0 : decode cX6_rounds 0 = .ok (.aload_n 0, 1) := by decide +kernel
theorem dX6_rounds_1 : decode cX6_rounds 1 = .ok (.getfield 28, 3) := by decide +kernel
theorem dX6_rounds_4 : decode cX6_rounds 4 = .ok (.ireturn, 1) := by decide +kernel
theorem dX6_setRadius_0 : decode cX6_setRadius 0 = .ok (.iload_n 1, 1) := by decide +kernel
theorem dX6_setRadius_1 : decode cX6_setRadius 1 = .ok (.invokestatic 35, 3) := by decide +kernel
theorem dX6_setRadius_4 : decode cX6_setRadius 4 = .ok (.ifCond .ne 5, 3) := by decide +kernel
theorem dX6_setRadius_7 : decode cX6_setRadius 7 = .ok (.iconst 0, 1) := by decide +kernel
theorem dX6_setRadius_8 : decode cX6_setRadius 8 = .ok (.ireturn, 1) := by decide +kernel
theorem dX6_setRadius_9 : decode cX6_setRadius 9 = .ok (.aload_n 0, 1) := by decide +kernel
theorem dX6_setRadius_10 : decode cX6_setRadius 10 = .ok (.iload_n 1, 1) := by decide +kernel
theorem dX6_setRadius_11 : decode cX6_setRadius 11 = .ok (.putfield 24, 3) := by decide +kernel
theorem dX6_setRadius_14 : decode cX6_setRadius 14 = .ok (.iconst 1, 1) := by decide +kernel
theorem dX6_setRadius_15 : decode cX6_setRadius 15 = .ok (.ireturn, 1) := by decide +kernel
theorem dX6_setRounds_0 : decode cX6_setRounds 0 = .ok (.iload_n 1, 1) := by decide +kernel
theorem dX6_setRounds_1 : decode cX6_setRounds 1 = .ok (.invokestatic 39, 3) := by decide +kernel
theorem dX6_setRounds_4 : decode cX6_setRounds 4 = .ok (.ifCond .ne 5, 3) := by decide +kernel
theorem dX6_setRounds_7 : decode cX6_setRounds 7 = .ok (.iconst 0, 1) := by decide +kernel
theorem dX6_setRounds_8 : decode cX6_setRounds 8 = .ok (.ireturn, 1) := by decide +kernel
theorem dX6_setRounds_9 : decode cX6_setRounds 9 = .ok (.aload_n 0, 1) := by decide +kernel
theorem dX6_setRounds_10 : decode cX6_setRounds 10 = .ok (.iload_n 1, 1) := by decide +kernel
theorem dX6_setRounds_11 : decode cX6_setRounds 11 = .ok (.putfield 28, 3) := by decide +kernel
theorem dX6_setRounds_14 : decode cX6_setRounds 14 = .ok (.iconst 1, 1) := by decide +kernel
theorem dX6_setRounds_15 : decode cX6_setRounds 15 = .ok (.ireturn, 1) := by decide +kernel
theorem dX6_reachOf_0 : decode cX6_reachOf 0 = .ok (.aload_n 0, 1) := by decide +kernel
theorem dX6_reachOf_1 : decode cX6_reachOf 1 = .ok (.iload_n 1, 1) := by decide +kernel
theorem dX6_reachOf_2 : decode cX6_reachOf 2 = .ok (.invokevirtual 42, 3) := by decide +kernel
theorem dX6_reachOf_5 : decode cX6_reachOf 5 = .ok (.iload_n 2, 1) := by decide +kernel
theorem dX6_reachOf_6 : decode cX6_reachOf 6 = .ok (.invokevirtual 46, 3) := by decide +kernel
theorem dX6_reachOf_9 : decode cX6_reachOf 9 = .ok (.tableswitch 55 1 3 #[27, 34, 46], 27) := by decide +kernel
theorem dX6_reachOf_36 : decode cX6_reachOf 36 = .ok (.aload_n 0, 1) := by decide +kernel
theorem dX6_reachOf_37 : decode cX6_reachOf 37 = .ok (.getfield 24, 3) := by decide +kernel
theorem dX6_reachOf_40 : decode cX6_reachOf 40 = .ok (.iconst 2, 1) := by decide +kernel
theorem dX6_reachOf_41 : decode cX6_reachOf 41 = .ok (.idiv, 1) := by decide +kernel
theorem dX6_reachOf_42 : decode cX6_reachOf 42 = .ok (.ireturn, 1) := by decide +kernel
theorem dX6_reachOf_43 : decode cX6_reachOf 43 = .ok (.bipush 20, 2) := by decide +kernel
theorem dX6_reachOf_45 : decode cX6_reachOf 45 = .ok (.aload_n 0, 1) := by decide +kernel
theorem dX6_reachOf_46 : decode cX6_reachOf 46 = .ok (.getfield 24, 3) := by decide +kernel
theorem dX6_reachOf_49 : decode cX6_reachOf 49 = .ok (.iconst 5, 1) := by decide +kernel
theorem dX6_reachOf_50 : decode cX6_reachOf 50 = .ok (.iadd, 1) := by decide +kernel
theorem dX6_reachOf_51 : decode cX6_reachOf 51 = .ok (.invokestatic 50, 3) := by decide +kernel
theorem dX6_reachOf_54 : decode cX6_reachOf 54 = .ok (.ireturn, 1) := by decide +kernel
theorem dX6_reachOf_55 : decode cX6_reachOf 55 = .ok (.aload_n 0, 1) := by decide +kernel
theorem dX6_reachOf_56 : decode cX6_reachOf 56 = .ok (.getfield 24, 3) := by decide +kernel
theorem dX6_reachOf_59 : decode cX6_reachOf 59 = .ok (.iconst 2, 1) := by decide +kernel
theorem dX6_reachOf_60 : decode cX6_reachOf 60 = .ok (.idiv, 1) := by decide +kernel
theorem dX6_reachOf_61 : decode cX6_reachOf 61 = .ok (.iconst 1, 1) := by decide +kernel
theorem dX6_reachOf_62 : decode cX6_reachOf 62 = .ok (.iadd, 1) := by decide +kernel
theorem dX6_reachOf_63 : decode cX6_reachOf 63 = .ok (.ireturn, 1) := by decide +kernel
theorem dX6_reachOf_64 : decode cX6_reachOf 64 = .ok (.aload_n 0, 1) := by decide +kernel
theorem dX6_reachOf_65 : decode cX6_reachOf 65 = .ok (.getfield 24, 3) := by decide +kernel
theorem dX6_reachOf_68 : decode cX6_reachOf 68 = .ok (.ireturn, 1) := by decide +kernel
theorem dX6_squaredDistance_0 : decode cX6_squaredDistance 0 = .ok (.aload_n 0, 1) := by decide +kernel
theorem dX6_squaredDistance_1 : decode cX6_squaredDistance 1 = .ok (.getfield 12, 3) := by decide +kernel
theorem dX6_squaredDistance_4 : decode cX6_squaredDistance 4 = .ok (.iload_n 1, 1) := by decide +kernel
theorem dX6_squaredDistance_5 : decode cX6_squaredDistance 5 = .ok (.invokevirtual 56, 3) := by decide +kernel
theorem dX6_squaredDistance_8 : decode cX6_squaredDistance 8 = .ok (.aload_n 0, 1) := by decide +kernel
theorem dX6_squaredDistance_9 : decode cX6_squaredDistance 9 = .ok (.getfield 18, 3) := by decide +kernel
theorem dX6_squaredDistance_12 : decode cX6_squaredDistance 12 = .ok (.iload_n 2, 1) := by decide +kernel
theorem dX6_squaredDistance_13 : decode cX6_squaredDistance 13 = .ok (.invokevirtual 56, 3) := by decide +kernel
theorem dX6_squaredDistance_16 : decode cX6_squaredDistance 16 = .ok (.isub, 1) := by decide +kernel
theorem dX6_squaredDistance_17 : decode cX6_squaredDistance 17 = .ok (.istore_n 3, 1) := by decide +kernel
theorem dX6_squaredDistance_18 : decode cX6_squaredDistance 18 = .ok (.aload_n 0, 1) := by decide +kernel
theorem dX6_squaredDistance_19 : decode cX6_squaredDistance 19 = .ok (.getfield 12, 3) := by decide +kernel
theorem dX6_squaredDistance_22 : decode cX6_squaredDistance 22 = .ok (.iload_n 1, 1) := by decide +kernel
theorem dX6_squaredDistance_23 : decode cX6_squaredDistance 23 = .ok (.invokevirtual 59, 3) := by decide +kernel
theorem dX6_squaredDistance_26 : decode cX6_squaredDistance 26 = .ok (.aload_n 0, 1) := by decide +kernel
theorem dX6_squaredDistance_27 : decode cX6_squaredDistance 27 = .ok (.getfield 18, 3) := by decide +kernel
theorem dX6_squaredDistance_30 : decode cX6_squaredDistance 30 = .ok (.iload_n 2, 1) := by decide +kernel
theorem dX6_squaredDistance_31 : decode cX6_squaredDistance 31 = .ok (.invokevirtual 59, 3) := by decide +kernel
theorem dX6_squaredDistance_34 : decode cX6_squaredDistance 34 = .ok (.isub, 1) := by decide +kernel
theorem dX6_squaredDistance_35 : decode cX6_squaredDistance 35 = .ok (.istore 4, 2) := by decide +kernel
theorem dX6_squaredDistance_37 : decode cX6_squaredDistance 37 = .ok (.iload_n 3, 1) := by decide +kernel
theorem dX6_squaredDistance_38 : decode cX6_squaredDistance 38 = .ok (.iload_n 3, 1) := by decide +kernel
theorem dX6_squaredDistance_39 : decode cX6_squaredDistance 39 = .ok (.imul, 1) := by decide +kernel
theorem dX6_squaredDistance_40 : decode cX6_squaredDistance 40 = .ok (.iload 4, 2) := by decide +kernel
theorem dX6_squaredDistance_42 : decode cX6_squaredDistance 42 = .ok (.iload 4, 2) := by decide +kernel
theorem dX6_squaredDistance_44 : decode cX6_squaredDistance 44 = .ok (.imul, 1) := by decide +kernel
theorem dX6_squaredDistance_45 : decode cX6_squaredDistance 45 = .ok (.iadd, 1) := by decide +kernel
theorem dX6_squaredDistance_46 : decode cX6_squaredDistance 46 = .ok (.ireturn, 1) := by decide +kernel
theorem dX7_init_0 : decode cX7_init 0 = .ok (.aload_n 0, 1) := by decide +kernel
theorem dX7_init_1 : decode cX7_init 1 = .ok (.invokespecial 3, 3) := by decide +kernel
theorem dX7_init_4 : decode cX7_init 4 = .ok (.aload_n 0, 1) := by decide +kernel
theorem dX7_init_5 : decode cX7_init 5 = .ok (.iconst 1, 1) := by decide +kernel
theorem dX7_init_6 : decode cX7_init 6 = .ok (.putfield 9, 3) := by decide +kernel
theorem dX7_init_9 : decode cX7_init 9 = .ok (.return_, 1) := by decide +kernel
theorem dX7_topOfX_0 : decode cX7_topOfX 0 = .ok (.aload_n 0, 1) := by decide +kernel
theorem dX7_topOfX_1 : decode cX7_topOfX 1 = .ok (.getfield 15, 3) := by decide +kernel
theorem dX7_topOfX_4 : decode cX7_topOfX 4 = .ok (.aload_n 0, 1) := by decide +kernel
theorem dX7_topOfX_5 : decode cX7_topOfX 5 = .ok (.getfield 15, 3) := by decide +kernel
theorem dX7_topOfX_8 : decode cX7_topOfX 8 = .ok (.aload_n 0, 1) := by decide +kernel
theorem dX7_topOfX_9 : decode cX7_topOfX 9 = .ok (.getfield 9, 3) := by decide +kernel
theorem dX7_topOfX_12 : decode cX7_topOfX 12 = .ok (.invokestatic 18, 3) := by decide +kernel
theorem dX7_topOfX_15 : decode cX7_topOfX 15 = .ok (.ireturn, 1) := by decide +kernel
theorem dX7_bottomOfX_0 : decode cX7_bottomOfX 0 = .ok (.aload_n 0, 1) := by decide +kernel
theorem dX7_bottomOfX_1 : decode cX7_bottomOfX 1 = .ok (.getfield 9, 3) := by decide +kernel
theorem dX7_bottomOfX_4 : decode cX7_bottomOfX 4 = .ok (.aload_n 0, 1) := by decide +kernel
theorem dX7_bottomOfX_5 : decode cX7_bottomOfX 5 = .ok (.getfield 15, 3) := by decide +kernel
theorem dX7_bottomOfX_8 : decode cX7_bottomOfX 8 = .ok (.aload_n 0, 1) := by decide +kernel
theorem dX7_bottomOfX_9 : decode cX7_bottomOfX 9 = .ok (.getfield 9, 3) := by decide +kernel
theorem dX7_bottomOfX_12 : decode cX7_bottomOfX 12 = .ok (.invokestatic 18, 3) := by decide +kernel
theorem dX7_bottomOfX_15 : decode cX7_bottomOfX 15 = .ok (.ireturn, 1) := by decide +kernel
theorem dX7_topOfY_0 : decode cX7_topOfY 0 = .ok (.aload_n 0, 1) := by decide +kernel
theorem dX7_topOfY_1 : decode cX7_topOfY 1 = .ok (.getfield 22, 3) := by decide +kernel
theorem dX7_topOfY_4 : decode cX7_topOfY 4 = .ok (.aload_n 0, 1) := by decide +kernel
theorem dX7_topOfY_5 : decode cX7_topOfY 5 = .ok (.getfield 22, 3) := by decide +kernel
theorem dX7_topOfY_8 : decode cX7_topOfY 8 = .ok (.aload_n 0, 1) := by decide +kernel
theorem dX7_topOfY_9 : decode cX7_topOfY 9 = .ok (.getfield 9, 3) := by decide +kernel
theorem dX7_topOfY_12 : decode cX7_topOfY 12 = .ok (.invokestatic 18, 3) := by decide +kernel
theorem dX7_topOfY_15 : decode cX7_topOfY 15 = .ok (.ireturn, 1) := by decide +kernel
theorem dX7_bottomOfY_0 : decode cX7_bottomOfY 0 = .ok (.aload_n 0, 1) := by decide +kernel
theorem dX7_bottomOfY_1 : decode cX7_bottomOfY 1 = .ok (.getfield 9, 3) := by decide +kernel
theorem dX7_bottomOfY_4 : decode cX7_bottomOfY 4 = .ok (.aload_n 0, 1) := by decide +kernel
theorem dX7_bottomOfY_5 : decode cX7_bottomOfY 5 = .ok (.getfield 22, 3) := by decide +kernel
theorem dX7_bottomOfY_8 : decode cX7_bottomOfY 8 = .ok (.aload_n 0, 1) := by decide +kernel
theorem dX7_bottomOfY_9 : decode cX7_bottomOfY 9 = .ok (.getfield 9, 3) := by decide +kernel
theorem dX7_bottomOfY_12 : decode cX7_bottomOfY 12 = .ok (.invokestatic 18, 3) := by decide +kernel
theorem dX7_bottomOfY_15 : decode cX7_bottomOfY 15 = .ok (.ireturn, 1) := by decide +kernel
theorem dX7_find_0 : decode cX7_find 0 = .ok (.aload_n 1, 1) := by decide +kernel
theorem dX7_find_1 : decode cX7_find 1 = .ok (.iconst 0, 1) := by decide +kernel
theorem dX7_find_2 : decode cX7_find 2 = .ok (.invokevirtual 25, 3) := by decide +kernel
theorem dX7_find_5 : decode cX7_find 5 = .ok (.astore 4, 2) := by decide +kernel
theorem dX7_find_7 : decode cX7_find 7 = .ok (.aload_n 1, 1) := by decide +kernel
theorem dX7_find_8 : decode cX7_find 8 = .ok (.iconst 1, 1) := by decide +kernel
theorem dX7_find_9 : decode cX7_find 9 = .ok (.invokevirtual 25, 3) := by decide +kernel
theorem dX7_find_12 : decode cX7_find 12 = .ok (.astore 5, 2) := by decide +kernel
theorem dX7_find_14 : decode cX7_find 14 = .ok (.aload_n 2, 1) := by decide +kernel
theorem dX7_find_15 : decode cX7_find 15 = .ok (.iconst 0, 1) := by decide +kernel
theorem dX7_find_16 : decode cX7_find 16 = .ok (.iload_n 3, 1) := by decide +kernel
theorem dX7_find_17 : decode cX7_find 17 = .ok (.invokevirtual 31, 3) := by decide +kernel
theorem dX7_find_20 : decode cX7_find 20 = .ok (.istore 6, 2) := by decide +kernel
theorem dX7_find_22 : decode cX7_find 22 = .ok (.iload 6, 2) := by decide +kernel
theorem dX7_find_24 : decode cX7_find 24 = .ok (.iconst (-1), 1) := by decide +kernel
theorem dX7_find_25 : decode cX7_find 25 = .ok (.if_icmp .eq 25, 3) := by decide +kernel
theorem dX7_find_28 : decode cX7_find 28 = .ok (.aload_n 0, 1) := by decide +kernel
theorem dX7_find_29 : decode cX7_find 29 = .ok (.aload 5, 2) := by decide +kernel
theorem dX7_find_31 : decode cX7_find 31 = .ok (.iload 6, 2) := by decide +kernel
theorem dX7_find_33 : decode cX7_find 33 = .ok (.invokevirtual 37, 3) := by decide +kernel
theorem dX7_find_36 : decode cX7_find 36 = .ok (.aload 5, 2) := by decide +kernel
theorem dX7_find_38 : decode cX7_find 38 = .ok (.iload 6, 2) := by decide +kernel
theorem dX7_find_40 : decode cX7_find 40 = .ok (.invokevirtual 43, 3) := by decide +kernel
theorem dX7_find_43 : decode cX7_find 43 = .ok (.iconst 1, 1) := by decide +kernel
theorem dX7_find_44 : decode cX7_find 44 = .ok (.invokevirtual 46, 3) := by decide +kernel
theorem dX7_find_47 : decode cX7_find 47 = .ok (.goto 38, 3) := by decide +kernel
theorem dX7_find_50 : decode cX7_find 50 = .ok (.aload_n 0, 1) := by decide +kernel
theorem dX7_find_51 : decode cX7_find 51 = .ok (.aload 4, 2) := by decide +kernel
theorem dX7_find_53 : decode cX7_find 53 = .ok (.aload_n 2, 1) := by decide +kernel
theorem dX7_find_54 : decode cX7_find 54 = .ok (.iload_n 3, 1) := by decide +kernel
theorem dX7_find_55 : decode cX7_find 55 = .ok (.invokevirtual 50, 3) := by decide +kernel
theorem dX7_find_58 : decode cX7_find 58 = .ok (.ifCond .eq 13, 3) := by decide +kernel
theorem dX7_find_61 : decode cX7_find 61 = .ok (.aload_n 0, 1) := by decide +kernel
theorem dX7_find_62 : decode cX7_find 62 = .ok (.aload_n 1, 1) := by decide +kernel
theorem dX7_find_63 : decode cX7_find 63 = .ok (.aload_n 2, 1) := by decide +kernel
theorem dX7_find_64 : decode cX7_find 64 = .ok (.iload_n 3, 1) := by decide +kernel
theorem dX7_find_65 : decode cX7_find 65 = .ok (.invokevirtual 54, 3) := by decide +kernel
theorem dX7_find_68 : decode cX7_find 68 = .ok (.goto 17, 3) := by decide +kernel
theorem dX7_find_71 : decode cX7_find 71 = .ok (.aload_n 0, 1) := by decide +kernel
theorem dX7_find_72 : decode cX7_find 72 = .ok (.aload_n 1, 1) := by decide +kernel
theorem dX7_find_73 : decode cX7_find 73 = .ok (.aload_n 2, 1) := by decide +kernel
theorem dX7_find_74 : decode cX7_find 74 = .ok (.iload_n 3, 1) := by decide +kernel
theorem dX7_find_75 : decode cX7_find 75 = .ok (.aload 4, 2) := by decide +kernel
theorem dX7_find_77 : decode cX7_find 77 = .ok (.aload_n 2, 1) := by decide +kernel
theorem dX7_find_78 : decode cX7_find 78 = .ok (.iload_n 3, 1) := by decide +kernel
theorem dX7_find_79 : decode cX7_find 79 = .ok (.invokestatic 58, 3) := by decide +kernel
theorem dX7_find_82 : decode cX7_find 82 = .ok (.invokevirtual 62, 3) := by decide +kernel
theorem dX7_find_85 : decode cX7_find 85 = .ok (.return_, 1) := by decide +kernel
theorem dX7_set_0 : decode cX7_set 0 = .ok (.aload_n 0, 1) := by decide +kernel
theorem dX7_set_1 : decode cX7_set 1 = .ok (.iload_n 1, 1) := by decide +kernel
theorem dX7_set_2 : decode cX7_set 2 = .ok (.putfield 15, 3) := by decide +kernel
theorem dX7_set_5 : decode cX7_set 5 = .ok (.aload_n 0, 1) := by decide +kernel
theorem dX7_set_6 : decode cX7_set 6 = .ok (.iload_n 2, 1) := by decide +kernel
theorem dX7_set_7 : decode cX7_set 7 = .ok (.putfield 22, 3) := by decide +kernel
theorem dX7_set_10 : decode cX7_set 10 = .ok (.aload_n 0, 1) := by decide +kernel
theorem dX7_set_11 : decode cX7_set 11 = .ok (.iload_n 3, 1) := by decide +kernel
theorem dX7_set_12 : decode cX7_set 12 = .ok (.putfield 9, 3) := by decide +kernel
theorem dX7_set_15 : decode cX7_set 15 = .ok (.return_, 1) := by decide +kernel
theorem dX7_findTriangle_0 : decode cX7_findTriangle 0 = .ok (.iconst 0, 1) := by decide +kernel
theorem dX7_findTriangle_1 : decode cX7_findTriangle 1 = .ok (.istore 4, 2) := by decide +kernel
theorem dX7_findTriangle_3 : decode cX7_findTriangle 3 = .ok (.iconst 0, 1) := by decide +kernel
theorem dX7_findTriangle_4 : decode cX7_findTriangle 4 = .ok (.istore 5, 2) := by decide +kernel
theorem dX7_findTriangle_6 : decode cX7_findTriangle 6 = .ok (.iload 5, 2) := by decide +kernel
theorem dX7_findTriangle_8 : decode cX7_findTriangle 8 = .ok (.aload_n 1, 1) := by decide +kernel
theorem dX7_findTriangle_9 : decode cX7_findTriangle 9 = .ok (.invokevirtual 66, 3) := by decide +kernel
theorem dX7_findTriangle_12 : decode cX7_findTriangle 12 = .ok (.if_icmp .ge 144, 3) := by decide +kernel
theorem dX7_findTriangle_15 : decode cX7_findTriangle 15 = .ok (.iload 5, 2) := by decide +kernel
theorem dX7_findTriangle_17 : decode cX7_findTriangle 17 = .ok (.iconst 1, 1) := by decide +kernel
theorem dX7_findTriangle_18 : decode cX7_findTriangle 18 = .ok (.iadd, 1) := by decide +kernel
theorem dX7_findTriangle_19 : decode cX7_findTriangle 19 = .ok (.istore 6, 2) := by decide +kernel
theorem dX7_findTriangle_21 : decode cX7_findTriangle 21 = .ok (.iload 6, 2) := by decide +kernel
theorem dX7_findTriangle_23 : decode cX7_findTriangle 23 = .ok (.aload_n 1, 1) := by decide +kernel
theorem dX7_findTriangle_24 : decode cX7_findTriangle 24 = .ok (.invokevirtual 66, 3) := by decide +kernel
theorem dX7_findTriangle_27 : decode cX7_findTriangle 27 = .ok (.if_icmp .ge 123, 3) := by decide +kernel
theorem dX7_findTriangle_30 : decode cX7_findTriangle 30 = .ok (.iload 6, 2) := by decide +kernel
theorem dX7_findTriangle_32 : decode cX7_findTriangle 32 = .ok (.iconst 1, 1) := by decide +kernel
theorem dX7_findTriangle_33 : decode cX7_findTriangle 33 = .ok (.iadd, 1) := by decide +kernel
theorem dX7_findTriangle_34 : decode cX7_findTriangle 34 = .ok (.istore 7, 2) := by decide +kernel
theorem dX7_findTriangle_36 : decode cX7_findTriangle 36 = .ok (.iload 7, 2) := by decide +kernel
theorem dX7_findTriangle_38 : decode cX7_findTriangle 38 = .ok (.aload_n 1, 1) := by decide +kernel
theorem dX7_findTriangle_39 : decode cX7_findTriangle 39 = .ok (.invokevirtual 66, 3) := by decide +kernel
theorem dX7_findTriangle_42 : decode cX7_findTriangle 42 = .ok (.if_icmp .ge 102, 3) := by decide +kernel
theorem dX7_findTriangle_45 : decode cX7_findTriangle 45 = .ok (.aload_n 1, 1) := by decide +kernel
theorem dX7_findTriangle_46 : decode cX7_findTriangle 46 = .ok (.iload 5, 2) := by decide +kernel
theorem dX7_findTriangle_48 : decode cX7_findTriangle 48 = .ok (.iload 6, 2) := by decide +kernel
theorem dX7_findTriangle_50 : decode cX7_findTriangle 50 = .ok (.iload 7, 2) := by decide +kernel
theorem dX7_findTriangle_52 : decode cX7_findTriangle 52 = .ok (.invokevirtual 70, 3) := by decide +kernel
theorem dX7_findTriangle_55 : decode cX7_findTriangle 55 = .ok (.invokestatic 73, 3) := by decide +kernel
theorem dX7_findTriangle_58 : decode cX7_findTriangle 58 = .ok (.istore 8, 2) := by decide +kernel
theorem dX7_findTriangle_60 : decode cX7_findTriangle 60 = .ok (.iload 4, 2) := by decide +kernel
theorem dX7_findTriangle_62 : decode cX7_findTriangle 62 = .ok (.ifCond .eq 10, 3) := by decide +kernel
theorem dX7_findTriangle_65 : decode cX7_findTriangle 65 = .ok (.iload 8, 2) := by decide +kernel
theorem dX7_findTriangle_67 : decode cX7_findTriangle 67 = .ok (.iload 4, 2) := by decide +kernel
theorem dX7_findTriangle_69 : decode cX7_findTriangle 69 = .ok (.if_icmp .ge 7, 3) := by decide +kernel
theorem dX7_findTriangle_72 : decode cX7_findTriangle 72 = .ok (.iconst 1, 1) := by decide +kernel
theorem dX7_findTriangle_73 : decode cX7_findTriangle 73 = .ok (.goto 4, 3) := by decide +kernel
theorem dX7_findTriangle_76 : decode cX7_findTriangle 76 = .ok (.iconst 0, 1) := by decide +kernel
theorem dX7_findTriangle_77 : decode cX7_findTriangle 77 = .ok (.istore 9, 2) := by decide +kernel
theorem dX7_findTriangle_79 : decode cX7_findTriangle 79 = .ok (.iload 8, 2) := by decide +kernel
theorem dX7_findTriangle_81 : decode cX7_findTriangle 81 = .ok (.ifCond .le 57, 3) := by decide +kernel
theorem dX7_findTriangle_84 : decode cX7_findTriangle 84 = .ok (.iload 9, 2) := by decide +kernel
theorem dX7_findTriangle_86 : decode cX7_findTriangle 86 = .ok (.ifCond .eq 52, 3) := by decide +kernel
theorem dX7_findTriangle_89 : decode cX7_findTriangle 89 = .ok (.aload_n 2, 1) := by decide +kernel
theorem dX7_findTriangle_90 : decode cX7_findTriangle 90 = .ok (.iload 5, 2) := by decide +kernel
theorem dX7_findTriangle_92 : decode cX7_findTriangle 92 = .ok (.iload 6, 2) := by decide +kernel
theorem dX7_findTriangle_94 : decode cX7_findTriangle 94 = .ok (.iload 7, 2) := by decide +kernel
theorem dX7_findTriangle_96 : decode cX7_findTriangle 96 = .ok (.invokevirtual 78, 3) := by decide +kernel
theorem dX7_findTriangle_99 : decode cX7_findTriangle 99 = .ok (.ifCond .eq 39, 3) := by decide +kernel
theorem dX7_findTriangle_102 : decode cX7_findTriangle 102 = .ok (.aload_n 1, 1) := by decide +kernel
theorem dX7_findTriangle_103 : decode cX7_findTriangle 103 = .ok (.iload_n 3, 1) := by decide +kernel
theorem dX7_findTriangle_104 : decode cX7_findTriangle 104 = .ok (.iload 5, 2) := by decide +kernel
theorem dX7_findTriangle_106 : decode cX7_findTriangle 106 = .ok (.iload 6, 2) := by decide +kernel
theorem dX7_findTriangle_108 : decode cX7_findTriangle 108 = .ok (.iload 7, 2) := by decide +kernel
theorem dX7_findTriangle_110 : decode cX7_findTriangle 110 = .ok (.invokestatic 82, 3) := by decide +kernel
theorem dX7_findTriangle_113 : decode cX7_findTriangle 113 = .ok (.ifCond .eq 25, 3) := by decide +kernel
theorem dX7_findTriangle_116 : decode cX7_findTriangle 116 = .ok (.iload 8, 2) := by decide +kernel
theorem dX7_findTriangle_118 : decode cX7_findTriangle 118 = .ok (.istore 4, 2) := by decide +kernel
theorem dX7_findTriangle_120 : decode cX7_findTriangle 120 = .ok (.aload_n 0, 1) := by decide +kernel
theorem dX7_findTriangle_121 : decode cX7_findTriangle 121 = .ok (.iload 5, 2) := by decide +kernel
theorem dX7_findTriangle_123 : decode cX7_findTriangle 123 = .ok (.putfield 86, 3) := by decide +kernel
theorem dX7_findTriangle_126 : decode cX7_findTriangle 126 = .ok (.aload_n 0, 1) := by decide +kernel
theorem dX7_findTriangle_127 : decode cX7_findTriangle 127 = .ok (.iload 6, 2) := by decide +kernel
theorem dX7_findTriangle_129 : decode cX7_findTriangle 129 = .ok (.putfield 89, 3) := by decide +kernel
theorem dX7_findTriangle_132 : decode cX7_findTriangle 132 = .ok (.aload_n 0, 1) := by decide +kernel
theorem dX7_findTriangle_133 : decode cX7_findTriangle 133 = .ok (.iload 7, 2) := by decide +kernel
theorem dX7_findTriangle_135 : decode cX7_findTriangle 135 = .ok (.putfield 92, 3) := by decide +kernel
theorem dX7_findTriangle_138 : decode cX7_findTriangle 138 = .ok (.iinc 7 1, 3) := by decide +kernel
theorem dX7_findTriangle_141 : decode cX7_findTriangle 141 = .ok (.goto (-105), 3) := by decide +kernel
theorem dX7_findTriangle_144 : decode cX7_findTriangle 144 = .ok (.iinc 6 1, 3) := by decide +kernel
theorem dX7_findTriangle_147 : decode cX7_findTriangle 147 = .ok (.goto (-126), 3) := by decide +kernel
theorem dX7_findTriangle_150 : decode cX7_findTriangle 150 = .ok (.iinc 5 1, 3) := by decide +kernel
theorem dX7_findTriangle_153 : decode cX7_findTriangle 153 = .ok (.goto (-147), 3) := by decide +kernel
theorem dX7_findTriangle_156 : decode cX7_findTriangle 156 = .ok (.iload 4, 2) := by decide +kernel
theorem dX7_findTriangle_158 : decode cX7_findTriangle 158 = .ok (.ifCond .le 7, 3) := by decide +kernel
theorem dX7_findTriangle_161 : decode cX7_findTriangle 161 = .ok (.iconst 1, 1) := by decide +kernel
theorem dX7_findTriangle_162 : decode cX7_findTriangle 162 = .ok (.goto 4, 3) := by decide +kernel
theorem dX7_findTriangle_165 : decode cX7_findTriangle 165 = .ok (.iconst 0, 1) := by decide +kernel
theorem dX7_findTriangle_166 : decode cX7_findTriangle 166 = .ok (.ireturn, 1) := by decide +kernel
theorem dX7_isInside_0 : decode cX7_isInside 0 = .ok (.aload_n 0, 1) := by decide +kernel
theorem dX7_isInside_1 : decode cX7_isInside 1 = .ok (.iload_n 1, 1) := by decide +kernel
theorem dX7_isInside_2 : decode cX7_isInside 2 = .ok (.iload_n 3, 1) := by decide +kernel
theorem dX7_isInside_3 : decode cX7_isInside 3 = .ok (.iload 4, 2) := by decide +kernel
theorem dX7_isInside_5 : decode cX7_isInside 5 = .ok (.invokevirtual 70, 3) := by decide +kernel
theorem dX7_isInside_8 : decode cX7_isInside 8 = .ok (.invokestatic 73, 3) := by decide +kernel
theorem dX7_isInside_11 : decode cX7_isInside 11 = .ok (.aload_n 0, 1) := by decide +kernel
theorem dX7_isInside_12 : decode cX7_isInside 12 = .ok (.iload_n 2, 1) := by decide +kernel
theorem dX7_isInside_13 : decode cX7_isInside 13 = .ok (.iload_n 1, 1) := by decide +kernel
theorem dX7_isInside_14 : decode cX7_isInside 14 = .ok (.iload 4, 2) := by decide +kernel
theorem dX7_isInside_16 : decode cX7_isInside 16 = .ok (.invokevirtual 70, 3) := by decide +kernel
theorem dX7_isInside_19 : decode cX7_isInside 19 = .ok (.invokestatic 73, 3) := by decide +kernel
theorem dX7_isInside_22 : decode cX7_isInside 22 = .ok (.iadd, 1) := by decide +kernel
theorem dX7_isInside_23 : decode cX7_isInside 23 = .ok (.aload_n 0, 1) := by decide +kernel
theorem dX7_isInside_24 : decode cX7_isInside 24 = .ok (.iload_n 2, 1) := by decide +kernel
theorem dX7_isInside_25 : decode cX7_isInside 25 = .ok (.iload_n 3, 1) := by decide +kernel
theorem dX7_isInside_26 : decode cX7_isInside 26 = .ok (.iload_n 1, 1) := by decide +kernel
theorem dX7_isInside_27 : decode cX7_isInside 27 = .ok (.invokevirtual 70, 3) := by decide +kernel
theorem dX7_isInside_30 : decode cX7_isInside 30 = .ok (.invokestatic 73, 3) := by decide +kernel
theorem dX7_isInside_33 : decode cX7_isInside 33 = .ok (.iadd, 1) := by decide +kernel
theorem dX7_isInside_34 : decode cX7_isInside 34 = .ok (.istore 5, 2) := by decide +kernel
theorem dX7_isInside_36 : decode cX7_isInside 36 = .ok (.iload 5, 2) := by decide +kernel
theorem dX7_isInside_38 : decode cX7_isInside 38 = .ok (.aload_n 0, 1) := by decide +kernel
theorem dX7_isInside_39 : decode cX7_isInside 39 = .ok (.iload_n 2, 1) := by decide +kernel
theorem dX7_isInside_40 : decode cX7_isInside 40 = .ok (.iload_n 3, 1) := by decide +kernel
theorem dX7_isInside_41 : decode cX7_isInside 41 = .ok (.iload 4, 2) := by decide +kernel
theorem dX7_isInside_43 : decode cX7_isInside 43 = .ok (.invokevirtual 70, 3) := by decide +kernel
theorem dX7_isInside_46 : decode cX7_isInside 46 = .ok (.invokestatic 73, 3) := by decide +kernel
theorem dX7_isInside_49 : decode cX7_isInside 49 = .ok (.if_icmp .ne 7, 3) := by decide +kernel
theorem dX7_isInside_52 : decode cX7_isInside 52 = .ok (.iconst 1, 1) := by decide +kernel
theorem dX7_isInside_53 : decode cX7_isInside 53 = .ok (.goto 4, 3) := by decide +kernel
theorem dX7_isInside_56 : decode cX7_isInside 56 = .ok (.iconst 0, 1) := by decide +kernel
theorem dX7_isInside_57 : decode cX7_isInside 57 = .ok (.ireturn, 1) := by decide +kernel
theorem dX7_blend_0 : decode cX7_blend 0 = .ok (.aload_n 1, 1) := by decide +kernel
theorem dX7_blend_1 : decode cX7_blend 1 = .ok (.iconst 0, 1) := by decide +kernel
theorem dX7_blend_2 : decode cX7_blend 2 = .ok (.invokevirtual 25, 3) := by decide +kernel
theorem dX7_blend_5 : decode cX7_blend 5 = .ok (.astore 4, 2) := by decide +kernel
theorem dX7_blend_7 : decode cX7_blend 7 = .ok (.aload_n 1, 1) := by decide +kernel
theorem dX7_blend_8 : decode cX7_blend 8 = .ok (.iconst 1, 1) := by decide +kernel
theorem dX7_blend_9 : decode cX7_blend 9 = .ok (.invokevirtual 25, 3) := by decide +kernel
theorem dX7_blend_12 : decode cX7_blend 12 = .ok (.astore 5, 2) := by decide +kernel
theorem dX7_blend_14 : decode cX7_blend 14 = .ok (.aload 4, 2) := by decide +kernel
theorem dX7_blend_16 : decode cX7_blend 16 = .ok (.iload_n 3, 1) := by decide +kernel
theorem dX7_blend_17 : decode cX7_blend 17 = .ok (.aload_n 0, 1) := by decide +kernel
theorem dX7_blend_18 : decode cX7_blend 18 = .ok (.getfield 89, 3) := by decide +kernel
theorem dX7_blend_21 : decode cX7_blend 21 = .ok (.aload_n 0, 1) := by decide +kernel
theorem dX7_blend_22 : decode cX7_blend 22 = .ok (.getfield 92, 3) := by decide +kernel
theorem dX7_blend_25 : decode cX7_blend 25 = .ok (.invokevirtual 70, 3) := by decide +kernel
theorem dX7_blend_28 : decode cX7_blend 28 = .ok (.invokestatic 73, 3) := by decide +kernel
theorem dX7_blend_31 : decode cX7_blend 31 = .ok (.istore 6, 2) := by decide +kernel
theorem dX7_blend_33 : decode cX7_blend 33 = .ok (.aload 4, 2) := by decide +kernel
theorem dX7_blend_35 : decode cX7_blend 35 = .ok (.aload_n 0, 1) := by decide +kernel
theorem dX7_blend_36 : decode cX7_blend 36 = .ok (.getfield 86, 3) := by decide +kernel
theorem dX7_blend_39 : decode cX7_blend 39 = .ok (.iload_n 3, 1) := by decide +kernel
theorem dX7_blend_40 : decode cX7_blend 40 = .ok (.aload_n 0, 1) := by decide +kernel
theorem dX7_blend_41 : decode cX7_blend 41 = .ok (.getfield 92, 3) := by decide +kernel
theorem dX7_blend_44 : decode cX7_blend 44 = .ok (.invokevirtual 70, 3) := by decide +kernel
theorem dX7_blend_47 : decode cX7_blend 47 = .ok (.invokestatic 73, 3) := by decide +kernel
theorem dX7_blend_50 : decode cX7_blend 50 = .ok (.istore 7, 2) := by decide +kernel
theorem dX7_blend_52 : decode cX7_blend 52 = .ok (.aload 4, 2) := by decide +kernel
theorem dX7_blend_54 : decode cX7_blend 54 = .ok (.aload_n 0, 1) := by decide +kernel
theorem dX7_blend_55 : decode cX7_blend 55 = .ok (.getfield 86, 3) := by decide +kernel
theorem dX7_blend_58 : decode cX7_blend 58 = .ok (.aload_n 0, 1) := by decide +kernel
theorem dX7_blend_59 : decode cX7_blend 59 = .ok (.getfield 89, 3) := by decide +kernel
theorem dX7_blend_62 : decode cX7_blend 62 = .ok (.iload_n 3, 1) := by decide +kernel
theorem dX7_blend_63 : decode cX7_blend 63 = .ok (.invokevirtual 70, 3) := by decide +kernel
theorem dX7_blend_66 : decode cX7_blend 66 = .ok (.invokestatic 73, 3) := by decide +kernel
theorem dX7_blend_69 : decode cX7_blend 69 = .ok (.istore 8, 2) := by decide +kernel
theorem dX7_blend_71 : decode cX7_blend 71 = .ok (.aload_n 2, 1) := by decide +kernel
theorem dX7_blend_72 : decode cX7_blend 72 = .ok (.iconst 0, 1) := by decide +kernel
theorem dX7_blend_73 : decode cX7_blend 73 = .ok (.aload_n 0, 1) := by decide +kernel
theorem dX7_blend_74 : decode cX7_blend 74 = .ok (.getfield 86, 3) := by decide +kernel
theorem dX7_blend_77 : decode cX7_blend 77 = .ok (.invokevirtual 31, 3) := by decide +kernel
theorem dX7_blend_80 : decode cX7_blend 80 = .ok (.istore 9, 2) := by decide +kernel
theorem dX7_blend_82 : decode cX7_blend 82 = .ok (.aload_n 2, 1) := by decide +kernel
theorem dX7_blend_83 : decode cX7_blend 83 = .ok (.iconst 0, 1) := by decide +kernel
theorem dX7_blend_84 : decode cX7_blend 84 = .ok (.aload_n 0, 1) := by decide +kernel
theorem dX7_blend_85 : decode cX7_blend 85 = .ok (.getfield 89, 3) := by decide +kernel
theorem dX7_blend_88 : decode cX7_blend 88 = .ok (.invokevirtual 31, 3) := by decide +kernel
theorem dX7_blend_91 : decode cX7_blend 91 = .ok (.istore 10, 2) := by decide +kernel
theorem dX7_blend_93 : decode cX7_blend 93 = .ok (.aload_n 2, 1) := by decide +kernel
theorem dX7_blend_94 : decode cX7_blend 94 = .ok (.iconst 0, 1) := by decide +kernel
theorem dX7_blend_95 : decode cX7_blend 95 = .ok (.aload_n 0, 1) := by decide +kernel
theorem dX7_blend_96 : decode cX7_blend 96 = .ok (.getfield 92, 3) := by decide +kernel
theorem dX7_blend_99 : decode cX7_blend 99 = .ok (.invokevirtual 31, 3) := by decide +kernel
theorem dX7_blend_102 : decode cX7_blend 102 = .ok (.istore 11, 2) := by decide +kernel
theorem dX7_blend_104 : decode cX7_blend 104 = .ok (.iload 6, 2) := by decide +kernel
theorem dX7_blend_106 : decode cX7_blend 106 = .ok (.aload 5, 2) := by decide +kernel
theorem dX7_blend_108 : decode cX7_blend 108 = .ok (.iload 9, 2) := by decide +kernel
theorem dX7_blend_110 : decode cX7_blend 110 = .ok (.invokevirtual 37, 3) := by decide +kernel
theorem dX7_blend_113 : decode cX7_blend 113 = .ok (.imul, 1) := by decide +kernel
theorem dX7_blend_114 : decode cX7_blend 114 = .ok (.iload 7, 2) := by decide +kernel
theorem dX7_blend_116 : decode cX7_blend 116 = .ok (.aload 5, 2) := by decide +kernel
theorem dX7_blend_118 : decode cX7_blend 118 = .ok (.iload 10, 2) := by decide +kernel
theorem dX7_blend_120 : decode cX7_blend 120 = .ok (.invokevirtual 37, 3) := by decide +kernel
theorem dX7_blend_123 : decode cX7_blend 123 = .ok (.imul, 1) := by decide +kernel
theorem dX7_blend_124 : decode cX7_blend 124 = .ok (.iadd, 1) := by decide +kernel
theorem dX7_blend_125 : decode cX7_blend 125 = .ok (.iload 8, 2) := by decide +kernel
theorem dX7_blend_127 : decode cX7_blend 127 = .ok (.aload 5, 2) := by decide +kernel
theorem dX7_blend_129 : decode cX7_blend 129 = .ok (.iload 11, 2) := by decide +kernel
theorem dX7_blend_131 : decode cX7_blend 131 = .ok (.invokevirtual 37, 3) := by decide +kernel
theorem dX7_blend_134 : decode cX7_blend 134 = .ok (.imul, 1) := by decide +kernel
theorem dX7_blend_135 : decode cX7_blend 135 = .ok (.iadd, 1) := by decide +kernel
theorem dX7_blend_136 : decode cX7_blend 136 = .ok (.istore 12, 2) := by decide +kernel
theorem dX7_blend_138 : decode cX7_blend 138 = .ok (.iload 6, 2) := by decide +kernel
theorem dX7_blend_140 : decode cX7_blend 140 = .ok (.aload 5, 2) := by decide +kernel
theorem dX7_blend_142 : decode cX7_blend 142 = .ok (.iload 9, 2) := by decide +kernel
theorem dX7_blend_144 : decode cX7_blend 144 = .ok (.invokevirtual 43, 3) := by decide +kernel
theorem dX7_blend_147 : decode cX7_blend 147 = .ok (.imul, 1) := by decide +kernel
theorem dX7_blend_148 : decode cX7_blend 148 = .ok (.iload 7, 2) := by decide +kernel
theorem dX7_blend_150 : decode cX7_blend 150 = .ok (.aload 5, 2) := by decide +kernel
theorem dX7_blend_152 : decode cX7_blend 152 = .ok (.iload 10, 2) := by decide +kernel
theorem dX7_blend_154 : decode cX7_blend 154 = .ok (.invokevirtual 43, 3) := by decide +kernel
theorem dX7_blend_157 : decode cX7_blend 157 = .ok (.imul, 1) := by decide +kernel
theorem dX7_blend_158 : decode cX7_blend 158 = .ok (.iadd, 1) := by decide +kernel
theorem dX7_blend_159 : decode cX7_blend 159 = .ok (.iload 8, 2) := by decide +kernel
theorem dX7_blend_161 : decode cX7_blend 161 = .ok (.aload 5, 2) := by decide +kernel
theorem dX7_blend_163 : decode cX7_blend 163 = .ok (.iload 11, 2) := by decide +kernel
theorem dX7_blend_165 : decode cX7_blend 165 = .ok (.invokevirtual 43, 3) := by decide +kernel
theorem dX7_blend_168 : decode cX7_blend 168 = .ok (.imul, 1) := by decide +kernel
theorem dX7_blend_169 : decode cX7_blend 169 = .ok (.iadd, 1) := by decide +kernel
theorem dX7_blend_170 : decode cX7_blend 170 = .ok (.istore 13, 2) := by decide +kernel
theorem dX7_blend_172 : decode cX7_blend 172 = .ok (.aload_n 0, 1) := by decide +kernel
theorem dX7_blend_173 : decode cX7_blend 173 = .ok (.iload 12, 2) := by decide +kernel
theorem dX7_blend_175 : decode cX7_blend 175 = .ok (.iload 13, 2) := by decide +kernel
theorem dX7_blend_177 : decode cX7_blend 177 = .ok (.iload 6, 2) := by decide +kernel
theorem dX7_blend_179 : decode cX7_blend 179 = .ok (.iload 7, 2) := by decide +kernel
theorem dX7_blend_181 : decode cX7_blend 181 = .ok (.iadd, 1) := by decide +kernel
theorem dX7_blend_182 : decode cX7_blend 182 = .ok (.iload 8, 2) := by decide +kernel
theorem dX7_blend_184 : decode cX7_blend 184 = .ok (.iadd, 1) := by decide +kernel
theorem dX7_blend_185 : decode cX7_blend 185 = .ok (.invokevirtual 46, 3) := by decide +kernel
theorem dX7_blend_188 : decode cX7_blend 188 = .ok (.return_, 1) := by decide +kernel
theorem dX7_nearest_0 : decode cX7_nearest 0 = .ok (.iconst (-1), 1) := by decide +kernel
theorem dX7_nearest_1 : decode cX7_nearest 1 = .ok (.istore_n 3, 1) := by decide +kernel
theorem dX7_nearest_2 : decode cX7_nearest 2 = .ok (.iconst 0, 1) := by decide +kernel
theorem dX7_nearest_3 : decode cX7_nearest 3 = .ok (.istore 4, 2) := by decide +kernel
theorem dX7_nearest_5 : decode cX7_nearest 5 = .ok (.iconst 0, 1) := by decide +kernel
theorem dX7_nearest_6 : decode cX7_nearest 6 = .ok (.istore 5, 2) := by decide +kernel
theorem dX7_nearest_8 : decode cX7_nearest 8 = .ok (.iload 5, 2) := by decide +kernel
theorem dX7_nearest_10 : decode cX7_nearest 10 = .ok (.aload_n 0, 1) := by decide +kernel
theorem dX7_nearest_11 : decode cX7_nearest 11 = .ok (.invokevirtual 66, 3) := by decide +kernel
theorem dX7_nearest_14 : decode cX7_nearest 14 = .ok (.if_icmp .ge 92, 3) := by decide +kernel
theorem dX7_nearest_17 : decode cX7_nearest 17 = .ok (.aload_n 0, 1) := by decide +kernel
theorem dX7_nearest_18 : decode cX7_nearest 18 = .ok (.iload 5, 2) := by decide +kernel
theorem dX7_nearest_20 : decode cX7_nearest 20 = .ok (.invokevirtual 37, 3) := by decide +kernel
theorem dX7_nearest_23 : decode cX7_nearest 23 = .ok (.aload_n 0, 1) := by decide +kernel
theorem dX7_nearest_24 : decode cX7_nearest 24 = .ok (.iload_n 2, 1) := by decide +kernel
theorem dX7_nearest_25 : decode cX7_nearest 25 = .ok (.invokevirtual 37, 3) := by decide +kernel
theorem dX7_nearest_28 : decode cX7_nearest 28 = .ok (.isub, 1) := by decide +kernel
theorem dX7_nearest_29 : decode cX7_nearest 29 = .ok (.istore 6, 2) := by decide +kernel
theorem dX7_nearest_31 : decode cX7_nearest 31 = .ok (.aload_n 0, 1) := by decide +kernel
theorem dX7_nearest_32 : decode cX7_nearest 32 = .ok (.iload 5, 2) := by decide +kernel
theorem dX7_nearest_34 : decode cX7_nearest 34 = .ok (.invokevirtual 43, 3) := by decide +kernel
theorem dX7_nearest_37 : decode cX7_nearest 37 = .ok (.aload_n 0, 1) := by decide +kernel
theorem dX7_nearest_38 : decode cX7_nearest 38 = .ok (.iload_n 2, 1) := by decide +kernel
theorem dX7_nearest_39 : decode cX7_nearest 39 = .ok (.invokevirtual 43, 3) := by decide +kernel
theorem dX7_nearest_42 : decode cX7_nearest 42 = .ok (.isub, 1) := by decide +kernel
theorem dX7_nearest_43 : decode cX7_nearest 43 = .ok (.istore 7, 2) := by decide +kernel
theorem dX7_nearest_45 : decode cX7_nearest 45 = .ok (.iload 6, 2) := by decide +kernel
theorem dX7_nearest_47 : decode cX7_nearest 47 = .ok (.iload 6, 2) := by decide +kernel
theorem dX7_nearest_49 : decode cX7_nearest 49 = .ok (.imul, 1) := by decide +kernel
theorem dX7_nearest_50 : decode cX7_nearest 50 = .ok (.iload 7, 2) := by decide +kernel
theorem dX7_nearest_52 : decode cX7_nearest 52 = .ok (.iload 7, 2) := by decide +kernel
theorem dX7_nearest_54 : decode cX7_nearest 54 = .ok (.imul, 1) := by decide +kernel
theorem dX7_nearest_55 : decode cX7_nearest 55 = .ok (.iadd, 1) := by decide +kernel
theorem dX7_nearest_56 : decode cX7_nearest 56 = .ok (.istore 8, 2) := by decide +kernel
theorem dX7_nearest_58 : decode cX7_nearest 58 = .ok (.iload_n 3, 1) := by decide +kernel
theorem dX7_nearest_59 : decode cX7_nearest 59 = .ok (.iconst (-1), 1) := by decide +kernel
theorem dX7_nearest_60 : decode cX7_nearest 60 = .ok (.if_icmp .eq 10, 3) := by decide +kernel
theorem dX7_nearest_63 : decode cX7_nearest 63 = .ok (.iload 8, 2) := by decide +kernel
theorem dX7_nearest_65 : decode cX7_nearest 65 = .ok (.iload 4, 2) := by decide +kernel
theorem dX7_nearest_67 : decode cX7_nearest 67 = .ok (.if_icmp .ge 7, 3) := by decide +kernel
theorem dX7_nearest_70 : decode cX7_nearest 70 = .ok (.iconst 1, 1) := by decide +kernel
theorem dX7_nearest_71 : decode cX7_nearest 71 = .ok (.goto 4, 3) := by decide +kernel
theorem dX7_nearest_74 : decode cX7_nearest 74 = .ok (.iconst 0, 1) := by decide +kernel
theorem dX7_nearest_75 : decode cX7_nearest 75 = .ok (.istore 9, 2) := by decide +kernel
theorem dX7_nearest_77 : decode cX7_nearest 77 = .ok (.iload 9, 2) := by decide +kernel
theorem dX7_nearest_79 : decode cX7_nearest 79 = .ok (.ifCond .eq 21, 3) := by decide +kernel
theorem dX7_nearest_82 : decode cX7_nearest 82 = .ok (.aload_n 1, 1) := by decide +kernel
theorem dX7_nearest_83 : decode cX7_nearest 83 = .ok (.iconst 0, 1) := by decide +kernel
theorem dX7_nearest_84 : decode cX7_nearest 84 = .ok (.iload 5, 2) := by decide +kernel
theorem dX7_nearest_86 : decode cX7_nearest 86 = .ok (.invokevirtual 31, 3) := by decide +kernel
theorem dX7_nearest_89 : decode cX7_nearest 89 = .ok (.iconst (-1), 1) := by decide +kernel
theorem dX7_nearest_90 : decode cX7_nearest 90 = .ok (.if_icmp .eq 10, 3) := by decide +kernel
theorem dX7_nearest_93 : decode cX7_nearest 93 = .ok (.iload 5, 2) := by decide +kernel
theorem dX7_nearest_95 : decode cX7_nearest 95 = .ok (.istore_n 3, 1) := by decide +kernel
theorem dX7_nearest_96 : decode cX7_nearest 96 = .ok (.iload 8, 2) := by decide +kernel
theorem dX7_nearest_98 : decode cX7_nearest 98 = .ok (.istore 4, 2) := by decide +kernel
theorem dX7_nearest_100 : decode cX7_nearest 100 = .ok (.iinc 5 1, 3) := by decide +kernel
theorem dX7_nearest_103 : decode cX7_nearest 103 = .ok (.goto (-95), 3) := by decide +kernel
theorem dX7_nearest_106 : decode cX7_nearest 106 = .ok (.iload_n 3, 1) := by decide +kernel
theorem dX7_nearest_107 : decode cX7_nearest 107 = .ok (.ireturn, 1) := by decide +kernel
theorem dX7_follow_0 : decode cX7_follow 0 = .ok (.aload_n 1, 1) := by decide +kernel
theorem dX7_follow_1 : decode cX7_follow 1 = .ok (.iconst 0, 1) := by decide +kernel
theorem dX7_follow_2 : decode cX7_follow 2 = .ok (.invokevirtual 25, 3) := by decide +kernel
theorem dX7_follow_5 : decode cX7_follow 5 = .ok (.astore 5, 2) := by decide +kernel
theorem dX7_follow_7 : decode cX7_follow 7 = .ok (.aload_n 1, 1) := by decide +kernel
theorem dX7_follow_8 : decode cX7_follow 8 = .ok (.iconst 1, 1) := by decide +kernel
theorem dX7_follow_9 : decode cX7_follow 9 = .ok (.invokevirtual 25, 3) := by decide +kernel
theorem dX7_follow_12 : decode cX7_follow 12 = .ok (.astore 6, 2) := by decide +kernel
theorem dX7_follow_14 : decode cX7_follow 14 = .ok (.aload 5, 2) := by decide +kernel
theorem dX7_follow_16 : decode cX7_follow 16 = .ok (.iload_n 3, 1) := by decide +kernel
theorem dX7_follow_17 : decode cX7_follow 17 = .ok (.invokevirtual 37, 3) := by decide +kernel
theorem dX7_follow_20 : decode cX7_follow 20 = .ok (.istore 7, 2) := by decide +kernel
theorem dX7_follow_22 : decode cX7_follow 22 = .ok (.aload 5, 2) := by decide +kernel
theorem dX7_follow_24 : decode cX7_follow 24 = .ok (.iload_n 3, 1) := by decide +kernel
theorem dX7_follow_25 : decode cX7_follow 25 = .ok (.invokevirtual 43, 3) := by decide +kernel
theorem dX7_follow_28 : decode cX7_follow 28 = .ok (.istore 8, 2) := by decide +kernel
theorem dX7_follow_30 : decode cX7_follow 30 = .ok (.iload 4, 2) := by decide +kernel
theorem dX7_follow_32 : decode cX7_follow 32 = .ok (.iconst (-1), 1) := by decide +kernel
theorem dX7_follow_33 : decode cX7_follow 33 = .ok (.if_icmp .eq 52, 3) := by decide +kernel
theorem dX7_follow_36 : decode cX7_follow 36 = .ok (.aload_n 2, 1) := by decide +kernel
theorem dX7_follow_37 : decode cX7_follow 37 = .ok (.iconst 0, 1) := by decide +kernel
theorem dX7_follow_38 : decode cX7_follow 38 = .ok (.iload 4, 2) := by decide +kernel
theorem dX7_follow_40 : decode cX7_follow 40 = .ok (.invokevirtual 31, 3) := by decide +kernel
theorem dX7_follow_43 : decode cX7_follow 43 = .ok (.istore 9, 2) := by decide +kernel
theorem dX7_follow_45 : decode cX7_follow 45 = .ok (.iload 7, 2) := by decide +kernel
theorem dX7_follow_47 : decode cX7_follow 47 = .ok (.aload 6, 2) := by decide +kernel
theorem dX7_follow_49 : decode cX7_follow 49 = .ok (.iload 9, 2) := by decide +kernel
theorem dX7_follow_51 : decode cX7_follow 51 = .ok (.invokevirtual 37, 3) := by decide +kernel
theorem dX7_follow_54 : decode cX7_follow 54 = .ok (.aload 5, 2) := by decide +kernel
theorem dX7_follow_56 : decode cX7_follow 56 = .ok (.iload 4, 2) := by decide +kernel
theorem dX7_follow_58 : decode cX7_follow 58 = .ok (.invokevirtual 37, 3) := by decide +kernel
theorem dX7_follow_61 : decode cX7_follow 61 = .ok (.isub, 1) := by decide +kernel
theorem dX7_follow_62 : decode cX7_follow 62 = .ok (.iadd, 1) := by decide +kernel
theorem dX7_follow_63 : decode cX7_follow 63 = .ok (.istore 7, 2) := by decide +kernel
theorem dX7_follow_65 : decode cX7_follow 65 = .ok (.iload 8, 2) := by decide +kernel
theorem dX7_follow_67 : decode cX7_follow 67 = .ok (.aload 6, 2) := by decide +kernel
theorem dX7_follow_69 : decode cX7_follow 69 = .ok (.iload 9, 2) := by decide +kernel
theorem dX7_follow_71 : decode cX7_follow 71 = .ok (.invokevirtual 43, 3) := by decide +kernel
theorem dX7_follow_74 : decode cX7_follow 74 = .ok (.aload 5, 2) := by decide +kernel
theorem dX7_follow_76 : decode cX7_follow 76 = .ok (.iload 4, 2) := by decide +kernel
theorem dX7_follow_78 : decode cX7_follow 78 = .ok (.invokevirtual 43, 3) := by decide +kernel
theorem dX7_follow_81 : decode cX7_follow 81 = .ok (.isub, 1) := by decide +kernel
theorem dX7_follow_82 : decode cX7_follow 82 = .ok (.iadd, 1) := by decide +kernel
theorem dX7_follow_83 : decode cX7_follow 83 = .ok (.istore 8, 2) := by decide +kernel
theorem dX7_follow_85 : decode cX7_follow 85 = .ok (.aload_n 0, 1) := by decide +kernel
theorem dX7_follow_86 : decode cX7_follow 86 = .ok (.iload 7, 2) := by decide +kernel
theorem dX7_follow_88 : decode cX7_follow 88 = .ok (.iload 8, 2) := by decide +kernel
theorem dX7_follow_90 : decode cX7_follow 90 = .ok (.iconst 1, 1) := by decide +kernel
theorem dX7_follow_91 : decode cX7_follow 91 = .ok (.invokevirtual 46, 3) := by decide +kernel
theorem dX7_follow_94 : decode cX7_follow 94 = .ok (.return_, 1) := by decide +kernel
theorem dX7_reduced_0 : decode cX7_reduced 0 = .ok (.iload_n 1, 1) := by decide +kernel
theorem dX7_reduced_1 : decode cX7_reduced 1 = .ok (.invokestatic 73, 3) := by decide +kernel
theorem dX7_reduced_4 : decode cX7_reduced 4 = .ok (.istore_n 3, 1) := by decide +kernel
theorem dX7_reduced_5 : decode cX7_reduced 5 = .ok (.iload_n 2, 1) := by decide +kernel
theorem dX7_reduced_6 : decode cX7_reduced 6 = .ok (.istore 4, 2) := by decide +kernel
theorem dX7_reduced_8 : decode cX7_reduced 8 = .ok (.iconst 0, 1) := by decide +kernel
theorem dX7_reduced_9 : decode cX7_reduced 9 = .ok (.istore 5, 2) := by decide +kernel
theorem dX7_reduced_11 : decode cX7_reduced 11 = .ok (.iload 5, 2) := by decide +kernel
theorem dX7_reduced_13 : decode cX7_reduced 13 = .ok (.bipush 64, 2) := by decide +kernel
theorem dX7_reduced_15 : decode cX7_reduced 15 = .ok (.if_icmp .ge 27, 3) := by decide +kernel
theorem dX7_reduced_18 : decode cX7_reduced 18 = .ok (.iload 4, 2) := by decide +kernel
theorem dX7_reduced_20 : decode cX7_reduced 20 = .ok (.ifCond .eq 22, 3) := by decide +kernel
theorem dX7_reduced_23 : decode cX7_reduced 23 = .ok (.iload_n 3, 1) := by decide +kernel
theorem dX7_reduced_24 : decode cX7_reduced 24 = .ok (.iload 4, 2) := by decide +kernel
theorem dX7_reduced_26 : decode cX7_reduced 26 = .ok (.irem, 1) := by decide +kernel
theorem dX7_reduced_27 : decode cX7_reduced 27 = .ok (.istore 6, 2) := by decide +kernel
theorem dX7_reduced_29 : decode cX7_reduced 29 = .ok (.iload 4, 2) := by decide +kernel
theorem dX7_reduced_31 : decode cX7_reduced 31 = .ok (.istore_n 3, 1) := by decide +kernel
theorem dX7_reduced_32 : decode cX7_reduced 32 = .ok (.iload 6, 2) := by decide +kernel
theorem dX7_reduced_34 : decode cX7_reduced 34 = .ok (.istore 4, 2) := by decide +kernel
theorem dX7_reduced_36 : decode cX7_reduced 36 = .ok (.iinc 5 1, 3) := by decide +kernel
theorem dX7_reduced_39 : decode cX7_reduced 39 = .ok (.goto (-28), 3) := by decide +kernel
theorem dX7_reduced_42 : decode cX7_reduced 42 = .ok (.iload_n 3, 1) := by decide +kernel
theorem dX7_reduced_43 : decode cX7_reduced 43 = .ok (.ifCond .le 9, 3) := by decide +kernel
theorem dX7_reduced_46 : decode cX7_reduced 46 = .ok (.iload_n 0, 1) := by decide +kernel
theorem dX7_reduced_47 : decode cX7_reduced 47 = .ok (.iload_n 3, 1) := by decide +kernel
theorem dX7_reduced_48 : decode cX7_reduced 48 = .ok (.idiv, 1) := by decide +kernel
theorem dX7_reduced_49 : decode cX7_reduced 49 = .ok (.goto 4, 3) := by decide +kernel
theorem dX7_reduced_52 : decode cX7_reduced 52 = .ok (.iload_n 0, 1) := by decide +kernel
theorem dX7_reduced_53 : decode cX7_reduced 53 = .ok (.ireturn, 1) := by decide +kernel
theorem dX8_init_0 : decode cX8_init 0 = .ok (.aload_n 0, 1) := by decide +kernel
theorem dX8_init_1 : decode cX8_init 1 = .ok (.invokespecial 3, 3) := by decide +kernel
theorem dX8_init_4 : decode cX8_init 4 = .ok (.aload_n 0, 1) := by decide +kernel
theorem dX8_init_5 : decode cX8_init 5 = .ok (.iconst 4, 1) := by decide +kernel
theorem dX8_init_6 : decode cX8_init 6 = .ok (.newarray .int, 2) := by decide +kernel
theorem dX8_init_8 : decode cX8_init 8 = .ok (.putfield 9, 3) := by decide +kernel
theorem dX8_init_11 : decode cX8_init 11 = .ok (.return_, 1) := by decide +kernel
theorem dX8_isFound_0 : decode cX8_isFound 0 = .ok (.aload_n 0, 1) := by decide +kernel
theorem dX8_isFound_1 : decode cX8_isFound 1 = .ok (.getfield 15, 3) := by decide +kernel
theorem dX8_isFound_4 : decode cX8_isFound 4 = .ok (.ifCond .le 7, 3) := by decide +kernel
theorem dX8_isFound_7 : decode cX8_isFound 7 = .ok (.iconst 1, 1) := by decide +kernel
theorem dX8_isFound_8 : decode cX8_isFound 8 = .ok (.goto 4, 3) := by decide +kernel
theorem dX8_isFound_11 : decode cX8_isFound 11 = .ok (.iconst 0, 1) := by decide +kernel
theorem dX8_isFound_12 : decode cX8_isFound 12 = .ok (.ireturn, 1) := by decide +kernel
theorem dX8_streets_0 : decode cX8_streets 0 = .ok (.aload_n 0, 1) := by decide +kernel
theorem dX8_streets_1 : decode cX8_streets 1 = .ok (.getfield 15, 3) := by decide +kernel
theorem dX8_streets_4 : decode cX8_streets 4 = .ok (.ireturn, 1) := by decide +kernel
theorem dX8_stopAt_0 : decode cX8_stopAt 0 = .ok (.aload_n 0, 1) := by decide +kernel
theorem dX8_stopAt_1 : decode cX8_stopAt 1 = .ok (.invokevirtual 19, 3) := by decide +kernel
theorem dX8_stopAt_4 : decode cX8_stopAt 4 = .ok (.ifCond .eq 24, 3) := by decide +kernel
theorem dX8_stopAt_7 : decode cX8_stopAt 7 = .ok (.iload_n 1, 1) := by decide +kernel
theorem dX8_stopAt_8 : decode cX8_stopAt 8 = .ok (.iconst 0, 1) := by decide +kernel
theorem dX8_stopAt_9 : decode cX8_stopAt 9 = .ok (.aload_n 0, 1) := by decide +kernel
theorem dX8_stopAt_10 : decode cX8_stopAt 10 = .ok (.getfield 15, 3) := by decide +kernel
theorem dX8_stopAt_13 : decode cX8_stopAt 13 = .ok (.invokestatic 23, 3) := by decide +kernel
theorem dX8_stopAt_16 : decode cX8_stopAt 16 = .ok (.ifCond .eq 12, 3) := by decide +kernel
theorem dX8_stopAt_19 : decode cX8_stopAt 19 = .ok (.aload_n 0, 1) := by decide +kernel
theorem dX8_stopAt_20 : decode cX8_stopAt 20 = .ok (.getfield 9, 3) := by decide +kernel
theorem dX8_stopAt_23 : decode cX8_stopAt 23 = .ok (.iload_n 1, 1) := by decide +kernel
theorem dX8_stopAt_24 : decode cX8_stopAt 24 = .ok (.iaload, 1) := by decide +kernel
theorem dX8_stopAt_25 : decode cX8_stopAt 25 = .ok (.goto 5, 3) := by decide +kernel
theorem dX8_stopAt_28 : decode cX8_stopAt 28 = .ok (.bipush (-4), 2) := by decide +kernel
theorem dX8_stopAt_30 : decode cX8_stopAt 30 = .ok (.ireturn, 1) := by decide +kernel
theorem dX8_find_0 : decode cX8_find 0 = .ok (.aload_n 0, 1) := by decide +kernel
theorem dX8_find_1 : decode cX8_find 1 = .ok (.iconst 0, 1) := by decide +kernel
theorem dX8_find_2 : decode cX8_find 2 = .ok (.putfield 15, 3) := by decide +kernel
theorem dX8_find_5 : decode cX8_find 5 = .ok (.aload_n 1, 1) := by decide +kernel
theorem dX8_find_6 : decode cX8_find 6 = .ok (.iload_n 2, 1) := by decide +kernel
theorem dX8_find_7 : decode cX8_find 7 = .ok (.invokevirtual 27, 3) := by decide +kernel
theorem dX8_find_10 : decode cX8_find 10 = .ok (.ifCond .eq 11, 3) := by decide +kernel
theorem dX8_find_13 : decode cX8_find 13 = .ok (.aload_n 1, 1) := by decide +kernel
theorem dX8_find_14 : decode cX8_find 14 = .ok (.iload_n 3, 1) := by decide +kernel
theorem dX8_find_15 : decode cX8_find 15 = .ok (.invokevirtual 27, 3) := by decide +kernel
theorem dX8_find_18 : decode cX8_find 18 = .ok (.ifCond .ne 4, 3) := by decide +kernel
theorem dX8_find_21 : decode cX8_find 21 = .ok (.return_, 1) := by decide +kernel
theorem dX8_find_22 : decode cX8_find 22 = .ok (.aload_n 0, 1) := by decide +kernel
theorem dX8_find_23 : decode cX8_find 23 = .ok (.getfield 9, 3) := by decide +kernel
theorem dX8_find_26 : decode cX8_find 26 = .ok (.iconst 0, 1) := by decide +kernel
theorem dX8_find_27 : decode cX8_find 27 = .ok (.iload_n 2, 1) := by decide +kernel
theorem dX8_find_28 : decode cX8_find 28 = .ok (.iastore, 1) := by decide +kernel
theorem dX8_find_29 : decode cX8_find 29 = .ok (.aload_n 1, 1) := by decide +kernel
theorem dX8_find_30 : decode cX8_find 30 = .ok (.iload_n 2, 1) := by decide +kernel
theorem dX8_find_31 : decode cX8_find 31 = .ok (.iload_n 3, 1) := by decide +kernel
theorem dX8_find_32 : decode cX8_find 32 = .ok (.invokevirtual 33, 3) := by decide +kernel
theorem dX8_find_35 : decode cX8_find 35 = .ok (.iconst (-1), 1) := by decide +kernel
theorem dX8_find_36 : decode cX8_find 36 = .ok (.if_icmp .eq 18, 3) := by decide +kernel
theorem dX8_find_39 : decode cX8_find 39 = .ok (.aload_n 0, 1) := by decide +kernel
theorem dX8_find_40 : decode cX8_find 40 = .ok (.getfield 9, 3) := by decide +kernel
theorem dX8_find_43 : decode cX8_find 43 = .ok (.iconst 1, 1) := by decide +kernel
theorem dX8_find_44 : decode cX8_find 44 = .ok (.iload_n 3, 1) := by decide +kernel
theorem dX8_find_45 : decode cX8_find 45 = .ok (.iastore, 1) := by decide +kernel
theorem dX8_find_46 : decode cX8_find 46 = .ok (.aload_n 0, 1) := by decide +kernel
theorem dX8_find_47 : decode cX8_find 47 = .ok (.iconst 1, 1) := by decide +kernel
theorem dX8_find_48 : decode cX8_find 48 = .ok (.putfield 15, 3) := by decide +kernel
theorem dX8_find_51 : decode cX8_find 51 = .ok (.goto 50, 3) := by decide +kernel
theorem dX8_find_54 : decode cX8_find 54 = .ok (.aload_n 0, 1) := by decide +kernel
theorem dX8_find_55 : decode cX8_find 55 = .ok (.aload_n 1, 1) := by decide +kernel
theorem dX8_find_56 : decode cX8_find 56 = .ok (.iload_n 2, 1) := by decide +kernel
theorem dX8_find_57 : decode cX8_find 57 = .ok (.iload_n 3, 1) := by decide +kernel
theorem dX8_find_58 : decode cX8_find 58 = .ok (.invokevirtual 37, 3) := by decide +kernel
theorem dX8_find_61 : decode cX8_find 61 = .ok (.ifCond .eq 18, 3) := by decide +kernel
theorem dX8_find_64 : decode cX8_find 64 = .ok (.aload_n 0, 1) := by decide +kernel
theorem dX8_find_65 : decode cX8_find 65 = .ok (.getfield 9, 3) := by decide +kernel
theorem dX8_find_68 : decode cX8_find 68 = .ok (.iconst 2, 1) := by decide +kernel
theorem dX8_find_69 : decode cX8_find 69 = .ok (.iload_n 3, 1) := by decide +kernel
theorem dX8_find_70 : decode cX8_find 70 = .ok (.iastore, 1) := by decide +kernel
theorem dX8_find_71 : decode cX8_find 71 = .ok (.aload_n 0, 1) := by decide +kernel
theorem dX8_find_72 : decode cX8_find 72 = .ok (.iconst 2, 1) := by decide +kernel
theorem dX8_find_73 : decode cX8_find 73 = .ok (.putfield 15, 3) := by decide +kernel
theorem dX8_find_76 : decode cX8_find 76 = .ok (.goto 25, 3) := by decide +kernel
theorem dX8_find_79 : decode cX8_find 79 = .ok (.aload_n 0, 1) := by decide +kernel
theorem dX8_find_80 : decode cX8_find 80 = .ok (.aload_n 1, 1) := by decide +kernel
theorem dX8_find_81 : decode cX8_find 81 = .ok (.iload_n 2, 1) := by decide +kernel
theorem dX8_find_82 : decode cX8_find 82 = .ok (.iload_n 3, 1) := by decide +kernel
theorem dX8_find_83 : decode cX8_find 83 = .ok (.invokevirtual 41, 3) := by decide +kernel
theorem dX8_find_86 : decode cX8_find 86 = .ok (.ifCond .eq 15, 3) := by decide +kernel
theorem dX8_find_89 : decode cX8_find 89 = .ok (.aload_n 0, 1) := by decide +kernel
theorem dX8_find_90 : decode cX8_find 90 = .ok (.getfield 9, 3) := by decide +kernel
theorem dX8_find_93 : decode cX8_find 93 = .ok (.iconst 3, 1) := by decide +kernel
theorem dX8_find_94 : decode cX8_find 94 = .ok (.iload_n 3, 1) := by decide +kernel
theorem dX8_find_95 : decode cX8_find 95 = .ok (.iastore, 1) := by decide +kernel
theorem dX8_find_96 : decode cX8_find 96 = .ok (.aload_n 0, 1) := by decide +kernel
theorem dX8_find_97 : decode cX8_find 97 = .ok (.iconst 3, 1) := by decide +kernel
theorem dX8_find_98 : decode cX8_find 98 = .ok (.putfield 15, 3) := by decide +kernel
theorem dX8_find_101 : decode cX8_find 101 = .ok (.return_, 1) := by decide +kernel
theorem dX8_commonName_0 : decode cX8_commonName 0 = .ok (.iconst 0, 1) := by decide +kernel
theorem dX8_commonName_1 : decode cX8_commonName 1 = .ok (.istore_n 2, 1) := by decide +kernel
theorem dX8_commonName_2 : decode cX8_commonName 2 = .ok (.iconst 0, 1) := by decide +kernel
theorem dX8_commonName_3 : decode cX8_commonName 3 = .ok (.istore_n 3, 1) := by decide +kernel
theorem dX8_commonName_4 : decode cX8_commonName 4 = .ok (.iload_n 3, 1) := by decide +kernel
theorem dX8_commonName_5 : decode cX8_commonName 5 = .ok (.aload_n 0, 1) := by decide +kernel
theorem dX8_commonName_6 : decode cX8_commonName 6 = .ok (.getfield 15, 3) := by decide +kernel
theorem dX8_commonName_9 : decode cX8_commonName 9 = .ok (.if_icmp .ge 59, 3) := by decide +kernel
theorem dX8_commonName_12 : decode cX8_commonName 12 = .ok (.iload_n 3, 1) := by decide +kernel
theorem dX8_commonName_13 : decode cX8_commonName 13 = .ok (.iconst 1, 1) := by decide +kernel
theorem dX8_commonName_14 : decode cX8_commonName 14 = .ok (.iadd, 1) := by decide +kernel
theorem dX8_commonName_15 : decode cX8_commonName 15 = .ok (.aload_n 0, 1) := by decide +kernel
theorem dX8_commonName_16 : decode cX8_commonName 16 = .ok (.getfield 9, 3) := by decide +kernel
theorem dX8_commonName_19 : decode cX8_commonName 19 = .ok (.arraylength, 1) := by decide +kernel
theorem dX8_commonName_20 : decode cX8_commonName 20 = .ok (.if_icmp .ge 48, 3) := by decide +kernel
theorem dX8_commonName_23 : decode cX8_commonName 23 = .ok (.aload_n 1, 1) := by decide +kernel
theorem dX8_commonName_24 : decode cX8_commonName 24 = .ok (.aload_n 1, 1) := by decide +kernel
theorem dX8_commonName_25 : decode cX8_commonName 25 = .ok (.aload_n 0, 1) := by decide +kernel
theorem dX8_commonName_26 : decode cX8_commonName 26 = .ok (.getfield 9, 3) := by decide +kernel
theorem dX8_commonName_29 : decode cX8_commonName 29 = .ok (.iload_n 3, 1) := by decide +kernel
theorem dX8_commonName_30 : decode cX8_commonName 30 = .ok (.iaload, 1) := by decide +kernel
theorem dX8_commonName_31 : decode cX8_commonName 31 = .ok (.aload_n 0, 1) := by decide +kernel
theorem dX8_commonName_32 : decode cX8_commonName 32 = .ok (.getfield 9, 3) := by decide +kernel
theorem dX8_commonName_35 : decode cX8_commonName 35 = .ok (.iload_n 3, 1) := by decide +kernel
theorem dX8_commonName_36 : decode cX8_commonName 36 = .ok (.iconst 1, 1) := by decide +kernel
theorem dX8_commonName_37 : decode cX8_commonName 37 = .ok (.iadd, 1) := by decide +kernel
theorem dX8_commonName_38 : decode cX8_commonName 38 = .ok (.iaload, 1) := by decide +kernel
theorem dX8_commonName_39 : decode cX8_commonName 39 = .ok (.invokevirtual 33, 3) := by decide +kernel
theorem dX8_commonName_42 : decode cX8_commonName 42 = .ok (.invokevirtual 44, 3) := by decide +kernel
theorem dX8_commonName_45 : decode cX8_commonName 45 = .ok (.istore 4, 2) := by decide +kernel
theorem dX8_commonName_47 : decode cX8_commonName 47 = .ok (.iload_n 3, 1) := by decide +kernel
theorem dX8_commonName_48 : decode cX8_commonName 48 = .ok (.ifCond .le 11, 3) := by decide +kernel
theorem dX8_commonName_51 : decode cX8_commonName 51 = .ok (.iload 4, 2) := by decide +kernel
theorem dX8_commonName_53 : decode cX8_commonName 53 = .ok (.iload_n 2, 1) := by decide +kernel
theorem dX8_commonName_54 : decode cX8_commonName 54 = .ok (.if_icmp .eq 5, 3) := by decide +kernel
theorem dX8_commonName_57 : decode cX8_commonName 57 = .ok (.iconst 0, 1) := by decide +kernel
theorem dX8_commonName_58 : decode cX8_commonName 58 = .ok (.ireturn, 1) := by decide +kernel
theorem dX8_commonName_59 : decode cX8_commonName 59 = .ok (.iload 4, 2) := by decide +kernel
theorem dX8_commonName_61 : decode cX8_commonName 61 = .ok (.istore_n 2, 1) := by decide +kernel
theorem dX8_commonName_62 : decode cX8_commonName 62 = .ok (.iinc 3 1, 3) := by decide +kernel
theorem dX8_commonName_65 : decode cX8_commonName 65 = .ok (.goto (-61), 3) := by decide +kernel
theorem dX8_commonName_68 : decode cX8_commonName 68 = .ok (.iload_n 2, 1) := by decide +kernel
theorem dX8_commonName_69 : decode cX8_commonName 69 = .ok (.ireturn, 1) := by decide +kernel
theorem dX8_findOne_0 : decode cX8_findOne 0 = .ok (.iconst 0, 1) := by decide +kernel
theorem dX8_findOne_1 : decode cX8_findOne 1 = .ok (.istore 4, 2) := by decide +kernel
theorem dX8_findOne_3 : decode cX8_findOne 3 = .ok (.iload 4, 2) := by decide +kernel
theorem dX8_findOne_5 : decode cX8_findOne 5 = .ok (.aload_n 1, 1) := by decide +kernel
theorem dX8_findOne_6 : decode cX8_findOne 6 = .ok (.invokevirtual 48, 3) := by decide +kernel
theorem dX8_findOne_9 : decode cX8_findOne 9 = .ok (.if_icmp .ge 41, 3) := by decide +kernel
theorem dX8_findOne_12 : decode cX8_findOne 12 = .ok (.aload_n 1, 1) := by decide +kernel
theorem dX8_findOne_13 : decode cX8_findOne 13 = .ok (.iload_n 2, 1) := by decide +kernel
theorem dX8_findOne_14 : decode cX8_findOne 14 = .ok (.iload 4, 2) := by decide +kernel
theorem dX8_findOne_16 : decode cX8_findOne 16 = .ok (.invokevirtual 33, 3) := by decide +kernel
theorem dX8_findOne_19 : decode cX8_findOne 19 = .ok (.iconst (-1), 1) := by decide +kernel
theorem dX8_findOne_20 : decode cX8_findOne 20 = .ok (.if_icmp .eq 24, 3) := by decide +kernel
theorem dX8_findOne_23 : decode cX8_findOne 23 = .ok (.aload_n 1, 1) := by decide +kernel
theorem dX8_findOne_24 : decode cX8_findOne 24 = .ok (.iload 4, 2) := by decide +kernel
theorem dX8_findOne_26 : decode cX8_findOne 26 = .ok (.iload_n 3, 1) := by decide +kernel
theorem dX8_findOne_27 : decode cX8_findOne 27 = .ok (.invokevirtual 33, 3) := by decide +kernel
theorem dX8_findOne_30 : decode cX8_findOne 30 = .ok (.iconst (-1), 1) := by decide +kernel
theorem dX8_findOne_31 : decode cX8_findOne 31 = .ok (.if_icmp .eq 13, 3) := by decide +kernel
theorem dX8_findOne_34 : decode cX8_findOne 34 = .ok (.aload_n 0, 1) := by decide +kernel
theorem dX8_findOne_35 : decode cX8_findOne 35 = .ok (.getfield 9, 3) := by decide +kernel
theorem dX8_findOne_38 : decode cX8_findOne 38 = .ok (.iconst 1, 1) := by decide +kernel
theorem dX8_findOne_39 : decode cX8_findOne 39 = .ok (.iload 4, 2) := by decide +kernel
theorem dX8_findOne_41 : decode cX8_findOne 41 = .ok (.iastore, 1) := by decide +kernel
theorem dX8_findOne_42 : decode cX8_findOne 42 = .ok (.iconst 1, 1) := by decide +kernel
theorem dX8_findOne_43 : decode cX8_findOne 43 = .ok (.ireturn, 1) := by decide +kernel
theorem dX8_findOne_44 : decode cX8_findOne 44 = .ok (.iinc 4 1, 3) := by decide +kernel
theorem dX8_findOne_47 : decode cX8_findOne 47 = .ok (.goto (-44), 3) := by decide +kernel
theorem dX8_findOne_50 : decode cX8_findOne 50 = .ok (.iconst 0, 1) := by decide +kernel
theorem dX8_findOne_51 : decode cX8_findOne 51 = .ok (.ireturn, 1) := by decide +kernel
theorem dX8_findTwo_0 : decode cX8_findTwo 0 = .ok (.iconst 0, 1) := by decide +kernel
theorem dX8_findTwo_1 : decode cX8_findTwo 1 = .ok (.istore 4, 2) := by decide +kernel
theorem dX8_findTwo_3 : decode cX8_findTwo 3 = .ok (.iload 4, 2) := by decide +kernel
theorem dX8_findTwo_5 : decode cX8_findTwo 5 = .ok (.aload_n 1, 1) := by decide +kernel
theorem dX8_findTwo_6 : decode cX8_findTwo 6 = .ok (.invokevirtual 48, 3) := by decide +kernel
theorem dX8_findTwo_9 : decode cX8_findTwo 9 = .ok (.if_icmp .ge 91, 3) := by decide +kernel
theorem dX8_findTwo_12 : decode cX8_findTwo 12 = .ok (.iconst 0, 1) := by decide +kernel
theorem dX8_findTwo_13 : decode cX8_findTwo 13 = .ok (.istore 5, 2) := by decide +kernel
theorem dX8_findTwo_15 : decode cX8_findTwo 15 = .ok (.iload 5, 2) := by decide +kernel
theorem dX8_findTwo_17 : decode cX8_findTwo 17 = .ok (.aload_n 1, 1) := by decide +kernel
theorem dX8_findTwo_18 : decode cX8_findTwo 18 = .ok (.invokevirtual 48, 3) := by decide +kernel
theorem dX8_findTwo_21 : decode cX8_findTwo 21 = .ok (.if_icmp .ge 73, 3) := by decide +kernel
theorem dX8_findTwo_24 : decode cX8_findTwo 24 = .ok (.aload_n 1, 1) := by decide +kernel
theorem dX8_findTwo_25 : decode cX8_findTwo 25 = .ok (.iload_n 2, 1) := by decide +kernel
theorem dX8_findTwo_26 : decode cX8_findTwo 26 = .ok (.iload 4, 2) := by decide +kernel
theorem dX8_findTwo_28 : decode cX8_findTwo 28 = .ok (.invokevirtual 33, 3) := by decide +kernel
theorem dX8_findTwo_31 : decode cX8_findTwo 31 = .ok (.iconst (-1), 1) := by decide +kernel
theorem dX8_findTwo_32 : decode cX8_findTwo 32 = .ok (.if_icmp .eq 30, 3) := by decide +kernel
theorem dX8_findTwo_35 : decode cX8_findTwo 35 = .ok (.aload_n 1, 1) := by decide +kernel
theorem dX8_findTwo_36 : decode cX8_findTwo 36 = .ok (.iload 4, 2) := by decide +kernel
theorem dX8_findTwo_38 : decode cX8_findTwo 38 = .ok (.iload 5, 2) := by decide +kernel
theorem dX8_findTwo_40 : decode cX8_findTwo 40 = .ok (.invokevirtual 33, 3) := by decide +kernel
theorem dX8_findTwo_43 : decode cX8_findTwo 43 = .ok (.iconst (-1), 1) := by decide +kernel
theorem dX8_findTwo_44 : decode cX8_findTwo 44 = .ok (.if_icmp .eq 18, 3) := by decide +kernel
theorem dX8_findTwo_47 : decode cX8_findTwo 47 = .ok (.aload_n 1, 1) := by decide +kernel
theorem dX8_findTwo_48 : decode cX8_findTwo 48 = .ok (.iload 5, 2) := by decide +kernel
theorem dX8_findTwo_50 : decode cX8_findTwo 50 = .ok (.iload_n 3, 1) := by decide +kernel
theorem dX8_findTwo_51 : decode cX8_findTwo 51 = .ok (.invokevirtual 33, 3) := by decide +kernel
theorem dX8_findTwo_54 : decode cX8_findTwo 54 = .ok (.iconst (-1), 1) := by decide +kernel
theorem dX8_findTwo_55 : decode cX8_findTwo 55 = .ok (.if_icmp .eq 7, 3) := by decide +kernel
theorem dX8_findTwo_58 : decode cX8_findTwo 58 = .ok (.iconst 1, 1) := by decide +kernel
theorem dX8_findTwo_59 : decode cX8_findTwo 59 = .ok (.goto 4, 3) := by decide +kernel
theorem dX8_findTwo_62 : decode cX8_findTwo 62 = .ok (.iconst 0, 1) := by decide +kernel
theorem dX8_findTwo_63 : decode cX8_findTwo 63 = .ok (.istore 6, 2) := by decide +kernel
theorem dX8_findTwo_65 : decode cX8_findTwo 65 = .ok (.iload 6, 2) := by decide +kernel
theorem dX8_findTwo_67 : decode cX8_findTwo 67 = .ok (.ifCond .eq 21, 3) := by decide +kernel
theorem dX8_findTwo_70 : decode cX8_findTwo 70 = .ok (.aload_n 0, 1) := by decide +kernel
theorem dX8_findTwo_71 : decode cX8_findTwo 71 = .ok (.getfield 9, 3) := by decide +kernel
theorem dX8_findTwo_74 : decode cX8_findTwo 74 = .ok (.iconst 1, 1) := by decide +kernel
theorem dX8_findTwo_75 : decode cX8_findTwo 75 = .ok (.iload 4, 2) := by decide +kernel
theorem dX8_findTwo_77 : decode cX8_findTwo 77 = .ok (.iastore, 1) := by decide +kernel
theorem dX8_findTwo_78 : decode cX8_findTwo 78 = .ok (.aload_n 0, 1) := by decide +kernel
theorem dX8_findTwo_79 : decode cX8_findTwo 79 = .ok (.getfield 9, 3) := by decide +kernel
theorem dX8_findTwo_82 : decode cX8_findTwo 82 = .ok (.iconst 2, 1) := by decide +kernel
theorem dX8_findTwo_83 : decode cX8_findTwo 83 = .ok (.iload 5, 2) := by decide +kernel
theorem dX8_findTwo_85 : decode cX8_findTwo 85 = .ok (.iastore, 1) := by decide +kernel
theorem dX8_findTwo_86 : decode cX8_findTwo 86 = .ok (.iconst 1, 1) := by decide +kernel
theorem dX8_findTwo_87 : decode cX8_findTwo 87 = .ok (.ireturn, 1) := by decide +kernel
theorem dX8_findTwo_88 : decode cX8_findTwo 88 = .ok (.iinc 5 1, 3) := by decide +kernel
theorem dX8_findTwo_91 : decode cX8_findTwo 91 = .ok (.goto (-76), 3) := by decide +kernel
theorem dX8_findTwo_94 : decode cX8_findTwo 94 = .ok (.iinc 4 1, 3) := by decide +kernel
theorem dX8_findTwo_97 : decode cX8_findTwo 97 = .ok (.goto (-94), 3) := by decide +kernel
theorem dX8_findTwo_100 : decode cX8_findTwo 100 = .ok (.iconst 0, 1) := by decide +kernel
theorem dX8_findTwo_101 : decode cX8_findTwo 101 = .ok (.ireturn, 1) := by decide +kernel
