theorem dX9_init_0 : decode cX9_init 0 = .ok (.aload_n 0, 1) := by decide +kernel
theorem dX9_init_1 : decode cX9_init 1 = .ok (.invokespecial 1, 3) := by decide +kernel
theorem dX9_init_4 : decode cX9_init 4 = .ok (.aload_n 0, 1) := by decide +kernel
theorem dX9_init_5 : decode cX9_init 5 = .ok (.new 7, 3) := by decide +kernel
theorem dX9_init_8 : decode cX9_init 8 = .ok (.dup, 1) := by decide +kernel
theorem dX9_init_9 : decode cX9_init 9 = .ok (.invokespecial 9, 3) := by decide +kernel
theorem dX9_init_12 : decode cX9_init 12 = .ok (.putfield 10, 3) := by decide +kernel
theorem dX9_init_15 : decode cX9_init 15 = .ok (.aload_n 0, 1) := by decide +kernel
theorem dX9_init_16 : decode cX9_init 16 = .ok (.new 16, 3) := by decide +kernel
theorem dX9_init_19 : decode cX9_init 19 = .ok (.dup, 1) := by decide +kernel
theorem dX9_init_20 : decode cX9_init 20 = .ok (.invokespecial 18, 3) := by decide +kernel
theorem dX9_init_23 : decode cX9_init 23 = .ok (.putfield 19, 3) := by decide +kernel
theorem dX9_init_26 : decode cX9_init 26 = .ok (.aload_n 0, 1) := by decide +kernel
theorem dX9_init_27 : decode cX9_init 27 = .ok (.new 23, 3) := by decide +kernel
theorem dX9_init_30 : decode cX9_init 30 = .ok (.dup, 1) := by decide +kernel
theorem dX9_init_31 : decode cX9_init 31 = .ok (.invokespecial 25, 3) := by decide +kernel
theorem dX9_init_34 : decode cX9_init 34 = .ok (.putfield 26, 3) := by decide +kernel
theorem dX9_init_37 : decode cX9_init 37 = .ok (.aload_n 0, 1) := by decide +kernel
theorem dX9_init_38 : decode cX9_init 38 = .ok (.new 30, 3) := by decide +kernel
theorem dX9_init_41 : decode cX9_init 41 = .ok (.dup, 1) := by decide +kernel
theorem dX9_init_42 : decode cX9_init 42 = .ok (.bipush 8, 2) := by decide +kernel
theorem dX9_init_44 : decode cX9_init 44 = .ok (.invokespecial 32, 3) := by decide +kernel
theorem dX9_init_47 : decode cX9_init 47 = .ok (.putfield 35, 3) := by decide +kernel
theorem dX9_init_50 : decode cX9_init 50 = .ok (.aload_n 0, 1) := by decide +kernel
theorem dX9_init_51 : decode cX9_init 51 = .ok (.new 30, 3) := by decide +kernel
theorem dX9_init_54 : decode cX9_init 54 = .ok (.dup, 1) := by decide +kernel
theorem dX9_init_55 : decode cX9_init 55 = .ok (.iconst 2, 1) := by decide +kernel
theorem dX9_init_56 : decode cX9_init 56 = .ok (.invokespecial 32, 3) := by decide +kernel
theorem dX9_init_59 : decode cX9_init 59 = .ok (.putfield 39, 3) := by decide +kernel
theorem dX9_init_62 : decode cX9_init 62 = .ok (.aload_n 0, 1) := by decide +kernel
theorem dX9_init_63 : decode cX9_init 63 = .ok (.new 42, 3) := by decide +kernel
theorem dX9_init_66 : decode cX9_init 66 = .ok (.dup, 1) := by decide +kernel
theorem dX9_init_67 : decode cX9_init 67 = .ok (.invokespecial 44, 3) := by decide +kernel
theorem dX9_init_70 : decode cX9_init 70 = .ok (.putfield 45, 3) := by decide +kernel
theorem dX9_init_73 : decode cX9_init 73 = .ok (.aload_n 0, 1) := by decide +kernel
theorem dX9_init_74 : decode cX9_init 74 = .ok (.new 49, 3) := by decide +kernel
theorem dX9_init_77 : decode cX9_init 77 = .ok (.dup, 1) := by decide +kernel
theorem dX9_init_78 : decode cX9_init 78 = .ok (.invokespecial 51, 3) := by decide +kernel
theorem dX9_init_81 : decode cX9_init 81 = .ok (.putfield 52, 3) := by decide +kernel
theorem dX9_init_84 : decode cX9_init 84 = .ok (.aload_n 0, 1) := by decide +kernel
theorem dX9_init_85 : decode cX9_init 85 = .ok (.new 56, 3) := by decide +kernel
theorem dX9_init_88 : decode cX9_init 88 = .ok (.dup, 1) := by decide +kernel
theorem dX9_init_89 : decode cX9_init 89 = .ok (.invokespecial 58, 3) := by decide +kernel
theorem dX9_init_92 : decode cX9_init 92 = .ok (.putfield 59, 3) := by decide +kernel
theorem dX9_init_95 : decode cX9_init 95 = .ok (.aload_n 0, 1) := by decide +kernel
theorem dX9_init_96 : decode cX9_init 96 = .ok (.new 63, 3) := by decide +kernel
theorem dX9_init_99 : decode cX9_init 99 = .ok (.dup, 1) := by decide +kernel
theorem dX9_init_100 : decode cX9_init 100 = .ok (.invokespecial 65, 3) := by decide +kernel
theorem dX9_init_103 : decode cX9_init 103 = .ok (.putfield 66, 3) := by decide +kernel
theorem dX9_init_106 : decode cX9_init 106 = .ok (.aload_n 0, 1) := by decide +kernel
theorem dX9_init_107 : decode cX9_init 107 = .ok (.invokestatic 70, 3) := by decide +kernel
theorem dX9_init_110 : decode cX9_init 110 = .ok (.putfield 74, 3) := by decide +kernel
theorem dX9_init_113 : decode cX9_init 113 = .ok (.return_, 1) := by decide +kernel
theorem dX9_write_0 : decode cX9_write 0 = .ok (.iload_n 1, 1) := by decide +kernel
theorem dX9_write_1 : decode cX9_write 1 = .ok (.bipush 32, 2) := by decide +kernel
theorem dX9_write_3 : decode cX9_write 3 = .ok (.if_icmp .lt 9, 3) := by decide +kernel
theorem dX9_write_6 : decode cX9_write 6 = .ok (.iload_n 1, 1) := by decide +kernel
theorem dX9_write_7 : decode cX9_write 7 = .ok (.bipush 126, 2) := by decide +kernel
theorem dX9_write_9 : decode cX9_write 9 = .ok (.if_icmp .le 5, 3) := by decide +kernel
theorem dX9_write_12 : decode cX9_write 12 = .ok (.iconst (-1), 1) := by decide +kernel
theorem dX9_write_13 : decode cX9_write 13 = .ok (.ireturn, 1) := by decide +kernel
theorem dX9_write_14 : decode cX9_write 14 = .ok (.aload_n 0, 1) := by decide +kernel
theorem dX9_write_15 : decode cX9_write 15 = .ok (.getfield 10, 3) := by decide +kernel
theorem dX9_write_18 : decode cX9_write 18 = .ok (.iload_n 1, 1) := by decide +kernel
theorem dX9_write_19 : decode cX9_write 19 = .ok (.invokevirtual 77, 3) := by decide +kernel
theorem dX9_write_22 : decode cX9_write 22 = .ok (.ifCond .eq 13, 3) := by decide +kernel
theorem dX9_write_25 : decode cX9_write 25 = .ok (.aload_n 0, 1) := by decide +kernel
theorem dX9_write_26 : decode cX9_write 26 = .ok (.getfield 10, 3) := by decide +kernel
theorem dX9_write_29 : decode cX9_write 29 = .ok (.invokevirtual 81, 3) := by decide +kernel
theorem dX9_write_32 : decode cX9_write 32 = .ok (.goto 5, 3) := by decide +kernel
theorem dX9_write_35 : decode cX9_write 35 = .ok (.bipush (-3), 2) := by decide +kernel
theorem dX9_write_37 : decode cX9_write 37 = .ok (.ireturn, 1) := by decide +kernel
theorem dX9_wipe_0 : decode cX9_wipe 0 = .ok (.aload_n 0, 1) := by decide +kernel
theorem dX9_wipe_1 : decode cX9_wipe 1 = .ok (.getfield 10, 3) := by decide +kernel
theorem dX9_wipe_4 : decode cX9_wipe 4 = .ok (.invokevirtual 81, 3) := by decide +kernel
theorem dX9_wipe_7 : decode cX9_wipe 7 = .ok (.istore_n 1, 1) := by decide +kernel
theorem dX9_wipe_8 : decode cX9_wipe 8 = .ok (.aload_n 0, 1) := by decide +kernel
theorem dX9_wipe_9 : decode cX9_wipe 9 = .ok (.getfield 10, 3) := by decide +kernel
theorem dX9_wipe_12 : decode cX9_wipe 12 = .ok (.invokevirtual 85, 3) := by decide +kernel
theorem dX9_wipe_15 : decode cX9_wipe 15 = .ok (.iload_n 1, 1) := by decide +kernel
theorem dX9_wipe_16 : decode cX9_wipe 16 = .ok (.ireturn, 1) := by decide +kernel
theorem dX9_fault_0 : decode cX9_fault 0 = .ok (.aload_n 0, 1) := by decide +kernel
theorem dX9_fault_1 : decode cX9_fault 1 = .ok (.getfield 19, 3) := by decide +kernel
theorem dX9_fault_4 : decode cX9_fault 4 = .ok (.aload_n 0, 1) := by decide +kernel
theorem dX9_fault_5 : decode cX9_fault 5 = .ok (.getfield 10, 3) := by decide +kernel
theorem dX9_fault_8 : decode cX9_fault 8 = .ok (.aload_n 0, 1) := by decide +kernel
theorem dX9_fault_9 : decode cX9_fault 9 = .ok (.getfield 26, 3) := by decide +kernel
theorem dX9_fault_12 : decode cX9_fault 12 = .ok (.invokevirtual 88, 3) := by decide +kernel
theorem dX9_fault_15 : decode cX9_fault 15 = .ok (.ireturn, 1) := by decide +kernel
theorem dX9_lay_0 : decode cX9_lay 0 = .ok (.aload_n 0, 1) := by decide +kernel
theorem dX9_lay_1 : decode cX9_lay 1 = .ok (.getfield 19, 3) := by decide +kernel
theorem dX9_lay_4 : decode cX9_lay 4 = .ok (.aload_n 0, 1) := by decide +kernel
theorem dX9_lay_5 : decode cX9_lay 5 = .ok (.getfield 10, 3) := by decide +kernel
theorem dX9_lay_8 : decode cX9_lay 8 = .ok (.aload_n 0, 1) := by decide +kernel
theorem dX9_lay_9 : decode cX9_lay 9 = .ok (.getfield 26, 3) := by decide +kernel
theorem dX9_lay_12 : decode cX9_lay 12 = .ok (.invokevirtual 88, 3) := by decide +kernel
theorem dX9_lay_15 : decode cX9_lay 15 = .ok (.bipush (-4), 2) := by decide +kernel
theorem dX9_lay_17 : decode cX9_lay 17 = .ok (.if_icmp .eq 6, 3) := by decide +kernel
theorem dX9_lay_20 : decode cX9_lay 20 = .ok (.bipush (-2), 2) := by decide +kernel
theorem dX9_lay_22 : decode cX9_lay 22 = .ok (.ireturn, 1) := by decide +kernel
theorem dX9_lay_23 : decode cX9_lay 23 = .ok (.aload_n 0, 1) := by decide +kernel
theorem dX9_lay_24 : decode cX9_lay 24 = .ok (.getfield 26, 3) := by decide +kernel
theorem dX9_lay_27 : decode cX9_lay 27 = .ok (.iconst 0, 1) := by decide +kernel
theorem dX9_lay_28 : decode cX9_lay 28 = .ok (.invokevirtual 92, 3) := by decide +kernel
theorem dX9_lay_31 : decode cX9_lay 31 = .ok (.invokevirtual 96, 3) := by decide +kernel
theorem dX9_lay_34 : decode cX9_lay 34 = .ok (.istore_n 1, 1) := by decide +kernel
theorem dX9_lay_35 : decode cX9_lay 35 = .ok (.aload_n 0, 1) := by decide +kernel
theorem dX9_lay_36 : decode cX9_lay 36 = .ok (.getfield 26, 3) := by decide +kernel
theorem dX9_lay_39 : decode cX9_lay 39 = .ok (.iconst 1, 1) := by decide +kernel
theorem dX9_lay_40 : decode cX9_lay 40 = .ok (.invokevirtual 92, 3) := by decide +kernel
theorem dX9_lay_43 : decode cX9_lay 43 = .ok (.invokevirtual 96, 3) := by decide +kernel
theorem dX9_lay_46 : decode cX9_lay 46 = .ok (.istore_n 2, 1) := by decide +kernel
theorem dX9_lay_47 : decode cX9_lay 47 = .ok (.iload_n 1, 1) := by decide +kernel
theorem dX9_lay_48 : decode cX9_lay 48 = .ok (.ifCond .eq 7, 3) := by decide +kernel
theorem dX9_lay_51 : decode cX9_lay 51 = .ok (.iload_n 2, 1) := by decide +kernel
theorem dX9_lay_52 : decode cX9_lay 52 = .ok (.ifCond .ne 6, 3) := by decide +kernel
theorem dX9_lay_55 : decode cX9_lay 55 = .ok (.bipush (-2), 2) := by decide +kernel
theorem dX9_lay_57 : decode cX9_lay 57 = .ok (.ireturn, 1) := by decide +kernel
theorem dX9_lay_58 : decode cX9_lay 58 = .ok (.aload_n 0, 1) := by decide +kernel
theorem dX9_lay_59 : decode cX9_lay 59 = .ok (.getfield 74, 3) := by decide +kernel
theorem dX9_lay_62 : decode cX9_lay 62 = .ok (.aload_n 0, 1) := by decide +kernel
theorem dX9_lay_63 : decode cX9_lay 63 = .ok (.getfield 26, 3) := by decide +kernel
theorem dX9_lay_66 : decode cX9_lay 66 = .ok (.invokevirtual 101, 3) := by decide +kernel
theorem dX9_lay_69 : decode cX9_lay 69 = .ok (.aload_n 0, 1) := by decide +kernel
theorem dX9_lay_70 : decode cX9_lay 70 = .ok (.getfield 45, 3) := by decide +kernel
theorem dX9_lay_73 : decode cX9_lay 73 = .ok (.invokevirtual 105, 3) := by decide +kernel
theorem dX9_lay_76 : decode cX9_lay 76 = .ok (.aload_n 0, 1) := by decide +kernel
theorem dX9_lay_77 : decode cX9_lay 77 = .ok (.getfield 35, 3) := by decide +kernel
theorem dX9_lay_80 : decode cX9_lay 80 = .ok (.invokevirtual 106, 3) := by decide +kernel
theorem dX9_lay_83 : decode cX9_lay 83 = .ok (.aload_n 0, 1) := by decide +kernel
theorem dX9_lay_84 : decode cX9_lay 84 = .ok (.getfield 39, 3) := by decide +kernel
theorem dX9_lay_87 : decode cX9_lay 87 = .ok (.invokevirtual 106, 3) := by decide +kernel
theorem dX9_lay_90 : decode cX9_lay 90 = .ok (.iload_n 1, 1) := by decide +kernel
theorem dX9_lay_91 : decode cX9_lay 91 = .ok (.iload_n 2, 1) := by decide +kernel
theorem dX9_lay_92 : decode cX9_lay 92 = .ok (.iadd, 1) := by decide +kernel
theorem dX9_lay_93 : decode cX9_lay 93 = .ok (.ireturn, 1) := by decide +kernel
theorem dX9_meeting_0 : decode cX9_meeting 0 = .ok (.aload_n 0, 1) := by decide +kernel
theorem dX9_meeting_1 : decode cX9_meeting 1 = .ok (.iload_n 1, 1) := by decide +kernel
theorem dX9_meeting_2 : decode cX9_meeting 2 = .ok (.iload_n 2, 1) := by decide +kernel
theorem dX9_meeting_3 : decode cX9_meeting 3 = .ok (.invokevirtual 107, 3) := by decide +kernel
theorem dX9_meeting_6 : decode cX9_meeting 6 = .ok (.ifCond .ne 5, 3) := by decide +kernel
theorem dX9_meeting_9 : decode cX9_meeting 9 = .ok (.iconst (-1), 1) := by decide +kernel
theorem dX9_meeting_10 : decode cX9_meeting 10 = .ok (.ireturn, 1) := by decide +kernel
theorem dX9_meeting_11 : decode cX9_meeting 11 = .ok (.aload_n 0, 1) := by decide +kernel
theorem dX9_meeting_12 : decode cX9_meeting 12 = .ok (.getfield 74, 3) := by decide +kernel
theorem dX9_meeting_15 : decode cX9_meeting 15 = .ok (.iload_n 1, 1) := by decide +kernel
theorem dX9_meeting_16 : decode cX9_meeting 16 = .ok (.invokevirtual 92, 3) := by decide +kernel
theorem dX9_meeting_19 : decode cX9_meeting 19 = .ok (.astore 4, 2) := by decide +kernel
theorem dX9_meeting_21 : decode cX9_meeting 21 = .ok (.iload_n 3, 1) := by decide +kernel
theorem dX9_meeting_22 : decode cX9_meeting 22 = .ok (.tableswitch 72 0 4 #[34, 41, 48, 55, 65], 34) := by decide +kernel
theorem dX9_meeting_56 : decode cX9_meeting 56 = .ok (.aload 4, 2) := by decide +kernel
theorem dX9_meeting_58 : decode cX9_meeting 58 = .ok (.iload_n 2, 1) := by decide +kernel
theorem dX9_meeting_59 : decode cX9_meeting 59 = .ok (.invokevirtual 111, 3) := by decide +kernel
theorem dX9_meeting_62 : decode cX9_meeting 62 = .ok (.ireturn, 1) := by decide +kernel
theorem dX9_meeting_63 : decode cX9_meeting 63 = .ok (.aload 4, 2) := by decide +kernel
theorem dX9_meeting_65 : decode cX9_meeting 65 = .ok (.iload_n 2, 1) := by decide +kernel
theorem dX9_meeting_66 : decode cX9_meeting 66 = .ok (.invokevirtual 115, 3) := by decide +kernel
theorem dX9_meeting_69 : decode cX9_meeting 69 = .ok (.ireturn, 1) := by decide +kernel
theorem dX9_meeting_70 : decode cX9_meeting 70 = .ok (.aload 4, 2) := by decide +kernel
theorem dX9_meeting_72 : decode cX9_meeting 72 = .ok (.iload_n 2, 1) := by decide +kernel
theorem dX9_meeting_73 : decode cX9_meeting 73 = .ok (.invokevirtual 118, 3) := by decide +kernel
theorem dX9_meeting_76 : decode cX9_meeting 76 = .ok (.ireturn, 1) := by decide +kernel
theorem dX9_meeting_77 : decode cX9_meeting 77 = .ok (.aload_n 0, 1) := by decide +kernel
theorem dX9_meeting_78 : decode cX9_meeting 78 = .ok (.getfield 74, 3) := by decide +kernel
theorem dX9_meeting_81 : decode cX9_meeting 81 = .ok (.iload_n 1, 1) := by decide +kernel
theorem dX9_meeting_82 : decode cX9_meeting 82 = .ok (.iload_n 2, 1) := by decide +kernel
theorem dX9_meeting_83 : decode cX9_meeting 83 = .ok (.invokevirtual 121, 3) := by decide +kernel
theorem dX9_meeting_86 : decode cX9_meeting 86 = .ok (.ireturn, 1) := by decide +kernel
theorem dX9_meeting_87 : decode cX9_meeting 87 = .ok (.aload 4, 2) := by decide +kernel
theorem dX9_meeting_89 : decode cX9_meeting 89 = .ok (.iload_n 2, 1) := by decide +kernel
theorem dX9_meeting_90 : decode cX9_meeting 90 = .ok (.invokevirtual 125, 3) := by decide +kernel
theorem dX9_meeting_93 : decode cX9_meeting 93 = .ok (.ireturn, 1) := by decide +kernel
theorem dX9_meeting_94 : decode cX9_meeting 94 = .ok (.iconst (-1), 1) := by decide +kernel
theorem dX9_meeting_95 : decode cX9_meeting 95 = .ok (.ireturn, 1) := by decide +kernel
theorem dX9_street_0 : decode cX9_street 0 = .ok (.aload_n 0, 1) := by decide +kernel
theorem dX9_street_1 : decode cX9_street 1 = .ok (.iload_n 1, 1) := by decide +kernel
theorem dX9_street_2 : decode cX9_street 2 = .ok (.iload_n 2, 1) := by decide +kernel
theorem dX9_street_3 : decode cX9_street 3 = .ok (.invokevirtual 128, 3) := by decide +kernel
theorem dX9_street_6 : decode cX9_street 6 = .ok (.ifCond .ne 5, 3) := by decide +kernel
theorem dX9_street_9 : decode cX9_street 9 = .ok (.iconst (-1), 1) := by decide +kernel
theorem dX9_street_10 : decode cX9_street 10 = .ok (.ireturn, 1) := by decide +kernel
theorem dX9_street_11 : decode cX9_street 11 = .ok (.aload_n 0, 1) := by decide +kernel
theorem dX9_street_12 : decode cX9_street 12 = .ok (.getfield 74, 3) := by decide +kernel
theorem dX9_street_15 : decode cX9_street 15 = .ok (.iload_n 1, 1) := by decide +kernel
theorem dX9_street_16 : decode cX9_street 16 = .ok (.invokevirtual 92, 3) := by decide +kernel
theorem dX9_street_19 : decode cX9_street 19 = .ok (.astore 4, 2) := by decide +kernel
theorem dX9_street_21 : decode cX9_street 21 = .ok (.iload_n 3, 1) := by decide +kernel
theorem dX9_street_22 : decode cX9_street 22 = .ok (.tableswitch 47 0 2 #[26, 33, 40], 26) := by decide +kernel
theorem dX9_street_48 : decode cX9_street 48 = .ok (.aload 4, 2) := by decide +kernel
theorem dX9_street_50 : decode cX9_street 50 = .ok (.iload_n 2, 1) := by decide +kernel
theorem dX9_street_51 : decode cX9_street 51 = .ok (.invokevirtual 131, 3) := by decide +kernel
theorem dX9_street_54 : decode cX9_street 54 = .ok (.ireturn, 1) := by decide +kernel
theorem dX9_street_55 : decode cX9_street 55 = .ok (.aload 4, 2) := by decide +kernel
theorem dX9_street_57 : decode cX9_street 57 = .ok (.iload_n 2, 1) := by decide +kernel
theorem dX9_street_58 : decode cX9_street 58 = .ok (.invokevirtual 134, 3) := by decide +kernel
theorem dX9_street_61 : decode cX9_street 61 = .ok (.ireturn, 1) := by decide +kernel
theorem dX9_street_62 : decode cX9_street 62 = .ok (.aload 4, 2) := by decide +kernel
theorem dX9_street_64 : decode cX9_street 64 = .ok (.iload_n 2, 1) := by decide +kernel
theorem dX9_street_65 : decode cX9_street 65 = .ok (.invokevirtual 137, 3) := by decide +kernel
theorem dX9_street_68 : decode cX9_street 68 = .ok (.ireturn, 1) := by decide +kernel
theorem dX9_street_69 : decode cX9_street 69 = .ok (.iconst (-1), 1) := by decide +kernel
theorem dX9_street_70 : decode cX9_street 70 = .ok (.ireturn, 1) := by decide +kernel
theorem dX9_move_0 : decode cX9_move 0 = .ok (.aload_n 0, 1) := by decide +kernel
theorem dX9_move_1 : decode cX9_move 1 = .ok (.iload_n 1, 1) := by decide +kernel
theorem dX9_move_2 : decode cX9_move 2 = .ok (.iload_n 2, 1) := by decide +kernel
theorem dX9_move_3 : decode cX9_move 3 = .ok (.invokevirtual 107, 3) := by decide +kernel
theorem dX9_move_6 : decode cX9_move 6 = .ok (.ifCond .eq 24, 3) := by decide +kernel
theorem dX9_move_9 : decode cX9_move 9 = .ok (.iload_n 3, 1) := by decide +kernel
theorem dX9_move_10 : decode cX9_move 10 = .ok (.iconst 0, 1) := by decide +kernel
theorem dX9_move_11 : decode cX9_move 11 = .ok (.bipush 60, 2) := by decide +kernel
theorem dX9_move_13 : decode cX9_move 13 = .ok (.invokestatic 140, 3) := by decide +kernel
theorem dX9_move_16 : decode cX9_move 16 = .ok (.ifCond .eq 14, 3) := by decide +kernel
theorem dX9_move_19 : decode cX9_move 19 = .ok (.iload 4, 2) := by decide +kernel
theorem dX9_move_21 : decode cX9_move 21 = .ok (.iconst 0, 1) := by decide +kernel
theorem dX9_move_22 : decode cX9_move 22 = .ok (.bipush 60, 2) := by decide +kernel
theorem dX9_move_24 : decode cX9_move 24 = .ok (.invokestatic 140, 3) := by decide +kernel
theorem dX9_move_27 : decode cX9_move 27 = .ok (.ifCond .ne 5, 3) := by decide +kernel
theorem dX9_move_30 : decode cX9_move 30 = .ok (.iconst (-1), 1) := by decide +kernel
theorem dX9_move_31 : decode cX9_move 31 = .ok (.ireturn, 1) := by decide +kernel
theorem dX9_move_32 : decode cX9_move 32 = .ok (.aload_n 0, 1) := by decide +kernel
theorem dX9_move_33 : decode cX9_move 33 = .ok (.getfield 74, 3) := by decide +kernel
theorem dX9_move_36 : decode cX9_move 36 = .ok (.iload_n 1, 1) := by decide +kernel
theorem dX9_move_37 : decode cX9_move 37 = .ok (.invokevirtual 92, 3) := by decide +kernel
theorem dX9_move_40 : decode cX9_move 40 = .ok (.astore 5, 2) := by decide +kernel
theorem dX9_move_42 : decode cX9_move 42 = .ok (.aload 5, 2) := by decide +kernel
theorem dX9_move_44 : decode cX9_move 44 = .ok (.iload_n 2, 1) := by decide +kernel
theorem dX9_move_45 : decode cX9_move 45 = .ok (.invokevirtual 115, 3) := by decide +kernel
theorem dX9_move_48 : decode cX9_move 48 = .ok (.iload_n 3, 1) := by decide +kernel
theorem dX9_move_49 : decode cX9_move 49 = .ok (.if_icmp .ne 17, 3) := by decide +kernel
theorem dX9_move_52 : decode cX9_move 52 = .ok (.aload 5, 2) := by decide +kernel
theorem dX9_move_54 : decode cX9_move 54 = .ok (.iload_n 2, 1) := by decide +kernel
theorem dX9_move_55 : decode cX9_move 55 = .ok (.invokevirtual 118, 3) := by decide +kernel
theorem dX9_move_58 : decode cX9_move 58 = .ok (.iload 4, 2) := by decide +kernel
theorem dX9_move_60 : decode cX9_move 60 = .ok (.if_icmp .ne 6, 3) := by decide +kernel
theorem dX9_move_63 : decode cX9_move 63 = .ok (.bipush (-2), 2) := by decide +kernel
theorem dX9_move_65 : decode cX9_move 65 = .ok (.ireturn, 1) := by decide +kernel
theorem dX9_move_66 : decode cX9_move 66 = .ok (.aload_n 0, 1) := by decide +kernel
theorem dX9_move_67 : decode cX9_move 67 = .ok (.getfield 35, 3) := by decide +kernel
theorem dX9_move_70 : decode cX9_move 70 = .ok (.aload_n 0, 1) := by decide +kernel
theorem dX9_move_71 : decode cX9_move 71 = .ok (.getfield 74, 3) := by decide +kernel
theorem dX9_move_74 : decode cX9_move 74 = .ok (.invokevirtual 144, 3) := by decide +kernel
theorem dX9_move_77 : decode cX9_move 77 = .ok (.aload 5, 2) := by decide +kernel
theorem dX9_move_79 : decode cX9_move 79 = .ok (.iload_n 2, 1) := by decide +kernel
theorem dX9_move_80 : decode cX9_move 80 = .ok (.iload_n 3, 1) := by decide +kernel
theorem dX9_move_81 : decode cX9_move 81 = .ok (.iload 4, 2) := by decide +kernel
theorem dX9_move_83 : decode cX9_move 83 = .ok (.invokevirtual 147, 3) := by decide +kernel
theorem dX9_move_86 : decode cX9_move 86 = .ok (.iconst 1, 1) := by decide +kernel
theorem dX9_move_87 : decode cX9_move 87 = .ok (.ireturn, 1) := by decide +kernel
theorem dX9_rename_0 : decode cX9_rename 0 = .ok (.aload_n 0, 1) := by decide +kernel
theorem dX9_rename_1 : decode cX9_rename 1 = .ok (.iload_n 1, 1) := by decide +kernel
theorem dX9_rename_2 : decode cX9_rename 2 = .ok (.iload_n 2, 1) := by decide +kernel
theorem dX9_rename_3 : decode cX9_rename 3 = .ok (.invokevirtual 107, 3) := by decide +kernel
theorem dX9_rename_6 : decode cX9_rename 6 = .ok (.ifCond .eq 12, 3) := by decide +kernel
theorem dX9_rename_9 : decode cX9_rename 9 = .ok (.iload_n 3, 1) := by decide +kernel
theorem dX9_rename_10 : decode cX9_rename 10 = .ok (.iconst 0, 1) := by decide +kernel
theorem dX9_rename_11 : decode cX9_rename 11 = .ok (.iconst 3, 1) := by decide +kernel
theorem dX9_rename_12 : decode cX9_rename 12 = .ok (.invokestatic 140, 3) := by decide +kernel
theorem dX9_rename_15 : decode cX9_rename 15 = .ok (.ifCond .ne 5, 3) := by decide +kernel
theorem dX9_rename_18 : decode cX9_rename 18 = .ok (.iconst (-1), 1) := by decide +kernel
theorem dX9_rename_19 : decode cX9_rename 19 = .ok (.ireturn, 1) := by decide +kernel
theorem dX9_rename_20 : decode cX9_rename 20 = .ok (.aload_n 0, 1) := by decide +kernel
theorem dX9_rename_21 : decode cX9_rename 21 = .ok (.getfield 74, 3) := by decide +kernel
theorem dX9_rename_24 : decode cX9_rename 24 = .ok (.iload_n 1, 1) := by decide +kernel
theorem dX9_rename_25 : decode cX9_rename 25 = .ok (.invokevirtual 92, 3) := by decide +kernel
theorem dX9_rename_28 : decode cX9_rename 28 = .ok (.astore 4, 2) := by decide +kernel
theorem dX9_rename_30 : decode cX9_rename 30 = .ok (.aload 4, 2) := by decide +kernel
theorem dX9_rename_32 : decode cX9_rename 32 = .ok (.iload_n 2, 1) := by decide +kernel
theorem dX9_rename_33 : decode cX9_rename 33 = .ok (.invokevirtual 111, 3) := by decide +kernel
theorem dX9_rename_36 : decode cX9_rename 36 = .ok (.istore 5, 2) := by decide +kernel
theorem dX9_rename_38 : decode cX9_rename 38 = .ok (.iload 5, 2) := by decide +kernel
theorem dX9_rename_40 : decode cX9_rename 40 = .ok (.iload_n 3, 1) := by decide +kernel
theorem dX9_rename_41 : decode cX9_rename 41 = .ok (.if_icmp .ne 6, 3) := by decide +kernel
theorem dX9_rename_44 : decode cX9_rename 44 = .ok (.bipush (-2), 2) := by decide +kernel
theorem dX9_rename_46 : decode cX9_rename 46 = .ok (.ireturn, 1) := by decide +kernel
theorem dX9_rename_47 : decode cX9_rename 47 = .ok (.aload_n 0, 1) := by decide +kernel
theorem dX9_rename_48 : decode cX9_rename 48 = .ok (.getfield 35, 3) := by decide +kernel
theorem dX9_rename_51 : decode cX9_rename 51 = .ok (.aload_n 0, 1) := by decide +kernel
theorem dX9_rename_52 : decode cX9_rename 52 = .ok (.getfield 74, 3) := by decide +kernel
theorem dX9_rename_55 : decode cX9_rename 55 = .ok (.invokevirtual 144, 3) := by decide +kernel
theorem dX9_rename_58 : decode cX9_rename 58 = .ok (.aload 4, 2) := by decide +kernel
theorem dX9_rename_60 : decode cX9_rename 60 = .ok (.iload_n 2, 1) := by decide +kernel
theorem dX9_rename_61 : decode cX9_rename 61 = .ok (.iload_n 3, 1) := by decide +kernel
theorem dX9_rename_62 : decode cX9_rename 62 = .ok (.invokevirtual 151, 3) := by decide +kernel
theorem dX9_rename_65 : decode cX9_rename 65 = .ok (.iload 5, 2) := by decide +kernel
theorem dX9_rename_67 : decode cX9_rename 67 = .ok (.ireturn, 1) := by decide +kernel
theorem dX9_name_0 : decode cX9_name 0 = .ok (.aload_n 0, 1) := by decide +kernel
theorem dX9_name_1 : decode cX9_name 1 = .ok (.iload_n 1, 1) := by decide +kernel
theorem dX9_name_2 : decode cX9_name 2 = .ok (.iload_n 2, 1) := by decide +kernel
theorem dX9_name_3 : decode cX9_name 3 = .ok (.invokevirtual 128, 3) := by decide +kernel
theorem dX9_name_6 : decode cX9_name 6 = .ok (.ifCond .eq 13, 3) := by decide +kernel
theorem dX9_name_9 : decode cX9_name 9 = .ok (.iload_n 3, 1) := by decide +kernel
theorem dX9_name_10 : decode cX9_name 10 = .ok (.iconst 0, 1) := by decide +kernel
theorem dX9_name_11 : decode cX9_name 11 = .ok (.bipush 9, 2) := by decide +kernel
theorem dX9_name_13 : decode cX9_name 13 = .ok (.invokestatic 140, 3) := by decide +kernel
theorem dX9_name_16 : decode cX9_name 16 = .ok (.ifCond .ne 5, 3) := by decide +kernel
theorem dX9_name_19 : decode cX9_name 19 = .ok (.iconst (-1), 1) := by decide +kernel
theorem dX9_name_20 : decode cX9_name 20 = .ok (.ireturn, 1) := by decide +kernel
theorem dX9_name_21 : decode cX9_name 21 = .ok (.aload_n 0, 1) := by decide +kernel
theorem dX9_name_22 : decode cX9_name 22 = .ok (.getfield 74, 3) := by decide +kernel
theorem dX9_name_25 : decode cX9_name 25 = .ok (.iload_n 1, 1) := by decide +kernel
theorem dX9_name_26 : decode cX9_name 26 = .ok (.invokevirtual 92, 3) := by decide +kernel
theorem dX9_name_29 : decode cX9_name 29 = .ok (.astore 4, 2) := by decide +kernel
theorem dX9_name_31 : decode cX9_name 31 = .ok (.aload 4, 2) := by decide +kernel
theorem dX9_name_33 : decode cX9_name 33 = .ok (.iload_n 2, 1) := by decide +kernel
theorem dX9_name_34 : decode cX9_name 34 = .ok (.invokevirtual 137, 3) := by decide +kernel
theorem dX9_name_37 : decode cX9_name 37 = .ok (.istore 5, 2) := by decide +kernel
theorem dX9_name_39 : decode cX9_name 39 = .ok (.iload 5, 2) := by decide +kernel
theorem dX9_name_41 : decode cX9_name 41 = .ok (.iload_n 3, 1) := by decide +kernel
theorem dX9_name_42 : decode cX9_name 42 = .ok (.if_icmp .ne 6, 3) := by decide +kernel
theorem dX9_name_45 : decode cX9_name 45 = .ok (.bipush (-2), 2) := by decide +kernel
theorem dX9_name_47 : decode cX9_name 47 = .ok (.ireturn, 1) := by decide +kernel
theorem dX9_name_48 : decode cX9_name 48 = .ok (.aload_n 0, 1) := by decide +kernel
theorem dX9_name_49 : decode cX9_name 49 = .ok (.getfield 35, 3) := by decide +kernel
theorem dX9_name_52 : decode cX9_name 52 = .ok (.aload_n 0, 1) := by decide +kernel
theorem dX9_name_53 : decode cX9_name 53 = .ok (.getfield 74, 3) := by decide +kernel
theorem dX9_name_56 : decode cX9_name 56 = .ok (.invokevirtual 144, 3) := by decide +kernel
theorem dX9_name_59 : decode cX9_name 59 = .ok (.aload 4, 2) := by decide +kernel
theorem dX9_name_61 : decode cX9_name 61 = .ok (.iload_n 2, 1) := by decide +kernel
theorem dX9_name_62 : decode cX9_name 62 = .ok (.iload_n 3, 1) := by decide +kernel
theorem dX9_name_63 : decode cX9_name 63 = .ok (.invokevirtual 155, 3) := by decide +kernel
theorem dX9_name_66 : decode cX9_name 66 = .ok (.iload 5, 2) := by decide +kernel
theorem dX9_name_68 : decode cX9_name 68 = .ok (.ireturn, 1) := by decide +kernel
theorem dX9_join_0 : decode cX9_join 0 = .ok (.aload_n 0, 1) := by decide +kernel
theorem dX9_join_1 : decode cX9_join 1 = .ok (.iload_n 1, 1) := by decide +kernel
theorem dX9_join_2 : decode cX9_join 2 = .ok (.iload_n 2, 1) := by decide +kernel
theorem dX9_join_3 : decode cX9_join 3 = .ok (.invokevirtual 107, 3) := by decide +kernel
theorem dX9_join_6 : decode cX9_join 6 = .ok (.ifCond .eq 28, 3) := by decide +kernel
theorem dX9_join_9 : decode cX9_join 9 = .ok (.aload_n 0, 1) := by decide +kernel
theorem dX9_join_10 : decode cX9_join 10 = .ok (.iload_n 1, 1) := by decide +kernel
theorem dX9_join_11 : decode cX9_join 11 = .ok (.iload_n 3, 1) := by decide +kernel
theorem dX9_join_12 : decode cX9_join 12 = .ok (.invokevirtual 107, 3) := by decide +kernel
theorem dX9_join_15 : decode cX9_join 15 = .ok (.ifCond .eq 19, 3) := by decide +kernel
theorem dX9_join_18 : decode cX9_join 18 = .ok (.iload_n 2, 1) := by decide +kernel
theorem dX9_join_19 : decode cX9_join 19 = .ok (.iload_n 3, 1) := by decide +kernel
theorem dX9_join_20 : decode cX9_join 20 = .ok (.if_icmp .eq 14, 3) := by decide +kernel
theorem dX9_join_23 : decode cX9_join 23 = .ok (.iload 4, 2) := by decide +kernel
theorem dX9_join_25 : decode cX9_join 25 = .ok (.iconst 0, 1) := by decide +kernel
theorem dX9_join_26 : decode cX9_join 26 = .ok (.bipush 9, 2) := by decide +kernel
theorem dX9_join_28 : decode cX9_join 28 = .ok (.invokestatic 140, 3) := by decide +kernel
theorem dX9_join_31 : decode cX9_join 31 = .ok (.ifCond .ne 5, 3) := by decide +kernel
theorem dX9_join_34 : decode cX9_join 34 = .ok (.iconst (-1), 1) := by decide +kernel
theorem dX9_join_35 : decode cX9_join 35 = .ok (.ireturn, 1) := by decide +kernel
theorem dX9_join_36 : decode cX9_join 36 = .ok (.aload_n 0, 1) := by decide +kernel
theorem dX9_join_37 : decode cX9_join 37 = .ok (.getfield 74, 3) := by decide +kernel
theorem dX9_join_40 : decode cX9_join 40 = .ok (.iload_n 1, 1) := by decide +kernel
theorem dX9_join_41 : decode cX9_join 41 = .ok (.invokevirtual 92, 3) := by decide +kernel
theorem dX9_join_44 : decode cX9_join 44 = .ok (.astore 5, 2) := by decide +kernel
theorem dX9_join_46 : decode cX9_join 46 = .ok (.aload 5, 2) := by decide +kernel
theorem dX9_join_48 : decode cX9_join 48 = .ok (.iload_n 2, 1) := by decide +kernel
theorem dX9_join_49 : decode cX9_join 49 = .ok (.iload_n 3, 1) := by decide +kernel
theorem dX9_join_50 : decode cX9_join 50 = .ok (.invokevirtual 158, 3) := by decide +kernel
theorem dX9_join_53 : decode cX9_join 53 = .ok (.iconst (-1), 1) := by decide +kernel
theorem dX9_join_54 : decode cX9_join 54 = .ok (.if_icmp .eq 6, 3) := by decide +kernel
theorem dX9_join_57 : decode cX9_join 57 = .ok (.bipush (-2), 2) := by decide +kernel
theorem dX9_join_59 : decode cX9_join 59 = .ok (.ireturn, 1) := by decide +kernel
theorem dX9_join_60 : decode cX9_join 60 = .ok (.aload 5, 2) := by decide +kernel
theorem dX9_join_62 : decode cX9_join 62 = .ok (.invokevirtual 161, 3) := by decide +kernel
theorem dX9_join_65 : decode cX9_join 65 = .ok (.bipush 8, 2) := by decide +kernel
theorem dX9_join_67 : decode cX9_join 67 = .ok (.if_icmp .lt 6, 3) := by decide +kernel
theorem dX9_join_70 : decode cX9_join 70 = .ok (.bipush (-3), 2) := by decide +kernel
theorem dX9_join_72 : decode cX9_join 72 = .ok (.ireturn, 1) := by decide +kernel
theorem dX9_join_73 : decode cX9_join 73 = .ok (.aload_n 0, 1) := by decide +kernel
theorem dX9_join_74 : decode cX9_join 74 = .ok (.getfield 35, 3) := by decide +kernel
theorem dX9_join_77 : decode cX9_join 77 = .ok (.aload_n 0, 1) := by decide +kernel
theorem dX9_join_78 : decode cX9_join 78 = .ok (.getfield 74, 3) := by decide +kernel
theorem dX9_join_81 : decode cX9_join 81 = .ok (.invokevirtual 144, 3) := by decide +kernel
theorem dX9_join_84 : decode cX9_join 84 = .ok (.aload 5, 2) := by decide +kernel
theorem dX9_join_86 : decode cX9_join 86 = .ok (.iload_n 2, 1) := by decide +kernel
theorem dX9_join_87 : decode cX9_join 87 = .ok (.iload_n 3, 1) := by decide +kernel
theorem dX9_join_88 : decode cX9_join 88 = .ok (.iload 4, 2) := by decide +kernel
theorem dX9_join_90 : decode cX9_join 90 = .ok (.invokevirtual 164, 3) := by decide +kernel
theorem dX9_join_93 : decode cX9_join 93 = .ok (.pop, 1) := by decide +kernel
theorem dX9_join_94 : decode cX9_join 94 = .ok (.aload 5, 2) := by decide +kernel
theorem dX9_join_96 : decode cX9_join 96 = .ok (.invokevirtual 161, 3) := by decide +kernel
theorem dX9_join_99 : decode cX9_join 99 = .ok (.ireturn, 1) := by decide +kernel
theorem dX9_cut_0 : decode cX9_cut 0 = .ok (.aload_n 0, 1) := by decide +kernel
theorem dX9_cut_1 : decode cX9_cut 1 = .ok (.iload_n 1, 1) := by decide +kernel
theorem dX9_cut_2 : decode cX9_cut 2 = .ok (.iload_n 2, 1) := by decide +kernel
theorem dX9_cut_3 : decode cX9_cut 3 = .ok (.invokevirtual 128, 3) := by decide +kernel
theorem dX9_cut_6 : decode cX9_cut 6 = .ok (.ifCond .ne 5, 3) := by decide +kernel
theorem dX9_cut_9 : decode cX9_cut 9 = .ok (.iconst (-1), 1) := by decide +kernel
theorem dX9_cut_10 : decode cX9_cut 10 = .ok (.ireturn, 1) := by decide +kernel
theorem dX9_cut_11 : decode cX9_cut 11 = .ok (.aload_n 0, 1) := by decide +kernel
theorem dX9_cut_12 : decode cX9_cut 12 = .ok (.getfield 35, 3) := by decide +kernel
theorem dX9_cut_15 : decode cX9_cut 15 = .ok (.aload_n 0, 1) := by decide +kernel
theorem dX9_cut_16 : decode cX9_cut 16 = .ok (.getfield 74, 3) := by decide +kernel
theorem dX9_cut_19 : decode cX9_cut 19 = .ok (.invokevirtual 144, 3) := by decide +kernel
theorem dX9_cut_22 : decode cX9_cut 22 = .ok (.aload_n 0, 1) := by decide +kernel
theorem dX9_cut_23 : decode cX9_cut 23 = .ok (.getfield 74, 3) := by decide +kernel
theorem dX9_cut_26 : decode cX9_cut 26 = .ok (.iload_n 1, 1) := by decide +kernel
theorem dX9_cut_27 : decode cX9_cut 27 = .ok (.invokevirtual 92, 3) := by decide +kernel
theorem dX9_cut_30 : decode cX9_cut 30 = .ok (.astore_n 3, 1) := by decide +kernel
theorem dX9_cut_31 : decode cX9_cut 31 = .ok (.aload_n 3, 1) := by decide +kernel
theorem dX9_cut_32 : decode cX9_cut 32 = .ok (.iload_n 2, 1) := by decide +kernel
theorem dX9_cut_33 : decode cX9_cut 33 = .ok (.invokevirtual 167, 3) := by decide +kernel
theorem dX9_cut_36 : decode cX9_cut 36 = .ok (.aload_n 3, 1) := by decide +kernel
theorem dX9_cut_37 : decode cX9_cut 37 = .ok (.invokevirtual 161, 3) := by decide +kernel
theorem dX9_cut_40 : decode cX9_cut 40 = .ok (.ireturn, 1) := by decide +kernel
theorem dX9_tune_0 : decode cX9_tune 0 = .ok (.iload_n 1, 1) := by decide +kernel
theorem dX9_tune_1 : decode cX9_tune 1 = .ok (.ifCond .ne 7, 3) := by decide +kernel
theorem dX9_tune_4 : decode cX9_tune 4 = .ok (.iconst 1, 1) := by decide +kernel
theorem dX9_tune_5 : decode cX9_tune 5 = .ok (.goto 4, 3) := by decide +kernel
theorem dX9_tune_8 : decode cX9_tune 8 = .ok (.iconst 0, 1) := by decide +kernel
theorem dX9_tune_9 : decode cX9_tune 9 = .ok (.istore_n 3, 1) := by decide +kernel
theorem dX9_tune_10 : decode cX9_tune 10 = .ok (.iload_n 1, 1) := by decide +kernel
theorem dX9_tune_11 : decode cX9_tune 11 = .ok (.iconst 0, 1) := by decide +kernel
theorem dX9_tune_12 : decode cX9_tune 12 = .ok (.iconst 1, 1) := by decide +kernel
theorem dX9_tune_13 : decode cX9_tune 13 = .ok (.invokestatic 140, 3) := by decide +kernel
theorem dX9_tune_16 : decode cX9_tune 16 = .ok (.ifCond .eq 24, 3) := by decide +kernel
theorem dX9_tune_19 : decode cX9_tune 19 = .ok (.iload_n 3, 1) := by decide +kernel
theorem dX9_tune_20 : decode cX9_tune 20 = .ok (.ifCond .eq 13, 3) := by decide +kernel
theorem dX9_tune_23 : decode cX9_tune 23 = .ok (.iload_n 2, 1) := by decide +kernel
theorem dX9_tune_24 : decode cX9_tune 24 = .ok (.invokestatic 170, 3) := by decide +kernel
theorem dX9_tune_27 : decode cX9_tune 27 = .ok (.ifCond .eq 13, 3) := by decide +kernel
theorem dX9_tune_30 : decode cX9_tune 30 = .ok (.goto 12, 3) := by decide +kernel
theorem dX9_tune_33 : decode cX9_tune 33 = .ok (.iload_n 2, 1) := by decide +kernel
theorem dX9_tune_34 : decode cX9_tune 34 = .ok (.invokestatic 173, 3) := by decide +kernel
theorem dX9_tune_37 : decode cX9_tune 37 = .ok (.ifCond .ne 5, 3) := by decide +kernel
theorem dX9_tune_40 : decode cX9_tune 40 = .ok (.iconst (-1), 1) := by decide +kernel
theorem dX9_tune_41 : decode cX9_tune 41 = .ok (.ireturn, 1) := by decide +kernel
theorem dX9_tune_42 : decode cX9_tune 42 = .ok (.iload_n 3, 1) := by decide +kernel
theorem dX9_tune_43 : decode cX9_tune 43 = .ok (.ifCond .eq 13, 3) := by decide +kernel
theorem dX9_tune_46 : decode cX9_tune 46 = .ok (.aload_n 0, 1) := by decide +kernel
theorem dX9_tune_47 : decode cX9_tune 47 = .ok (.getfield 74, 3) := by decide +kernel
theorem dX9_tune_50 : decode cX9_tune 50 = .ok (.invokevirtual 176, 3) := by decide +kernel
theorem dX9_tune_53 : decode cX9_tune 53 = .ok (.goto 10, 3) := by decide +kernel
theorem dX9_tune_56 : decode cX9_tune 56 = .ok (.aload_n 0, 1) := by decide +kernel
theorem dX9_tune_57 : decode cX9_tune 57 = .ok (.getfield 74, 3) := by decide +kernel
theorem dX9_tune_60 : decode cX9_tune 60 = .ok (.invokevirtual 179, 3) := by decide +kernel
theorem dX9_tune_63 : decode cX9_tune 63 = .ok (.istore 4, 2) := by decide +kernel
theorem dX9_tune_65 : decode cX9_tune 65 = .ok (.iload 4, 2) := by decide +kernel
theorem dX9_tune_67 : decode cX9_tune 67 = .ok (.iload_n 2, 1) := by decide +kernel
theorem dX9_tune_68 : decode cX9_tune 68 = .ok (.if_icmp .ne 6, 3) := by decide +kernel
theorem dX9_tune_71 : decode cX9_tune 71 = .ok (.bipush (-2), 2) := by decide +kernel
theorem dX9_tune_73 : decode cX9_tune 73 = .ok (.ireturn, 1) := by decide +kernel
theorem dX9_tune_74 : decode cX9_tune 74 = .ok (.aload_n 0, 1) := by decide +kernel
theorem dX9_tune_75 : decode cX9_tune 75 = .ok (.getfield 35, 3) := by decide +kernel
theorem dX9_tune_78 : decode cX9_tune 78 = .ok (.aload_n 0, 1) := by decide +kernel
theorem dX9_tune_79 : decode cX9_tune 79 = .ok (.getfield 74, 3) := by decide +kernel
theorem dX9_tune_82 : decode cX9_tune 82 = .ok (.invokevirtual 144, 3) := by decide +kernel
theorem dX9_tune_85 : decode cX9_tune 85 = .ok (.iload_n 3, 1) := by decide +kernel
theorem dX9_tune_86 : decode cX9_tune 86 = .ok (.ifCond .eq 15, 3) := by decide +kernel
theorem dX9_tune_89 : decode cX9_tune 89 = .ok (.aload_n 0, 1) := by decide +kernel
theorem dX9_tune_90 : decode cX9_tune 90 = .ok (.getfield 74, 3) := by decide +kernel
theorem dX9_tune_93 : decode cX9_tune 93 = .ok (.iload_n 2, 1) := by decide +kernel
theorem dX9_tune_94 : decode cX9_tune 94 = .ok (.invokevirtual 182, 3) := by decide +kernel
theorem dX9_tune_97 : decode cX9_tune 97 = .ok (.pop, 1) := by decide +kernel
theorem dX9_tune_98 : decode cX9_tune 98 = .ok (.goto 12, 3) := by decide +kernel
theorem dX9_tune_101 : decode cX9_tune 101 = .ok (.aload_n 0, 1) := by decide +kernel
theorem dX9_tune_102 : decode cX9_tune 102 = .ok (.getfield 74, 3) := by decide +kernel
theorem dX9_tune_105 : decode cX9_tune 105 = .ok (.iload_n 2, 1) := by decide +kernel
theorem dX9_tune_106 : decode cX9_tune 106 = .ok (.invokevirtual 185, 3) := by decide +kernel
theorem dX9_tune_109 : decode cX9_tune 109 = .ok (.pop, 1) := by decide +kernel
theorem dX9_tune_110 : decode cX9_tune 110 = .ok (.iload 4, 2) := by decide +kernel
theorem dX9_tune_112 : decode cX9_tune 112 = .ok (.ireturn, 1) := by decide +kernel
theorem dX9_undo_0 : decode cX9_undo 0 = .ok (.aload_n 0, 1) := by decide +kernel
theorem dX9_undo_1 : decode cX9_undo 1 = .ok (.getfield 35, 3) := by decide +kernel
theorem dX9_undo_4 : decode cX9_undo 4 = .ok (.aload_n 0, 1) := by decide +kernel
theorem dX9_undo_5 : decode cX9_undo 5 = .ok (.getfield 74, 3) := by decide +kernel
theorem dX9_undo_8 : decode cX9_undo 8 = .ok (.invokevirtual 188, 3) := by decide +kernel
theorem dX9_undo_11 : decode cX9_undo 11 = .ok (.ifCond .eq 13, 3) := by decide +kernel
theorem dX9_undo_14 : decode cX9_undo 14 = .ok (.aload_n 0, 1) := by decide +kernel
theorem dX9_undo_15 : decode cX9_undo 15 = .ok (.getfield 35, 3) := by decide +kernel
theorem dX9_undo_18 : decode cX9_undo 18 = .ok (.invokevirtual 192, 3) := by decide +kernel
theorem dX9_undo_21 : decode cX9_undo 21 = .ok (.goto 5, 3) := by decide +kernel
theorem dX9_undo_24 : decode cX9_undo 24 = .ok (.bipush (-2), 2) := by decide +kernel
theorem dX9_undo_26 : decode cX9_undo 26 = .ok (.ireturn, 1) := by decide +kernel
theorem dX9_belief_0 : decode cX9_belief 0 = .ok (.aload_n 0, 1) := by decide +kernel
theorem dX9_belief_1 : decode cX9_belief 1 = .ok (.iconst 0, 1) := by decide +kernel
theorem dX9_belief_2 : decode cX9_belief 2 = .ok (.iload_n 1, 1) := by decide +kernel
theorem dX9_belief_3 : decode cX9_belief 3 = .ok (.invokevirtual 107, 3) := by decide +kernel
theorem dX9_belief_6 : decode cX9_belief 6 = .ok (.ifCond .eq 12, 3) := by decide +kernel
theorem dX9_belief_9 : decode cX9_belief 9 = .ok (.aload_n 0, 1) := by decide +kernel
theorem dX9_belief_10 : decode cX9_belief 10 = .ok (.iconst 1, 1) := by decide +kernel
theorem dX9_belief_11 : decode cX9_belief 11 = .ok (.iload_n 2, 1) := by decide +kernel
theorem dX9_belief_12 : decode cX9_belief 12 = .ok (.invokevirtual 107, 3) := by decide +kernel
theorem dX9_belief_15 : decode cX9_belief 15 = .ok (.ifCond .ne 5, 3) := by decide +kernel
theorem dX9_belief_18 : decode cX9_belief 18 = .ok (.iconst (-1), 1) := by decide +kernel
theorem dX9_belief_19 : decode cX9_belief 19 = .ok (.ireturn, 1) := by decide +kernel
theorem dX9_belief_20 : decode cX9_belief 20 = .ok (.aload_n 0, 1) := by decide +kernel
theorem dX9_belief_21 : decode cX9_belief 21 = .ok (.getfield 52, 3) := by decide +kernel
theorem dX9_belief_24 : decode cX9_belief 24 = .ok (.aload_n 0, 1) := by decide +kernel
theorem dX9_belief_25 : decode cX9_belief 25 = .ok (.getfield 74, 3) := by decide +kernel
theorem dX9_belief_28 : decode cX9_belief 28 = .ok (.invokevirtual 195, 3) := by decide +kernel
theorem dX9_belief_31 : decode cX9_belief 31 = .ok (.aload_n 0, 1) := by decide +kernel
theorem dX9_belief_32 : decode cX9_belief 32 = .ok (.getfield 52, 3) := by decide +kernel
theorem dX9_belief_35 : decode cX9_belief 35 = .ok (.iload_n 1, 1) := by decide +kernel
theorem dX9_belief_36 : decode cX9_belief 36 = .ok (.iload_n 2, 1) := by decide +kernel
theorem dX9_belief_37 : decode cX9_belief 37 = .ok (.invokevirtual 198, 3) := by decide +kernel
theorem dX9_belief_40 : decode cX9_belief 40 = .ok (.ifCond .eq 15, 3) := by decide +kernel
theorem dX9_belief_43 : decode cX9_belief 43 = .ok (.aload_n 0, 1) := by decide +kernel
theorem dX9_belief_44 : decode cX9_belief 44 = .ok (.getfield 52, 3) := by decide +kernel
theorem dX9_belief_47 : decode cX9_belief 47 = .ok (.iload_n 1, 1) := by decide +kernel
theorem dX9_belief_48 : decode cX9_belief 48 = .ok (.iload_n 2, 1) := by decide +kernel
theorem dX9_belief_49 : decode cX9_belief 49 = .ok (.invokevirtual 201, 3) := by decide +kernel
theorem dX9_belief_52 : decode cX9_belief 52 = .ok (.goto 5, 3) := by decide +kernel
theorem dX9_belief_55 : decode cX9_belief 55 = .ok (.bipush (-4), 2) := by decide +kernel
theorem dX9_belief_57 : decode cX9_belief 57 = .ok (.ireturn, 1) := by decide +kernel
theorem dX9_match_0 : decode cX9_match 0 = .ok (.aload_n 0, 1) := by decide +kernel
theorem dX9_match_1 : decode cX9_match 1 = .ok (.iload_n 1, 1) := by decide +kernel
theorem dX9_match_2 : decode cX9_match 2 = .ok (.iload_n 2, 1) := by decide +kernel
theorem dX9_match_3 : decode cX9_match 3 = .ok (.invokevirtual 107, 3) := by decide +kernel
theorem dX9_match_6 : decode cX9_match 6 = .ok (.ifCond .ne 5, 3) := by decide +kernel
theorem dX9_match_9 : decode cX9_match 9 = .ok (.iconst (-1), 1) := by decide +kernel
theorem dX9_match_10 : decode cX9_match 10 = .ok (.ireturn, 1) := by decide +kernel
theorem dX9_match_11 : decode cX9_match 11 = .ok (.aload_n 0, 1) := by decide +kernel
theorem dX9_match_12 : decode cX9_match 12 = .ok (.getfield 52, 3) := by decide +kernel
theorem dX9_match_15 : decode cX9_match 15 = .ok (.aload_n 0, 1) := by decide +kernel
theorem dX9_match_16 : decode cX9_match 16 = .ok (.getfield 74, 3) := by decide +kernel
theorem dX9_match_19 : decode cX9_match 19 = .ok (.invokevirtual 195, 3) := by decide +kernel
theorem dX9_match_22 : decode cX9_match 22 = .ok (.aload_n 0, 1) := by decide +kernel
theorem dX9_match_23 : decode cX9_match 23 = .ok (.getfield 52, 3) := by decide +kernel
theorem dX9_match_26 : decode cX9_match 26 = .ok (.iload_n 1, 1) := by decide +kernel
theorem dX9_match_27 : decode cX9_match 27 = .ok (.iload_n 2, 1) := by decide +kernel
theorem dX9_match_28 : decode cX9_match 28 = .ok (.invokevirtual 204, 3) := by decide +kernel
theorem dX9_match_31 : decode cX9_match 31 = .ok (.istore_n 3, 1) := by decide +kernel
theorem dX9_match_32 : decode cX9_match 32 = .ok (.iload_n 3, 1) := by decide +kernel
theorem dX9_match_33 : decode cX9_match 33 = .ok (.iconst (-1), 1) := by decide +kernel
theorem dX9_match_34 : decode cX9_match 34 = .ok (.if_icmp .ne 8, 3) := by decide +kernel
theorem dX9_match_37 : decode cX9_match 37 = .ok (.bipush (-4), 2) := by decide +kernel
theorem dX9_match_39 : decode cX9_match 39 = .ok (.goto 4, 3) := by decide +kernel
theorem dX9_match_42 : decode cX9_match 42 = .ok (.iload_n 3, 1) := by decide +kernel
theorem dX9_match_43 : decode cX9_match 43 = .ok (.ireturn, 1) := by decide +kernel
theorem dX9_told_0 : decode cX9_told 0 = .ok (.aload_n 0, 1) := by decide +kernel
theorem dX9_told_1 : decode cX9_told 1 = .ok (.iconst 0, 1) := by decide +kernel
theorem dX9_told_2 : decode cX9_told 2 = .ok (.iload_n 1, 1) := by decide +kernel
theorem dX9_told_3 : decode cX9_told 3 = .ok (.invokevirtual 128, 3) := by decide +kernel
theorem dX9_told_6 : decode cX9_told 6 = .ok (.ifCond .eq 8, 3) := by decide +kernel
theorem dX9_told_9 : decode cX9_told 9 = .ok (.iload_n 2, 1) := by decide +kernel
theorem dX9_told_10 : decode cX9_told 10 = .ok (.iconst (-1), 1) := by decide +kernel
theorem dX9_told_11 : decode cX9_told 11 = .ok (.if_icmp .ge 5, 3) := by decide +kernel
theorem dX9_told_14 : decode cX9_told 14 = .ok (.iconst (-1), 1) := by decide +kernel
theorem dX9_told_15 : decode cX9_told 15 = .ok (.ireturn, 1) := by decide +kernel
theorem dX9_told_16 : decode cX9_told 16 = .ok (.aload_n 0, 1) := by decide +kernel
theorem dX9_told_17 : decode cX9_told 17 = .ok (.getfield 52, 3) := by decide +kernel
theorem dX9_told_20 : decode cX9_told 20 = .ok (.aload_n 0, 1) := by decide +kernel
theorem dX9_told_21 : decode cX9_told 21 = .ok (.getfield 74, 3) := by decide +kernel
theorem dX9_told_24 : decode cX9_told 24 = .ok (.invokevirtual 195, 3) := by decide +kernel
theorem dX9_told_27 : decode cX9_told 27 = .ok (.aload_n 0, 1) := by decide +kernel
theorem dX9_told_28 : decode cX9_told 28 = .ok (.aload_n 0, 1) := by decide +kernel
theorem dX9_told_29 : decode cX9_told 29 = .ok (.getfield 74, 3) := by decide +kernel
theorem dX9_told_32 : decode cX9_told 32 = .ok (.iload_n 1, 1) := by decide +kernel
theorem dX9_told_33 : decode cX9_told 33 = .ok (.invokevirtual 207, 3) := by decide +kernel
theorem dX9_told_36 : decode cX9_told 36 = .ok (.aload_n 0, 1) := by decide +kernel
theorem dX9_told_37 : decode cX9_told 37 = .ok (.getfield 59, 3) := by decide +kernel
theorem dX9_told_40 : decode cX9_told 40 = .ok (.invokevirtual 211, 3) := by decide +kernel
theorem dX9_told_43 : decode cX9_told 43 = .ok (.ifCond .ne 6, 3) := by decide +kernel
theorem dX9_told_46 : decode cX9_told 46 = .ok (.bipush (-4), 2) := by decide +kernel
theorem dX9_told_48 : decode cX9_told 48 = .ok (.ireturn, 1) := by decide +kernel
theorem dX9_told_49 : decode cX9_told 49 = .ok (.iload_n 2, 1) := by decide +kernel
theorem dX9_told_50 : decode cX9_told 50 = .ok (.iconst (-1), 1) := by decide +kernel
theorem dX9_told_51 : decode cX9_told 51 = .ok (.if_icmp .ne 13, 3) := by decide +kernel
theorem dX9_told_54 : decode cX9_told 54 = .ok (.aload_n 0, 1) := by decide +kernel
theorem dX9_told_55 : decode cX9_told 55 = .ok (.getfield 59, 3) := by decide +kernel
theorem dX9_told_58 : decode cX9_told 58 = .ok (.invokevirtual 215, 3) := by decide +kernel
theorem dX9_told_61 : decode cX9_told 61 = .ok (.goto 11, 3) := by decide +kernel
theorem dX9_told_64 : decode cX9_told 64 = .ok (.aload_n 0, 1) := by decide +kernel
theorem dX9_told_65 : decode cX9_told 65 = .ok (.getfield 59, 3) := by decide +kernel
theorem dX9_told_68 : decode cX9_told 68 = .ok (.iload_n 2, 1) := by decide +kernel
theorem dX9_told_69 : decode cX9_told 69 = .ok (.invokevirtual 216, 3) := by decide +kernel
theorem dX9_told_72 : decode cX9_told 72 = .ok (.ireturn, 1) := by decide +kernel
theorem dX9_named_0 : decode cX9_named 0 = .ok (.aload_n 0, 1) := by decide +kernel
theorem dX9_named_1 : decode cX9_named 1 = .ok (.iconst 0, 1) := by decide +kernel
theorem dX9_named_2 : decode cX9_named 2 = .ok (.iload_n 1, 1) := by decide +kernel
theorem dX9_named_3 : decode cX9_named 3 = .ok (.invokevirtual 128, 3) := by decide +kernel
theorem dX9_named_6 : decode cX9_named 6 = .ok (.ifCond .ne 5, 3) := by decide +kernel
theorem dX9_named_9 : decode cX9_named 9 = .ok (.iconst (-1), 1) := by decide +kernel
theorem dX9_named_10 : decode cX9_named 10 = .ok (.ireturn, 1) := by decide +kernel
theorem dX9_named_11 : decode cX9_named 11 = .ok (.aload_n 0, 1) := by decide +kernel
theorem dX9_named_12 : decode cX9_named 12 = .ok (.getfield 74, 3) := by decide +kernel
theorem dX9_named_15 : decode cX9_named 15 = .ok (.iconst 0, 1) := by decide +kernel
theorem dX9_named_16 : decode cX9_named 16 = .ok (.invokevirtual 92, 3) := by decide +kernel
theorem dX9_named_19 : decode cX9_named 19 = .ok (.iload_n 1, 1) := by decide +kernel
theorem dX9_named_20 : decode cX9_named 20 = .ok (.invokevirtual 137, 3) := by decide +kernel
theorem dX9_named_23 : decode cX9_named 23 = .ok (.istore_n 2, 1) := by decide +kernel
theorem dX9_named_24 : decode cX9_named 24 = .ok (.iload_n 2, 1) := by decide +kernel
theorem dX9_named_25 : decode cX9_named 25 = .ok (.ifCond .eq 5, 3) := by decide +kernel
theorem dX9_named_28 : decode cX9_named 28 = .ok (.iload_n 2, 1) := by decide +kernel
theorem dX9_named_29 : decode cX9_named 29 = .ok (.ireturn, 1) := by decide +kernel
theorem dX9_named_30 : decode cX9_named 30 = .ok (.aload_n 0, 1) := by decide +kernel
theorem dX9_named_31 : decode cX9_named 31 = .ok (.getfield 52, 3) := by decide +kernel
theorem dX9_named_34 : decode cX9_named 34 = .ok (.aload_n 0, 1) := by decide +kernel
theorem dX9_named_35 : decode cX9_named 35 = .ok (.getfield 74, 3) := by decide +kernel
theorem dX9_named_38 : decode cX9_named 38 = .ok (.invokevirtual 195, 3) := by decide +kernel
theorem dX9_named_41 : decode cX9_named 41 = .ok (.aload_n 0, 1) := by decide +kernel
theorem dX9_named_42 : decode cX9_named 42 = .ok (.aload_n 0, 1) := by decide +kernel
theorem dX9_named_43 : decode cX9_named 43 = .ok (.getfield 74, 3) := by decide +kernel
theorem dX9_named_46 : decode cX9_named 46 = .ok (.iload_n 1, 1) := by decide +kernel
theorem dX9_named_47 : decode cX9_named 47 = .ok (.invokevirtual 207, 3) := by decide +kernel
theorem dX9_named_50 : decode cX9_named 50 = .ok (.aload_n 0, 1) := by decide +kernel
theorem dX9_named_51 : decode cX9_named 51 = .ok (.getfield 59, 3) := by decide +kernel
theorem dX9_named_54 : decode cX9_named 54 = .ok (.aload_n 0, 1) := by decide +kernel
theorem dX9_named_55 : decode cX9_named 55 = .ok (.getfield 74, 3) := by decide +kernel
theorem dX9_named_58 : decode cX9_named 58 = .ok (.iconst 1, 1) := by decide +kernel
theorem dX9_named_59 : decode cX9_named 59 = .ok (.invokevirtual 92, 3) := by decide +kernel
theorem dX9_named_62 : decode cX9_named 62 = .ok (.invokevirtual 219, 3) := by decide +kernel
theorem dX9_named_65 : decode cX9_named 65 = .ok (.ireturn, 1) := by decide +kernel
theorem dX9_comes_0 : decode cX9_comes 0 = .ok (.aload_n 0, 1) := by decide +kernel
theorem dX9_comes_1 : decode cX9_comes 1 = .ok (.iconst 0, 1) := by decide +kernel
theorem dX9_comes_2 : decode cX9_comes 2 = .ok (.iload_n 1, 1) := by decide +kernel
theorem dX9_comes_3 : decode cX9_comes 3 = .ok (.invokevirtual 107, 3) := by decide +kernel
theorem dX9_comes_6 : decode cX9_comes 6 = .ok (.ifCond .ne 5, 3) := by decide +kernel
theorem dX9_comes_9 : decode cX9_comes 9 = .ok (.iconst (-1), 1) := by decide +kernel
theorem dX9_comes_10 : decode cX9_comes 10 = .ok (.ireturn, 1) := by decide +kernel
theorem dX9_comes_11 : decode cX9_comes 11 = .ok (.aload_n 0, 1) := by decide +kernel
theorem dX9_comes_12 : decode cX9_comes 12 = .ok (.getfield 52, 3) := by decide +kernel
theorem dX9_comes_15 : decode cX9_comes 15 = .ok (.aload_n 0, 1) := by decide +kernel
theorem dX9_comes_16 : decode cX9_comes 16 = .ok (.getfield 74, 3) := by decide +kernel
theorem dX9_comes_19 : decode cX9_comes 19 = .ok (.invokevirtual 195, 3) := by decide +kernel
theorem dX9_comes_22 : decode cX9_comes 22 = .ok (.aload_n 0, 1) := by decide +kernel
theorem dX9_comes_23 : decode cX9_comes 23 = .ok (.getfield 66, 3) := by decide +kernel
theorem dX9_comes_26 : decode cX9_comes 26 = .ok (.aload_n 0, 1) := by decide +kernel
theorem dX9_comes_27 : decode cX9_comes 27 = .ok (.getfield 74, 3) := by decide +kernel
theorem dX9_comes_30 : decode cX9_comes 30 = .ok (.aload_n 0, 1) := by decide +kernel
theorem dX9_comes_31 : decode cX9_comes 31 = .ok (.getfield 52, 3) := by decide +kernel
theorem dX9_comes_34 : decode cX9_comes 34 = .ok (.iload_n 1, 1) := by decide +kernel
theorem dX9_comes_35 : decode cX9_comes 35 = .ok (.invokevirtual 223, 3) := by decide +kernel
theorem dX9_comes_38 : decode cX9_comes 38 = .ok (.iload_n 2, 1) := by decide +kernel
theorem dX9_comes_39 : decode cX9_comes 39 = .ok (.tableswitch 67 0 3 #[29, 40, 48, 59], 29) := by decide +kernel
theorem dX9_comes_68 : decode cX9_comes 68 = .ok (.ldc 227, 2) := by decide +kernel
theorem dX9_comes_70 : decode cX9_comes 70 = .ok (.aload_n 0, 1) := by decide +kernel
theorem dX9_comes_71 : decode cX9_comes 71 = .ok (.getfield 66, 3) := by decide +kernel
theorem dX9_comes_74 : decode cX9_comes 74 = .ok (.invokevirtual 228, 3) := by decide +kernel
theorem dX9_comes_77 : decode cX9_comes 77 = .ok (.iadd, 1) := by decide +kernel
theorem dX9_comes_78 : decode cX9_comes 78 = .ok (.ireturn, 1) := by decide +kernel
theorem dX9_comes_79 : decode cX9_comes 79 = .ok (.aload_n 0, 1) := by decide +kernel
theorem dX9_comes_80 : decode cX9_comes 80 = .ok (.getfield 66, 3) := by decide +kernel
theorem dX9_comes_83 : decode cX9_comes 83 = .ok (.invokevirtual 231, 3) := by decide +kernel
theorem dX9_comes_86 : decode cX9_comes 86 = .ok (.ireturn, 1) := by decide +kernel
theorem dX9_comes_87 : decode cX9_comes 87 = .ok (.ldc 227, 2) := by decide +kernel
theorem dX9_comes_89 : decode cX9_comes 89 = .ok (.aload_n 0, 1) := by decide +kernel
theorem dX9_comes_90 : decode cX9_comes 90 = .ok (.getfield 66, 3) := by decide +kernel
theorem dX9_comes_93 : decode cX9_comes 93 = .ok (.invokevirtual 234, 3) := by decide +kernel
theorem dX9_comes_96 : decode cX9_comes 96 = .ok (.iadd, 1) := by decide +kernel
theorem dX9_comes_97 : decode cX9_comes 97 = .ok (.ireturn, 1) := by decide +kernel
theorem dX9_comes_98 : decode cX9_comes 98 = .ok (.aload_n 0, 1) := by decide +kernel
theorem dX9_comes_99 : decode cX9_comes 99 = .ok (.getfield 66, 3) := by decide +kernel
theorem dX9_comes_102 : decode cX9_comes 102 = .ok (.invokevirtual 237, 3) := by decide +kernel
theorem dX9_comes_105 : decode cX9_comes 105 = .ok (.ireturn, 1) := by decide +kernel
theorem dX9_comes_106 : decode cX9_comes 106 = .ok (.iconst (-1), 1) := by decide +kernel
theorem dX9_comes_107 : decode cX9_comes 107 = .ok (.ireturn, 1) := by decide +kernel
theorem dX9_whole_0 : decode cX9_whole 0 = .ok (.aload_n 0, 1) := by decide +kernel
theorem dX9_whole_1 : decode cX9_whole 1 = .ok (.aload_n 0, 1) := by decide +kernel
theorem dX9_whole_2 : decode cX9_whole 2 = .ok (.getfield 74, 3) := by decide +kernel
theorem dX9_whole_5 : decode cX9_whole 5 = .ok (.iload_n 1, 1) := by decide +kernel
theorem dX9_whole_6 : decode cX9_whole 6 = .ok (.invokevirtual 240, 3) := by decide +kernel
theorem dX9_whole_9 : decode cX9_whole 9 = .ok (.ireturn, 1) := by decide +kernel
theorem dX9_shelve_0 : decode cX9_shelve 0 = .ok (.aload_n 0, 1) := by decide +kernel
theorem dX9_shelve_1 : decode cX9_shelve 1 = .ok (.getfield 45, 3) := by decide +kernel
theorem dX9_shelve_4 : decode cX9_shelve 4 = .ok (.iload_n 1, 1) := by decide +kernel
theorem dX9_shelve_5 : decode cX9_shelve 5 = .ok (.iload_n 2, 1) := by decide +kernel
theorem dX9_shelve_6 : decode cX9_shelve 6 = .ok (.invokevirtual 244, 3) := by decide +kernel
theorem dX9_shelve_9 : decode cX9_shelve 9 = .ok (.ifCond .eq 11, 3) := by decide +kernel
theorem dX9_shelve_12 : decode cX9_shelve 12 = .ok (.aload_n 0, 1) := by decide +kernel
theorem dX9_shelve_13 : decode cX9_shelve 13 = .ok (.iload_n 3, 1) := by decide +kernel
theorem dX9_shelve_14 : decode cX9_shelve 14 = .ok (.invokevirtual 247, 3) := by decide +kernel
theorem dX9_shelve_17 : decode cX9_shelve 17 = .ok (.ifCond .ne 5, 3) := by decide +kernel
theorem dX9_shelve_20 : decode cX9_shelve 20 = .ok (.iconst (-1), 1) := by decide +kernel
theorem dX9_shelve_21 : decode cX9_shelve 21 = .ok (.ireturn, 1) := by decide +kernel
theorem dX9_shelve_22 : decode cX9_shelve 22 = .ok (.iload_n 1, 1) := by decide +kernel
theorem dX9_shelve_23 : decode cX9_shelve 23 = .ok (.iload_n 3, 1) := by decide +kernel
theorem dX9_shelve_24 : decode cX9_shelve 24 = .ok (.invokestatic 250, 3) := by decide +kernel
theorem dX9_shelve_27 : decode cX9_shelve 27 = .ok (.ifCond .ne 6, 3) := by decide +kernel
theorem dX9_shelve_30 : decode cX9_shelve 30 = .ok (.bipush (-2), 2) := by decide +kernel
theorem dX9_shelve_32 : decode cX9_shelve 32 = .ok (.ireturn, 1) := by decide +kernel
theorem dX9_shelve_33 : decode cX9_shelve 33 = .ok (.aload_n 0, 1) := by decide +kernel
theorem dX9_shelve_34 : decode cX9_shelve 34 = .ok (.getfield 45, 3) := by decide +kernel
theorem dX9_shelve_37 : decode cX9_shelve 37 = .ok (.iload_n 1, 1) := by decide +kernel
theorem dX9_shelve_38 : decode cX9_shelve 38 = .ok (.iload_n 2, 1) := by decide +kernel
theorem dX9_shelve_39 : decode cX9_shelve 39 = .ok (.iload_n 3, 1) := by decide +kernel
theorem dX9_shelve_40 : decode cX9_shelve 40 = .ok (.invokevirtual 253, 3) := by decide +kernel
theorem dX9_shelve_43 : decode cX9_shelve 43 = .ok (.iconst 1, 1) := by decide +kernel
theorem dX9_shelve_44 : decode cX9_shelve 44 = .ok (.ireturn, 1) := by decide +kernel
theorem dX9_shelf_0 : decode cX9_shelf 0 = .ok (.aload_n 0, 1) := by decide +kernel
theorem dX9_shelf_1 : decode cX9_shelf 1 = .ok (.getfield 45, 3) := by decide +kernel
theorem dX9_shelf_4 : decode cX9_shelf 4 = .ok (.iload_n 1, 1) := by decide +kernel
theorem dX9_shelf_5 : decode cX9_shelf 5 = .ok (.iload_n 2, 1) := by decide +kernel
theorem dX9_shelf_6 : decode cX9_shelf 6 = .ok (.invokevirtual 244, 3) := by decide +kernel
theorem dX9_shelf_9 : decode cX9_shelf 9 = .ok (.ifCond .eq 15, 3) := by decide +kernel
theorem dX9_shelf_12 : decode cX9_shelf 12 = .ok (.aload_n 0, 1) := by decide +kernel
theorem dX9_shelf_13 : decode cX9_shelf 13 = .ok (.getfield 45, 3) := by decide +kernel
theorem dX9_shelf_16 : decode cX9_shelf 16 = .ok (.iload_n 1, 1) := by decide +kernel
theorem dX9_shelf_17 : decode cX9_shelf 17 = .ok (.iload_n 2, 1) := by decide +kernel
theorem dX9_shelf_18 : decode cX9_shelf 18 = .ok (.invokevirtual 254, 3) := by decide +kernel
theorem dX9_shelf_21 : decode cX9_shelf 21 = .ok (.goto 4, 3) := by decide +kernel
theorem dX9_shelf_24 : decode cX9_shelf 24 = .ok (.iconst (-1), 1) := by decide +kernel
theorem dX9_shelf_25 : decode cX9_shelf 25 = .ok (.ireturn, 1) := by decide +kernel
theorem dX9_keep_0 : decode cX9_keep 0 = .ok (.aload_n 0, 1) := by decide +kernel
theorem dX9_keep_1 : decode cX9_keep 1 = .ok (.getfield 39, 3) := by decide +kernel
theorem dX9_keep_4 : decode cX9_keep 4 = .ok (.invokevirtual 192, 3) := by decide +kernel
theorem dX9_keep_7 : decode cX9_keep 7 = .ok (.iconst 2, 1) := by decide +kernel
theorem dX9_keep_8 : decode cX9_keep 8 = .ok (.if_icmp .lt 6, 3) := by decide +kernel
theorem dX9_keep_11 : decode cX9_keep 11 = .ok (.bipush (-3), 2) := by decide +kernel
theorem dX9_keep_13 : decode cX9_keep 13 = .ok (.ireturn, 1) := by decide +kernel
theorem dX9_keep_14 : decode cX9_keep 14 = .ok (.aload_n 0, 1) := by decide +kernel
theorem dX9_keep_15 : decode cX9_keep 15 = .ok (.getfield 39, 3) := by decide +kernel
theorem dX9_keep_18 : decode cX9_keep 18 = .ok (.aload_n 0, 1) := by decide +kernel
theorem dX9_keep_19 : decode cX9_keep 19 = .ok (.getfield 74, 3) := by decide +kernel
theorem dX9_keep_22 : decode cX9_keep 22 = .ok (.invokevirtual 144, 3) := by decide +kernel
theorem dX9_keep_25 : decode cX9_keep 25 = .ok (.aload_n 0, 1) := by decide +kernel
theorem dX9_keep_26 : decode cX9_keep 26 = .ok (.getfield 39, 3) := by decide +kernel
theorem dX9_keep_29 : decode cX9_keep 29 = .ok (.invokevirtual 192, 3) := by decide +kernel
theorem dX9_keep_32 : decode cX9_keep 32 = .ok (.ireturn, 1) := by decide +kernel
theorem dX9_back_0 : decode cX9_back 0 = .ok (.aload_n 0, 1) := by decide +kernel
theorem dX9_back_1 : decode cX9_back 1 = .ok (.getfield 39, 3) := by decide +kernel
theorem dX9_back_4 : decode cX9_back 4 = .ok (.aload_n 0, 1) := by decide +kernel
theorem dX9_back_5 : decode cX9_back 5 = .ok (.getfield 74, 3) := by decide +kernel
theorem dX9_back_8 : decode cX9_back 8 = .ok (.invokevirtual 188, 3) := by decide +kernel
theorem dX9_back_11 : decode cX9_back 11 = .ok (.ifCond .ne 6, 3) := by decide +kernel
theorem dX9_back_14 : decode cX9_back 14 = .ok (.bipush (-2), 2) := by decide +kernel
theorem dX9_back_16 : decode cX9_back 16 = .ok (.ireturn, 1) := by decide +kernel
theorem dX9_back_17 : decode cX9_back 17 = .ok (.aload_n 0, 1) := by decide +kernel
theorem dX9_back_18 : decode cX9_back 18 = .ok (.getfield 35, 3) := by decide +kernel
theorem dX9_back_21 : decode cX9_back 21 = .ok (.invokevirtual 106, 3) := by decide +kernel
theorem dX9_back_24 : decode cX9_back 24 = .ok (.aload_n 0, 1) := by decide +kernel
theorem dX9_back_25 : decode cX9_back 25 = .ok (.getfield 39, 3) := by decide +kernel
theorem dX9_back_28 : decode cX9_back 28 = .ok (.invokevirtual 192, 3) := by decide +kernel
theorem dX9_back_31 : decode cX9_back 31 = .ok (.ireturn, 1) := by decide +kernel
theorem dX9_count_0 : decode cX9_count 0 = .ok (.iload_n 1, 1) := by decide +kernel
theorem dX9_count_1 : decode cX9_count 1 = .ok (.tableswitch 151 0 9 #[55, 67, 79, 91, 103, 111, 119, 127, 135, 143], 55) := by decide +kernel
theorem dX9_count_56 : decode cX9_count 56 = .ok (.aload_n 0, 1) := by decide +kernel
theorem dX9_count_57 : decode cX9_count 57 = .ok (.getfield 74, 3) := by decide +kernel
theorem dX9_count_60 : decode cX9_count 60 = .ok (.iconst 0, 1) := by decide +kernel
theorem dX9_count_61 : decode cX9_count 61 = .ok (.invokevirtual 92, 3) := by decide +kernel
theorem dX9_count_64 : decode cX9_count 64 = .ok (.invokevirtual 96, 3) := by decide +kernel
theorem dX9_count_67 : decode cX9_count 67 = .ok (.ireturn, 1) := by decide +kernel
theorem dX9_count_68 : decode cX9_count 68 = .ok (.aload_n 0, 1) := by decide +kernel
theorem dX9_count_69 : decode cX9_count 69 = .ok (.getfield 74, 3) := by decide +kernel
theorem dX9_count_72 : decode cX9_count 72 = .ok (.iconst 1, 1) := by decide +kernel
theorem dX9_count_73 : decode cX9_count 73 = .ok (.invokevirtual 92, 3) := by decide +kernel
theorem dX9_count_76 : decode cX9_count 76 = .ok (.invokevirtual 96, 3) := by decide +kernel
theorem dX9_count_79 : decode cX9_count 79 = .ok (.ireturn, 1) := by decide +kernel
theorem dX9_count_80 : decode cX9_count 80 = .ok (.aload_n 0, 1) := by decide +kernel
theorem dX9_count_81 : decode cX9_count 81 = .ok (.getfield 74, 3) := by decide +kernel
theorem dX9_count_84 : decode cX9_count 84 = .ok (.iconst 0, 1) := by decide +kernel
theorem dX9_count_85 : decode cX9_count 85 = .ok (.invokevirtual 92, 3) := by decide +kernel
theorem dX9_count_88 : decode cX9_count 88 = .ok (.invokevirtual 161, 3) := by decide +kernel
theorem dX9_count_91 : decode cX9_count 91 = .ok (.ireturn, 1) := by decide +kernel
theorem dX9_count_92 : decode cX9_count 92 = .ok (.aload_n 0, 1) := by decide +kernel
theorem dX9_count_93 : decode cX9_count 93 = .ok (.getfield 74, 3) := by decide +kernel
theorem dX9_count_96 : decode cX9_count 96 = .ok (.iconst 1, 1) := by decide +kernel
theorem dX9_count_97 : decode cX9_count 97 = .ok (.invokevirtual 92, 3) := by decide +kernel
theorem dX9_count_100 : decode cX9_count 100 = .ok (.invokevirtual 161, 3) := by decide +kernel
theorem dX9_count_103 : decode cX9_count 103 = .ok (.ireturn, 1) := by decide +kernel
theorem dX9_count_104 : decode cX9_count 104 = .ok (.aload_n 0, 1) := by decide +kernel
theorem dX9_count_105 : decode cX9_count 105 = .ok (.getfield 74, 3) := by decide +kernel
theorem dX9_count_108 : decode cX9_count 108 = .ok (.invokevirtual 176, 3) := by decide +kernel
theorem dX9_count_111 : decode cX9_count 111 = .ok (.ireturn, 1) := by decide +kernel
theorem dX9_count_112 : decode cX9_count 112 = .ok (.aload_n 0, 1) := by decide +kernel
theorem dX9_count_113 : decode cX9_count 113 = .ok (.getfield 74, 3) := by decide +kernel
theorem dX9_count_116 : decode cX9_count 116 = .ok (.invokevirtual 179, 3) := by decide +kernel
theorem dX9_count_119 : decode cX9_count 119 = .ok (.ireturn, 1) := by decide +kernel
theorem dX9_count_120 : decode cX9_count 120 = .ok (.aload_n 0, 1) := by decide +kernel
theorem dX9_count_121 : decode cX9_count 121 = .ok (.getfield 35, 3) := by decide +kernel
theorem dX9_count_124 : decode cX9_count 124 = .ok (.invokevirtual 192, 3) := by decide +kernel
theorem dX9_count_127 : decode cX9_count 127 = .ok (.ireturn, 1) := by decide +kernel
theorem dX9_count_128 : decode cX9_count 128 = .ok (.aload_n 0, 1) := by decide +kernel
theorem dX9_count_129 : decode cX9_count 129 = .ok (.getfield 39, 3) := by decide +kernel
theorem dX9_count_132 : decode cX9_count 132 = .ok (.invokevirtual 192, 3) := by decide +kernel
theorem dX9_count_135 : decode cX9_count 135 = .ok (.ireturn, 1) := by decide +kernel
theorem dX9_count_136 : decode cX9_count 136 = .ok (.aload_n 0, 1) := by decide +kernel
theorem dX9_count_137 : decode cX9_count 137 = .ok (.getfield 10, 3) := by decide +kernel
theorem dX9_count_140 : decode cX9_count 140 = .ok (.invokevirtual 81, 3) := by decide +kernel
theorem dX9_count_143 : decode cX9_count 143 = .ok (.ireturn, 1) := by decide +kernel
theorem dX9_count_144 : decode cX9_count 144 = .ok (.aload_n 0, 1) := by decide +kernel
theorem dX9_count_145 : decode cX9_count 145 = .ok (.getfield 45, 3) := by decide +kernel
theorem dX9_count_148 : decode cX9_count 148 = .ok (.invokevirtual 261, 3) := by decide +kernel
theorem dX9_count_151 : decode cX9_count 151 = .ok (.ireturn, 1) := by decide +kernel
theorem dX9_count_152 : decode cX9_count 152 = .ok (.iconst (-1), 1) := by decide +kernel
theorem dX9_count_153 : decode cX9_count 153 = .ok (.ireturn, 1) := by decide +kernel
theorem dX9_startTowns_0 : decode cX9_startTowns 0 = .ok (.new 7, 3) := by decide +kernel
theorem dX9_startTowns_3 : decode cX9_startTowns 3 = .ok (.dup, 1) := by decide +kernel
theorem dX9_startTowns_4 : decode cX9_startTowns 4 = .ok (.invokespecial 9, 3) := by decide +kernel
theorem dX9_startTowns_7 : decode cX9_startTowns 7 = .ok (.astore_n 0, 1) := by decide +kernel
theorem dX9_startTowns_8 : decode cX9_startTowns 8 = .ok (.iconst 0, 1) := by decide +kernel
theorem dX9_startTowns_9 : decode cX9_startTowns 9 = .ok (.istore_n 1, 1) := by decide +kernel
theorem dX9_startTowns_10 : decode cX9_startTowns 10 = .ok (.iload_n 1, 1) := by decide +kernel
theorem dX9_startTowns_11 : decode cX9_startTowns 11 = .ok (.ldc_w 264, 3) := by decide +kernel
theorem dX9_startTowns_14 : decode cX9_startTowns 14 = .ok (.invokevirtual 266, 3) := by decide +kernel
theorem dX9_startTowns_17 : decode cX9_startTowns 17 = .ok (.if_icmp .ge 21, 3) := by decide +kernel
theorem dX9_startTowns_20 : decode cX9_startTowns 20 = .ok (.aload_n 0, 1) := by decide +kernel
theorem dX9_startTowns_21 : decode cX9_startTowns 21 = .ok (.ldc_w 264, 3) := by decide +kernel
theorem dX9_startTowns_24 : decode cX9_startTowns 24 = .ok (.iload_n 1, 1) := by decide +kernel
theorem dX9_startTowns_25 : decode cX9_startTowns 25 = .ok (.invokevirtual 269, 3) := by decide +kernel
theorem dX9_startTowns_28 : decode cX9_startTowns 28 = .ok (.invokevirtual 77, 3) := by decide +kernel
theorem dX9_startTowns_31 : decode cX9_startTowns 31 = .ok (.pop, 1) := by decide +kernel
theorem dX9_startTowns_32 : decode cX9_startTowns 32 = .ok (.iinc 1 1, 3) := by decide +kernel
theorem dX9_startTowns_35 : decode cX9_startTowns 35 = .ok (.goto (-25), 3) := by decide +kernel
theorem dX9_startTowns_38 : decode cX9_startTowns 38 = .ok (.new 23, 3) := by decide +kernel
theorem dX9_startTowns_41 : decode cX9_startTowns 41 = .ok (.dup, 1) := by decide +kernel
theorem dX9_startTowns_42 : decode cX9_startTowns 42 = .ok (.invokespecial 25, 3) := by decide +kernel
theorem dX9_startTowns_45 : decode cX9_startTowns 45 = .ok (.astore_n 1, 1) := by decide +kernel
theorem dX9_startTowns_46 : decode cX9_startTowns 46 = .ok (.new 16, 3) := by decide +kernel
theorem dX9_startTowns_49 : decode cX9_startTowns 49 = .ok (.dup, 1) := by decide +kernel
theorem dX9_startTowns_50 : decode cX9_startTowns 50 = .ok (.invokespecial 18, 3) := by decide +kernel
theorem dX9_startTowns_53 : decode cX9_startTowns 53 = .ok (.aload_n 0, 1) := by decide +kernel
theorem dX9_startTowns_54 : decode cX9_startTowns 54 = .ok (.aload_n 1, 1) := by decide +kernel
theorem dX9_startTowns_55 : decode cX9_startTowns 55 = .ok (.invokevirtual 88, 3) := by decide +kernel
theorem dX9_startTowns_58 : decode cX9_startTowns 58 = .ok (.pop, 1) := by decide +kernel
theorem dX9_startTowns_59 : decode cX9_startTowns 59 = .ok (.aload_n 1, 1) := by decide +kernel
theorem dX9_startTowns_60 : decode cX9_startTowns 60 = .ok (.areturn, 1) := by decide +kernel
theorem dX9_isWithin_0 : decode cX9_isWithin 0 = .ok (.iload_n 0, 1) := by decide +kernel
theorem dX9_isWithin_1 : decode cX9_isWithin 1 = .ok (.iload_n 1, 1) := by decide +kernel
theorem dX9_isWithin_2 : decode cX9_isWithin 2 = .ok (.if_icmp .lt 12, 3) := by decide +kernel
theorem dX9_isWithin_5 : decode cX9_isWithin 5 = .ok (.iload_n 0, 1) := by decide +kernel
theorem dX9_isWithin_6 : decode cX9_isWithin 6 = .ok (.iload_n 2, 1) := by decide +kernel
theorem dX9_isWithin_7 : decode cX9_isWithin 7 = .ok (.if_icmp .gt 7, 3) := by decide +kernel
theorem dX9_isWithin_10 : decode cX9_isWithin 10 = .ok (.iconst 1, 1) := by decide +kernel
theorem dX9_isWithin_11 : decode cX9_isWithin 11 = .ok (.goto 4, 3) := by decide +kernel
theorem dX9_isWithin_14 : decode cX9_isWithin 14 = .ok (.iconst 0, 1) := by decide +kernel
theorem dX9_isWithin_15 : decode cX9_isWithin 15 = .ok (.ireturn, 1) := by decide +kernel
theorem dX9_isRadius_0 : decode cX9_isRadius 0 = .ok (.iload_n 0, 1) := by decide +kernel
theorem dX9_isRadius_1 : decode cX9_isRadius 1 = .ok (.iconst 1, 1) := by decide +kernel
theorem dX9_isRadius_2 : decode cX9_isRadius 2 = .ok (.if_icmp .lt 13, 3) := by decide +kernel
theorem dX9_isRadius_5 : decode cX9_isRadius 5 = .ok (.iload_n 0, 1) := by decide +kernel
theorem dX9_isRadius_6 : decode cX9_isRadius 6 = .ok (.bipush 20, 2) := by decide +kernel
theorem dX9_isRadius_8 : decode cX9_isRadius 8 = .ok (.if_icmp .gt 7, 3) := by decide +kernel
theorem dX9_isRadius_11 : decode cX9_isRadius 11 = .ok (.iconst 1, 1) := by decide +kernel
theorem dX9_isRadius_12 : decode cX9_isRadius 12 = .ok (.goto 4, 3) := by decide +kernel
theorem dX9_isRadius_15 : decode cX9_isRadius 15 = .ok (.iconst 0, 1) := by decide +kernel
theorem dX9_isRadius_16 : decode cX9_isRadius 16 = .ok (.ireturn, 1) := by decide +kernel
theorem dX9_isRounds_0 : decode cX9_isRounds 0 = .ok (.iload_n 0, 1) := by decide +kernel
theorem dX9_isRounds_1 : decode cX9_isRounds 1 = .ok (.ifCond .lt 12, 3) := by decide +kernel
theorem dX9_isRounds_4 : decode cX9_isRounds 4 = .ok (.iload_n 0, 1) := by decide +kernel
theorem dX9_isRounds_5 : decode cX9_isRounds 5 = .ok (.iconst 3, 1) := by decide +kernel
theorem dX9_isRounds_6 : decode cX9_isRounds 6 = .ok (.if_icmp .gt 7, 3) := by decide +kernel
theorem dX9_isRounds_9 : decode cX9_isRounds 9 = .ok (.iconst 1, 1) := by decide +kernel
theorem dX9_isRounds_10 : decode cX9_isRounds 10 = .ok (.goto 4, 3) := by decide +kernel
theorem dX9_isRounds_13 : decode cX9_isRounds 13 = .ok (.iconst 0, 1) := by decide +kernel
theorem dX9_isRounds_14 : decode cX9_isRounds 14 = .ok (.ireturn, 1) := by decide +kernel
theorem dX9_hasMeeting_0 : decode cX9_hasMeeting 0 = .ok (.iload_n 1, 1) := by decide +kernel
theorem dX9_hasMeeting_1 : decode cX9_hasMeeting 1 = .ok (.iconst 0, 1) := by decide +kernel
theorem dX9_hasMeeting_2 : decode cX9_hasMeeting 2 = .ok (.iconst 1, 1) := by decide +kernel
theorem dX9_hasMeeting_3 : decode cX9_hasMeeting 3 = .ok (.invokestatic 140, 3) := by decide +kernel
theorem dX9_hasMeeting_6 : decode cX9_hasMeeting 6 = .ok (.ifCond .eq 22, 3) := by decide +kernel
theorem dX9_hasMeeting_9 : decode cX9_hasMeeting 9 = .ok (.aload_n 0, 1) := by decide +kernel
theorem dX9_hasMeeting_10 : decode cX9_hasMeeting 10 = .ok (.getfield 74, 3) := by decide +kernel
theorem dX9_hasMeeting_13 : decode cX9_hasMeeting 13 = .ok (.iload_n 1, 1) := by decide +kernel
theorem dX9_hasMeeting_14 : decode cX9_hasMeeting 14 = .ok (.invokevirtual 92, 3) := by decide +kernel
theorem dX9_hasMeeting_17 : decode cX9_hasMeeting 17 = .ok (.iload_n 2, 1) := by decide +kernel
theorem dX9_hasMeeting_18 : decode cX9_hasMeeting 18 = .ok (.invokevirtual 273, 3) := by decide +kernel
theorem dX9_hasMeeting_21 : decode cX9_hasMeeting 21 = .ok (.ifCond .eq 7, 3) := by decide +kernel
theorem dX9_hasMeeting_24 : decode cX9_hasMeeting 24 = .ok (.iconst 1, 1) := by decide +kernel
theorem dX9_hasMeeting_25 : decode cX9_hasMeeting 25 = .ok (.goto 4, 3) := by decide +kernel
theorem dX9_hasMeeting_28 : decode cX9_hasMeeting 28 = .ok (.iconst 0, 1) := by decide +kernel
theorem dX9_hasMeeting_29 : decode cX9_hasMeeting 29 = .ok (.ireturn, 1) := by decide +kernel
theorem dX9_hasStreet_0 : decode cX9_hasStreet 0 = .ok (.iload_n 1, 1) := by decide +kernel
theorem dX9_hasStreet_1 : decode cX9_hasStreet 1 = .ok (.iconst 0, 1) := by decide +kernel
theorem dX9_hasStreet_2 : decode cX9_hasStreet 2 = .ok (.iconst 1, 1) := by decide +kernel
theorem dX9_hasStreet_3 : decode cX9_hasStreet 3 = .ok (.invokestatic 140, 3) := by decide +kernel
theorem dX9_hasStreet_6 : decode cX9_hasStreet 6 = .ok (.ifCond .eq 22, 3) := by decide +kernel
theorem dX9_hasStreet_9 : decode cX9_hasStreet 9 = .ok (.aload_n 0, 1) := by decide +kernel
theorem dX9_hasStreet_10 : decode cX9_hasStreet 10 = .ok (.getfield 74, 3) := by decide +kernel
theorem dX9_hasStreet_13 : decode cX9_hasStreet 13 = .ok (.iload_n 1, 1) := by decide +kernel
theorem dX9_hasStreet_14 : decode cX9_hasStreet 14 = .ok (.invokevirtual 92, 3) := by decide +kernel
theorem dX9_hasStreet_17 : decode cX9_hasStreet 17 = .ok (.iload_n 2, 1) := by decide +kernel
theorem dX9_hasStreet_18 : decode cX9_hasStreet 18 = .ok (.invokevirtual 275, 3) := by decide +kernel
theorem dX9_hasStreet_21 : decode cX9_hasStreet 21 = .ok (.ifCond .eq 7, 3) := by decide +kernel
theorem dX9_hasStreet_24 : decode cX9_hasStreet 24 = .ok (.iconst 1, 1) := by decide +kernel
theorem dX9_hasStreet_25 : decode cX9_hasStreet 25 = .ok (.goto 4, 3) := by decide +kernel
theorem dX9_hasStreet_28 : decode cX9_hasStreet 28 = .ok (.iconst 0, 1) := by decide +kernel
theorem dX9_hasStreet_29 : decode cX9_hasStreet 29 = .ok (.ireturn, 1) := by decide +kernel
theorem dX9_hasThing_0 : decode cX9_hasThing 0 = .ok (.iload_n 1, 1) := by decide +kernel
theorem dX9_hasThing_1 : decode cX9_hasThing 1 = .ok (.iconst 0, 1) := by decide +kernel
theorem dX9_hasThing_2 : decode cX9_hasThing 2 = .ok (.bipush 15, 2) := by decide +kernel
theorem dX9_hasThing_4 : decode cX9_hasThing 4 = .ok (.invokestatic 140, 3) := by decide +kernel
theorem dX9_hasThing_7 : decode cX9_hasThing 7 = .ok (.ifCond .ne 5, 3) := by decide +kernel
theorem dX9_hasThing_10 : decode cX9_hasThing 10 = .ok (.iconst 0, 1) := by decide +kernel
theorem dX9_hasThing_11 : decode cX9_hasThing 11 = .ok (.ireturn, 1) := by decide +kernel
theorem dX9_hasThing_12 : decode cX9_hasThing 12 = .ok (.iload_n 1, 1) := by decide +kernel
theorem dX9_hasThing_13 : decode cX9_hasThing 13 = .ok (.bipush 8, 2) := by decide +kernel
theorem dX9_hasThing_15 : decode cX9_hasThing 15 = .ok (.if_icmp .ge 12, 3) := by decide +kernel
theorem dX9_hasThing_18 : decode cX9_hasThing 18 = .ok (.aload_n 0, 1) := by decide +kernel
theorem dX9_hasThing_19 : decode cX9_hasThing 19 = .ok (.iconst 0, 1) := by decide +kernel
theorem dX9_hasThing_20 : decode cX9_hasThing 20 = .ok (.iload_n 1, 1) := by decide +kernel
theorem dX9_hasThing_21 : decode cX9_hasThing 21 = .ok (.invokevirtual 107, 3) := by decide +kernel
theorem dX9_hasThing_24 : decode cX9_hasThing 24 = .ok (.goto 12, 3) := by decide +kernel
theorem dX9_hasThing_27 : decode cX9_hasThing 27 = .ok (.aload_n 0, 1) := by decide +kernel
theorem dX9_hasThing_28 : decode cX9_hasThing 28 = .ok (.iconst 0, 1) := by decide +kernel
theorem dX9_hasThing_29 : decode cX9_hasThing 29 = .ok (.iload_n 1, 1) := by decide +kernel
theorem dX9_hasThing_30 : decode cX9_hasThing 30 = .ok (.bipush 8, 2) := by decide +kernel
theorem dX9_hasThing_32 : decode cX9_hasThing 32 = .ok (.isub, 1) := by decide +kernel
theorem dX9_hasThing_33 : decode cX9_hasThing 33 = .ok (.invokevirtual 128, 3) := by decide +kernel
theorem dX9_hasThing_36 : decode cX9_hasThing 36 = .ok (.ireturn, 1) := by decide +kernel
theorem dX9_express_0 : decode cX9_express 0 = .ok (.aload_n 1, 1) := by decide +kernel
theorem dX9_express_1 : decode cX9_express 1 = .ok (.iconst 0, 1) := by decide +kernel
theorem dX9_express_2 : decode cX9_express 2 = .ok (.invokevirtual 92, 3) := by decide +kernel
theorem dX9_express_5 : decode cX9_express 5 = .ok (.astore_n 3, 1) := by decide +kernel
theorem dX9_express_6 : decode cX9_express 6 = .ok (.aload_n 0, 1) := by decide +kernel
theorem dX9_express_7 : decode cX9_express 7 = .ok (.getfield 52, 3) := by decide +kernel
theorem dX9_express_10 : decode cX9_express 10 = .ok (.iconst 0, 1) := by decide +kernel
theorem dX9_express_11 : decode cX9_express 11 = .ok (.aload_n 3, 1) := by decide +kernel
theorem dX9_express_12 : decode cX9_express 12 = .ok (.iload_n 2, 1) := by decide +kernel
theorem dX9_express_13 : decode cX9_express 13 = .ok (.invokevirtual 131, 3) := by decide +kernel
theorem dX9_express_16 : decode cX9_express 16 = .ok (.invokevirtual 204, 3) := by decide +kernel
theorem dX9_express_19 : decode cX9_express 19 = .ok (.istore 4, 2) := by decide +kernel
theorem dX9_express_21 : decode cX9_express 21 = .ok (.aload_n 0, 1) := by decide +kernel
theorem dX9_express_22 : decode cX9_express 22 = .ok (.getfield 52, 3) := by decide +kernel
theorem dX9_express_25 : decode cX9_express 25 = .ok (.iconst 0, 1) := by decide +kernel
theorem dX9_express_26 : decode cX9_express 26 = .ok (.aload_n 3, 1) := by decide +kernel
theorem dX9_express_27 : decode cX9_express 27 = .ok (.iload_n 2, 1) := by decide +kernel
theorem dX9_express_28 : decode cX9_express 28 = .ok (.invokevirtual 134, 3) := by decide +kernel
theorem dX9_express_31 : decode cX9_express 31 = .ok (.invokevirtual 204, 3) := by decide +kernel
theorem dX9_express_34 : decode cX9_express 34 = .ok (.istore 5, 2) := by decide +kernel
theorem dX9_express_36 : decode cX9_express 36 = .ok (.aload_n 0, 1) := by decide +kernel
theorem dX9_express_37 : decode cX9_express 37 = .ok (.getfield 59, 3) := by decide +kernel
theorem dX9_express_40 : decode cX9_express 40 = .ok (.aload_n 1, 1) := by decide +kernel
theorem dX9_express_41 : decode cX9_express 41 = .ok (.iconst 1, 1) := by decide +kernel
theorem dX9_express_42 : decode cX9_express 42 = .ok (.invokevirtual 92, 3) := by decide +kernel
theorem dX9_express_45 : decode cX9_express 45 = .ok (.iload 4, 2) := by decide +kernel
theorem dX9_express_47 : decode cX9_express 47 = .ok (.iload 5, 2) := by decide +kernel
theorem dX9_express_49 : decode cX9_express 49 = .ok (.invokevirtual 277, 3) := by decide +kernel
theorem dX9_express_52 : decode cX9_express 52 = .ok (.return_, 1) := by decide +kernel
theorem dX9_numberOfWhole_0 : decode cX9_numberOfWhole 0 = .ok (.iload_n 2, 1) := by decide +kernel
theorem dX9_numberOfWhole_1 : decode cX9_numberOfWhole 1 = .ok (.iconst 0, 1) := by decide +kernel
theorem dX9_numberOfWhole_2 : decode cX9_numberOfWhole 2 = .ok (.iconst 5, 1) := by decide +kernel
theorem dX9_numberOfWhole_3 : decode cX9_numberOfWhole 3 = .ok (.invokestatic 140, 3) := by decide +kernel
theorem dX9_numberOfWhole_6 : decode cX9_numberOfWhole 6 = .ok (.ifCond .ne 5, 3) := by decide +kernel
theorem dX9_numberOfWhole_9 : decode cX9_numberOfWhole 9 = .ok (.iconst (-1), 1) := by decide +kernel
theorem dX9_numberOfWhole_10 : decode cX9_numberOfWhole 10 = .ok (.ireturn, 1) := by decide +kernel
theorem dX9_numberOfWhole_11 : decode cX9_numberOfWhole 11 = .ok (.aload_n 0, 1) := by decide +kernel
theorem dX9_numberOfWhole_12 : decode cX9_numberOfWhole 12 = .ok (.getfield 52, 3) := by decide +kernel
theorem dX9_numberOfWhole_15 : decode cX9_numberOfWhole 15 = .ok (.aload_n 1, 1) := by decide +kernel
theorem dX9_numberOfWhole_16 : decode cX9_numberOfWhole 16 = .ok (.invokevirtual 195, 3) := by decide +kernel
theorem dX9_numberOfWhole_19 : decode cX9_numberOfWhole 19 = .ok (.iload_n 2, 1) := by decide +kernel
theorem dX9_numberOfWhole_20 : decode cX9_numberOfWhole 20 = .ok (.tableswitch 89 0 4 #[36, 44, 53, 69, 79], 36) := by decide +kernel
theorem dX9_numberOfWhole_56 : decode cX9_numberOfWhole 56 = .ok (.aload_n 0, 1) := by decide +kernel
theorem dX9_numberOfWhole_57 : decode cX9_numberOfWhole 57 = .ok (.getfield 52, 3) := by decide +kernel
theorem dX9_numberOfWhole_60 : decode cX9_numberOfWhole 60 = .ok (.invokevirtual 280, 3) := by decide +kernel
theorem dX9_numberOfWhole_63 : decode cX9_numberOfWhole 63 = .ok (.ireturn, 1) := by decide +kernel
theorem dX9_numberOfWhole_64 : decode cX9_numberOfWhole 64 = .ok (.aload_n 0, 1) := by decide +kernel
theorem dX9_numberOfWhole_65 : decode cX9_numberOfWhole 65 = .ok (.getfield 52, 3) := by decide +kernel
theorem dX9_numberOfWhole_68 : decode cX9_numberOfWhole 68 = .ok (.aload_n 1, 1) := by decide +kernel
theorem dX9_numberOfWhole_69 : decode cX9_numberOfWhole 69 = .ok (.invokevirtual 283, 3) := by decide +kernel
theorem dX9_numberOfWhole_72 : decode cX9_numberOfWhole 72 = .ok (.ireturn, 1) := by decide +kernel
theorem dX9_numberOfWhole_73 : decode cX9_numberOfWhole 73 = .ok (.aload_n 0, 1) := by decide +kernel
theorem dX9_numberOfWhole_74 : decode cX9_numberOfWhole 74 = .ok (.getfield 52, 3) := by decide +kernel
theorem dX9_numberOfWhole_77 : decode cX9_numberOfWhole 77 = .ok (.invokevirtual 287, 3) := by decide +kernel
theorem dX9_numberOfWhole_80 : decode cX9_numberOfWhole 80 = .ok (.ifCond .eq 7, 3) := by decide +kernel
theorem dX9_numberOfWhole_83 : decode cX9_numberOfWhole 83 = .ok (.iconst 1, 1) := by decide +kernel
theorem dX9_numberOfWhole_84 : decode cX9_numberOfWhole 84 = .ok (.goto 4, 3) := by decide +kernel
theorem dX9_numberOfWhole_87 : decode cX9_numberOfWhole 87 = .ok (.iconst 0, 1) := by decide +kernel
theorem dX9_numberOfWhole_88 : decode cX9_numberOfWhole 88 = .ok (.ireturn, 1) := by decide +kernel
theorem dX9_numberOfWhole_89 : decode cX9_numberOfWhole 89 = .ok (.aload_n 0, 1) := by decide +kernel
theorem dX9_numberOfWhole_90 : decode cX9_numberOfWhole 90 = .ok (.getfield 52, 3) := by decide +kernel
theorem dX9_numberOfWhole_93 : decode cX9_numberOfWhole 93 = .ok (.aload_n 1, 1) := by decide +kernel
theorem dX9_numberOfWhole_94 : decode cX9_numberOfWhole 94 = .ok (.iconst 0, 1) := by decide +kernel
theorem dX9_numberOfWhole_95 : decode cX9_numberOfWhole 95 = .ok (.invokevirtual 290, 3) := by decide +kernel
theorem dX9_numberOfWhole_98 : decode cX9_numberOfWhole 98 = .ok (.ireturn, 1) := by decide +kernel
theorem dX9_numberOfWhole_99 : decode cX9_numberOfWhole 99 = .ok (.aload_n 0, 1) := by decide +kernel
theorem dX9_numberOfWhole_100 : decode cX9_numberOfWhole 100 = .ok (.getfield 52, 3) := by decide +kernel
theorem dX9_numberOfWhole_103 : decode cX9_numberOfWhole 103 = .ok (.aload_n 1, 1) := by decide +kernel
theorem dX9_numberOfWhole_104 : decode cX9_numberOfWhole 104 = .ok (.iconst 1, 1) := by decide +kernel
theorem dX9_numberOfWhole_105 : decode cX9_numberOfWhole 105 = .ok (.invokevirtual 290, 3) := by decide +kernel
theorem dX9_numberOfWhole_108 : decode cX9_numberOfWhole 108 = .ok (.ireturn, 1) := by decide +kernel
theorem dX9_numberOfWhole_109 : decode cX9_numberOfWhole 109 = .ok (.aload_n 0, 1) := by decide +kernel
theorem dX9_numberOfWhole_110 : decode cX9_numberOfWhole 110 = .ok (.aload_n 1, 1) := by decide +kernel
theorem dX9_numberOfWhole_111 : decode cX9_numberOfWhole 111 = .ok (.invokevirtual 293, 3) := by decide +kernel
theorem dX9_numberOfWhole_114 : decode cX9_numberOfWhole 114 = .ok (.ireturn, 1) := by decide +kernel
theorem dX9_expressedStreets_0 : decode cX9_expressedStreets 0 = .ok (.iconst 0, 1) := by decide +kernel
theorem dX9_expressedStreets_1 : decode cX9_expressedStreets 1 = .ok (.istore_n 2, 1) := by decide +kernel
theorem dX9_expressedStreets_2 : decode cX9_expressedStreets 2 = .ok (.iconst 0, 1) := by decide +kernel
theorem dX9_expressedStreets_3 : decode cX9_expressedStreets 3 = .ok (.istore_n 3, 1) := by decide +kernel
theorem dX9_expressedStreets_4 : decode cX9_expressedStreets 4 = .ok (.iload_n 3, 1) := by decide +kernel
theorem dX9_expressedStreets_5 : decode cX9_expressedStreets 5 = .ok (.aload_n 1, 1) := by decide +kernel
theorem dX9_expressedStreets_6 : decode cX9_expressedStreets 6 = .ok (.iconst 0, 1) := by decide +kernel
theorem dX9_expressedStreets_7 : decode cX9_expressedStreets 7 = .ok (.invokevirtual 92, 3) := by decide +kernel
theorem dX9_expressedStreets_10 : decode cX9_expressedStreets 10 = .ok (.invokevirtual 161, 3) := by decide +kernel
theorem dX9_expressedStreets_13 : decode cX9_expressedStreets 13 = .ok (.if_icmp .ge 28, 3) := by decide +kernel
theorem dX9_expressedStreets_16 : decode cX9_expressedStreets 16 = .ok (.aload_n 0, 1) := by decide +kernel
theorem dX9_expressedStreets_17 : decode cX9_expressedStreets 17 = .ok (.aload_n 1, 1) := by decide +kernel
theorem dX9_expressedStreets_18 : decode cX9_expressedStreets 18 = .ok (.iload_n 3, 1) := by decide +kernel
theorem dX9_expressedStreets_19 : decode cX9_expressedStreets 19 = .ok (.invokevirtual 207, 3) := by decide +kernel
theorem dX9_expressedStreets_22 : decode cX9_expressedStreets 22 = .ok (.aload_n 0, 1) := by decide +kernel
theorem dX9_expressedStreets_23 : decode cX9_expressedStreets 23 = .ok (.getfield 59, 3) := by decide +kernel
theorem dX9_expressedStreets_26 : decode cX9_expressedStreets 26 = .ok (.invokevirtual 211, 3) := by decide +kernel
theorem dX9_expressedStreets_29 : decode cX9_expressedStreets 29 = .ok (.ifCond .eq 6, 3) := by decide +kernel
theorem dX9_expressedStreets_32 : decode cX9_expressedStreets 32 = .ok (.iinc 2 1, 3) := by decide +kernel
theorem dX9_expressedStreets_35 : decode cX9_expressedStreets 35 = .ok (.iinc 3 1, 3) := by decide +kernel
theorem dX9_expressedStreets_38 : decode cX9_expressedStreets 38 = .ok (.goto (-34), 3) := by decide +kernel
theorem dX9_expressedStreets_41 : decode cX9_expressedStreets 41 = .ok (.iload_n 2, 1) := by decide +kernel
theorem dX9_expressedStreets_42 : decode cX9_expressedStreets 42 = .ok (.ireturn, 1) := by decide +kernel
