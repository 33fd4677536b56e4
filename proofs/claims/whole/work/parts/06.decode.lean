theorem dX9_init_0 : decode cX9_init 0 = .ok (.aload_n 0, 1) := by decide +kernel
theorem dX9_init_1 : decode cX9_init 1 = .ok (.invokespecial 1, 3) := by decide +kernel
theorem dX9_init_4 : decode cX9_init 4 = .ok (.aload_n 0, 1) := by decide +kernel
theorem dX9_init_5 : decode cX9_init 5 = .ok (.sipush 227, 3) := by decide +kernel
theorem dX9_init_8 : decode cX9_init 8 = .ok (.newarray .int, 2) := by decide +kernel
theorem dX9_init_10 : decode cX9_init 10 = .ok (.putfield 7, 3) := by decide +kernel
theorem dX9_init_13 : decode cX9_init 13 = .ok (.aload_n 0, 1) := by decide +kernel
theorem dX9_init_14 : decode cX9_init 14 = .ok (.sipush 1362, 3) := by decide +kernel
theorem dX9_init_17 : decode cX9_init 17 = .ok (.newarray .int, 2) := by decide +kernel
theorem dX9_init_19 : decode cX9_init 19 = .ok (.putfield 13, 3) := by decide +kernel
theorem dX9_init_22 : decode cX9_init 22 = .ok (.aload_n 0, 1) := by decide +kernel
theorem dX9_init_23 : decode cX9_init 23 = .ok (.sipush 227, 3) := by decide +kernel
theorem dX9_init_26 : decode cX9_init 26 = .ok (.newarray .int, 2) := by decide +kernel
theorem dX9_init_28 : decode cX9_init 28 = .ok (.putfield 16, 3) := by decide +kernel
theorem dX9_init_31 : decode cX9_init 31 = .ok (.aload_n 0, 1) := by decide +kernel
theorem dX9_init_32 : decode cX9_init 32 = .ok (.sipush 200, 3) := by decide +kernel
theorem dX9_init_35 : decode cX9_init 35 = .ok (.newarray .int, 2) := by decide +kernel
theorem dX9_init_37 : decode cX9_init 37 = .ok (.putfield 19, 3) := by decide +kernel
theorem dX9_init_40 : decode cX9_init 40 = .ok (.aload_n 0, 1) := by decide +kernel
theorem dX9_init_41 : decode cX9_init 41 = .ok (.iconst 4, 1) := by decide +kernel
theorem dX9_init_42 : decode cX9_init 42 = .ok (.newarray .int, 2) := by decide +kernel
theorem dX9_init_44 : decode cX9_init 44 = .ok (.putfield 22, 3) := by decide +kernel
theorem dX9_init_47 : decode cX9_init 47 = .ok (.aload_n 0, 1) := by decide +kernel
theorem dX9_init_48 : decode cX9_init 48 = .ok (.bipush 53, 2) := by decide +kernel
theorem dX9_init_50 : decode cX9_init 50 = .ok (.newarray .int, 2) := by decide +kernel
theorem dX9_init_52 : decode cX9_init 52 = .ok (.putfield 25, 3) := by decide +kernel
theorem dX9_init_55 : decode cX9_init 55 = .ok (.aload_n 0, 1) := by decide +kernel
theorem dX9_init_56 : decode cX9_init 56 = .ok (.bipush 36, 2) := by decide +kernel
theorem dX9_init_58 : decode cX9_init 58 = .ok (.newarray .int, 2) := by decide +kernel
theorem dX9_init_60 : decode cX9_init 60 = .ok (.putfield 28, 3) := by decide +kernel
theorem dX9_init_63 : decode cX9_init 63 = .ok (.aload_n 0, 1) := by decide +kernel
theorem dX9_init_64 : decode cX9_init 64 = .ok (.invokevirtual 31, 3) := by decide +kernel
theorem dX9_init_67 : decode cX9_init 67 = .ok (.return_, 1) := by decide +kernel
theorem dX9_begins_0 : decode cX9_begins 0 = .ok (.iconst 0, 1) := by decide +kernel
theorem dX9_begins_1 : decode cX9_begins 1 = .ok (.istore_n 1, 1) := by decide +kernel
theorem dX9_begins_2 : decode cX9_begins 2 = .ok (.iload_n 1, 1) := by decide +kernel
theorem dX9_begins_3 : decode cX9_begins 3 = .ok (.sipush 227, 3) := by decide +kernel
theorem dX9_begins_6 : decode cX9_begins 6 = .ok (.if_icmp .ge 16, 3) := by decide +kernel
theorem dX9_begins_9 : decode cX9_begins 9 = .ok (.aload_n 0, 1) := by decide +kernel
theorem dX9_begins_10 : decode cX9_begins 10 = .ok (.getfield 7, 3) := by decide +kernel
theorem dX9_begins_13 : decode cX9_begins 13 = .ok (.iload_n 1, 1) := by decide +kernel
theorem dX9_begins_14 : decode cX9_begins 14 = .ok (.iconst 0, 1) := by decide +kernel
theorem dX9_begins_15 : decode cX9_begins 15 = .ok (.iastore, 1) := by decide +kernel
theorem dX9_begins_16 : decode cX9_begins 16 = .ok (.iinc 1 1, 3) := by decide +kernel
theorem dX9_begins_19 : decode cX9_begins 19 = .ok (.goto (-17), 3) := by decide +kernel
theorem dX9_begins_22 : decode cX9_begins 22 = .ok (.aload_n 0, 1) := by decide +kernel
theorem dX9_begins_23 : decode cX9_begins 23 = .ok (.getfield 7, 3) := by decide +kernel
theorem dX9_begins_26 : decode cX9_begins 26 = .ok (.iconst 0, 1) := by decide +kernel
theorem dX9_begins_27 : decode cX9_begins 27 = .ok (.iconst 5, 1) := by decide +kernel
theorem dX9_begins_28 : decode cX9_begins 28 = .ok (.iastore, 1) := by decide +kernel
theorem dX9_begins_29 : decode cX9_begins 29 = .ok (.aload_n 0, 1) := by decide +kernel
theorem dX9_begins_30 : decode cX9_begins 30 = .ok (.getfield 7, 3) := by decide +kernel
theorem dX9_begins_33 : decode cX9_begins 33 = .ok (.iconst 1, 1) := by decide +kernel
theorem dX9_begins_34 : decode cX9_begins 34 = .ok (.iconst 4, 1) := by decide +kernel
theorem dX9_begins_35 : decode cX9_begins 35 = .ok (.iastore, 1) := by decide +kernel
theorem dX9_begins_36 : decode cX9_begins 36 = .ok (.aload_n 0, 1) := by decide +kernel
theorem dX9_begins_37 : decode cX9_begins 37 = .ok (.getfield 7, 3) := by decide +kernel
theorem dX9_begins_40 : decode cX9_begins 40 = .ok (.iconst 5, 1) := by decide +kernel
theorem dX9_begins_41 : decode cX9_begins 41 = .ok (.sipush 600, 3) := by decide +kernel
theorem dX9_begins_44 : decode cX9_begins 44 = .ok (.iastore, 1) := by decide +kernel
theorem dX9_begins_45 : decode cX9_begins 45 = .ok (.aload_n 0, 1) := by decide +kernel
theorem dX9_begins_46 : decode cX9_begins 46 = .ok (.getfield 7, 3) := by decide +kernel
theorem dX9_begins_49 : decode cX9_begins 49 = .ok (.bipush 6, 2) := by decide +kernel
theorem dX9_begins_51 : decode cX9_begins 51 = .ok (.sipush 400, 3) := by decide +kernel
theorem dX9_begins_54 : decode cX9_begins 54 = .ok (.iastore, 1) := by decide +kernel
theorem dX9_begins_55 : decode cX9_begins 55 = .ok (.aload_n 0, 1) := by decide +kernel
theorem dX9_begins_56 : decode cX9_begins 56 = .ok (.getfield 7, 3) := by decide +kernel
theorem dX9_begins_59 : decode cX9_begins 59 = .ok (.bipush 7, 2) := by decide +kernel
theorem dX9_begins_61 : decode cX9_begins 61 = .ok (.sipush 400, 3) := by decide +kernel
theorem dX9_begins_64 : decode cX9_begins 64 = .ok (.iastore, 1) := by decide +kernel
theorem dX9_begins_65 : decode cX9_begins 65 = .ok (.return_, 1) := by decide +kernel
theorem dX9_in_0 : decode cX9_in 0 = .ok (.iload_n 0, 1) := by decide +kernel
theorem dX9_in_1 : decode cX9_in 1 = .ok (.iload_n 1, 1) := by decide +kernel
theorem dX9_in_2 : decode cX9_in 2 = .ok (.if_icmp .lt 12, 3) := by decide +kernel
theorem dX9_in_5 : decode cX9_in 5 = .ok (.iload_n 0, 1) := by decide +kernel
theorem dX9_in_6 : decode cX9_in 6 = .ok (.iload_n 2, 1) := by decide +kernel
theorem dX9_in_7 : decode cX9_in 7 = .ok (.if_icmp .gt 7, 3) := by decide +kernel
theorem dX9_in_10 : decode cX9_in 10 = .ok (.iconst 1, 1) := by decide +kernel
theorem dX9_in_11 : decode cX9_in 11 = .ok (.goto 4, 3) := by decide +kernel
theorem dX9_in_14 : decode cX9_in 14 = .ok (.iconst 0, 1) := by decide +kernel
theorem dX9_in_15 : decode cX9_in 15 = .ok (.ireturn, 1) := by decide +kernel
theorem dX9_size_0 : decode cX9_size 0 = .ok (.iload_n 0, 1) := by decide +kernel
theorem dX9_size_1 : decode cX9_size 1 = .ok (.ifCond .ge 8, 3) := by decide +kernel
theorem dX9_size_4 : decode cX9_size 4 = .ok (.iload_n 0, 1) := by decide +kernel
theorem dX9_size_5 : decode cX9_size 5 = .ok (.ineg, 1) := by decide +kernel
theorem dX9_size_6 : decode cX9_size 6 = .ok (.goto 4, 3) := by decide +kernel
theorem dX9_size_9 : decode cX9_size 9 = .ok (.iload_n 0, 1) := by decide +kernel
theorem dX9_size_10 : decode cX9_size 10 = .ok (.ireturn, 1) := by decide +kernel
theorem dX9_hold_0 : decode cX9_hold 0 = .ok (.iconst 0, 1) := by decide +kernel
theorem dX9_hold_1 : decode cX9_hold 1 = .ok (.istore_n 1, 1) := by decide +kernel
theorem dX9_hold_2 : decode cX9_hold 2 = .ok (.iload_n 1, 1) := by decide +kernel
theorem dX9_hold_3 : decode cX9_hold 3 = .ok (.sipush 227, 3) := by decide +kernel
theorem dX9_hold_6 : decode cX9_hold 6 = .ok (.if_icmp .ge 21, 3) := by decide +kernel
theorem dX9_hold_9 : decode cX9_hold 9 = .ok (.aload_n 0, 1) := by decide +kernel
theorem dX9_hold_10 : decode cX9_hold 10 = .ok (.getfield 16, 3) := by decide +kernel
theorem dX9_hold_13 : decode cX9_hold 13 = .ok (.iload_n 1, 1) := by decide +kernel
theorem dX9_hold_14 : decode cX9_hold 14 = .ok (.aload_n 0, 1) := by decide +kernel
theorem dX9_hold_15 : decode cX9_hold 15 = .ok (.getfield 7, 3) := by decide +kernel
theorem dX9_hold_18 : decode cX9_hold 18 = .ok (.iload_n 1, 1) := by decide +kernel
theorem dX9_hold_19 : decode cX9_hold 19 = .ok (.iaload, 1) := by decide +kernel
theorem dX9_hold_20 : decode cX9_hold 20 = .ok (.iastore, 1) := by decide +kernel
theorem dX9_hold_21 : decode cX9_hold 21 = .ok (.iinc 1 1, 3) := by decide +kernel
theorem dX9_hold_24 : decode cX9_hold 24 = .ok (.goto (-22), 3) := by decide +kernel
theorem dX9_hold_27 : decode cX9_hold 27 = .ok (.return_, 1) := by decide +kernel
theorem dX9_restore_0 : decode cX9_restore 0 = .ok (.iconst 0, 1) := by decide +kernel
theorem dX9_restore_1 : decode cX9_restore 1 = .ok (.istore_n 1, 1) := by decide +kernel
theorem dX9_restore_2 : decode cX9_restore 2 = .ok (.iload_n 1, 1) := by decide +kernel
theorem dX9_restore_3 : decode cX9_restore 3 = .ok (.sipush 227, 3) := by decide +kernel
theorem dX9_restore_6 : decode cX9_restore 6 = .ok (.if_icmp .ge 21, 3) := by decide +kernel
theorem dX9_restore_9 : decode cX9_restore 9 = .ok (.aload_n 0, 1) := by decide +kernel
theorem dX9_restore_10 : decode cX9_restore 10 = .ok (.getfield 7, 3) := by decide +kernel
theorem dX9_restore_13 : decode cX9_restore 13 = .ok (.iload_n 1, 1) := by decide +kernel
theorem dX9_restore_14 : decode cX9_restore 14 = .ok (.aload_n 0, 1) := by decide +kernel
theorem dX9_restore_15 : decode cX9_restore 15 = .ok (.getfield 16, 3) := by decide +kernel
theorem dX9_restore_18 : decode cX9_restore 18 = .ok (.iload_n 1, 1) := by decide +kernel
theorem dX9_restore_19 : decode cX9_restore 19 = .ok (.iaload, 1) := by decide +kernel
theorem dX9_restore_20 : decode cX9_restore 20 = .ok (.iastore, 1) := by decide +kernel
theorem dX9_restore_21 : decode cX9_restore 21 = .ok (.iinc 1 1, 3) := by decide +kernel
theorem dX9_restore_24 : decode cX9_restore 24 = .ok (.goto (-22), 3) := by decide +kernel
theorem dX9_restore_27 : decode cX9_restore 27 = .ok (.return_, 1) := by decide +kernel
theorem dX9_ends_0 : decode cX9_ends 0 = .ok (.aload_n 0, 1) := by decide +kernel
theorem dX9_ends_1 : decode cX9_ends 1 = .ok (.getfield 34, 3) := by decide +kernel
theorem dX9_ends_4 : decode cX9_ends 4 = .ok (.bipush 6, 2) := by decide +kernel
theorem dX9_ends_6 : decode cX9_ends 6 = .ok (.if_icmp .ne 44, 3) := by decide +kernel
theorem dX9_ends_9 : decode cX9_ends 9 = .ok (.iconst 0, 1) := by decide +kernel
theorem dX9_ends_10 : decode cX9_ends 10 = .ok (.istore_n 2, 1) := by decide +kernel
theorem dX9_ends_11 : decode cX9_ends 11 = .ok (.iload_n 2, 1) := by decide +kernel
theorem dX9_ends_12 : decode cX9_ends 12 = .ok (.sipush 1135, 3) := by decide +kernel
theorem dX9_ends_15 : decode cX9_ends 15 = .ok (.if_icmp .ge 25, 3) := by decide +kernel
theorem dX9_ends_18 : decode cX9_ends 18 = .ok (.aload_n 0, 1) := by decide +kernel
theorem dX9_ends_19 : decode cX9_ends 19 = .ok (.getfield 13, 3) := by decide +kernel
theorem dX9_ends_22 : decode cX9_ends 22 = .ok (.iload_n 2, 1) := by decide +kernel
theorem dX9_ends_23 : decode cX9_ends 23 = .ok (.aload_n 0, 1) := by decide +kernel
theorem dX9_ends_24 : decode cX9_ends 24 = .ok (.getfield 13, 3) := by decide +kernel
theorem dX9_ends_27 : decode cX9_ends 27 = .ok (.iload_n 2, 1) := by decide +kernel
theorem dX9_ends_28 : decode cX9_ends 28 = .ok (.sipush 227, 3) := by decide +kernel
theorem dX9_ends_31 : decode cX9_ends 31 = .ok (.iadd, 1) := by decide +kernel
theorem dX9_ends_32 : decode cX9_ends 32 = .ok (.iaload, 1) := by decide +kernel
theorem dX9_ends_33 : decode cX9_ends 33 = .ok (.iastore, 1) := by decide +kernel
theorem dX9_ends_34 : decode cX9_ends 34 = .ok (.iinc 2 1, 3) := by decide +kernel
theorem dX9_ends_37 : decode cX9_ends 37 = .ok (.goto (-26), 3) := by decide +kernel
theorem dX9_ends_40 : decode cX9_ends 40 = .ok (.aload_n 0, 1) := by decide +kernel
theorem dX9_ends_41 : decode cX9_ends 41 = .ok (.dup, 1) := by decide +kernel
theorem dX9_ends_42 : decode cX9_ends 42 = .ok (.getfield 34, 3) := by decide +kernel
theorem dX9_ends_45 : decode cX9_ends 45 = .ok (.iconst 1, 1) := by decide +kernel
theorem dX9_ends_46 : decode cX9_ends 46 = .ok (.isub, 1) := by decide +kernel
theorem dX9_ends_47 : decode cX9_ends 47 = .ok (.putfield 34, 3) := by decide +kernel
theorem dX9_ends_50 : decode cX9_ends 50 = .ok (.iconst 0, 1) := by decide +kernel
theorem dX9_ends_51 : decode cX9_ends 51 = .ok (.istore_n 2, 1) := by decide +kernel
theorem dX9_ends_52 : decode cX9_ends 52 = .ok (.iload_n 2, 1) := by decide +kernel
theorem dX9_ends_53 : decode cX9_ends 53 = .ok (.sipush 227, 3) := by decide +kernel
theorem dX9_ends_56 : decode cX9_ends 56 = .ok (.if_icmp .ge 30, 3) := by decide +kernel
theorem dX9_ends_59 : decode cX9_ends 59 = .ok (.aload_n 0, 1) := by decide +kernel
theorem dX9_ends_60 : decode cX9_ends 60 = .ok (.getfield 13, 3) := by decide +kernel
theorem dX9_ends_63 : decode cX9_ends 63 = .ok (.sipush 227, 3) := by decide +kernel
theorem dX9_ends_66 : decode cX9_ends 66 = .ok (.aload_n 0, 1) := by decide +kernel
theorem dX9_ends_67 : decode cX9_ends 67 = .ok (.getfield 34, 3) := by decide +kernel
theorem dX9_ends_70 : decode cX9_ends 70 = .ok (.imul, 1) := by decide +kernel
theorem dX9_ends_71 : decode cX9_ends 71 = .ok (.iload_n 2, 1) := by decide +kernel
theorem dX9_ends_72 : decode cX9_ends 72 = .ok (.iadd, 1) := by decide +kernel
theorem dX9_ends_73 : decode cX9_ends 73 = .ok (.aload_n 0, 1) := by decide +kernel
theorem dX9_ends_74 : decode cX9_ends 74 = .ok (.getfield 16, 3) := by decide +kernel
theorem dX9_ends_77 : decode cX9_ends 77 = .ok (.iload_n 2, 1) := by decide +kernel
theorem dX9_ends_78 : decode cX9_ends 78 = .ok (.iaload, 1) := by decide +kernel
theorem dX9_ends_79 : decode cX9_ends 79 = .ok (.iastore, 1) := by decide +kernel
theorem dX9_ends_80 : decode cX9_ends 80 = .ok (.iinc 2 1, 3) := by decide +kernel
theorem dX9_ends_83 : decode cX9_ends 83 = .ok (.goto (-31), 3) := by decide +kernel
theorem dX9_ends_86 : decode cX9_ends 86 = .ok (.aload_n 0, 1) := by decide +kernel
theorem dX9_ends_87 : decode cX9_ends 87 = .ok (.dup, 1) := by decide +kernel
theorem dX9_ends_88 : decode cX9_ends 88 = .ok (.getfield 34, 3) := by decide +kernel
theorem dX9_ends_91 : decode cX9_ends 91 = .ok (.iconst 1, 1) := by decide +kernel
theorem dX9_ends_92 : decode cX9_ends 92 = .ok (.iadd, 1) := by decide +kernel
theorem dX9_ends_93 : decode cX9_ends 93 = .ok (.putfield 34, 3) := by decide +kernel
theorem dX9_ends_96 : decode cX9_ends 96 = .ok (.iload_n 1, 1) := by decide +kernel
theorem dX9_ends_97 : decode cX9_ends 97 = .ok (.ireturn, 1) := by decide +kernel
theorem dX9_records_0 : decode cX9_records 0 = .ok (.aload_n 0, 1) := by decide +kernel
theorem dX9_records_1 : decode cX9_records 1 = .ok (.getfield 7, 3) := by decide +kernel
theorem dX9_records_4 : decode cX9_records 4 = .ok (.sipush 166, 3) := by decide +kernel
theorem dX9_records_7 : decode cX9_records 7 = .ok (.iaload, 1) := by decide +kernel
theorem dX9_records_8 : decode cX9_records 8 = .ok (.bipush 20, 2) := by decide +kernel
theorem dX9_records_10 : decode cX9_records 10 = .ok (.if_icmp .ne 46, 3) := by decide +kernel
theorem dX9_records_13 : decode cX9_records 13 = .ok (.sipush 167, 3) := by decide +kernel
theorem dX9_records_16 : decode cX9_records 16 = .ok (.istore_n 3, 1) := by decide +kernel
theorem dX9_records_17 : decode cX9_records 17 = .ok (.iload_n 3, 1) := by decide +kernel
theorem dX9_records_18 : decode cX9_records 18 = .ok (.sipush 224, 3) := by decide +kernel
theorem dX9_records_21 : decode cX9_records 21 = .ok (.if_icmp .ge 23, 3) := by decide +kernel
theorem dX9_records_24 : decode cX9_records 24 = .ok (.aload_n 0, 1) := by decide +kernel
theorem dX9_records_25 : decode cX9_records 25 = .ok (.getfield 7, 3) := by decide +kernel
theorem dX9_records_28 : decode cX9_records 28 = .ok (.iload_n 3, 1) := by decide +kernel
theorem dX9_records_29 : decode cX9_records 29 = .ok (.aload_n 0, 1) := by decide +kernel
theorem dX9_records_30 : decode cX9_records 30 = .ok (.getfield 7, 3) := by decide +kernel
theorem dX9_records_33 : decode cX9_records 33 = .ok (.iload_n 3, 1) := by decide +kernel
theorem dX9_records_34 : decode cX9_records 34 = .ok (.iconst 3, 1) := by decide +kernel
theorem dX9_records_35 : decode cX9_records 35 = .ok (.iadd, 1) := by decide +kernel
theorem dX9_records_36 : decode cX9_records 36 = .ok (.iaload, 1) := by decide +kernel
theorem dX9_records_37 : decode cX9_records 37 = .ok (.iastore, 1) := by decide +kernel
theorem dX9_records_38 : decode cX9_records 38 = .ok (.iinc 3 1, 3) := by decide +kernel
theorem dX9_records_41 : decode cX9_records 41 = .ok (.goto (-24), 3) := by decide +kernel
theorem dX9_records_44 : decode cX9_records 44 = .ok (.aload_n 0, 1) := by decide +kernel
theorem dX9_records_45 : decode cX9_records 45 = .ok (.getfield 7, 3) := by decide +kernel
theorem dX9_records_48 : decode cX9_records 48 = .ok (.sipush 166, 3) := by decide +kernel
theorem dX9_records_51 : decode cX9_records 51 = .ok (.dup2, 1) := by decide +kernel
theorem dX9_records_52 : decode cX9_records 52 = .ok (.iaload, 1) := by decide +kernel
theorem dX9_records_53 : decode cX9_records 53 = .ok (.iconst 1, 1) := by decide +kernel
theorem dX9_records_54 : decode cX9_records 54 = .ok (.isub, 1) := by decide +kernel
theorem dX9_records_55 : decode cX9_records 55 = .ok (.iastore, 1) := by decide +kernel
theorem dX9_records_56 : decode cX9_records 56 = .ok (.sipush 167, 3) := by decide +kernel
theorem dX9_records_59 : decode cX9_records 59 = .ok (.iconst 3, 1) := by decide +kernel
theorem dX9_records_60 : decode cX9_records 60 = .ok (.aload_n 0, 1) := by decide +kernel
theorem dX9_records_61 : decode cX9_records 61 = .ok (.getfield 7, 3) := by decide +kernel
theorem dX9_records_64 : decode cX9_records 64 = .ok (.sipush 166, 3) := by decide +kernel
theorem dX9_records_67 : decode cX9_records 67 = .ok (.iaload, 1) := by decide +kernel
theorem dX9_records_68 : decode cX9_records 68 = .ok (.imul, 1) := by decide +kernel
theorem dX9_records_69 : decode cX9_records 69 = .ok (.iadd, 1) := by decide +kernel
theorem dX9_records_70 : decode cX9_records 70 = .ok (.istore_n 3, 1) := by decide +kernel
theorem dX9_records_71 : decode cX9_records 71 = .ok (.aload_n 0, 1) := by decide +kernel
theorem dX9_records_72 : decode cX9_records 72 = .ok (.getfield 7, 3) := by decide +kernel
theorem dX9_records_75 : decode cX9_records 75 = .ok (.iload_n 3, 1) := by decide +kernel
theorem dX9_records_76 : decode cX9_records 76 = .ok (.iload_n 1, 1) := by decide +kernel
theorem dX9_records_77 : decode cX9_records 77 = .ok (.iastore, 1) := by decide +kernel
theorem dX9_records_78 : decode cX9_records 78 = .ok (.aload_n 0, 1) := by decide +kernel
theorem dX9_records_79 : decode cX9_records 79 = .ok (.getfield 7, 3) := by decide +kernel
theorem dX9_records_82 : decode cX9_records 82 = .ok (.iload_n 3, 1) := by decide +kernel
theorem dX9_records_83 : decode cX9_records 83 = .ok (.iconst 1, 1) := by decide +kernel
theorem dX9_records_84 : decode cX9_records 84 = .ok (.iadd, 1) := by decide +kernel
theorem dX9_records_85 : decode cX9_records 85 = .ok (.iload_n 2, 1) := by decide +kernel
theorem dX9_records_86 : decode cX9_records 86 = .ok (.iastore, 1) := by decide +kernel
theorem dX9_records_87 : decode cX9_records 87 = .ok (.aload_n 0, 1) := by decide +kernel
theorem dX9_records_88 : decode cX9_records 88 = .ok (.getfield 7, 3) := by decide +kernel
theorem dX9_records_91 : decode cX9_records 91 = .ok (.iload_n 3, 1) := by decide +kernel
theorem dX9_records_92 : decode cX9_records 92 = .ok (.iconst 2, 1) := by decide +kernel
theorem dX9_records_93 : decode cX9_records 93 = .ok (.iadd, 1) := by decide +kernel
theorem dX9_records_94 : decode cX9_records 94 = .ok (.aload_n 0, 1) := by decide +kernel
theorem dX9_records_95 : decode cX9_records 95 = .ok (.getfield 7, 3) := by decide +kernel
theorem dX9_records_98 : decode cX9_records 98 = .ok (.iconst 2, 1) := by decide +kernel
theorem dX9_records_99 : decode cX9_records 99 = .ok (.iaload, 1) := by decide +kernel
theorem dX9_records_100 : decode cX9_records 100 = .ok (.iastore, 1) := by decide +kernel
theorem dX9_records_101 : decode cX9_records 101 = .ok (.aload_n 0, 1) := by decide +kernel
theorem dX9_records_102 : decode cX9_records 102 = .ok (.getfield 7, 3) := by decide +kernel
theorem dX9_records_105 : decode cX9_records 105 = .ok (.sipush 166, 3) := by decide +kernel
theorem dX9_records_108 : decode cX9_records 108 = .ok (.dup2, 1) := by decide +kernel
theorem dX9_records_109 : decode cX9_records 109 = .ok (.iaload, 1) := by decide +kernel
theorem dX9_records_110 : decode cX9_records 110 = .ok (.iconst 1, 1) := by decide +kernel
theorem dX9_records_111 : decode cX9_records 111 = .ok (.iadd, 1) := by decide +kernel
theorem dX9_records_112 : decode cX9_records 112 = .ok (.iastore, 1) := by decide +kernel
theorem dX9_records_113 : decode cX9_records 113 = .ok (.return_, 1) := by decide +kernel
theorem dX9_isCell_0 : decode cX9_isCell 0 = .ok (.iload_n 1, 1) := by decide +kernel
theorem dX9_isCell_1 : decode cX9_isCell 1 = .ok (.iconst 0, 1) := by decide +kernel
theorem dX9_isCell_2 : decode cX9_isCell 2 = .ok (.aload_n 0, 1) := by decide +kernel
theorem dX9_isCell_3 : decode cX9_isCell 3 = .ok (.getfield 7, 3) := by decide +kernel
theorem dX9_isCell_6 : decode cX9_isCell 6 = .ok (.iconst 0, 1) := by decide +kernel
theorem dX9_isCell_7 : decode cX9_isCell 7 = .ok (.iaload, 1) := by decide +kernel
theorem dX9_isCell_8 : decode cX9_isCell 8 = .ok (.aload_n 0, 1) := by decide +kernel
theorem dX9_isCell_9 : decode cX9_isCell 9 = .ok (.getfield 7, 3) := by decide +kernel
theorem dX9_isCell_12 : decode cX9_isCell 12 = .ok (.iconst 1, 1) := by decide +kernel
theorem dX9_isCell_13 : decode cX9_isCell 13 = .ok (.iaload, 1) := by decide +kernel
theorem dX9_isCell_14 : decode cX9_isCell 14 = .ok (.imul, 1) := by decide +kernel
theorem dX9_isCell_15 : decode cX9_isCell 15 = .ok (.iconst 1, 1) := by decide +kernel
theorem dX9_isCell_16 : decode cX9_isCell 16 = .ok (.isub, 1) := by decide +kernel
theorem dX9_isCell_17 : decode cX9_isCell 17 = .ok (.invokestatic 38, 3) := by decide +kernel
theorem dX9_isCell_20 : decode cX9_isCell 20 = .ok (.ireturn, 1) := by decide +kernel
theorem dX9_columnOf_0 : decode cX9_columnOf 0 = .ok (.iload_n 1, 1) := by decide +kernel
theorem dX9_columnOf_1 : decode cX9_columnOf 1 = .ok (.aload_n 0, 1) := by decide +kernel
theorem dX9_columnOf_2 : decode cX9_columnOf 2 = .ok (.getfield 7, 3) := by decide +kernel
theorem dX9_columnOf_5 : decode cX9_columnOf 5 = .ok (.iconst 0, 1) := by decide +kernel
theorem dX9_columnOf_6 : decode cX9_columnOf 6 = .ok (.iaload, 1) := by decide +kernel
theorem dX9_columnOf_7 : decode cX9_columnOf 7 = .ok (.irem, 1) := by decide +kernel
theorem dX9_columnOf_8 : decode cX9_columnOf 8 = .ok (.ireturn, 1) := by decide +kernel
theorem dX9_rowOf_0 : decode cX9_rowOf 0 = .ok (.iload_n 1, 1) := by decide +kernel
theorem dX9_rowOf_1 : decode cX9_rowOf 1 = .ok (.aload_n 0, 1) := by decide +kernel
theorem dX9_rowOf_2 : decode cX9_rowOf 2 = .ok (.getfield 7, 3) := by decide +kernel
theorem dX9_rowOf_5 : decode cX9_rowOf 5 = .ok (.iconst 0, 1) := by decide +kernel
theorem dX9_rowOf_6 : decode cX9_rowOf 6 = .ok (.iaload, 1) := by decide +kernel
theorem dX9_rowOf_7 : decode cX9_rowOf 7 = .ok (.idiv, 1) := by decide +kernel
theorem dX9_rowOf_8 : decode cX9_rowOf 8 = .ok (.ireturn, 1) := by decide +kernel
theorem dX9_isOn_0 : decode cX9_isOn 0 = .ok (.iload_n 2, 1) := by decide +kernel
theorem dX9_isOn_1 : decode cX9_isOn 1 = .ok (.tableswitch 77 0 2 #[27, 41, 63], 27) := by decide +kernel
theorem dX9_isOn_28 : decode cX9_isOn 28 = .ok (.aload_n 0, 1) := by decide +kernel
theorem dX9_isOn_29 : decode cX9_isOn 29 = .ok (.iload_n 1, 1) := by decide +kernel
theorem dX9_isOn_30 : decode cX9_isOn 30 = .ok (.invokevirtual 42, 3) := by decide +kernel
theorem dX9_isOn_33 : decode cX9_isOn 33 = .ok (.ifCond .ne 7, 3) := by decide +kernel
theorem dX9_isOn_36 : decode cX9_isOn 36 = .ok (.iconst 1, 1) := by decide +kernel
theorem dX9_isOn_37 : decode cX9_isOn 37 = .ok (.goto 4, 3) := by decide +kernel
theorem dX9_isOn_40 : decode cX9_isOn 40 = .ok (.iconst 0, 1) := by decide +kernel
theorem dX9_isOn_41 : decode cX9_isOn 41 = .ok (.ireturn, 1) := by decide +kernel
theorem dX9_isOn_42 : decode cX9_isOn 42 = .ok (.aload_n 0, 1) := by decide +kernel
theorem dX9_isOn_43 : decode cX9_isOn 43 = .ok (.iload_n 1, 1) := by decide +kernel
theorem dX9_isOn_44 : decode cX9_isOn 44 = .ok (.invokevirtual 42, 3) := by decide +kernel
theorem dX9_isOn_47 : decode cX9_isOn 47 = .ok (.aload_n 0, 1) := by decide +kernel
theorem dX9_isOn_48 : decode cX9_isOn 48 = .ok (.getfield 7, 3) := by decide +kernel
theorem dX9_isOn_51 : decode cX9_isOn 51 = .ok (.iconst 0, 1) := by decide +kernel
theorem dX9_isOn_52 : decode cX9_isOn 52 = .ok (.iaload, 1) := by decide +kernel
theorem dX9_isOn_53 : decode cX9_isOn 53 = .ok (.iconst 1, 1) := by decide +kernel
theorem dX9_isOn_54 : decode cX9_isOn 54 = .ok (.isub, 1) := by decide +kernel
theorem dX9_isOn_55 : decode cX9_isOn 55 = .ok (.if_icmp .ne 7, 3) := by decide +kernel
theorem dX9_isOn_58 : decode cX9_isOn 58 = .ok (.iconst 1, 1) := by decide +kernel
theorem dX9_isOn_59 : decode cX9_isOn 59 = .ok (.goto 4, 3) := by decide +kernel
theorem dX9_isOn_62 : decode cX9_isOn 62 = .ok (.iconst 0, 1) := by decide +kernel
theorem dX9_isOn_63 : decode cX9_isOn 63 = .ok (.ireturn, 1) := by decide +kernel
theorem dX9_isOn_64 : decode cX9_isOn 64 = .ok (.aload_n 0, 1) := by decide +kernel
theorem dX9_isOn_65 : decode cX9_isOn 65 = .ok (.iload_n 1, 1) := by decide +kernel
theorem dX9_isOn_66 : decode cX9_isOn 66 = .ok (.invokevirtual 46, 3) := by decide +kernel
theorem dX9_isOn_69 : decode cX9_isOn 69 = .ok (.ifCond .ne 7, 3) := by decide +kernel
theorem dX9_isOn_72 : decode cX9_isOn 72 = .ok (.iconst 1, 1) := by decide +kernel
theorem dX9_isOn_73 : decode cX9_isOn 73 = .ok (.goto 4, 3) := by decide +kernel
theorem dX9_isOn_76 : decode cX9_isOn 76 = .ok (.iconst 0, 1) := by decide +kernel
theorem dX9_isOn_77 : decode cX9_isOn 77 = .ok (.ireturn, 1) := by decide +kernel
theorem dX9_isOn_78 : decode cX9_isOn 78 = .ok (.aload_n 0, 1) := by decide +kernel
theorem dX9_isOn_79 : decode cX9_isOn 79 = .ok (.iload_n 1, 1) := by decide +kernel
theorem dX9_isOn_80 : decode cX9_isOn 80 = .ok (.invokevirtual 46, 3) := by decide +kernel
theorem dX9_isOn_83 : decode cX9_isOn 83 = .ok (.aload_n 0, 1) := by decide +kernel
theorem dX9_isOn_84 : decode cX9_isOn 84 = .ok (.getfield 7, 3) := by decide +kernel
theorem dX9_isOn_87 : decode cX9_isOn 87 = .ok (.iconst 1, 1) := by decide +kernel
theorem dX9_isOn_88 : decode cX9_isOn 88 = .ok (.iaload, 1) := by decide +kernel
theorem dX9_isOn_89 : decode cX9_isOn 89 = .ok (.iconst 1, 1) := by decide +kernel
theorem dX9_isOn_90 : decode cX9_isOn 90 = .ok (.isub, 1) := by decide +kernel
theorem dX9_isOn_91 : decode cX9_isOn 91 = .ok (.if_icmp .ne 7, 3) := by decide +kernel
theorem dX9_isOn_94 : decode cX9_isOn 94 = .ok (.iconst 1, 1) := by decide +kernel
theorem dX9_isOn_95 : decode cX9_isOn 95 = .ok (.goto 4, 3) := by decide +kernel
theorem dX9_isOn_98 : decode cX9_isOn 98 = .ok (.iconst 0, 1) := by decide +kernel
theorem dX9_isOn_99 : decode cX9_isOn 99 = .ok (.ireturn, 1) := by decide +kernel
theorem dX9_isEdge_0 : decode cX9_isEdge 0 = .ok (.aload_n 0, 1) := by decide +kernel
theorem dX9_isEdge_1 : decode cX9_isEdge 1 = .ok (.iload_n 1, 1) := by decide +kernel
theorem dX9_isEdge_2 : decode cX9_isEdge 2 = .ok (.invokevirtual 49, 3) := by decide +kernel
theorem dX9_isEdge_5 : decode cX9_isEdge 5 = .ok (.ifCond .eq 43, 3) := by decide +kernel
theorem dX9_isEdge_8 : decode cX9_isEdge 8 = .ok (.aload_n 0, 1) := by decide +kernel
theorem dX9_isEdge_9 : decode cX9_isEdge 9 = .ok (.iload_n 1, 1) := by decide +kernel
theorem dX9_isEdge_10 : decode cX9_isEdge 10 = .ok (.iconst 0, 1) := by decide +kernel
theorem dX9_isEdge_11 : decode cX9_isEdge 11 = .ok (.invokevirtual 53, 3) := by decide +kernel
theorem dX9_isEdge_14 : decode cX9_isEdge 14 = .ok (.ifCond .ne 30, 3) := by decide +kernel
theorem dX9_isEdge_17 : decode cX9_isEdge 17 = .ok (.aload_n 0, 1) := by decide +kernel
theorem dX9_isEdge_18 : decode cX9_isEdge 18 = .ok (.iload_n 1, 1) := by decide +kernel
theorem dX9_isEdge_19 : decode cX9_isEdge 19 = .ok (.iconst 1, 1) := by decide +kernel
theorem dX9_isEdge_20 : decode cX9_isEdge 20 = .ok (.invokevirtual 53, 3) := by decide +kernel
theorem dX9_isEdge_23 : decode cX9_isEdge 23 = .ok (.ifCond .ne 21, 3) := by decide +kernel
theorem dX9_isEdge_26 : decode cX9_isEdge 26 = .ok (.aload_n 0, 1) := by decide +kernel
theorem dX9_isEdge_27 : decode cX9_isEdge 27 = .ok (.iload_n 1, 1) := by decide +kernel
theorem dX9_isEdge_28 : decode cX9_isEdge 28 = .ok (.iconst 2, 1) := by decide +kernel
theorem dX9_isEdge_29 : decode cX9_isEdge 29 = .ok (.invokevirtual 53, 3) := by decide +kernel
theorem dX9_isEdge_32 : decode cX9_isEdge 32 = .ok (.ifCond .ne 12, 3) := by decide +kernel
theorem dX9_isEdge_35 : decode cX9_isEdge 35 = .ok (.aload_n 0, 1) := by decide +kernel
theorem dX9_isEdge_36 : decode cX9_isEdge 36 = .ok (.iload_n 1, 1) := by decide +kernel
theorem dX9_isEdge_37 : decode cX9_isEdge 37 = .ok (.iconst 3, 1) := by decide +kernel
theorem dX9_isEdge_38 : decode cX9_isEdge 38 = .ok (.invokevirtual 53, 3) := by decide +kernel
theorem dX9_isEdge_41 : decode cX9_isEdge 41 = .ok (.ifCond .eq 7, 3) := by decide +kernel
theorem dX9_isEdge_44 : decode cX9_isEdge 44 = .ok (.iconst 1, 1) := by decide +kernel
theorem dX9_isEdge_45 : decode cX9_isEdge 45 = .ok (.goto 4, 3) := by decide +kernel
theorem dX9_isEdge_48 : decode cX9_isEdge 48 = .ok (.iconst 0, 1) := by decide +kernel
theorem dX9_isEdge_49 : decode cX9_isEdge 49 = .ok (.ireturn, 1) := by decide +kernel
theorem dX9_isWell_0 : decode cX9_isWell 0 = .ok (.aload_n 0, 1) := by decide +kernel
theorem dX9_isWell_1 : decode cX9_isWell 1 = .ok (.iload_n 1, 1) := by decide +kernel
theorem dX9_isWell_2 : decode cX9_isWell 2 = .ok (.invokevirtual 49, 3) := by decide +kernel
theorem dX9_isWell_5 : decode cX9_isWell 5 = .ok (.ifCond .eq 15, 3) := by decide +kernel
theorem dX9_isWell_8 : decode cX9_isWell 8 = .ok (.aload_n 0, 1) := by decide +kernel
theorem dX9_isWell_9 : decode cX9_isWell 9 = .ok (.iload_n 1, 1) := by decide +kernel
theorem dX9_isWell_10 : decode cX9_isWell 10 = .ok (.invokevirtual 57, 3) := by decide +kernel
theorem dX9_isWell_13 : decode cX9_isWell 13 = .ok (.ifCond .ne 7, 3) := by decide +kernel
theorem dX9_isWell_16 : decode cX9_isWell 16 = .ok (.iconst 1, 1) := by decide +kernel
theorem dX9_isWell_17 : decode cX9_isWell 17 = .ok (.goto 4, 3) := by decide +kernel
theorem dX9_isWell_20 : decode cX9_isWell 20 = .ok (.iconst 0, 1) := by decide +kernel
theorem dX9_isWell_21 : decode cX9_isWell 21 = .ok (.ireturn, 1) := by decide +kernel
theorem dX9_near_0 : decode cX9_near 0 = .ok (.iload_n 0, 1) := by decide +kernel
theorem dX9_near_1 : decode cX9_near 1 = .ok (.iconst 1, 1) := by decide +kernel
theorem dX9_near_2 : decode cX9_near 2 = .ok (.if_icmp .ge 7, 3) := by decide +kernel
theorem dX9_near_5 : decode cX9_near 5 = .ok (.iconst 1, 1) := by decide +kernel
theorem dX9_near_6 : decode cX9_near 6 = .ok (.goto 17, 3) := by decide +kernel
theorem dX9_near_9 : decode cX9_near 9 = .ok (.iload_n 0, 1) := by decide +kernel
theorem dX9_near_10 : decode cX9_near 10 = .ok (.iload_n 1, 1) := by decide +kernel
theorem dX9_near_11 : decode cX9_near 11 = .ok (.iconst 2, 1) := by decide +kernel
theorem dX9_near_12 : decode cX9_near 12 = .ok (.isub, 1) := by decide +kernel
theorem dX9_near_13 : decode cX9_near 13 = .ok (.if_icmp .le 9, 3) := by decide +kernel
theorem dX9_near_16 : decode cX9_near 16 = .ok (.iload_n 1, 1) := by decide +kernel
theorem dX9_near_17 : decode cX9_near 17 = .ok (.iconst 2, 1) := by decide +kernel
theorem dX9_near_18 : decode cX9_near 18 = .ok (.isub, 1) := by decide +kernel
theorem dX9_near_19 : decode cX9_near 19 = .ok (.goto 4, 3) := by decide +kernel
theorem dX9_near_22 : decode cX9_near 22 = .ok (.iload_n 0, 1) := by decide +kernel
theorem dX9_near_23 : decode cX9_near 23 = .ok (.ireturn, 1) := by decide +kernel
theorem dX9_wellBeside_0 : decode cX9_wellBeside 0 = .ok (.aload_n 0, 1) := by decide +kernel
theorem dX9_wellBeside_1 : decode cX9_wellBeside 1 = .ok (.iload_n 1, 1) := by decide +kernel
theorem dX9_wellBeside_2 : decode cX9_wellBeside 2 = .ok (.invokevirtual 46, 3) := by decide +kernel
theorem dX9_wellBeside_5 : decode cX9_wellBeside 5 = .ok (.aload_n 0, 1) := by decide +kernel
theorem dX9_wellBeside_6 : decode cX9_wellBeside 6 = .ok (.getfield 7, 3) := by decide +kernel
theorem dX9_wellBeside_9 : decode cX9_wellBeside 9 = .ok (.iconst 1, 1) := by decide +kernel
theorem dX9_wellBeside_10 : decode cX9_wellBeside 10 = .ok (.iaload, 1) := by decide +kernel
theorem dX9_wellBeside_11 : decode cX9_wellBeside 11 = .ok (.invokestatic 60, 3) := by decide +kernel
theorem dX9_wellBeside_14 : decode cX9_wellBeside 14 = .ok (.aload_n 0, 1) := by decide +kernel
theorem dX9_wellBeside_15 : decode cX9_wellBeside 15 = .ok (.getfield 7, 3) := by decide +kernel
theorem dX9_wellBeside_18 : decode cX9_wellBeside 18 = .ok (.iconst 0, 1) := by decide +kernel
theorem dX9_wellBeside_19 : decode cX9_wellBeside 19 = .ok (.iaload, 1) := by decide +kernel
theorem dX9_wellBeside_20 : decode cX9_wellBeside 20 = .ok (.imul, 1) := by decide +kernel
theorem dX9_wellBeside_21 : decode cX9_wellBeside 21 = .ok (.aload_n 0, 1) := by decide +kernel
theorem dX9_wellBeside_22 : decode cX9_wellBeside 22 = .ok (.iload_n 1, 1) := by decide +kernel
theorem dX9_wellBeside_23 : decode cX9_wellBeside 23 = .ok (.invokevirtual 42, 3) := by decide +kernel
theorem dX9_wellBeside_26 : decode cX9_wellBeside 26 = .ok (.aload_n 0, 1) := by decide +kernel
theorem dX9_wellBeside_27 : decode cX9_wellBeside 27 = .ok (.getfield 7, 3) := by decide +kernel
theorem dX9_wellBeside_30 : decode cX9_wellBeside 30 = .ok (.iconst 0, 1) := by decide +kernel
theorem dX9_wellBeside_31 : decode cX9_wellBeside 31 = .ok (.iaload, 1) := by decide +kernel
theorem dX9_wellBeside_32 : decode cX9_wellBeside 32 = .ok (.invokestatic 60, 3) := by decide +kernel
theorem dX9_wellBeside_35 : decode cX9_wellBeside 35 = .ok (.iadd, 1) := by decide +kernel
theorem dX9_wellBeside_36 : decode cX9_wellBeside 36 = .ok (.ireturn, 1) := by decide +kernel
theorem dX9_layerAt_0 : decode cX9_layerAt 0 = .ok (.iconst 0, 1) := by decide +kernel
theorem dX9_layerAt_1 : decode cX9_layerAt 1 = .ok (.istore_n 2, 1) := by decide +kernel
theorem dX9_layerAt_2 : decode cX9_layerAt 2 = .ok (.iconst 0, 1) := by decide +kernel
theorem dX9_layerAt_3 : decode cX9_layerAt 3 = .ok (.istore_n 3, 1) := by decide +kernel
theorem dX9_layerAt_4 : decode cX9_layerAt 4 = .ok (.iload_n 2, 1) := by decide +kernel
theorem dX9_layerAt_5 : decode cX9_layerAt 5 = .ok (.aload_n 0, 1) := by decide +kernel
theorem dX9_layerAt_6 : decode cX9_layerAt 6 = .ok (.getfield 7, 3) := by decide +kernel
theorem dX9_layerAt_9 : decode cX9_layerAt 9 = .ok (.bipush 8, 2) := by decide +kernel
theorem dX9_layerAt_11 : decode cX9_layerAt 11 = .ok (.iaload, 1) := by decide +kernel
theorem dX9_layerAt_12 : decode cX9_layerAt 12 = .ok (.if_icmp .ge 40, 3) := by decide +kernel
theorem dX9_layerAt_15 : decode cX9_layerAt 15 = .ok (.iload_n 3, 1) := by decide +kernel
theorem dX9_layerAt_16 : decode cX9_layerAt 16 = .ok (.aload_n 0, 1) := by decide +kernel
theorem dX9_layerAt_17 : decode cX9_layerAt 17 = .ok (.getfield 7, 3) := by decide +kernel
theorem dX9_layerAt_20 : decode cX9_layerAt 20 = .ok (.bipush 9, 2) := by decide +kernel
theorem dX9_layerAt_22 : decode cX9_layerAt 22 = .ok (.iconst 3, 1) := by decide +kernel
theorem dX9_layerAt_23 : decode cX9_layerAt 23 = .ok (.iload_n 2, 1) := by decide +kernel
theorem dX9_layerAt_24 : decode cX9_layerAt 24 = .ok (.imul, 1) := by decide +kernel
theorem dX9_layerAt_25 : decode cX9_layerAt 25 = .ok (.iadd, 1) := by decide +kernel
theorem dX9_layerAt_26 : decode cX9_layerAt 26 = .ok (.iaload, 1) := by decide +kernel
theorem dX9_layerAt_27 : decode cX9_layerAt 27 = .ok (.iadd, 1) := by decide +kernel
theorem dX9_layerAt_28 : decode cX9_layerAt 28 = .ok (.iload_n 1, 1) := by decide +kernel
theorem dX9_layerAt_29 : decode cX9_layerAt 29 = .ok (.if_icmp .gt 23, 3) := by decide +kernel
theorem dX9_layerAt_32 : decode cX9_layerAt 32 = .ok (.iload_n 3, 1) := by decide +kernel
theorem dX9_layerAt_33 : decode cX9_layerAt 33 = .ok (.aload_n 0, 1) := by decide +kernel
theorem dX9_layerAt_34 : decode cX9_layerAt 34 = .ok (.getfield 7, 3) := by decide +kernel
theorem dX9_layerAt_37 : decode cX9_layerAt 37 = .ok (.bipush 9, 2) := by decide +kernel
theorem dX9_layerAt_39 : decode cX9_layerAt 39 = .ok (.iconst 3, 1) := by decide +kernel
theorem dX9_layerAt_40 : decode cX9_layerAt 40 = .ok (.iload_n 2, 1) := by decide +kernel
theorem dX9_layerAt_41 : decode cX9_layerAt 41 = .ok (.imul, 1) := by decide +kernel
theorem dX9_layerAt_42 : decode cX9_layerAt 42 = .ok (.iadd, 1) := by decide +kernel
theorem dX9_layerAt_43 : decode cX9_layerAt 43 = .ok (.iaload, 1) := by decide +kernel
theorem dX9_layerAt_44 : decode cX9_layerAt 44 = .ok (.iadd, 1) := by decide +kernel
theorem dX9_layerAt_45 : decode cX9_layerAt 45 = .ok (.istore_n 3, 1) := by decide +kernel
theorem dX9_layerAt_46 : decode cX9_layerAt 46 = .ok (.iinc 2 1, 3) := by decide +kernel
theorem dX9_layerAt_49 : decode cX9_layerAt 49 = .ok (.goto (-45), 3) := by decide +kernel
theorem dX9_layerAt_52 : decode cX9_layerAt 52 = .ok (.iload_n 2, 1) := by decide +kernel
theorem dX9_layerAt_53 : decode cX9_layerAt 53 = .ok (.ireturn, 1) := by decide +kernel
theorem dX9_groundAt_0 : decode cX9_groundAt 0 = .ok (.aload_n 0, 1) := by decide +kernel
theorem dX9_groundAt_1 : decode cX9_groundAt 1 = .ok (.iload_n 1, 1) := by decide +kernel
theorem dX9_groundAt_2 : decode cX9_groundAt 2 = .ok (.invokevirtual 64, 3) := by decide +kernel
theorem dX9_groundAt_5 : decode cX9_groundAt 5 = .ok (.istore_n 3, 1) := by decide +kernel
theorem dX9_groundAt_6 : decode cX9_groundAt 6 = .ok (.iload_n 3, 1) := by decide +kernel
theorem dX9_groundAt_7 : decode cX9_groundAt 7 = .ok (.aload_n 0, 1) := by decide +kernel
theorem dX9_groundAt_8 : decode cX9_groundAt 8 = .ok (.getfield 7, 3) := by decide +kernel
theorem dX9_groundAt_11 : decode cX9_groundAt 11 = .ok (.bipush 8, 2) := by decide +kernel
theorem dX9_groundAt_13 : decode cX9_groundAt 13 = .ok (.iaload, 1) := by decide +kernel
theorem dX9_groundAt_14 : decode cX9_groundAt 14 = .ok (.if_icmp .ne 17, 3) := by decide +kernel
theorem dX9_groundAt_17 : decode cX9_groundAt 17 = .ok (.iload_n 2, 1) := by decide +kernel
theorem dX9_groundAt_18 : decode cX9_groundAt 18 = .ok (.ifCond .ne 8, 3) := by decide +kernel
theorem dX9_groundAt_21 : decode cX9_groundAt 21 = .ok (.bipush 60, 2) := by decide +kernel
theorem dX9_groundAt_23 : decode cX9_groundAt 23 = .ok (.goto 23, 3) := by decide +kernel
theorem dX9_groundAt_26 : decode cX9_groundAt 26 = .ok (.bipush 9, 2) := by decide +kernel
theorem dX9_groundAt_28 : decode cX9_groundAt 28 = .ok (.goto 18, 3) := by decide +kernel
theorem dX9_groundAt_31 : decode cX9_groundAt 31 = .ok (.aload_n 0, 1) := by decide +kernel
theorem dX9_groundAt_32 : decode cX9_groundAt 32 = .ok (.getfield 7, 3) := by decide +kernel
theorem dX9_groundAt_35 : decode cX9_groundAt 35 = .ok (.bipush 9, 2) := by decide +kernel
theorem dX9_groundAt_37 : decode cX9_groundAt 37 = .ok (.iconst 3, 1) := by decide +kernel
theorem dX9_groundAt_38 : decode cX9_groundAt 38 = .ok (.iload_n 3, 1) := by decide +kernel
theorem dX9_groundAt_39 : decode cX9_groundAt 39 = .ok (.imul, 1) := by decide +kernel
theorem dX9_groundAt_40 : decode cX9_groundAt 40 = .ok (.iadd, 1) := by decide +kernel
theorem dX9_groundAt_41 : decode cX9_groundAt 41 = .ok (.iconst 1, 1) := by decide +kernel
theorem dX9_groundAt_42 : decode cX9_groundAt 42 = .ok (.iadd, 1) := by decide +kernel
theorem dX9_groundAt_43 : decode cX9_groundAt 43 = .ok (.iload_n 2, 1) := by decide +kernel
theorem dX9_groundAt_44 : decode cX9_groundAt 44 = .ok (.iadd, 1) := by decide +kernel
theorem dX9_groundAt_45 : decode cX9_groundAt 45 = .ok (.iaload, 1) := by decide +kernel
theorem dX9_groundAt_46 : decode cX9_groundAt 46 = .ok (.ireturn, 1) := by decide +kernel
theorem dX9_frictions_0 : decode cX9_frictions 0 = .ok (.iload_n 1, 1) := by decide +kernel
theorem dX9_frictions_1 : decode cX9_frictions 1 = .ok (.istore_n 2, 1) := by decide +kernel
theorem dX9_frictions_2 : decode cX9_frictions 2 = .ok (.iconst 0, 1) := by decide +kernel
theorem dX9_frictions_3 : decode cX9_frictions 3 = .ok (.istore_n 3, 1) := by decide +kernel
theorem dX9_frictions_4 : decode cX9_frictions 4 = .ok (.iconst 0, 1) := by decide +kernel
theorem dX9_frictions_5 : decode cX9_frictions 5 = .ok (.istore 4, 2) := by decide +kernel
theorem dX9_frictions_7 : decode cX9_frictions 7 = .ok (.iload 4, 2) := by decide +kernel
theorem dX9_frictions_9 : decode cX9_frictions 9 = .ok (.aload_n 0, 1) := by decide +kernel
theorem dX9_frictions_10 : decode cX9_frictions 10 = .ok (.getfield 7, 3) := by decide +kernel
theorem dX9_frictions_13 : decode cX9_frictions 13 = .ok (.bipush 8, 2) := by decide +kernel
theorem dX9_frictions_15 : decode cX9_frictions 15 = .ok (.iaload, 1) := by decide +kernel
theorem dX9_frictions_16 : decode cX9_frictions 16 = .ok (.if_icmp .ge 68, 3) := by decide +kernel
theorem dX9_frictions_19 : decode cX9_frictions 19 = .ok (.aload_n 0, 1) := by decide +kernel
theorem dX9_frictions_20 : decode cX9_frictions 20 = .ok (.getfield 7, 3) := by decide +kernel
theorem dX9_frictions_23 : decode cX9_frictions 23 = .ok (.bipush 9, 2) := by decide +kernel
theorem dX9_frictions_25 : decode cX9_frictions 25 = .ok (.iconst 3, 1) := by decide +kernel
theorem dX9_frictions_26 : decode cX9_frictions 26 = .ok (.iload 4, 2) := by decide +kernel
theorem dX9_frictions_28 : decode cX9_frictions 28 = .ok (.imul, 1) := by decide +kernel
theorem dX9_frictions_29 : decode cX9_frictions 29 = .ok (.iadd, 1) := by decide +kernel
theorem dX9_frictions_30 : decode cX9_frictions 30 = .ok (.iaload, 1) := by decide +kernel
theorem dX9_frictions_31 : decode cX9_frictions 31 = .ok (.iload_n 2, 1) := by decide +kernel
theorem dX9_frictions_32 : decode cX9_frictions 32 = .ok (.if_icmp .ge 18, 3) := by decide +kernel
theorem dX9_frictions_35 : decode cX9_frictions 35 = .ok (.aload_n 0, 1) := by decide +kernel
theorem dX9_frictions_36 : decode cX9_frictions 36 = .ok (.getfield 7, 3) := by decide +kernel
theorem dX9_frictions_39 : decode cX9_frictions 39 = .ok (.bipush 9, 2) := by decide +kernel
theorem dX9_frictions_41 : decode cX9_frictions 41 = .ok (.iconst 3, 1) := by decide +kernel
theorem dX9_frictions_42 : decode cX9_frictions 42 = .ok (.iload 4, 2) := by decide +kernel
theorem dX9_frictions_44 : decode cX9_frictions 44 = .ok (.imul, 1) := by decide +kernel
theorem dX9_frictions_45 : decode cX9_frictions 45 = .ok (.iadd, 1) := by decide +kernel
theorem dX9_frictions_46 : decode cX9_frictions 46 = .ok (.iaload, 1) := by decide +kernel
theorem dX9_frictions_47 : decode cX9_frictions 47 = .ok (.goto 4, 3) := by decide +kernel
theorem dX9_frictions_50 : decode cX9_frictions 50 = .ok (.iload_n 2, 1) := by decide +kernel
theorem dX9_frictions_51 : decode cX9_frictions 51 = .ok (.istore 5, 2) := by decide +kernel
theorem dX9_frictions_53 : decode cX9_frictions 53 = .ok (.iload_n 3, 1) := by decide +kernel
theorem dX9_frictions_54 : decode cX9_frictions 54 = .ok (.iload 5, 2) := by decide +kernel
theorem dX9_frictions_56 : decode cX9_frictions 56 = .ok (.aload_n 0, 1) := by decide +kernel
theorem dX9_frictions_57 : decode cX9_frictions 57 = .ok (.getfield 7, 3) := by decide +kernel
theorem dX9_frictions_60 : decode cX9_frictions 60 = .ok (.bipush 9, 2) := by decide +kernel
theorem dX9_frictions_62 : decode cX9_frictions 62 = .ok (.iconst 3, 1) := by decide +kernel
theorem dX9_frictions_63 : decode cX9_frictions 63 = .ok (.iload 4, 2) := by decide +kernel
theorem dX9_frictions_65 : decode cX9_frictions 65 = .ok (.imul, 1) := by decide +kernel
theorem dX9_frictions_66 : decode cX9_frictions 66 = .ok (.iadd, 1) := by decide +kernel
theorem dX9_frictions_67 : decode cX9_frictions 67 = .ok (.iconst 2, 1) := by decide +kernel
theorem dX9_frictions_68 : decode cX9_frictions 68 = .ok (.iadd, 1) := by decide +kernel
theorem dX9_frictions_69 : decode cX9_frictions 69 = .ok (.iaload, 1) := by decide +kernel
theorem dX9_frictions_70 : decode cX9_frictions 70 = .ok (.imul, 1) := by decide +kernel
theorem dX9_frictions_71 : decode cX9_frictions 71 = .ok (.iadd, 1) := by decide +kernel
theorem dX9_frictions_72 : decode cX9_frictions 72 = .ok (.istore_n 3, 1) := by decide +kernel
theorem dX9_frictions_73 : decode cX9_frictions 73 = .ok (.iload_n 2, 1) := by decide +kernel
theorem dX9_frictions_74 : decode cX9_frictions 74 = .ok (.iload 5, 2) := by decide +kernel
theorem dX9_frictions_76 : decode cX9_frictions 76 = .ok (.isub, 1) := by decide +kernel
theorem dX9_frictions_77 : decode cX9_frictions 77 = .ok (.istore_n 2, 1) := by decide +kernel
theorem dX9_frictions_78 : decode cX9_frictions 78 = .ok (.iinc 4 1, 3) := by decide +kernel
theorem dX9_frictions_81 : decode cX9_frictions 81 = .ok (.goto (-74), 3) := by decide +kernel
theorem dX9_frictions_84 : decode cX9_frictions 84 = .ok (.iload_n 3, 1) := by decide +kernel
theorem dX9_frictions_85 : decode cX9_frictions 85 = .ok (.bipush 9, 2) := by decide +kernel
theorem dX9_frictions_87 : decode cX9_frictions 87 = .ok (.iload_n 2, 1) := by decide +kernel
theorem dX9_frictions_88 : decode cX9_frictions 88 = .ok (.imul, 1) := by decide +kernel
theorem dX9_frictions_89 : decode cX9_frictions 89 = .ok (.iadd, 1) := by decide +kernel
theorem dX9_frictions_90 : decode cX9_frictions 90 = .ok (.ireturn, 1) := by decide +kernel
theorem dX9_arm_0 : decode cX9_arm 0 = .ok (.iload_n 2, 1) := by decide +kernel
theorem dX9_arm_1 : decode cX9_arm 1 = .ok (.ifCond .ne 22, 3) := by decide +kernel
theorem dX9_arm_4 : decode cX9_arm 4 = .ok (.iconst 2, 1) := by decide +kernel
theorem dX9_arm_5 : decode cX9_arm 5 = .ok (.aload_n 0, 1) := by decide +kernel
theorem dX9_arm_6 : decode cX9_arm 6 = .ok (.iload_n 1, 1) := by decide +kernel
theorem dX9_arm_7 : decode cX9_arm 7 = .ok (.invokevirtual 42, 3) := by decide +kernel
theorem dX9_arm_10 : decode cX9_arm 10 = .ok (.imul, 1) := by decide +kernel
theorem dX9_arm_11 : decode cX9_arm 11 = .ok (.aload_n 0, 1) := by decide +kernel
theorem dX9_arm_12 : decode cX9_arm 12 = .ok (.getfield 7, 3) := by decide +kernel
theorem dX9_arm_15 : decode cX9_arm 15 = .ok (.iconst 0, 1) := by decide +kernel
theorem dX9_arm_16 : decode cX9_arm 16 = .ok (.iaload, 1) := by decide +kernel
theorem dX9_arm_17 : decode cX9_arm 17 = .ok (.isub, 1) := by decide +kernel
theorem dX9_arm_18 : decode cX9_arm 18 = .ok (.iconst 1, 1) := by decide +kernel
theorem dX9_arm_19 : decode cX9_arm 19 = .ok (.iadd, 1) := by decide +kernel
theorem dX9_arm_20 : decode cX9_arm 20 = .ok (.goto 19, 3) := by decide +kernel
theorem dX9_arm_23 : decode cX9_arm 23 = .ok (.iconst 2, 1) := by decide +kernel
theorem dX9_arm_24 : decode cX9_arm 24 = .ok (.aload_n 0, 1) := by decide +kernel
theorem dX9_arm_25 : decode cX9_arm 25 = .ok (.iload_n 1, 1) := by decide +kernel
theorem dX9_arm_26 : decode cX9_arm 26 = .ok (.invokevirtual 46, 3) := by decide +kernel
theorem dX9_arm_29 : decode cX9_arm 29 = .ok (.imul, 1) := by decide +kernel
theorem dX9_arm_30 : decode cX9_arm 30 = .ok (.aload_n 0, 1) := by decide +kernel
theorem dX9_arm_31 : decode cX9_arm 31 = .ok (.getfield 7, 3) := by decide +kernel
theorem dX9_arm_34 : decode cX9_arm 34 = .ok (.iconst 1, 1) := by decide +kernel
theorem dX9_arm_35 : decode cX9_arm 35 = .ok (.iaload, 1) := by decide +kernel
theorem dX9_arm_36 : decode cX9_arm 36 = .ok (.isub, 1) := by decide +kernel
theorem dX9_arm_37 : decode cX9_arm 37 = .ok (.iconst 1, 1) := by decide +kernel
theorem dX9_arm_38 : decode cX9_arm 38 = .ok (.iadd, 1) := by decide +kernel
theorem dX9_arm_39 : decode cX9_arm 39 = .ok (.ireturn, 1) := by decide +kernel
theorem dX9_edgeDepth_0 : decode cX9_edgeDepth 0 = .ok (.aload_n 0, 1) := by decide +kernel
theorem dX9_edgeDepth_1 : decode cX9_edgeDepth 1 = .ok (.getfield 7, 3) := by decide +kernel
theorem dX9_edgeDepth_4 : decode cX9_edgeDepth 4 = .ok (.iconst 3, 1) := by decide +kernel
theorem dX9_edgeDepth_5 : decode cX9_edgeDepth 5 = .ok (.iaload, 1) := by decide +kernel
theorem dX9_edgeDepth_6 : decode cX9_edgeDepth 6 = .ok (.aload_n 0, 1) := by decide +kernel
theorem dX9_edgeDepth_7 : decode cX9_edgeDepth 7 = .ok (.iload_n 1, 1) := by decide +kernel
theorem dX9_edgeDepth_8 : decode cX9_edgeDepth 8 = .ok (.iconst 0, 1) := by decide +kernel
theorem dX9_edgeDepth_9 : decode cX9_edgeDepth 9 = .ok (.invokevirtual 67, 3) := by decide +kernel
theorem dX9_edgeDepth_12 : decode cX9_edgeDepth 12 = .ok (.imul, 1) := by decide +kernel
theorem dX9_edgeDepth_13 : decode cX9_edgeDepth 13 = .ok (.aload_n 0, 1) := by decide +kernel
theorem dX9_edgeDepth_14 : decode cX9_edgeDepth 14 = .ok (.getfield 7, 3) := by decide +kernel
theorem dX9_edgeDepth_17 : decode cX9_edgeDepth 17 = .ok (.iconst 4, 1) := by decide +kernel
theorem dX9_edgeDepth_18 : decode cX9_edgeDepth 18 = .ok (.iaload, 1) := by decide +kernel
theorem dX9_edgeDepth_19 : decode cX9_edgeDepth 19 = .ok (.aload_n 0, 1) := by decide +kernel
theorem dX9_edgeDepth_20 : decode cX9_edgeDepth 20 = .ok (.iload_n 1, 1) := by decide +kernel
theorem dX9_edgeDepth_21 : decode cX9_edgeDepth 21 = .ok (.iconst 1, 1) := by decide +kernel
theorem dX9_edgeDepth_22 : decode cX9_edgeDepth 22 = .ok (.invokevirtual 67, 3) := by decide +kernel
theorem dX9_edgeDepth_25 : decode cX9_edgeDepth 25 = .ok (.imul, 1) := by decide +kernel
theorem dX9_edgeDepth_26 : decode cX9_edgeDepth 26 = .ok (.iadd, 1) := by decide +kernel
theorem dX9_edgeDepth_27 : decode cX9_edgeDepth 27 = .ok (.istore_n 2, 1) := by decide +kernel
theorem dX9_edgeDepth_28 : decode cX9_edgeDepth 28 = .ok (.aload_n 0, 1) := by decide +kernel
theorem dX9_edgeDepth_29 : decode cX9_edgeDepth 29 = .ok (.getfield 7, 3) := by decide +kernel
theorem dX9_edgeDepth_32 : decode cX9_edgeDepth 32 = .ok (.iconst 2, 1) := by decide +kernel
theorem dX9_edgeDepth_33 : decode cX9_edgeDepth 33 = .ok (.iaload, 1) := by decide +kernel
theorem dX9_edgeDepth_34 : decode cX9_edgeDepth 34 = .ok (.iload_n 2, 1) := by decide +kernel
theorem dX9_edgeDepth_35 : decode cX9_edgeDepth 35 = .ok (.ifCond .ge 17, 3) := by decide +kernel
theorem dX9_edgeDepth_38 : decode cX9_edgeDepth 38 = .ok (.iload_n 2, 1) := by decide +kernel
theorem dX9_edgeDepth_39 : decode cX9_edgeDepth 39 = .ok (.iconst 2, 1) := by decide +kernel
theorem dX9_edgeDepth_40 : decode cX9_edgeDepth 40 = .ok (.irem, 1) := by decide +kernel
theorem dX9_edgeDepth_41 : decode cX9_edgeDepth 41 = .ok (.ifCond .eq 11, 3) := by decide +kernel
theorem dX9_edgeDepth_44 : decode cX9_edgeDepth 44 = .ok (.iload_n 2, 1) := by decide +kernel
theorem dX9_edgeDepth_45 : decode cX9_edgeDepth 45 = .ok (.iconst 2, 1) := by decide +kernel
theorem dX9_edgeDepth_46 : decode cX9_edgeDepth 46 = .ok (.idiv, 1) := by decide +kernel
theorem dX9_edgeDepth_47 : decode cX9_edgeDepth 47 = .ok (.iconst 1, 1) := by decide +kernel
theorem dX9_edgeDepth_48 : decode cX9_edgeDepth 48 = .ok (.isub, 1) := by decide +kernel
theorem dX9_edgeDepth_49 : decode cX9_edgeDepth 49 = .ok (.goto 6, 3) := by decide +kernel
theorem dX9_edgeDepth_52 : decode cX9_edgeDepth 52 = .ok (.iload_n 2, 1) := by decide +kernel
theorem dX9_edgeDepth_53 : decode cX9_edgeDepth 53 = .ok (.iconst 2, 1) := by decide +kernel
theorem dX9_edgeDepth_54 : decode cX9_edgeDepth 54 = .ok (.idiv, 1) := by decide +kernel
theorem dX9_edgeDepth_55 : decode cX9_edgeDepth 55 = .ok (.iadd, 1) := by decide +kernel
theorem dX9_edgeDepth_56 : decode cX9_edgeDepth 56 = .ok (.istore_n 3, 1) := by decide +kernel
theorem dX9_edgeDepth_57 : decode cX9_edgeDepth 57 = .ok (.iload_n 3, 1) := by decide +kernel
theorem dX9_edgeDepth_58 : decode cX9_edgeDepth 58 = .ok (.ifCond .ge 7, 3) := by decide +kernel
theorem dX9_edgeDepth_61 : decode cX9_edgeDepth 61 = .ok (.iconst 0, 1) := by decide +kernel
theorem dX9_edgeDepth_62 : decode cX9_edgeDepth 62 = .ok (.goto 4, 3) := by decide +kernel
theorem dX9_edgeDepth_65 : decode cX9_edgeDepth 65 = .ok (.iload_n 3, 1) := by decide +kernel
theorem dX9_edgeDepth_66 : decode cX9_edgeDepth 66 = .ok (.ireturn, 1) := by decide +kernel
theorem dX9_support_0 : decode cX9_support 0 = .ok (.aload_n 0, 1) := by decide +kernel
theorem dX9_support_1 : decode cX9_support 1 = .ok (.iload_n 1, 1) := by decide +kernel
theorem dX9_support_2 : decode cX9_support 2 = .ok (.invokevirtual 70, 3) := by decide +kernel
theorem dX9_support_5 : decode cX9_support 5 = .ok (.istore_n 2, 1) := by decide +kernel
theorem dX9_support_6 : decode cX9_support 6 = .ok (.iload_n 2, 1) := by decide +kernel
theorem dX9_support_7 : decode cX9_support 7 = .ok (.aload_n 0, 1) := by decide +kernel
theorem dX9_support_8 : decode cX9_support 8 = .ok (.getfield 7, 3) := by decide +kernel
theorem dX9_support_11 : decode cX9_support 11 = .ok (.bipush 117, 2) := by decide +kernel
theorem dX9_support_13 : decode cX9_support 13 = .ok (.aload_n 0, 1) := by decide +kernel
theorem dX9_support_14 : decode cX9_support 14 = .ok (.iload_n 1, 1) := by decide +kernel
theorem dX9_support_15 : decode cX9_support 15 = .ok (.invokevirtual 73, 3) := by decide +kernel
theorem dX9_support_18 : decode cX9_support 18 = .ok (.iadd, 1) := by decide +kernel
theorem dX9_support_19 : decode cX9_support 19 = .ok (.iaload, 1) := by decide +kernel
theorem dX9_support_20 : decode cX9_support 20 = .ok (.isub, 1) := by decide +kernel
theorem dX9_support_21 : decode cX9_support 21 = .ok (.iconst 2, 1) := by decide +kernel
theorem dX9_support_22 : decode cX9_support 22 = .ok (.iadd, 1) := by decide +kernel
theorem dX9_support_23 : decode cX9_support 23 = .ok (.istore_n 3, 1) := by decide +kernel
theorem dX9_support_24 : decode cX9_support 24 = .ok (.aload_n 0, 1) := by decide +kernel
theorem dX9_support_25 : decode cX9_support 25 = .ok (.iload_n 2, 1) := by decide +kernel
theorem dX9_support_26 : decode cX9_support 26 = .ok (.iconst 0, 1) := by decide +kernel
theorem dX9_support_27 : decode cX9_support 27 = .ok (.invokevirtual 76, 3) := by decide +kernel
theorem dX9_support_30 : decode cX9_support 30 = .ok (.iload_n 3, 1) := by decide +kernel
theorem dX9_support_31 : decode cX9_support 31 = .ok (.ifCond .ge 7, 3) := by decide +kernel
theorem dX9_support_34 : decode cX9_support 34 = .ok (.iconst 0, 1) := by decide +kernel
theorem dX9_support_35 : decode cX9_support 35 = .ok (.goto 13, 3) := by decide +kernel
theorem dX9_support_38 : decode cX9_support 38 = .ok (.iload_n 3, 1) := by decide +kernel
theorem dX9_support_39 : decode cX9_support 39 = .ok (.iconst 4, 1) := by decide +kernel
theorem dX9_support_40 : decode cX9_support 40 = .ok (.if_icmp .le 7, 3) := by decide +kernel
theorem dX9_support_43 : decode cX9_support 43 = .ok (.iconst 4, 1) := by decide +kernel
theorem dX9_support_44 : decode cX9_support 44 = .ok (.goto 4, 3) := by decide +kernel
theorem dX9_support_47 : decode cX9_support 47 = .ok (.iload_n 3, 1) := by decide +kernel
theorem dX9_support_48 : decode cX9_support 48 = .ok (.imul, 1) := by decide +kernel
theorem dX9_support_49 : decode cX9_support 49 = .ok (.istore 4, 2) := by decide +kernel
theorem dX9_support_51 : decode cX9_support 51 = .ok (.iconst 0, 1) := by decide +kernel
theorem dX9_support_52 : decode cX9_support 52 = .ok (.istore 5, 2) := by decide +kernel
theorem dX9_support_54 : decode cX9_support 54 = .ok (.iload 5, 2) := by decide +kernel
theorem dX9_support_56 : decode cX9_support 56 = .ok (.aload_n 0, 1) := by decide +kernel
theorem dX9_support_57 : decode cX9_support 57 = .ok (.getfield 7, 3) := by decide +kernel
theorem dX9_support_60 : decode cX9_support 60 = .ok (.bipush 33, 2) := by decide +kernel
theorem dX9_support_62 : decode cX9_support 62 = .ok (.iaload, 1) := by decide +kernel
theorem dX9_support_63 : decode cX9_support 63 = .ok (.if_icmp .ge 68, 3) := by decide +kernel
theorem dX9_support_66 : decode cX9_support 66 = .ok (.iload 4, 2) := by decide +kernel
theorem dX9_support_68 : decode cX9_support 68 = .ok (.aload_n 0, 1) := by decide +kernel
theorem dX9_support_69 : decode cX9_support 69 = .ok (.getfield 7, 3) := by decide +kernel
theorem dX9_support_72 : decode cX9_support 72 = .ok (.bipush 34, 2) := by decide +kernel
theorem dX9_support_74 : decode cX9_support 74 = .ok (.iconst 3, 1) := by decide +kernel
theorem dX9_support_75 : decode cX9_support 75 = .ok (.iload 5, 2) := by decide +kernel
theorem dX9_support_77 : decode cX9_support 77 = .ok (.imul, 1) := by decide +kernel
theorem dX9_support_78 : decode cX9_support 78 = .ok (.iadd, 1) := by decide +kernel
theorem dX9_support_79 : decode cX9_support 79 = .ok (.iaload, 1) := by decide +kernel
theorem dX9_support_80 : decode cX9_support 80 = .ok (.iload_n 1, 1) := by decide +kernel
theorem dX9_support_81 : decode cX9_support 81 = .ok (.if_icmp .ne 40, 3) := by decide +kernel
theorem dX9_support_84 : decode cX9_support 84 = .ok (.aload_n 0, 1) := by decide +kernel
theorem dX9_support_85 : decode cX9_support 85 = .ok (.getfield 7, 3) := by decide +kernel
theorem dX9_support_88 : decode cX9_support 88 = .ok (.bipush 34, 2) := by decide +kernel
theorem dX9_support_90 : decode cX9_support 90 = .ok (.iconst 3, 1) := by decide +kernel
theorem dX9_support_91 : decode cX9_support 91 = .ok (.iload 5, 2) := by decide +kernel
theorem dX9_support_93 : decode cX9_support 93 = .ok (.imul, 1) := by decide +kernel
theorem dX9_support_94 : decode cX9_support 94 = .ok (.iadd, 1) := by decide +kernel
theorem dX9_support_95 : decode cX9_support 95 = .ok (.iconst 1, 1) := by decide +kernel
theorem dX9_support_96 : decode cX9_support 96 = .ok (.iadd, 1) := by decide +kernel
theorem dX9_support_97 : decode cX9_support 97 = .ok (.iaload, 1) := by decide +kernel
theorem dX9_support_98 : decode cX9_support 98 = .ok (.iload_n 2, 1) := by decide +kernel
theorem dX9_support_99 : decode cX9_support 99 = .ok (.if_icmp .gt 22, 3) := by decide +kernel
theorem dX9_support_102 : decode cX9_support 102 = .ok (.iconst 4, 1) := by decide +kernel
theorem dX9_support_103 : decode cX9_support 103 = .ok (.aload_n 0, 1) := by decide +kernel
theorem dX9_support_104 : decode cX9_support 104 = .ok (.getfield 7, 3) := by decide +kernel
theorem dX9_support_107 : decode cX9_support 107 = .ok (.bipush 34, 2) := by decide +kernel
theorem dX9_support_109 : decode cX9_support 109 = .ok (.iconst 3, 1) := by decide +kernel
theorem dX9_support_110 : decode cX9_support 110 = .ok (.iload 5, 2) := by decide +kernel
theorem dX9_support_112 : decode cX9_support 112 = .ok (.imul, 1) := by decide +kernel
theorem dX9_support_113 : decode cX9_support 113 = .ok (.iadd, 1) := by decide +kernel
theorem dX9_support_114 : decode cX9_support 114 = .ok (.iconst 2, 1) := by decide +kernel
theorem dX9_support_115 : decode cX9_support 115 = .ok (.iadd, 1) := by decide +kernel
theorem dX9_support_116 : decode cX9_support 116 = .ok (.iaload, 1) := by decide +kernel
theorem dX9_support_117 : decode cX9_support 117 = .ok (.imul, 1) := by decide +kernel
theorem dX9_support_118 : decode cX9_support 118 = .ok (.goto 4, 3) := by decide +kernel
theorem dX9_support_121 : decode cX9_support 121 = .ok (.iconst 0, 1) := by decide +kernel
theorem dX9_support_122 : decode cX9_support 122 = .ok (.iadd, 1) := by decide +kernel
theorem dX9_support_123 : decode cX9_support 123 = .ok (.istore 4, 2) := by decide +kernel
theorem dX9_support_125 : decode cX9_support 125 = .ok (.iinc 5 1, 3) := by decide +kernel
theorem dX9_support_128 : decode cX9_support 128 = .ok (.goto (-74), 3) := by decide +kernel
theorem dX9_support_131 : decode cX9_support 131 = .ok (.iload 4, 2) := by decide +kernel
theorem dX9_support_133 : decode cX9_support 133 = .ok (.ireturn, 1) := by decide +kernel
theorem dX9_skin_0 : decode cX9_skin 0 = .ok (.iconst 4, 1) := by decide +kernel
theorem dX9_skin_1 : decode cX9_skin 1 = .ok (.istore_n 3, 1) := by decide +kernel
theorem dX9_skin_2 : decode cX9_skin 2 = .ok (.iconst 0, 1) := by decide +kernel
theorem dX9_skin_3 : decode cX9_skin 3 = .ok (.istore 4, 2) := by decide +kernel
theorem dX9_skin_5 : decode cX9_skin 5 = .ok (.iload 4, 2) := by decide +kernel
theorem dX9_skin_7 : decode cX9_skin 7 = .ok (.iconst 4, 1) := by decide +kernel
theorem dX9_skin_8 : decode cX9_skin 8 = .ok (.if_icmp .ge 39, 3) := by decide +kernel
theorem dX9_skin_11 : decode cX9_skin 11 = .ok (.aload_n 0, 1) := by decide +kernel
theorem dX9_skin_12 : decode cX9_skin 12 = .ok (.iload_n 1, 1) := by decide +kernel
theorem dX9_skin_13 : decode cX9_skin 13 = .ok (.iload 4, 2) := by decide +kernel
theorem dX9_skin_15 : decode cX9_skin 15 = .ok (.invokevirtual 53, 3) := by decide +kernel
theorem dX9_skin_18 : decode cX9_skin 18 = .ok (.ifCond .eq 21, 3) := by decide +kernel
theorem dX9_skin_21 : decode cX9_skin 21 = .ok (.aload_n 0, 1) := by decide +kernel
theorem dX9_skin_22 : decode cX9_skin 22 = .ok (.getfield 7, 3) := by decide +kernel
theorem dX9_skin_25 : decode cX9_skin 25 = .ok (.bipush 64, 2) := by decide +kernel
theorem dX9_skin_27 : decode cX9_skin 27 = .ok (.iload 4, 2) := by decide +kernel
theorem dX9_skin_29 : decode cX9_skin 29 = .ok (.iadd, 1) := by decide +kernel
theorem dX9_skin_30 : decode cX9_skin 30 = .ok (.iaload, 1) := by decide +kernel
theorem dX9_skin_31 : decode cX9_skin 31 = .ok (.iconst 1, 1) := by decide +kernel
theorem dX9_skin_32 : decode cX9_skin 32 = .ok (.if_icmp .ne 7, 3) := by decide +kernel
theorem dX9_skin_35 : decode cX9_skin 35 = .ok (.iconst 1, 1) := by decide +kernel
theorem dX9_skin_36 : decode cX9_skin 36 = .ok (.goto 4, 3) := by decide +kernel
theorem dX9_skin_39 : decode cX9_skin 39 = .ok (.iload_n 3, 1) := by decide +kernel
theorem dX9_skin_40 : decode cX9_skin 40 = .ok (.istore_n 3, 1) := by decide +kernel
theorem dX9_skin_41 : decode cX9_skin 41 = .ok (.iinc 4 1, 3) := by decide +kernel
theorem dX9_skin_44 : decode cX9_skin 44 = .ok (.goto (-39), 3) := by decide +kernel
theorem dX9_skin_47 : decode cX9_skin 47 = .ok (.iload_n 3, 1) := by decide +kernel
theorem dX9_skin_48 : decode cX9_skin 48 = .ok (.aload_n 0, 1) := by decide +kernel
theorem dX9_skin_49 : decode cX9_skin 49 = .ok (.iload_n 2, 1) := by decide +kernel
theorem dX9_skin_50 : decode cX9_skin 50 = .ok (.invokevirtual 79, 3) := by decide +kernel
theorem dX9_skin_53 : decode cX9_skin 53 = .ok (.imul, 1) := by decide +kernel
theorem dX9_skin_54 : decode cX9_skin 54 = .ok (.ireturn, 1) := by decide +kernel
theorem dX9_buoyancy_0 : decode cX9_buoyancy 0 = .ok (.iload_n 1, 1) := by decide +kernel
theorem dX9_buoyancy_1 : decode cX9_buoyancy 1 = .ok (.aload_n 0, 1) := by decide +kernel
theorem dX9_buoyancy_2 : decode cX9_buoyancy 2 = .ok (.getfield 7, 3) := by decide +kernel
theorem dX9_buoyancy_5 : decode cX9_buoyancy 5 = .ok (.bipush 6, 2) := by decide +kernel
theorem dX9_buoyancy_7 : decode cX9_buoyancy 7 = .ok (.iaload, 1) := by decide +kernel
theorem dX9_buoyancy_8 : decode cX9_buoyancy 8 = .ok (.if_icmp .le 15, 3) := by decide +kernel
theorem dX9_buoyancy_11 : decode cX9_buoyancy 11 = .ok (.iload_n 1, 1) := by decide +kernel
theorem dX9_buoyancy_12 : decode cX9_buoyancy 12 = .ok (.aload_n 0, 1) := by decide +kernel
theorem dX9_buoyancy_13 : decode cX9_buoyancy 13 = .ok (.getfield 7, 3) := by decide +kernel
theorem dX9_buoyancy_16 : decode cX9_buoyancy 16 = .ok (.bipush 6, 2) := by decide +kernel
theorem dX9_buoyancy_18 : decode cX9_buoyancy 18 = .ok (.iaload, 1) := by decide +kernel
theorem dX9_buoyancy_19 : decode cX9_buoyancy 19 = .ok (.isub, 1) := by decide +kernel
theorem dX9_buoyancy_20 : decode cX9_buoyancy 20 = .ok (.goto 4, 3) := by decide +kernel
theorem dX9_buoyancy_23 : decode cX9_buoyancy 23 = .ok (.iconst 0, 1) := by decide +kernel
theorem dX9_buoyancy_24 : decode cX9_buoyancy 24 = .ok (.ireturn, 1) := by decide +kernel
theorem dX9_resistance_0 : decode cX9_resistance 0 = .ok (.aload_n 0, 1) := by decide +kernel
theorem dX9_resistance_1 : decode cX9_resistance 1 = .ok (.iload_n 1, 1) := by decide +kernel
theorem dX9_resistance_2 : decode cX9_resistance 2 = .ok (.invokevirtual 70, 3) := by decide +kernel
theorem dX9_resistance_5 : decode cX9_resistance 5 = .ok (.istore_n 2, 1) := by decide +kernel
theorem dX9_resistance_6 : decode cX9_resistance 6 = .ok (.aload_n 0, 1) := by decide +kernel
theorem dX9_resistance_7 : decode cX9_resistance 7 = .ok (.iload_n 1, 1) := by decide +kernel
theorem dX9_resistance_8 : decode cX9_resistance 8 = .ok (.invokevirtual 82, 3) := by decide +kernel
theorem dX9_resistance_11 : decode cX9_resistance 11 = .ok (.aload_n 0, 1) := by decide +kernel
theorem dX9_resistance_12 : decode cX9_resistance 12 = .ok (.iload_n 1, 1) := by decide +kernel
theorem dX9_resistance_13 : decode cX9_resistance 13 = .ok (.iload_n 2, 1) := by decide +kernel
theorem dX9_resistance_14 : decode cX9_resistance 14 = .ok (.invokevirtual 85, 3) := by decide +kernel
theorem dX9_resistance_17 : decode cX9_resistance 17 = .ok (.iadd, 1) := by decide +kernel
theorem dX9_resistance_18 : decode cX9_resistance 18 = .ok (.aload_n 0, 1) := by decide +kernel
theorem dX9_resistance_19 : decode cX9_resistance 19 = .ok (.iload_n 2, 1) := by decide +kernel
theorem dX9_resistance_20 : decode cX9_resistance 20 = .ok (.invokevirtual 88, 3) := by decide +kernel
theorem dX9_resistance_23 : decode cX9_resistance 23 = .ok (.iadd, 1) := by decide +kernel
theorem dX9_resistance_24 : decode cX9_resistance 24 = .ok (.ireturn, 1) := by decide +kernel
theorem dX9_cells_0 : decode cX9_cells 0 = .ok (.aload_n 0, 1) := by decide +kernel
theorem dX9_cells_1 : decode cX9_cells 1 = .ok (.getfield 7, 3) := by decide +kernel
theorem dX9_cells_4 : decode cX9_cells 4 = .ok (.iconst 0, 1) := by decide +kernel
theorem dX9_cells_5 : decode cX9_cells 5 = .ok (.iaload, 1) := by decide +kernel
theorem dX9_cells_6 : decode cX9_cells 6 = .ok (.aload_n 0, 1) := by decide +kernel
theorem dX9_cells_7 : decode cX9_cells 7 = .ok (.getfield 7, 3) := by decide +kernel
theorem dX9_cells_10 : decode cX9_cells 10 = .ok (.iconst 1, 1) := by decide +kernel
theorem dX9_cells_11 : decode cX9_cells 11 = .ok (.iaload, 1) := by decide +kernel
theorem dX9_cells_12 : decode cX9_cells 12 = .ok (.imul, 1) := by decide +kernel
theorem dX9_cells_13 : decode cX9_cells 13 = .ok (.ireturn, 1) := by decide +kernel
theorem dX9_over_0 : decode cX9_over 0 = .ok (.aload_n 0, 1) := by decide +kernel
theorem dX9_over_1 : decode cX9_over 1 = .ok (.invokevirtual 91, 3) := by decide +kernel
theorem dX9_over_4 : decode cX9_over 4 = .ok (.istore_n 1, 1) := by decide +kernel
theorem dX9_over_5 : decode cX9_over 5 = .ok (.iconst 0, 1) := by decide +kernel
theorem dX9_over_6 : decode cX9_over 6 = .ok (.istore_n 2, 1) := by decide +kernel
theorem dX9_over_7 : decode cX9_over 7 = .ok (.iload_n 2, 1) := by decide +kernel
theorem dX9_over_8 : decode cX9_over 8 = .ok (.aload_n 0, 1) := by decide +kernel
theorem dX9_over_9 : decode cX9_over 9 = .ok (.invokevirtual 95, 3) := by decide +kernel
theorem dX9_over_12 : decode cX9_over 12 = .ok (.if_icmp .ge 29, 3) := by decide +kernel
theorem dX9_over_15 : decode cX9_over 15 = .ok (.iload_n 1, 1) := by decide +kernel
theorem dX9_over_16 : decode cX9_over 16 = .ok (.aload_n 0, 1) := by decide +kernel
theorem dX9_over_17 : decode cX9_over 17 = .ok (.iload_n 2, 1) := by decide +kernel
theorem dX9_over_18 : decode cX9_over 18 = .ok (.invokevirtual 57, 3) := by decide +kernel
theorem dX9_over_21 : decode cX9_over 21 = .ok (.ifCond .eq 11, 3) := by decide +kernel
theorem dX9_over_24 : decode cX9_over 24 = .ok (.aload_n 0, 1) := by decide +kernel
theorem dX9_over_25 : decode cX9_over 25 = .ok (.iload_n 2, 1) := by decide +kernel
theorem dX9_over_26 : decode cX9_over 26 = .ok (.invokevirtual 98, 3) := by decide +kernel
theorem dX9_over_29 : decode cX9_over 29 = .ok (.goto 4, 3) := by decide +kernel
theorem dX9_over_32 : decode cX9_over 32 = .ok (.iconst 0, 1) := by decide +kernel
theorem dX9_over_33 : decode cX9_over 33 = .ok (.isub, 1) := by decide +kernel
theorem dX9_over_34 : decode cX9_over 34 = .ok (.istore_n 1, 1) := by decide +kernel
theorem dX9_over_35 : decode cX9_over 35 = .ok (.iinc 2 1, 3) := by decide +kernel
theorem dX9_over_38 : decode cX9_over 38 = .ok (.goto (-31), 3) := by decide +kernel
theorem dX9_over_41 : decode cX9_over 41 = .ok (.iload_n 1, 1) := by decide +kernel
theorem dX9_over_42 : decode cX9_over 42 = .ok (.ireturn, 1) := by decide +kernel
theorem dX9_momentOf_0 : decode cX9_momentOf 0 = .ok (.iconst 0, 1) := by decide +kernel
theorem dX9_momentOf_1 : decode cX9_momentOf 1 = .ok (.istore_n 2, 1) := by decide +kernel
theorem dX9_momentOf_2 : decode cX9_momentOf 2 = .ok (.iconst 0, 1) := by decide +kernel
theorem dX9_momentOf_3 : decode cX9_momentOf 3 = .ok (.istore_n 3, 1) := by decide +kernel
theorem dX9_momentOf_4 : decode cX9_momentOf 4 = .ok (.iload_n 3, 1) := by decide +kernel
theorem dX9_momentOf_5 : decode cX9_momentOf 5 = .ok (.aload_n 0, 1) := by decide +kernel
theorem dX9_momentOf_6 : decode cX9_momentOf 6 = .ok (.invokevirtual 95, 3) := by decide +kernel
theorem dX9_momentOf_9 : decode cX9_momentOf 9 = .ok (.if_icmp .ge 48, 3) := by decide +kernel
theorem dX9_momentOf_12 : decode cX9_momentOf 12 = .ok (.iload_n 2, 1) := by decide +kernel
theorem dX9_momentOf_13 : decode cX9_momentOf 13 = .ok (.aload_n 0, 1) := by decide +kernel
theorem dX9_momentOf_14 : decode cX9_momentOf 14 = .ok (.iload_n 3, 1) := by decide +kernel
theorem dX9_momentOf_15 : decode cX9_momentOf 15 = .ok (.iload_n 1, 1) := by decide +kernel
theorem dX9_momentOf_16 : decode cX9_momentOf 16 = .ok (.invokevirtual 67, 3) := by decide +kernel
theorem dX9_momentOf_19 : decode cX9_momentOf 19 = .ok (.aload_n 0, 1) := by decide +kernel
theorem dX9_momentOf_20 : decode cX9_momentOf 20 = .ok (.iload_n 3, 1) := by decide +kernel
theorem dX9_momentOf_21 : decode cX9_momentOf 21 = .ok (.invokevirtual 57, 3) := by decide +kernel
theorem dX9_momentOf_24 : decode cX9_momentOf 24 = .ok (.ifCond .eq 11, 3) := by decide +kernel
theorem dX9_momentOf_27 : decode cX9_momentOf 27 = .ok (.aload_n 0, 1) := by decide +kernel
theorem dX9_momentOf_28 : decode cX9_momentOf 28 = .ok (.iload_n 3, 1) := by decide +kernel
theorem dX9_momentOf_29 : decode cX9_momentOf 29 = .ok (.invokevirtual 98, 3) := by decide +kernel
theorem dX9_momentOf_32 : decode cX9_momentOf 32 = .ok (.goto 4, 3) := by decide +kernel
theorem dX9_momentOf_35 : decode cX9_momentOf 35 = .ok (.iconst 0, 1) := by decide +kernel
theorem dX9_momentOf_36 : decode cX9_momentOf 36 = .ok (.iconst 4, 1) := by decide +kernel
theorem dX9_momentOf_37 : decode cX9_momentOf 37 = .ok (.aload_n 0, 1) := by decide +kernel
theorem dX9_momentOf_38 : decode cX9_momentOf 38 = .ok (.getfield 7, 3) := by decide +kernel
theorem dX9_momentOf_41 : decode cX9_momentOf 41 = .ok (.bipush 68, 2) := by decide +kernel
theorem dX9_momentOf_43 : decode cX9_momentOf 43 = .ok (.iload_n 3, 1) := by decide +kernel
theorem dX9_momentOf_44 : decode cX9_momentOf 44 = .ok (.iadd, 1) := by decide +kernel
theorem dX9_momentOf_45 : decode cX9_momentOf 45 = .ok (.iaload, 1) := by decide +kernel
theorem dX9_momentOf_46 : decode cX9_momentOf 46 = .ok (.imul, 1) := by decide +kernel
theorem dX9_momentOf_47 : decode cX9_momentOf 47 = .ok (.isub, 1) := by decide +kernel
theorem dX9_momentOf_48 : decode cX9_momentOf 48 = .ok (.imul, 1) := by decide +kernel
theorem dX9_momentOf_49 : decode cX9_momentOf 49 = .ok (.iadd, 1) := by decide +kernel
theorem dX9_momentOf_50 : decode cX9_momentOf 50 = .ok (.istore_n 2, 1) := by decide +kernel
theorem dX9_momentOf_51 : decode cX9_momentOf 51 = .ok (.iinc 3 1, 3) := by decide +kernel
theorem dX9_momentOf_54 : decode cX9_momentOf 54 = .ok (.goto (-50), 3) := by decide +kernel
theorem dX9_momentOf_57 : decode cX9_momentOf 57 = .ok (.iload_n 2, 1) := by decide +kernel
theorem dX9_momentOf_58 : decode cX9_momentOf 58 = .ok (.ireturn, 1) := by decide +kernel
theorem dX9_turn_0 : decode cX9_turn 0 = .ok (.aload_n 0, 1) := by decide +kernel
theorem dX9_turn_1 : decode cX9_turn 1 = .ok (.iload_n 1, 1) := by decide +kernel
theorem dX9_turn_2 : decode cX9_turn 2 = .ok (.invokevirtual 101, 3) := by decide +kernel
theorem dX9_turn_5 : decode cX9_turn 5 = .ok (.istore_n 2, 1) := by decide +kernel
theorem dX9_turn_6 : decode cX9_turn 6 = .ok (.iload_n 2, 1) := by decide +kernel
theorem dX9_turn_7 : decode cX9_turn 7 = .ok (.aload_n 0, 1) := by decide +kernel
theorem dX9_turn_8 : decode cX9_turn 8 = .ok (.getfield 7, 3) := by decide +kernel
theorem dX9_turn_11 : decode cX9_turn 11 = .ok (.bipush 7, 2) := by decide +kernel
theorem dX9_turn_13 : decode cX9_turn 13 = .ok (.iaload, 1) := by decide +kernel
theorem dX9_turn_14 : decode cX9_turn 14 = .ok (.if_icmp .le 7, 3) := by decide +kernel
theorem dX9_turn_17 : decode cX9_turn 17 = .ok (.iconst (-1), 1) := by decide +kernel
theorem dX9_turn_18 : decode cX9_turn 18 = .ok (.goto 20, 3) := by decide +kernel
theorem dX9_turn_21 : decode cX9_turn 21 = .ok (.iload_n 2, 1) := by decide +kernel
theorem dX9_turn_22 : decode cX9_turn 22 = .ok (.aload_n 0, 1) := by decide +kernel
theorem dX9_turn_23 : decode cX9_turn 23 = .ok (.getfield 7, 3) := by decide +kernel
theorem dX9_turn_26 : decode cX9_turn 26 = .ok (.bipush 7, 2) := by decide +kernel
theorem dX9_turn_28 : decode cX9_turn 28 = .ok (.iaload, 1) := by decide +kernel
theorem dX9_turn_29 : decode cX9_turn 29 = .ok (.ineg, 1) := by decide +kernel
theorem dX9_turn_30 : decode cX9_turn 30 = .ok (.if_icmp .ge 7, 3) := by decide +kernel
theorem dX9_turn_33 : decode cX9_turn 33 = .ok (.iconst 1, 1) := by decide +kernel
theorem dX9_turn_34 : decode cX9_turn 34 = .ok (.goto 4, 3) := by decide +kernel
theorem dX9_turn_37 : decode cX9_turn 37 = .ok (.iconst 0, 1) := by decide +kernel
theorem dX9_turn_38 : decode cX9_turn 38 = .ok (.ireturn, 1) := by decide +kernel
theorem dX9_next_0 : decode cX9_next 0 = .ok (.aload_n 0, 1) := by decide +kernel
theorem dX9_next_1 : decode cX9_next 1 = .ok (.getfield 7, 3) := by decide +kernel
theorem dX9_next_4 : decode cX9_next 4 = .ok (.iconst 2, 1) := by decide +kernel
theorem dX9_next_5 : decode cX9_next 5 = .ok (.iaload, 1) := by decide +kernel
theorem dX9_next_6 : decode cX9_next 6 = .ok (.sipush 200, 3) := by decide +kernel
theorem dX9_next_9 : decode cX9_next 9 = .ok (.if_icmp .eq 10, 3) := by decide +kernel
theorem dX9_next_12 : decode cX9_next 12 = .ok (.aload_n 0, 1) := by decide +kernel
theorem dX9_next_13 : decode cX9_next 13 = .ok (.invokevirtual 104, 3) := by decide +kernel
theorem dX9_next_16 : decode cX9_next 16 = .ok (.ifCond .gt 5, 3) := by decide +kernel
theorem dX9_next_19 : decode cX9_next 19 = .ok (.iconst 0, 1) := by decide +kernel
theorem dX9_next_20 : decode cX9_next 20 = .ok (.ireturn, 1) := by decide +kernel
theorem dX9_next_21 : decode cX9_next 21 = .ok (.aload_n 0, 1) := by decide +kernel
theorem dX9_next_22 : decode cX9_next 22 = .ok (.getfield 7, 3) := by decide +kernel
theorem dX9_next_25 : decode cX9_next 25 = .ok (.iconst 3, 1) := by decide +kernel
theorem dX9_next_26 : decode cX9_next 26 = .ok (.iaload, 1) := by decide +kernel
theorem dX9_next_27 : decode cX9_next 27 = .ok (.aload_n 0, 1) := by decide +kernel
theorem dX9_next_28 : decode cX9_next 28 = .ok (.iconst 0, 1) := by decide +kernel
theorem dX9_next_29 : decode cX9_next 29 = .ok (.invokevirtual 107, 3) := by decide +kernel
theorem dX9_next_32 : decode cX9_next 32 = .ok (.iadd, 1) := by decide +kernel
theorem dX9_next_33 : decode cX9_next 33 = .ok (.invokestatic 110, 3) := by decide +kernel
theorem dX9_next_36 : decode cX9_next 36 = .ok (.iconst 5, 1) := by decide +kernel
theorem dX9_next_37 : decode cX9_next 37 = .ok (.if_icmp .gt 22, 3) := by decide +kernel
theorem dX9_next_40 : decode cX9_next 40 = .ok (.aload_n 0, 1) := by decide +kernel
theorem dX9_next_41 : decode cX9_next 41 = .ok (.getfield 7, 3) := by decide +kernel
theorem dX9_next_44 : decode cX9_next 44 = .ok (.iconst 4, 1) := by decide +kernel
theorem dX9_next_45 : decode cX9_next 45 = .ok (.iaload, 1) := by decide +kernel
theorem dX9_next_46 : decode cX9_next 46 = .ok (.aload_n 0, 1) := by decide +kernel
theorem dX9_next_47 : decode cX9_next 47 = .ok (.iconst 1, 1) := by decide +kernel
theorem dX9_next_48 : decode cX9_next 48 = .ok (.invokevirtual 107, 3) := by decide +kernel
theorem dX9_next_51 : decode cX9_next 51 = .ok (.iadd, 1) := by decide +kernel
theorem dX9_next_52 : decode cX9_next 52 = .ok (.invokestatic 110, 3) := by decide +kernel
theorem dX9_next_55 : decode cX9_next 55 = .ok (.iconst 5, 1) := by decide +kernel
theorem dX9_next_56 : decode cX9_next 56 = .ok (.if_icmp .le 7, 3) := by decide +kernel
theorem dX9_next_59 : decode cX9_next 59 = .ok (.iconst 2, 1) := by decide +kernel
theorem dX9_next_60 : decode cX9_next 60 = .ok (.goto 4, 3) := by decide +kernel
theorem dX9_next_63 : decode cX9_next 63 = .ok (.iconst 1, 1) := by decide +kernel
theorem dX9_next_64 : decode cX9_next 64 = .ok (.ireturn, 1) := by decide +kernel
theorem dX9_settles_0 : decode cX9_settles 0 = .ok (.iconst 0, 1) := by decide +kernel
theorem dX9_settles_1 : decode cX9_settles 1 = .ok (.istore_n 2, 1) := by decide +kernel
theorem dX9_settles_2 : decode cX9_settles 2 = .ok (.iload_n 2, 1) := by decide +kernel
theorem dX9_settles_3 : decode cX9_settles 3 = .ok (.iload_n 1, 1) := by decide +kernel
theorem dX9_settles_4 : decode cX9_settles 4 = .ok (.if_icmp .ge 61, 3) := by decide +kernel
theorem dX9_settles_7 : decode cX9_settles 7 = .ok (.aload_n 0, 1) := by decide +kernel
theorem dX9_settles_8 : decode cX9_settles 8 = .ok (.invokevirtual 113, 3) := by decide +kernel
theorem dX9_settles_11 : decode cX9_settles 11 = .ok (.iconst 1, 1) := by decide +kernel
theorem dX9_settles_12 : decode cX9_settles 12 = .ok (.if_icmp .ne 53, 3) := by decide +kernel
theorem dX9_settles_15 : decode cX9_settles 15 = .ok (.aload_n 0, 1) := by decide +kernel
theorem dX9_settles_16 : decode cX9_settles 16 = .ok (.iconst 0, 1) := by decide +kernel
theorem dX9_settles_17 : decode cX9_settles 17 = .ok (.invokevirtual 107, 3) := by decide +kernel
theorem dX9_settles_20 : decode cX9_settles 20 = .ok (.istore_n 3, 1) := by decide +kernel
theorem dX9_settles_21 : decode cX9_settles 21 = .ok (.aload_n 0, 1) := by decide +kernel
theorem dX9_settles_22 : decode cX9_settles 22 = .ok (.iconst 1, 1) := by decide +kernel
theorem dX9_settles_23 : decode cX9_settles 23 = .ok (.invokevirtual 107, 3) := by decide +kernel
theorem dX9_settles_26 : decode cX9_settles 26 = .ok (.istore 4, 2) := by decide +kernel
theorem dX9_settles_28 : decode cX9_settles 28 = .ok (.aload_n 0, 1) := by decide +kernel
theorem dX9_settles_29 : decode cX9_settles 29 = .ok (.getfield 7, 3) := by decide +kernel
theorem dX9_settles_32 : decode cX9_settles 32 = .ok (.iconst 3, 1) := by decide +kernel
theorem dX9_settles_33 : decode cX9_settles 33 = .ok (.dup2, 1) := by decide +kernel
theorem dX9_settles_34 : decode cX9_settles 34 = .ok (.iaload, 1) := by decide +kernel
theorem dX9_settles_35 : decode cX9_settles 35 = .ok (.iload_n 3, 1) := by decide +kernel
theorem dX9_settles_36 : decode cX9_settles 36 = .ok (.iadd, 1) := by decide +kernel
theorem dX9_settles_37 : decode cX9_settles 37 = .ok (.iastore, 1) := by decide +kernel
theorem dX9_settles_38 : decode cX9_settles 38 = .ok (.aload_n 0, 1) := by decide +kernel
theorem dX9_settles_39 : decode cX9_settles 39 = .ok (.getfield 7, 3) := by decide +kernel
theorem dX9_settles_42 : decode cX9_settles 42 = .ok (.iconst 4, 1) := by decide +kernel
theorem dX9_settles_43 : decode cX9_settles 43 = .ok (.dup2, 1) := by decide +kernel
theorem dX9_settles_44 : decode cX9_settles 44 = .ok (.iaload, 1) := by decide +kernel
theorem dX9_settles_45 : decode cX9_settles 45 = .ok (.iload 4, 2) := by decide +kernel
theorem dX9_settles_47 : decode cX9_settles 47 = .ok (.iadd, 1) := by decide +kernel
theorem dX9_settles_48 : decode cX9_settles 48 = .ok (.iastore, 1) := by decide +kernel
theorem dX9_settles_49 : decode cX9_settles 49 = .ok (.aload_n 0, 1) := by decide +kernel
theorem dX9_settles_50 : decode cX9_settles 50 = .ok (.getfield 7, 3) := by decide +kernel
theorem dX9_settles_53 : decode cX9_settles 53 = .ok (.iconst 2, 1) := by decide +kernel
theorem dX9_settles_54 : decode cX9_settles 54 = .ok (.dup2, 1) := by decide +kernel
theorem dX9_settles_55 : decode cX9_settles 55 = .ok (.iaload, 1) := by decide +kernel
theorem dX9_settles_56 : decode cX9_settles 56 = .ok (.iconst 1, 1) := by decide +kernel
theorem dX9_settles_57 : decode cX9_settles 57 = .ok (.iadd, 1) := by decide +kernel
theorem dX9_settles_58 : decode cX9_settles 58 = .ok (.iastore, 1) := by decide +kernel
theorem dX9_settles_59 : decode cX9_settles 59 = .ok (.iinc 2 1, 3) := by decide +kernel
theorem dX9_settles_62 : decode cX9_settles 62 = .ok (.goto (-60), 3) := by decide +kernel
theorem dX9_settles_65 : decode cX9_settles 65 = .ok (.iconst 0, 1) := by decide +kernel
theorem dX9_settles_66 : decode cX9_settles 66 = .ok (.istore_n 3, 1) := by decide +kernel
theorem dX9_settles_67 : decode cX9_settles 67 = .ok (.iload_n 3, 1) := by decide +kernel
theorem dX9_settles_68 : decode cX9_settles 68 = .ok (.aload_n 0, 1) := by decide +kernel
theorem dX9_settles_69 : decode cX9_settles 69 = .ok (.invokevirtual 95, 3) := by decide +kernel
theorem dX9_settles_72 : decode cX9_settles 72 = .ok (.if_icmp .ge 66, 3) := by decide +kernel
theorem dX9_settles_75 : decode cX9_settles 75 = .ok (.aload_n 0, 1) := by decide +kernel
theorem dX9_settles_76 : decode cX9_settles 76 = .ok (.getfield 7, 3) := by decide +kernel
theorem dX9_settles_79 : decode cX9_settles 79 = .ok (.bipush 117, 2) := by decide +kernel
theorem dX9_settles_81 : decode cX9_settles 81 = .ok (.iload_n 3, 1) := by decide +kernel
theorem dX9_settles_82 : decode cX9_settles 82 = .ok (.iadd, 1) := by decide +kernel
theorem dX9_settles_83 : decode cX9_settles 83 = .ok (.iaload, 1) := by decide +kernel
theorem dX9_settles_84 : decode cX9_settles 84 = .ok (.istore 4, 2) := by decide +kernel
theorem dX9_settles_86 : decode cX9_settles 86 = .ok (.aload_n 0, 1) := by decide +kernel
theorem dX9_settles_87 : decode cX9_settles 87 = .ok (.iload_n 3, 1) := by decide +kernel
theorem dX9_settles_88 : decode cX9_settles 88 = .ok (.invokevirtual 116, 3) := by decide +kernel
theorem dX9_settles_91 : decode cX9_settles 91 = .ok (.ifCond .eq 41, 3) := by decide +kernel
theorem dX9_settles_94 : decode cX9_settles 94 = .ok (.iload 4, 2) := by decide +kernel
theorem dX9_settles_96 : decode cX9_settles 96 = .ok (.aload_n 0, 1) := by decide +kernel
theorem dX9_settles_97 : decode cX9_settles 97 = .ok (.getfield 7, 3) := by decide +kernel
theorem dX9_settles_100 : decode cX9_settles 100 = .ok (.iconst 2, 1) := by decide +kernel
theorem dX9_settles_101 : decode cX9_settles 101 = .ok (.iaload, 1) := by decide +kernel
theorem dX9_settles_102 : decode cX9_settles 102 = .ok (.isub, 1) := by decide +kernel
theorem dX9_settles_103 : decode cX9_settles 103 = .ok (.iconst 4, 1) := by decide +kernel
theorem dX9_settles_104 : decode cX9_settles 104 = .ok (.aload_n 0, 1) := by decide +kernel
theorem dX9_settles_105 : decode cX9_settles 105 = .ok (.iload 4, 2) := by decide +kernel
theorem dX9_settles_107 : decode cX9_settles 107 = .ok (.iconst 0, 1) := by decide +kernel
theorem dX9_settles_108 : decode cX9_settles 108 = .ok (.invokevirtual 76, 3) := by decide +kernel
theorem dX9_settles_111 : decode cX9_settles 111 = .ok (.iconst 5, 1) := by decide +kernel
theorem dX9_settles_112 : decode cX9_settles 112 = .ok (.idiv, 1) := by decide +kernel
theorem dX9_settles_113 : decode cX9_settles 113 = .ok (.iadd, 1) := by decide +kernel
theorem dX9_settles_114 : decode cX9_settles 114 = .ok (.if_icmp .le 18, 3) := by decide +kernel
theorem dX9_settles_117 : decode cX9_settles 117 = .ok (.aload_n 0, 1) := by decide +kernel
theorem dX9_settles_118 : decode cX9_settles 118 = .ok (.getfield 7, 3) := by decide +kernel
theorem dX9_settles_121 : decode cX9_settles 121 = .ok (.bipush 117, 2) := by decide +kernel
theorem dX9_settles_123 : decode cX9_settles 123 = .ok (.iload_n 3, 1) := by decide +kernel
theorem dX9_settles_124 : decode cX9_settles 124 = .ok (.iadd, 1) := by decide +kernel
theorem dX9_settles_125 : decode cX9_settles 125 = .ok (.aload_n 0, 1) := by decide +kernel
theorem dX9_settles_126 : decode cX9_settles 126 = .ok (.getfield 7, 3) := by decide +kernel
theorem dX9_settles_129 : decode cX9_settles 129 = .ok (.iconst 2, 1) := by decide +kernel
theorem dX9_settles_130 : decode cX9_settles 130 = .ok (.iaload, 1) := by decide +kernel
theorem dX9_settles_131 : decode cX9_settles 131 = .ok (.iastore, 1) := by decide +kernel
theorem dX9_settles_132 : decode cX9_settles 132 = .ok (.iinc 3 1, 3) := by decide +kernel
theorem dX9_settles_135 : decode cX9_settles 135 = .ok (.goto (-68), 3) := by decide +kernel
theorem dX9_settles_138 : decode cX9_settles 138 = .ok (.iload_n 2, 1) := by decide +kernel
theorem dX9_settles_139 : decode cX9_settles 139 = .ok (.ireturn, 1) := by decide +kernel
theorem dX9_settlesIfLoose_0 : decode cX9_settlesIfLoose 0 = .ok (.aload_n 0, 1) := by decide +kernel
theorem dX9_settlesIfLoose_1 : decode cX9_settlesIfLoose 1 = .ok (.invokevirtual 113, 3) := by decide +kernel
theorem dX9_settlesIfLoose_4 : decode cX9_settlesIfLoose 4 = .ok (.ifCond .eq 10, 3) := by decide +kernel
theorem dX9_settlesIfLoose_7 : decode cX9_settlesIfLoose 7 = .ok (.aload_n 0, 1) := by decide +kernel
theorem dX9_settlesIfLoose_8 : decode cX9_settlesIfLoose 8 = .ok (.bipush 20, 2) := by decide +kernel
theorem dX9_settlesIfLoose_10 : decode cX9_settlesIfLoose 10 = .ok (.invokevirtual 119, 3) := by decide +kernel
theorem dX9_settlesIfLoose_13 : decode cX9_settlesIfLoose 13 = .ok (.istore_n 1, 1) := by decide +kernel
theorem dX9_settlesIfLoose_14 : decode cX9_settlesIfLoose 14 = .ok (.return_, 1) := by decide +kernel
theorem dX9_sinkable_0 : decode cX9_sinkable 0 = .ok (.aload_n 0, 1) := by decide +kernel
theorem dX9_sinkable_1 : decode cX9_sinkable 1 = .ok (.getfield 7, 3) := by decide +kernel
theorem dX9_sinkable_4 : decode cX9_sinkable 4 = .ok (.bipush 117, 2) := by decide +kernel
theorem dX9_sinkable_6 : decode cX9_sinkable 6 = .ok (.iload_n 1, 1) := by decide +kernel
theorem dX9_sinkable_7 : decode cX9_sinkable 7 = .ok (.iadd, 1) := by decide +kernel
theorem dX9_sinkable_8 : decode cX9_sinkable 8 = .ok (.iaload, 1) := by decide +kernel
theorem dX9_sinkable_9 : decode cX9_sinkable 9 = .ok (.istore_n 3, 1) := by decide +kernel
theorem dX9_sinkable_10 : decode cX9_sinkable 10 = .ok (.iload_n 3, 1) := by decide +kernel
theorem dX9_sinkable_11 : decode cX9_sinkable 11 = .ok (.iload_n 2, 1) := by decide +kernel
theorem dX9_sinkable_12 : decode cX9_sinkable 12 = .ok (.iadd, 1) := by decide +kernel
theorem dX9_sinkable_13 : decode cX9_sinkable 13 = .ok (.istore 4, 2) := by decide +kernel
theorem dX9_sinkable_15 : decode cX9_sinkable 15 = .ok (.iload 4, 2) := by decide +kernel
theorem dX9_sinkable_17 : decode cX9_sinkable 17 = .ok (.aload_n 0, 1) := by decide +kernel
theorem dX9_sinkable_18 : decode cX9_sinkable 18 = .ok (.getfield 7, 3) := by decide +kernel
theorem dX9_sinkable_21 : decode cX9_sinkable 21 = .ok (.iconst 2, 1) := by decide +kernel
theorem dX9_sinkable_22 : decode cX9_sinkable 22 = .ok (.iaload, 1) := by decide +kernel
theorem dX9_sinkable_23 : decode cX9_sinkable 23 = .ok (.bipush 12, 2) := by decide +kernel
theorem dX9_sinkable_25 : decode cX9_sinkable 25 = .ok (.iadd, 1) := by decide +kernel
theorem dX9_sinkable_26 : decode cX9_sinkable 26 = .ok (.if_icmp .le 15, 3) := by decide +kernel
theorem dX9_sinkable_29 : decode cX9_sinkable 29 = .ok (.aload_n 0, 1) := by decide +kernel
theorem dX9_sinkable_30 : decode cX9_sinkable 30 = .ok (.getfield 7, 3) := by decide +kernel
theorem dX9_sinkable_33 : decode cX9_sinkable 33 = .ok (.iconst 2, 1) := by decide +kernel
theorem dX9_sinkable_34 : decode cX9_sinkable 34 = .ok (.iaload, 1) := by decide +kernel
theorem dX9_sinkable_35 : decode cX9_sinkable 35 = .ok (.bipush 12, 2) := by decide +kernel
theorem dX9_sinkable_37 : decode cX9_sinkable 37 = .ok (.iadd, 1) := by decide +kernel
theorem dX9_sinkable_38 : decode cX9_sinkable 38 = .ok (.goto 5, 3) := by decide +kernel
theorem dX9_sinkable_41 : decode cX9_sinkable 41 = .ok (.iload 4, 2) := by decide +kernel
theorem dX9_sinkable_43 : decode cX9_sinkable 43 = .ok (.istore 4, 2) := by decide +kernel
theorem dX9_sinkable_45 : decode cX9_sinkable 45 = .ok (.iload 4, 2) := by decide +kernel
theorem dX9_sinkable_47 : decode cX9_sinkable 47 = .ok (.sipush 220, 3) := by decide +kernel
theorem dX9_sinkable_50 : decode cX9_sinkable 50 = .ok (.if_icmp .le 9, 3) := by decide +kernel
theorem dX9_sinkable_53 : decode cX9_sinkable 53 = .ok (.sipush 220, 3) := by decide +kernel
theorem dX9_sinkable_56 : decode cX9_sinkable 56 = .ok (.goto 5, 3) := by decide +kernel
theorem dX9_sinkable_59 : decode cX9_sinkable 59 = .ok (.iload 4, 2) := by decide +kernel
theorem dX9_sinkable_61 : decode cX9_sinkable 61 = .ok (.istore 4, 2) := by decide +kernel
theorem dX9_sinkable_63 : decode cX9_sinkable 63 = .ok (.iconst 0, 1) := by decide +kernel
theorem dX9_sinkable_64 : decode cX9_sinkable 64 = .ok (.istore 5, 2) := by decide +kernel
theorem dX9_sinkable_66 : decode cX9_sinkable 66 = .ok (.iload 5, 2) := by decide +kernel
theorem dX9_sinkable_68 : decode cX9_sinkable 68 = .ok (.aload_n 0, 1) := by decide +kernel
theorem dX9_sinkable_69 : decode cX9_sinkable 69 = .ok (.getfield 7, 3) := by decide +kernel
theorem dX9_sinkable_72 : decode cX9_sinkable 72 = .ok (.bipush 33, 2) := by decide +kernel
theorem dX9_sinkable_74 : decode cX9_sinkable 74 = .ok (.iaload, 1) := by decide +kernel
theorem dX9_sinkable_75 : decode cX9_sinkable 75 = .ok (.if_icmp .ge 63, 3) := by decide +kernel
theorem dX9_sinkable_78 : decode cX9_sinkable 78 = .ok (.aload_n 0, 1) := by decide +kernel
theorem dX9_sinkable_79 : decode cX9_sinkable 79 = .ok (.getfield 7, 3) := by decide +kernel
theorem dX9_sinkable_82 : decode cX9_sinkable 82 = .ok (.bipush 34, 2) := by decide +kernel
theorem dX9_sinkable_84 : decode cX9_sinkable 84 = .ok (.iconst 3, 1) := by decide +kernel
theorem dX9_sinkable_85 : decode cX9_sinkable 85 = .ok (.iload 5, 2) := by decide +kernel
theorem dX9_sinkable_87 : decode cX9_sinkable 87 = .ok (.imul, 1) := by decide +kernel
theorem dX9_sinkable_88 : decode cX9_sinkable 88 = .ok (.iadd, 1) := by decide +kernel
theorem dX9_sinkable_89 : decode cX9_sinkable 89 = .ok (.iconst 1, 1) := by decide +kernel
theorem dX9_sinkable_90 : decode cX9_sinkable 90 = .ok (.iadd, 1) := by decide +kernel
theorem dX9_sinkable_91 : decode cX9_sinkable 91 = .ok (.iaload, 1) := by decide +kernel
theorem dX9_sinkable_92 : decode cX9_sinkable 92 = .ok (.istore 6, 2) := by decide +kernel
theorem dX9_sinkable_94 : decode cX9_sinkable 94 = .ok (.aload_n 0, 1) := by decide +kernel
theorem dX9_sinkable_95 : decode cX9_sinkable 95 = .ok (.getfield 7, 3) := by decide +kernel
theorem dX9_sinkable_98 : decode cX9_sinkable 98 = .ok (.bipush 34, 2) := by decide +kernel
theorem dX9_sinkable_100 : decode cX9_sinkable 100 = .ok (.iconst 3, 1) := by decide +kernel
theorem dX9_sinkable_101 : decode cX9_sinkable 101 = .ok (.iload 5, 2) := by decide +kernel
theorem dX9_sinkable_103 : decode cX9_sinkable 103 = .ok (.imul, 1) := by decide +kernel
theorem dX9_sinkable_104 : decode cX9_sinkable 104 = .ok (.iadd, 1) := by decide +kernel
theorem dX9_sinkable_105 : decode cX9_sinkable 105 = .ok (.iaload, 1) := by decide +kernel
theorem dX9_sinkable_106 : decode cX9_sinkable 106 = .ok (.iload_n 1, 1) := by decide +kernel
theorem dX9_sinkable_107 : decode cX9_sinkable 107 = .ok (.if_icmp .ne 21, 3) := by decide +kernel
theorem dX9_sinkable_110 : decode cX9_sinkable 110 = .ok (.iload 6, 2) := by decide +kernel
theorem dX9_sinkable_112 : decode cX9_sinkable 112 = .ok (.iload_n 3, 1) := by decide +kernel
theorem dX9_sinkable_113 : decode cX9_sinkable 113 = .ok (.if_icmp .lt 15, 3) := by decide +kernel
theorem dX9_sinkable_116 : decode cX9_sinkable 116 = .ok (.iload 6, 2) := by decide +kernel
theorem dX9_sinkable_118 : decode cX9_sinkable 118 = .ok (.iload 4, 2) := by decide +kernel
theorem dX9_sinkable_120 : decode cX9_sinkable 120 = .ok (.if_icmp .ge 8, 3) := by decide +kernel
theorem dX9_sinkable_123 : decode cX9_sinkable 123 = .ok (.iload 6, 2) := by decide +kernel
theorem dX9_sinkable_125 : decode cX9_sinkable 125 = .ok (.goto 5, 3) := by decide +kernel
theorem dX9_sinkable_128 : decode cX9_sinkable 128 = .ok (.iload 4, 2) := by decide +kernel
theorem dX9_sinkable_130 : decode cX9_sinkable 130 = .ok (.istore 4, 2) := by decide +kernel
theorem dX9_sinkable_132 : decode cX9_sinkable 132 = .ok (.iinc 5 1, 3) := by decide +kernel
theorem dX9_sinkable_135 : decode cX9_sinkable 135 = .ok (.goto (-69), 3) := by decide +kernel
theorem dX9_sinkable_138 : decode cX9_sinkable 138 = .ok (.iload 4, 2) := by decide +kernel
theorem dX9_sinkable_140 : decode cX9_sinkable 140 = .ok (.iload_n 3, 1) := by decide +kernel
theorem dX9_sinkable_141 : decode cX9_sinkable 141 = .ok (.if_icmp .le 10, 3) := by decide +kernel
theorem dX9_sinkable_144 : decode cX9_sinkable 144 = .ok (.iload 4, 2) := by decide +kernel
theorem dX9_sinkable_146 : decode cX9_sinkable 146 = .ok (.iload_n 3, 1) := by decide +kernel
theorem dX9_sinkable_147 : decode cX9_sinkable 147 = .ok (.isub, 1) := by decide +kernel
theorem dX9_sinkable_148 : decode cX9_sinkable 148 = .ok (.goto 4, 3) := by decide +kernel
theorem dX9_sinkable_151 : decode cX9_sinkable 151 = .ok (.iconst 0, 1) := by decide +kernel
theorem dX9_sinkable_152 : decode cX9_sinkable 152 = .ok (.ireturn, 1) := by decide +kernel
theorem dX9_appendCharacter_0 : decode cX9_appendCharacter 0 = .ok (.iload_n 1, 1) := by decide +kernel
theorem dX9_appendCharacter_1 : decode cX9_appendCharacter 1 = .ok (.iconst 0, 1) := by decide +kernel
theorem dX9_appendCharacter_2 : decode cX9_appendCharacter 2 = .ok (.sipush 255, 3) := by decide +kernel
theorem dX9_appendCharacter_5 : decode cX9_appendCharacter 5 = .ok (.invokestatic 38, 3) := by decide +kernel
theorem dX9_appendCharacter_8 : decode cX9_appendCharacter 8 = .ok (.ifCond .ne 6, 3) := by decide +kernel
theorem dX9_appendCharacter_11 : decode cX9_appendCharacter 11 = .ok (.ldc 122, 2) := by decide +kernel
theorem dX9_appendCharacter_13 : decode cX9_appendCharacter 13 = .ok (.ireturn, 1) := by decide +kernel
theorem dX9_appendCharacter_14 : decode cX9_appendCharacter 14 = .ok (.aload_n 0, 1) := by decide +kernel
theorem dX9_appendCharacter_15 : decode cX9_appendCharacter 15 = .ok (.getfield 123, 3) := by decide +kernel
theorem dX9_appendCharacter_18 : decode cX9_appendCharacter 18 = .ok (.sipush 200, 3) := by decide +kernel
theorem dX9_appendCharacter_21 : decode cX9_appendCharacter 21 = .ok (.if_icmp .ne 6, 3) := by decide +kernel
theorem dX9_appendCharacter_24 : decode cX9_appendCharacter 24 = .ok (.ldc 126, 2) := by decide +kernel
theorem dX9_appendCharacter_26 : decode cX9_appendCharacter 26 = .ok (.ireturn, 1) := by decide +kernel
theorem dX9_appendCharacter_27 : decode cX9_appendCharacter 27 = .ok (.aload_n 0, 1) := by decide +kernel
theorem dX9_appendCharacter_28 : decode cX9_appendCharacter 28 = .ok (.getfield 19, 3) := by decide +kernel
theorem dX9_appendCharacter_31 : decode cX9_appendCharacter 31 = .ok (.aload_n 0, 1) := by decide +kernel
theorem dX9_appendCharacter_32 : decode cX9_appendCharacter 32 = .ok (.getfield 123, 3) := by decide +kernel
theorem dX9_appendCharacter_35 : decode cX9_appendCharacter 35 = .ok (.iload_n 1, 1) := by decide +kernel
theorem dX9_appendCharacter_36 : decode cX9_appendCharacter 36 = .ok (.iastore, 1) := by decide +kernel
theorem dX9_appendCharacter_37 : decode cX9_appendCharacter 37 = .ok (.aload_n 0, 1) := by decide +kernel
theorem dX9_appendCharacter_38 : decode cX9_appendCharacter 38 = .ok (.dup, 1) := by decide +kernel
theorem dX9_appendCharacter_39 : decode cX9_appendCharacter 39 = .ok (.getfield 123, 3) := by decide +kernel
theorem dX9_appendCharacter_42 : decode cX9_appendCharacter 42 = .ok (.iconst 1, 1) := by decide +kernel
theorem dX9_appendCharacter_43 : decode cX9_appendCharacter 43 = .ok (.iadd, 1) := by decide +kernel
theorem dX9_appendCharacter_44 : decode cX9_appendCharacter 44 = .ok (.putfield 123, 3) := by decide +kernel
theorem dX9_appendCharacter_47 : decode cX9_appendCharacter 47 = .ok (.aload_n 0, 1) := by decide +kernel
theorem dX9_appendCharacter_48 : decode cX9_appendCharacter 48 = .ok (.getfield 123, 3) := by decide +kernel
theorem dX9_appendCharacter_51 : decode cX9_appendCharacter 51 = .ok (.ireturn, 1) := by decide +kernel
theorem dX9_clearText_0 : decode cX9_clearText 0 = .ok (.aload_n 0, 1) := by decide +kernel
theorem dX9_clearText_1 : decode cX9_clearText 1 = .ok (.getfield 123, 3) := by decide +kernel
theorem dX9_clearText_4 : decode cX9_clearText 4 = .ok (.istore_n 1, 1) := by decide +kernel
theorem dX9_clearText_5 : decode cX9_clearText 5 = .ok (.aload_n 0, 1) := by decide +kernel
theorem dX9_clearText_6 : decode cX9_clearText 6 = .ok (.iconst 0, 1) := by decide +kernel
theorem dX9_clearText_7 : decode cX9_clearText 7 = .ok (.putfield 123, 3) := by decide +kernel
theorem dX9_clearText_10 : decode cX9_clearText 10 = .ok (.iload_n 1, 1) := by decide +kernel
theorem dX9_clearText_11 : decode cX9_clearText 11 = .ok (.ireturn, 1) := by decide +kernel
theorem dX9_isAt_0 : decode cX9_isAt 0 = .ok (.iload_n 1, 1) := by decide +kernel
theorem dX9_isAt_1 : decode cX9_isAt 1 = .ok (.aload_n 0, 1) := by decide +kernel
theorem dX9_isAt_2 : decode cX9_isAt 2 = .ok (.getfield 123, 3) := by decide +kernel
theorem dX9_isAt_5 : decode cX9_isAt 5 = .ok (.if_icmp .ge 21, 3) := by decide +kernel
theorem dX9_isAt_8 : decode cX9_isAt 8 = .ok (.aload_n 0, 1) := by decide +kernel
theorem dX9_isAt_9 : decode cX9_isAt 9 = .ok (.getfield 19, 3) := by decide +kernel
theorem dX9_isAt_12 : decode cX9_isAt 12 = .ok (.iload_n 1, 1) := by decide +kernel
theorem dX9_isAt_13 : decode cX9_isAt 13 = .ok (.iaload, 1) := by decide +kernel
theorem dX9_isAt_14 : decode cX9_isAt 14 = .ok (.iload_n 2, 1) := by decide +kernel
theorem dX9_isAt_15 : decode cX9_isAt 15 = .ok (.iload_n 3, 1) := by decide +kernel
theorem dX9_isAt_16 : decode cX9_isAt 16 = .ok (.invokestatic 38, 3) := by decide +kernel
theorem dX9_isAt_19 : decode cX9_isAt 19 = .ok (.ifCond .eq 7, 3) := by decide +kernel
theorem dX9_isAt_22 : decode cX9_isAt 22 = .ok (.iconst 1, 1) := by decide +kernel
theorem dX9_isAt_23 : decode cX9_isAt 23 = .ok (.goto 4, 3) := by decide +kernel
theorem dX9_isAt_26 : decode cX9_isAt 26 = .ok (.iconst 0, 1) := by decide +kernel
theorem dX9_isAt_27 : decode cX9_isAt 27 = .ok (.ireturn, 1) := by decide +kernel
theorem dX9_token_0 : decode cX9_token 0 = .ok (.aload_n 0, 1) := by decide +kernel
theorem dX9_token_1 : decode cX9_token 1 = .ok (.aload_n 0, 1) := by decide +kernel
theorem dX9_token_2 : decode cX9_token 2 = .ok (.getfield 127, 3) := by decide +kernel
theorem dX9_token_5 : decode cX9_token 5 = .ok (.bipush 32, 2) := by decide +kernel
theorem dX9_token_7 : decode cX9_token 7 = .ok (.bipush 32, 2) := by decide +kernel
theorem dX9_token_9 : decode cX9_token 9 = .ok (.invokevirtual 130, 3) := by decide +kernel
theorem dX9_token_12 : decode cX9_token 12 = .ok (.ifCond .eq 16, 3) := by decide +kernel
theorem dX9_token_15 : decode cX9_token 15 = .ok (.aload_n 0, 1) := by decide +kernel
theorem dX9_token_16 : decode cX9_token 16 = .ok (.dup, 1) := by decide +kernel
theorem dX9_token_17 : decode cX9_token 17 = .ok (.getfield 127, 3) := by decide +kernel
theorem dX9_token_20 : decode cX9_token 20 = .ok (.iconst 1, 1) := by decide +kernel
theorem dX9_token_21 : decode cX9_token 21 = .ok (.iadd, 1) := by decide +kernel
theorem dX9_token_22 : decode cX9_token 22 = .ok (.putfield 127, 3) := by decide +kernel
theorem dX9_token_25 : decode cX9_token 25 = .ok (.goto (-25), 3) := by decide +kernel
theorem dX9_token_28 : decode cX9_token 28 = .ok (.aload_n 0, 1) := by decide +kernel
theorem dX9_token_29 : decode cX9_token 29 = .ok (.aload_n 0, 1) := by decide +kernel
theorem dX9_token_30 : decode cX9_token 30 = .ok (.getfield 127, 3) := by decide +kernel
theorem dX9_token_33 : decode cX9_token 33 = .ok (.putfield 133, 3) := by decide +kernel
theorem dX9_token_36 : decode cX9_token 36 = .ok (.aload_n 0, 1) := by decide +kernel
theorem dX9_token_37 : decode cX9_token 37 = .ok (.getfield 127, 3) := by decide +kernel
theorem dX9_token_40 : decode cX9_token 40 = .ok (.aload_n 0, 1) := by decide +kernel
theorem dX9_token_41 : decode cX9_token 41 = .ok (.getfield 123, 3) := by decide +kernel
theorem dX9_token_44 : decode cX9_token 44 = .ok (.if_icmp .ne 11, 3) := by decide +kernel
theorem dX9_token_47 : decode cX9_token 47 = .ok (.aload_n 0, 1) := by decide +kernel
theorem dX9_token_48 : decode cX9_token 48 = .ok (.iconst 0, 1) := by decide +kernel
theorem dX9_token_49 : decode cX9_token 49 = .ok (.putfield 136, 3) := by decide +kernel
theorem dX9_token_52 : decode cX9_token 52 = .ok (.goto 233, 3) := by decide +kernel
theorem dX9_token_55 : decode cX9_token 55 = .ok (.aload_n 0, 1) := by decide +kernel
theorem dX9_token_56 : decode cX9_token 56 = .ok (.aload_n 0, 1) := by decide +kernel
theorem dX9_token_57 : decode cX9_token 57 = .ok (.getfield 127, 3) := by decide +kernel
theorem dX9_token_60 : decode cX9_token 60 = .ok (.bipush 97, 2) := by decide +kernel
theorem dX9_token_62 : decode cX9_token 62 = .ok (.bipush 122, 2) := by decide +kernel
theorem dX9_token_64 : decode cX9_token 64 = .ok (.invokevirtual 130, 3) := by decide +kernel
theorem dX9_token_67 : decode cX9_token 67 = .ok (.ifCond .eq 36, 3) := by decide +kernel
theorem dX9_token_70 : decode cX9_token 70 = .ok (.aload_n 0, 1) := by decide +kernel
theorem dX9_token_71 : decode cX9_token 71 = .ok (.iconst 1, 1) := by decide +kernel
theorem dX9_token_72 : decode cX9_token 72 = .ok (.putfield 136, 3) := by decide +kernel
theorem dX9_token_75 : decode cX9_token 75 = .ok (.aload_n 0, 1) := by decide +kernel
theorem dX9_token_76 : decode cX9_token 76 = .ok (.aload_n 0, 1) := by decide +kernel
theorem dX9_token_77 : decode cX9_token 77 = .ok (.getfield 127, 3) := by decide +kernel
theorem dX9_token_80 : decode cX9_token 80 = .ok (.bipush 97, 2) := by decide +kernel
theorem dX9_token_82 : decode cX9_token 82 = .ok (.bipush 122, 2) := by decide +kernel
theorem dX9_token_84 : decode cX9_token 84 = .ok (.invokevirtual 130, 3) := by decide +kernel
theorem dX9_token_87 : decode cX9_token 87 = .ok (.ifCond .eq 198, 3) := by decide +kernel
theorem dX9_token_90 : decode cX9_token 90 = .ok (.aload_n 0, 1) := by decide +kernel
theorem dX9_token_91 : decode cX9_token 91 = .ok (.dup, 1) := by decide +kernel
theorem dX9_token_92 : decode cX9_token 92 = .ok (.getfield 127, 3) := by decide +kernel
theorem dX9_token_95 : decode cX9_token 95 = .ok (.iconst 1, 1) := by decide +kernel
theorem dX9_token_96 : decode cX9_token 96 = .ok (.iadd, 1) := by decide +kernel
theorem dX9_token_97 : decode cX9_token 97 = .ok (.putfield 127, 3) := by decide +kernel
theorem dX9_token_100 : decode cX9_token 100 = .ok (.goto (-25), 3) := by decide +kernel
theorem dX9_token_103 : decode cX9_token 103 = .ok (.aload_n 0, 1) := by decide +kernel
theorem dX9_token_104 : decode cX9_token 104 = .ok (.aload_n 0, 1) := by decide +kernel
theorem dX9_token_105 : decode cX9_token 105 = .ok (.getfield 127, 3) := by decide +kernel
theorem dX9_token_108 : decode cX9_token 108 = .ok (.bipush 48, 2) := by decide +kernel
theorem dX9_token_110 : decode cX9_token 110 = .ok (.bipush 57, 2) := by decide +kernel
theorem dX9_token_112 : decode cX9_token 112 = .ok (.invokevirtual 130, 3) := by decide +kernel
theorem dX9_token_115 : decode cX9_token 115 = .ok (.ifCond .eq 137, 3) := by decide +kernel
theorem dX9_token_118 : decode cX9_token 118 = .ok (.aload_n 0, 1) := by decide +kernel
theorem dX9_token_119 : decode cX9_token 119 = .ok (.iconst 2, 1) := by decide +kernel
theorem dX9_token_120 : decode cX9_token 120 = .ok (.putfield 136, 3) := by decide +kernel
theorem dX9_token_123 : decode cX9_token 123 = .ok (.aload_n 0, 1) := by decide +kernel
theorem dX9_token_124 : decode cX9_token 124 = .ok (.iconst 0, 1) := by decide +kernel
theorem dX9_token_125 : decode cX9_token 125 = .ok (.putfield 139, 3) := by decide +kernel
theorem dX9_token_128 : decode cX9_token 128 = .ok (.aload_n 0, 1) := by decide +kernel
theorem dX9_token_129 : decode cX9_token 129 = .ok (.aload_n 0, 1) := by decide +kernel
theorem dX9_token_130 : decode cX9_token 130 = .ok (.getfield 127, 3) := by decide +kernel
theorem dX9_token_133 : decode cX9_token 133 = .ok (.bipush 48, 2) := by decide +kernel
theorem dX9_token_135 : decode cX9_token 135 = .ok (.bipush 57, 2) := by decide +kernel
theorem dX9_token_137 : decode cX9_token 137 = .ok (.invokevirtual 130, 3) := by decide +kernel
theorem dX9_token_140 : decode cX9_token 140 = .ok (.ifCond .eq 60, 3) := by decide +kernel
theorem dX9_token_143 : decode cX9_token 143 = .ok (.aload_n 0, 1) := by decide +kernel
theorem dX9_token_144 : decode cX9_token 144 = .ok (.aload_n 0, 1) := by decide +kernel
theorem dX9_token_145 : decode cX9_token 145 = .ok (.getfield 127, 3) := by decide +kernel
theorem dX9_token_148 : decode cX9_token 148 = .ok (.aload_n 0, 1) := by decide +kernel
theorem dX9_token_149 : decode cX9_token 149 = .ok (.getfield 133, 3) := by decide +kernel
theorem dX9_token_152 : decode cX9_token 152 = .ok (.isub, 1) := by decide +kernel
theorem dX9_token_153 : decode cX9_token 153 = .ok (.iconst 4, 1) := by decide +kernel
theorem dX9_token_154 : decode cX9_token 154 = .ok (.if_icmp .ge 26, 3) := by decide +kernel
theorem dX9_token_157 : decode cX9_token 157 = .ok (.bipush 10, 2) := by decide +kernel
theorem dX9_token_159 : decode cX9_token 159 = .ok (.aload_n 0, 1) := by decide +kernel
theorem dX9_token_160 : decode cX9_token 160 = .ok (.getfield 139, 3) := by decide +kernel
theorem dX9_token_163 : decode cX9_token 163 = .ok (.imul, 1) := by decide +kernel
theorem dX9_token_164 : decode cX9_token 164 = .ok (.aload_n 0, 1) := by decide +kernel
theorem dX9_token_165 : decode cX9_token 165 = .ok (.getfield 19, 3) := by decide +kernel
theorem dX9_token_168 : decode cX9_token 168 = .ok (.aload_n 0, 1) := by decide +kernel
theorem dX9_token_169 : decode cX9_token 169 = .ok (.getfield 127, 3) := by decide +kernel
theorem dX9_token_172 : decode cX9_token 172 = .ok (.iaload, 1) := by decide +kernel
theorem dX9_token_173 : decode cX9_token 173 = .ok (.iadd, 1) := by decide +kernel
theorem dX9_token_174 : decode cX9_token 174 = .ok (.bipush 48, 2) := by decide +kernel
theorem dX9_token_176 : decode cX9_token 176 = .ok (.isub, 1) := by decide +kernel
theorem dX9_token_177 : decode cX9_token 177 = .ok (.goto 7, 3) := by decide +kernel
theorem dX9_token_180 : decode cX9_token 180 = .ok (.aload_n 0, 1) := by decide +kernel
theorem dX9_token_181 : decode cX9_token 181 = .ok (.getfield 139, 3) := by decide +kernel
theorem dX9_token_184 : decode cX9_token 184 = .ok (.putfield 139, 3) := by decide +kernel
theorem dX9_token_187 : decode cX9_token 187 = .ok (.aload_n 0, 1) := by decide +kernel
theorem dX9_token_188 : decode cX9_token 188 = .ok (.dup, 1) := by decide +kernel
theorem dX9_token_189 : decode cX9_token 189 = .ok (.getfield 127, 3) := by decide +kernel
theorem dX9_token_192 : decode cX9_token 192 = .ok (.iconst 1, 1) := by decide +kernel
theorem dX9_token_193 : decode cX9_token 193 = .ok (.iadd, 1) := by decide +kernel
theorem dX9_token_194 : decode cX9_token 194 = .ok (.putfield 127, 3) := by decide +kernel
theorem dX9_token_197 : decode cX9_token 197 = .ok (.goto (-69), 3) := by decide +kernel
theorem dX9_token_200 : decode cX9_token 200 = .ok (.aload_n 0, 1) := by decide +kernel
theorem dX9_token_201 : decode cX9_token 201 = .ok (.aload_n 0, 1) := by decide +kernel
theorem dX9_token_202 : decode cX9_token 202 = .ok (.getfield 127, 3) := by decide +kernel
theorem dX9_token_205 : decode cX9_token 205 = .ok (.aload_n 0, 1) := by decide +kernel
theorem dX9_token_206 : decode cX9_token 206 = .ok (.getfield 133, 3) := by decide +kernel
theorem dX9_token_209 : decode cX9_token 209 = .ok (.isub, 1) := by decide +kernel
theorem dX9_token_210 : decode cX9_token 210 = .ok (.iconst 4, 1) := by decide +kernel
theorem dX9_token_211 : decode cX9_token 211 = .ok (.if_icmp .gt 30, 3) := by decide +kernel
theorem dX9_token_214 : decode cX9_token 214 = .ok (.aload_n 0, 1) := by decide +kernel
theorem dX9_token_215 : decode cX9_token 215 = .ok (.getfield 127, 3) := by decide +kernel
theorem dX9_token_218 : decode cX9_token 218 = .ok (.aload_n 0, 1) := by decide +kernel
theorem dX9_token_219 : decode cX9_token 219 = .ok (.getfield 133, 3) := by decide +kernel
theorem dX9_token_222 : decode cX9_token 222 = .ok (.isub, 1) := by decide +kernel
theorem dX9_token_223 : decode cX9_token 223 = .ok (.iconst 1, 1) := by decide +kernel
theorem dX9_token_224 : decode cX9_token 224 = .ok (.if_icmp .le 21, 3) := by decide +kernel
theorem dX9_token_227 : decode cX9_token 227 = .ok (.aload_n 0, 1) := by decide +kernel
theorem dX9_token_228 : decode cX9_token 228 = .ok (.getfield 19, 3) := by decide +kernel
theorem dX9_token_231 : decode cX9_token 231 = .ok (.aload_n 0, 1) := by decide +kernel
theorem dX9_token_232 : decode cX9_token 232 = .ok (.getfield 133, 3) := by decide +kernel
theorem dX9_token_235 : decode cX9_token 235 = .ok (.iaload, 1) := by decide +kernel
theorem dX9_token_236 : decode cX9_token 236 = .ok (.bipush 48, 2) := by decide +kernel
theorem dX9_token_238 : decode cX9_token 238 = .ok (.if_icmp .ne 7, 3) := by decide +kernel
theorem dX9_token_241 : decode cX9_token 241 = .ok (.iconst 4, 1) := by decide +kernel
theorem dX9_token_242 : decode cX9_token 242 = .ok (.goto 4, 3) := by decide +kernel
theorem dX9_token_245 : decode cX9_token 245 = .ok (.iconst 2, 1) := by decide +kernel
theorem dX9_token_246 : decode cX9_token 246 = .ok (.putfield 136, 3) := by decide +kernel
theorem dX9_token_249 : decode cX9_token 249 = .ok (.goto 36, 3) := by decide +kernel
theorem dX9_token_252 : decode cX9_token 252 = .ok (.aload_n 0, 1) := by decide +kernel
theorem dX9_token_253 : decode cX9_token 253 = .ok (.aload_n 0, 1) := by decide +kernel
theorem dX9_token_254 : decode cX9_token 254 = .ok (.getfield 19, 3) := by decide +kernel
theorem dX9_token_257 : decode cX9_token 257 = .ok (.aload_n 0, 1) := by decide +kernel
theorem dX9_token_258 : decode cX9_token 258 = .ok (.getfield 127, 3) := by decide +kernel
theorem dX9_token_261 : decode cX9_token 261 = .ok (.iaload, 1) := by decide +kernel
theorem dX9_token_262 : decode cX9_token 262 = .ok (.bipush 59, 2) := by decide +kernel
theorem dX9_token_264 : decode cX9_token 264 = .ok (.if_icmp .ne 7, 3) := by decide +kernel
theorem dX9_token_267 : decode cX9_token 267 = .ok (.iconst 3, 1) := by decide +kernel
theorem dX9_token_268 : decode cX9_token 268 = .ok (.goto 4, 3) := by decide +kernel
theorem dX9_token_271 : decode cX9_token 271 = .ok (.iconst 4, 1) := by decide +kernel
theorem dX9_token_272 : decode cX9_token 272 = .ok (.putfield 136, 3) := by decide +kernel
theorem dX9_token_275 : decode cX9_token 275 = .ok (.aload_n 0, 1) := by decide +kernel
theorem dX9_token_276 : decode cX9_token 276 = .ok (.dup, 1) := by decide +kernel
theorem dX9_token_277 : decode cX9_token 277 = .ok (.getfield 127, 3) := by decide +kernel
theorem dX9_token_280 : decode cX9_token 280 = .ok (.iconst 1, 1) := by decide +kernel
theorem dX9_token_281 : decode cX9_token 281 = .ok (.iadd, 1) := by decide +kernel
theorem dX9_token_282 : decode cX9_token 282 = .ok (.putfield 127, 3) := by decide +kernel
theorem dX9_token_285 : decode cX9_token 285 = .ok (.return_, 1) := by decide +kernel
theorem dX9_isWord_0 : decode cX9_isWord 0 = .ok (.aload_n 0, 1) := by decide +kernel
theorem dX9_isWord_1 : decode cX9_isWord 1 = .ok (.getfield 127, 3) := by decide +kernel
theorem dX9_isWord_4 : decode cX9_isWord 4 = .ok (.aload_n 0, 1) := by decide +kernel
theorem dX9_isWord_5 : decode cX9_isWord 5 = .ok (.getfield 133, 3) := by decide +kernel
theorem dX9_isWord_8 : decode cX9_isWord 8 = .ok (.isub, 1) := by decide +kernel
theorem dX9_isWord_9 : decode cX9_isWord 9 = .ok (.iload_n 3, 1) := by decide +kernel
theorem dX9_isWord_10 : decode cX9_isWord 10 = .ok (.if_icmp .ne 7, 3) := by decide +kernel
theorem dX9_isWord_13 : decode cX9_isWord 13 = .ok (.iconst 1, 1) := by decide +kernel
theorem dX9_isWord_14 : decode cX9_isWord 14 = .ok (.goto 4, 3) := by decide +kernel
theorem dX9_isWord_17 : decode cX9_isWord 17 = .ok (.iconst 0, 1) := by decide +kernel
theorem dX9_isWord_18 : decode cX9_isWord 18 = .ok (.istore 4, 2) := by decide +kernel
theorem dX9_isWord_20 : decode cX9_isWord 20 = .ok (.iconst 0, 1) := by decide +kernel
theorem dX9_isWord_21 : decode cX9_isWord 21 = .ok (.istore 5, 2) := by decide +kernel
theorem dX9_isWord_23 : decode cX9_isWord 23 = .ok (.iload 5, 2) := by decide +kernel
theorem dX9_isWord_25 : decode cX9_isWord 25 = .ok (.iload_n 3, 1) := by decide +kernel
theorem dX9_isWord_26 : decode cX9_isWord 26 = .ok (.if_icmp .ge 52, 3) := by decide +kernel
theorem dX9_isWord_29 : decode cX9_isWord 29 = .ok (.iload 4, 2) := by decide +kernel
theorem dX9_isWord_31 : decode cX9_isWord 31 = .ok (.ifCond .eq 47, 3) := by decide +kernel
theorem dX9_isWord_34 : decode cX9_isWord 34 = .ok (.aload_n 0, 1) := by decide +kernel
theorem dX9_isWord_35 : decode cX9_isWord 35 = .ok (.getfield 19, 3) := by decide +kernel
theorem dX9_isWord_38 : decode cX9_isWord 38 = .ok (.aload_n 0, 1) := by decide +kernel
theorem dX9_isWord_39 : decode cX9_isWord 39 = .ok (.getfield 133, 3) := by decide +kernel
theorem dX9_isWord_42 : decode cX9_isWord 42 = .ok (.iload 5, 2) := by decide +kernel
theorem dX9_isWord_44 : decode cX9_isWord 44 = .ok (.iadd, 1) := by decide +kernel
theorem dX9_isWord_45 : decode cX9_isWord 45 = .ok (.iaload, 1) := by decide +kernel
theorem dX9_isWord_46 : decode cX9_isWord 46 = .ok (.lload_n 1, 1) := by decide +kernel
theorem dX9_isWord_47 : decode cX9_isWord 47 = .ok (.bipush 8, 2) := by decide +kernel
theorem dX9_isWord_49 : decode cX9_isWord 49 = .ok (.iload_n 3, 1) := by decide +kernel
theorem dX9_isWord_50 : decode cX9_isWord 50 = .ok (.iconst 1, 1) := by decide +kernel
theorem dX9_isWord_51 : decode cX9_isWord 51 = .ok (.isub, 1) := by decide +kernel
theorem dX9_isWord_52 : decode cX9_isWord 52 = .ok (.iload 5, 2) := by decide +kernel
theorem dX9_isWord_54 : decode cX9_isWord 54 = .ok (.isub, 1) := by decide +kernel
theorem dX9_isWord_55 : decode cX9_isWord 55 = .ok (.imul, 1) := by decide +kernel
theorem dX9_isWord_56 : decode cX9_isWord 56 = .ok (.lshr, 1) := by decide +kernel
theorem dX9_isWord_57 : decode cX9_isWord 57 = .ok (.ldc2_w 142, 3) := by decide +kernel
theorem dX9_isWord_60 : decode cX9_isWord 60 = .ok (.land, 1) := by decide +kernel
theorem dX9_isWord_61 : decode cX9_isWord 61 = .ok (.l2i, 1) := by decide +kernel
theorem dX9_isWord_62 : decode cX9_isWord 62 = .ok (.if_icmp .ne 7, 3) := by decide +kernel
theorem dX9_isWord_65 : decode cX9_isWord 65 = .ok (.iconst 1, 1) := by decide +kernel
theorem dX9_isWord_66 : decode cX9_isWord 66 = .ok (.goto 4, 3) := by decide +kernel
theorem dX9_isWord_69 : decode cX9_isWord 69 = .ok (.iconst 0, 1) := by decide +kernel
theorem dX9_isWord_70 : decode cX9_isWord 70 = .ok (.istore 4, 2) := by decide +kernel
theorem dX9_isWord_72 : decode cX9_isWord 72 = .ok (.iinc 5 1, 3) := by decide +kernel
theorem dX9_isWord_75 : decode cX9_isWord 75 = .ok (.goto (-52), 3) := by decide +kernel
theorem dX9_isWord_78 : decode cX9_isWord 78 = .ok (.iload 4, 2) := by decide +kernel
theorem dX9_isWord_80 : decode cX9_isWord 80 = .ok (.ireturn, 1) := by decide +kernel
theorem dX9_item_0 : decode cX9_item 0 = .ok (.aload_n 0, 1) := by decide +kernel
theorem dX9_item_1 : decode cX9_item 1 = .ok (.ldc2_w 144, 3) := by decide +kernel
theorem dX9_item_4 : decode cX9_item 4 = .ok (.iconst 4, 1) := by decide +kernel
theorem dX9_item_5 : decode cX9_item 5 = .ok (.invokevirtual 146, 3) := by decide +kernel
theorem dX9_item_8 : decode cX9_item 8 = .ok (.ifCond .eq 7, 3) := by decide +kernel
theorem dX9_item_11 : decode cX9_item 11 = .ok (.iconst 0, 1) := by decide +kernel
theorem dX9_item_12 : decode cX9_item 12 = .ok (.goto 82, 3) := by decide +kernel
theorem dX9_item_15 : decode cX9_item 15 = .ok (.aload_n 0, 1) := by decide +kernel
theorem dX9_item_16 : decode cX9_item 16 = .ok (.ldc2_w 150, 3) := by decide +kernel
theorem dX9_item_19 : decode cX9_item 19 = .ok (.bipush 6, 2) := by decide +kernel
theorem dX9_item_21 : decode cX9_item 21 = .ok (.invokevirtual 146, 3) := by decide +kernel
theorem dX9_item_24 : decode cX9_item 24 = .ok (.ifCond .eq 7, 3) := by decide +kernel
theorem dX9_item_27 : decode cX9_item 27 = .ok (.iconst 1, 1) := by decide +kernel
theorem dX9_item_28 : decode cX9_item 28 = .ok (.goto 66, 3) := by decide +kernel
theorem dX9_item_31 : decode cX9_item 31 = .ok (.aload_n 0, 1) := by decide +kernel
theorem dX9_item_32 : decode cX9_item 32 = .ok (.ldc2_w 152, 3) := by decide +kernel
theorem dX9_item_35 : decode cX9_item 35 = .ok (.iconst 5, 1) := by decide +kernel
theorem dX9_item_36 : decode cX9_item 36 = .ok (.invokevirtual 146, 3) := by decide +kernel
theorem dX9_item_39 : decode cX9_item 39 = .ok (.ifCond .eq 7, 3) := by decide +kernel
theorem dX9_item_42 : decode cX9_item 42 = .ok (.iconst 2, 1) := by decide +kernel
theorem dX9_item_43 : decode cX9_item 43 = .ok (.goto 51, 3) := by decide +kernel
theorem dX9_item_46 : decode cX9_item 46 = .ok (.aload_n 0, 1) := by decide +kernel
theorem dX9_item_47 : decode cX9_item 47 = .ok (.ldc2_w 154, 3) := by decide +kernel
theorem dX9_item_50 : decode cX9_item 50 = .ok (.iconst 5, 1) := by decide +kernel
theorem dX9_item_51 : decode cX9_item 51 = .ok (.invokevirtual 146, 3) := by decide +kernel
theorem dX9_item_54 : decode cX9_item 54 = .ok (.ifCond .eq 7, 3) := by decide +kernel
theorem dX9_item_57 : decode cX9_item 57 = .ok (.iconst 3, 1) := by decide +kernel
theorem dX9_item_58 : decode cX9_item 58 = .ok (.goto 36, 3) := by decide +kernel
theorem dX9_item_61 : decode cX9_item 61 = .ok (.aload_n 0, 1) := by decide +kernel
theorem dX9_item_62 : decode cX9_item 62 = .ok (.ldc2_w 156, 3) := by decide +kernel
theorem dX9_item_65 : decode cX9_item 65 = .ok (.iconst 5, 1) := by decide +kernel
theorem dX9_item_66 : decode cX9_item 66 = .ok (.invokevirtual 146, 3) := by decide +kernel
theorem dX9_item_69 : decode cX9_item 69 = .ok (.ifCond .eq 7, 3) := by decide +kernel
theorem dX9_item_72 : decode cX9_item 72 = .ok (.iconst 4, 1) := by decide +kernel
theorem dX9_item_73 : decode cX9_item 73 = .ok (.goto 21, 3) := by decide +kernel
theorem dX9_item_76 : decode cX9_item 76 = .ok (.aload_n 0, 1) := by decide +kernel
theorem dX9_item_77 : decode cX9_item 77 = .ok (.ldc2_w 158, 3) := by decide +kernel
theorem dX9_item_80 : decode cX9_item 80 = .ok (.bipush 7, 2) := by decide +kernel
theorem dX9_item_82 : decode cX9_item 82 = .ok (.invokevirtual 146, 3) := by decide +kernel
theorem dX9_item_85 : decode cX9_item 85 = .ok (.ifCond .eq 7, 3) := by decide +kernel
theorem dX9_item_88 : decode cX9_item 88 = .ok (.iconst 5, 1) := by decide +kernel
theorem dX9_item_89 : decode cX9_item 89 = .ok (.goto 5, 3) := by decide +kernel
theorem dX9_item_92 : decode cX9_item 92 = .ok (.ldc 160, 2) := by decide +kernel
theorem dX9_item_94 : decode cX9_item 94 = .ok (.ireturn, 1) := by decide +kernel
theorem dX9_numbersOf_0 : decode cX9_numbersOf 0 = .ok (.iload_n 0, 1) := by decide +kernel
theorem dX9_numbersOf_1 : decode cX9_numbersOf 1 = .ok (.ifCond .ne 7, 3) := by decide +kernel
theorem dX9_numbersOf_4 : decode cX9_numbersOf 4 = .ok (.iconst 2, 1) := by decide +kernel
theorem dX9_numbersOf_5 : decode cX9_numbersOf 5 = .ok (.goto 22, 3) := by decide +kernel
theorem dX9_numbersOf_8 : decode cX9_numbersOf 8 = .ok (.iload_n 0, 1) := by decide +kernel
theorem dX9_numbersOf_9 : decode cX9_numbersOf 9 = .ok (.iconst 4, 1) := by decide +kernel
theorem dX9_numbersOf_10 : decode cX9_numbersOf 10 = .ok (.if_icmp .ge 7, 3) := by decide +kernel
theorem dX9_numbersOf_13 : decode cX9_numbersOf 13 = .ok (.iconst 1, 1) := by decide +kernel
theorem dX9_numbersOf_14 : decode cX9_numbersOf 14 = .ok (.goto 13, 3) := by decide +kernel
theorem dX9_numbersOf_17 : decode cX9_numbersOf 17 = .ok (.iload_n 0, 1) := by decide +kernel
theorem dX9_numbersOf_18 : decode cX9_numbersOf 18 = .ok (.iconst 4, 1) := by decide +kernel
theorem dX9_numbersOf_19 : decode cX9_numbersOf 19 = .ok (.if_icmp .ne 7, 3) := by decide +kernel
theorem dX9_numbersOf_22 : decode cX9_numbersOf 22 = .ok (.iconst 3, 1) := by decide +kernel
theorem dX9_numbersOf_23 : decode cX9_numbersOf 23 = .ok (.goto 4, 3) := by decide +kernel
theorem dX9_numbersOf_26 : decode cX9_numbersOf 26 = .ok (.iconst 4, 1) := by decide +kernel
theorem dX9_numbersOf_27 : decode cX9_numbersOf 27 = .ok (.ireturn, 1) := by decide +kernel
theorem dX9_isTold_0 : decode cX9_isTold 0 = .ok (.iload_n 1, 1) := by decide +kernel
theorem dX9_isTold_1 : decode cX9_isTold 1 = .ok (.tableswitch 120 0 4 #[35, 46, 58, 70, 82], 35) := by decide +kernel
theorem dX9_isTold_36 : decode cX9_isTold 36 = .ok (.aload_n 0, 1) := by decide +kernel
theorem dX9_isTold_37 : decode cX9_isTold 37 = .ok (.getfield 139, 3) := by decide +kernel
theorem dX9_isTold_40 : decode cX9_isTold 40 = .ok (.iconst 3, 1) := by decide +kernel
theorem dX9_isTold_41 : decode cX9_isTold 41 = .ok (.bipush 7, 2) := by decide +kernel
theorem dX9_isTold_43 : decode cX9_isTold 43 = .ok (.invokestatic 38, 3) := by decide +kernel
theorem dX9_isTold_46 : decode cX9_isTold 46 = .ok (.ireturn, 1) := by decide +kernel
theorem dX9_isTold_47 : decode cX9_isTold 47 = .ok (.aload_n 0, 1) := by decide +kernel
theorem dX9_isTold_48 : decode cX9_isTold 48 = .ok (.getfield 139, 3) := by decide +kernel
theorem dX9_isTold_51 : decode cX9_isTold 51 = .ok (.iconst 1, 1) := by decide +kernel
theorem dX9_isTold_52 : decode cX9_isTold 52 = .ok (.sipush 9999, 3) := by decide +kernel
theorem dX9_isTold_55 : decode cX9_isTold 55 = .ok (.invokestatic 38, 3) := by decide +kernel
theorem dX9_isTold_58 : decode cX9_isTold 58 = .ok (.ireturn, 1) := by decide +kernel
theorem dX9_isTold_59 : decode cX9_isTold 59 = .ok (.aload_n 0, 1) := by decide +kernel
theorem dX9_isTold_60 : decode cX9_isTold 60 = .ok (.getfield 139, 3) := by decide +kernel
theorem dX9_isTold_63 : decode cX9_isTold 63 = .ok (.iconst 0, 1) := by decide +kernel
theorem dX9_isTold_64 : decode cX9_isTold 64 = .ok (.sipush 400, 3) := by decide +kernel
theorem dX9_isTold_67 : decode cX9_isTold 67 = .ok (.invokestatic 38, 3) := by decide +kernel
theorem dX9_isTold_70 : decode cX9_isTold 70 = .ok (.ireturn, 1) := by decide +kernel
theorem dX9_isTold_71 : decode cX9_isTold 71 = .ok (.aload_n 0, 1) := by decide +kernel
theorem dX9_isTold_72 : decode cX9_isTold 72 = .ok (.getfield 139, 3) := by decide +kernel
theorem dX9_isTold_75 : decode cX9_isTold 75 = .ok (.iconst 0, 1) := by decide +kernel
theorem dX9_isTold_76 : decode cX9_isTold 76 = .ok (.sipush 9999, 3) := by decide +kernel
theorem dX9_isTold_79 : decode cX9_isTold 79 = .ok (.invokestatic 38, 3) := by decide +kernel
theorem dX9_isTold_82 : decode cX9_isTold 82 = .ok (.ireturn, 1) := by decide +kernel
theorem dX9_isTold_83 : decode cX9_isTold 83 = .ok (.aload_n 0, 1) := by decide +kernel
theorem dX9_isTold_84 : decode cX9_isTold 84 = .ok (.getfield 139, 3) := by decide +kernel
theorem dX9_isTold_87 : decode cX9_isTold 87 = .ok (.iload_n 2, 1) := by decide +kernel
theorem dX9_isTold_88 : decode cX9_isTold 88 = .ok (.ifCond .ne 7, 3) := by decide +kernel
theorem dX9_isTold_91 : decode cX9_isTold 91 = .ok (.iconst 1, 1) := by decide +kernel
theorem dX9_isTold_92 : decode cX9_isTold 92 = .ok (.goto 4, 3) := by decide +kernel
theorem dX9_isTold_95 : decode cX9_isTold 95 = .ok (.iconst 0, 1) := by decide +kernel
theorem dX9_isTold_96 : decode cX9_isTold 96 = .ok (.iload_n 2, 1) := by decide +kernel
theorem dX9_isTold_97 : decode cX9_isTold 97 = .ok (.ifCond .ne 8, 3) := by decide +kernel
theorem dX9_isTold_100 : decode cX9_isTold 100 = .ok (.bipush 100, 2) := by decide +kernel
theorem dX9_isTold_102 : decode cX9_isTold 102 = .ok (.goto 15, 3) := by decide +kernel
theorem dX9_isTold_105 : decode cX9_isTold 105 = .ok (.iload_n 2, 1) := by decide +kernel
theorem dX9_isTold_106 : decode cX9_isTold 106 = .ok (.iconst 1, 1) := by decide +kernel
theorem dX9_isTold_107 : decode cX9_isTold 107 = .ok (.if_icmp .ne 8, 3) := by decide +kernel
theorem dX9_isTold_110 : decode cX9_isTold 110 = .ok (.bipush 50, 2) := by decide +kernel
theorem dX9_isTold_112 : decode cX9_isTold 112 = .ok (.goto 5, 3) := by decide +kernel
theorem dX9_isTold_115 : decode cX9_isTold 115 = .ok (.bipush 9, 2) := by decide +kernel
theorem dX9_isTold_117 : decode cX9_isTold 117 = .ok (.invokestatic 38, 3) := by decide +kernel
theorem dX9_isTold_120 : decode cX9_isTold 120 = .ok (.ireturn, 1) := by decide +kernel
theorem dX9_isTold_121 : decode cX9_isTold 121 = .ok (.aload_n 0, 1) := by decide +kernel
theorem dX9_isTold_122 : decode cX9_isTold 122 = .ok (.iload_n 2, 1) := by decide +kernel
theorem dX9_isTold_123 : decode cX9_isTold 123 = .ok (.invokevirtual 161, 3) := by decide +kernel
theorem dX9_isTold_126 : decode cX9_isTold 126 = .ok (.ireturn, 1) := by decide +kernel
theorem dX9_isBoulderTold_0 : decode cX9_isBoulderTold 0 = .ok (.iload_n 1, 1) := by decide +kernel
theorem dX9_isBoulderTold_1 : decode cX9_isBoulderTold 1 = .ok (.iconst 2, 1) := by decide +kernel
theorem dX9_isBoulderTold_2 : decode cX9_isBoulderTold 2 = .ok (.if_icmp .ge 28, 3) := by decide +kernel
theorem dX9_isBoulderTold_5 : decode cX9_isBoulderTold 5 = .ok (.aload_n 0, 1) := by decide +kernel
theorem dX9_isBoulderTold_6 : decode cX9_isBoulderTold 6 = .ok (.getfield 139, 3) := by decide +kernel
theorem dX9_isBoulderTold_9 : decode cX9_isBoulderTold 9 = .ok (.iconst 0, 1) := by decide +kernel
theorem dX9_isBoulderTold_10 : decode cX9_isBoulderTold 10 = .ok (.aload_n 0, 1) := by decide +kernel
theorem dX9_isBoulderTold_11 : decode cX9_isBoulderTold 11 = .ok (.getfield 7, 3) := by decide +kernel
theorem dX9_isBoulderTold_14 : decode cX9_isBoulderTold 14 = .ok (.iload_n 1, 1) := by decide +kernel
theorem dX9_isBoulderTold_15 : decode cX9_isBoulderTold 15 = .ok (.ifCond .ne 7, 3) := by decide +kernel
theorem dX9_isBoulderTold_18 : decode cX9_isBoulderTold 18 = .ok (.iconst 0, 1) := by decide +kernel
theorem dX9_isBoulderTold_19 : decode cX9_isBoulderTold 19 = .ok (.goto 4, 3) := by decide +kernel
theorem dX9_isBoulderTold_22 : decode cX9_isBoulderTold 22 = .ok (.iconst 1, 1) := by decide +kernel
theorem dX9_isBoulderTold_23 : decode cX9_isBoulderTold 23 = .ok (.iaload, 1) := by decide +kernel
theorem dX9_isBoulderTold_24 : decode cX9_isBoulderTold 24 = .ok (.iconst 1, 1) := by decide +kernel
theorem dX9_isBoulderTold_25 : decode cX9_isBoulderTold 25 = .ok (.isub, 1) := by decide +kernel
theorem dX9_isBoulderTold_26 : decode cX9_isBoulderTold 26 = .ok (.invokestatic 38, 3) := by decide +kernel
theorem dX9_isBoulderTold_29 : decode cX9_isBoulderTold 29 = .ok (.ireturn, 1) := by decide +kernel
theorem dX9_isBoulderTold_30 : decode cX9_isBoulderTold 30 = .ok (.iload_n 1, 1) := by decide +kernel
theorem dX9_isBoulderTold_31 : decode cX9_isBoulderTold 31 = .ok (.iconst 3, 1) := by decide +kernel
theorem dX9_isBoulderTold_32 : decode cX9_isBoulderTold 32 = .ok (.if_icmp .ne 16, 3) := by decide +kernel
theorem dX9_isBoulderTold_35 : decode cX9_isBoulderTold 35 = .ok (.aload_n 0, 1) := by decide +kernel
theorem dX9_isBoulderTold_36 : decode cX9_isBoulderTold 36 = .ok (.getfield 139, 3) := by decide +kernel
theorem dX9_isBoulderTold_39 : decode cX9_isBoulderTold 39 = .ok (.iconst 1, 1) := by decide +kernel
theorem dX9_isBoulderTold_40 : decode cX9_isBoulderTold 40 = .ok (.bipush 50, 2) := by decide +kernel
theorem dX9_isBoulderTold_42 : decode cX9_isBoulderTold 42 = .ok (.invokestatic 38, 3) := by decide +kernel
theorem dX9_isBoulderTold_45 : decode cX9_isBoulderTold 45 = .ok (.goto 53, 3) := by decide +kernel
theorem dX9_isBoulderTold_48 : decode cX9_isBoulderTold 48 = .ok (.aload_n 0, 1) := by decide +kernel
theorem dX9_isBoulderTold_49 : decode cX9_isBoulderTold 49 = .ok (.getfield 139, 3) := by decide +kernel
theorem dX9_isBoulderTold_52 : decode cX9_isBoulderTold 52 = .ok (.iconst 1, 1) := by decide +kernel
theorem dX9_isBoulderTold_53 : decode cX9_isBoulderTold 53 = .ok (.sipush 200, 3) := by decide +kernel
theorem dX9_isBoulderTold_56 : decode cX9_isBoulderTold 56 = .ok (.invokestatic 38, 3) := by decide +kernel
theorem dX9_isBoulderTold_59 : decode cX9_isBoulderTold 59 = .ok (.ifCond .eq 38, 3) := by decide +kernel
theorem dX9_isBoulderTold_62 : decode cX9_isBoulderTold 62 = .ok (.aload_n 0, 1) := by decide +kernel
theorem dX9_isBoulderTold_63 : decode cX9_isBoulderTold 63 = .ok (.aload_n 0, 1) := by decide +kernel
theorem dX9_isBoulderTold_64 : decode cX9_isBoulderTold 64 = .ok (.getfield 22, 3) := by decide +kernel
theorem dX9_isBoulderTold_67 : decode cX9_isBoulderTold 67 = .ok (.iconst 1, 1) := by decide +kernel
theorem dX9_isBoulderTold_68 : decode cX9_isBoulderTold 68 = .ok (.iaload, 1) := by decide +kernel
theorem dX9_isBoulderTold_69 : decode cX9_isBoulderTold 69 = .ok (.aload_n 0, 1) := by decide +kernel
theorem dX9_isBoulderTold_70 : decode cX9_isBoulderTold 70 = .ok (.getfield 7, 3) := by decide +kernel
theorem dX9_isBoulderTold_73 : decode cX9_isBoulderTold 73 = .ok (.iconst 0, 1) := by decide +kernel
theorem dX9_isBoulderTold_74 : decode cX9_isBoulderTold 74 = .ok (.iaload, 1) := by decide +kernel
theorem dX9_isBoulderTold_75 : decode cX9_isBoulderTold 75 = .ok (.imul, 1) := by decide +kernel
theorem dX9_isBoulderTold_76 : decode cX9_isBoulderTold 76 = .ok (.aload_n 0, 1) := by decide +kernel
theorem dX9_isBoulderTold_77 : decode cX9_isBoulderTold 77 = .ok (.getfield 22, 3) := by decide +kernel
theorem dX9_isBoulderTold_80 : decode cX9_isBoulderTold 80 = .ok (.iconst 0, 1) := by decide +kernel
theorem dX9_isBoulderTold_81 : decode cX9_isBoulderTold 81 = .ok (.iaload, 1) := by decide +kernel
theorem dX9_isBoulderTold_82 : decode cX9_isBoulderTold 82 = .ok (.iadd, 1) := by decide +kernel
theorem dX9_isBoulderTold_83 : decode cX9_isBoulderTold 83 = .ok (.aload_n 0, 1) := by decide +kernel
theorem dX9_isBoulderTold_84 : decode cX9_isBoulderTold 84 = .ok (.getfield 139, 3) := by decide +kernel
theorem dX9_isBoulderTold_87 : decode cX9_isBoulderTold 87 = .ok (.invokevirtual 164, 3) := by decide +kernel
theorem dX9_isBoulderTold_90 : decode cX9_isBoulderTold 90 = .ok (.ifCond .ge 7, 3) := by decide +kernel
theorem dX9_isBoulderTold_93 : decode cX9_isBoulderTold 93 = .ok (.iconst 1, 1) := by decide +kernel
theorem dX9_isBoulderTold_94 : decode cX9_isBoulderTold 94 = .ok (.goto 4, 3) := by decide +kernel
theorem dX9_isBoulderTold_97 : decode cX9_isBoulderTold 97 = .ok (.iconst 0, 1) := by decide +kernel
theorem dX9_isBoulderTold_98 : decode cX9_isBoulderTold 98 = .ok (.ireturn, 1) := by decide +kernel
theorem dX9_puts_0 : decode cX9_puts 0 = .ok (.iload_n 1, 1) := by decide +kernel
theorem dX9_puts_1 : decode cX9_puts 1 = .ok (.ifCond .ne 30, 3) := by decide +kernel
theorem dX9_puts_4 : decode cX9_puts 4 = .ok (.aload_n 0, 1) := by decide +kernel
theorem dX9_puts_5 : decode cX9_puts 5 = .ok (.getfield 7, 3) := by decide +kernel
theorem dX9_puts_8 : decode cX9_puts 8 = .ok (.iconst 0, 1) := by decide +kernel
theorem dX9_puts_9 : decode cX9_puts 9 = .ok (.aload_n 0, 1) := by decide +kernel
theorem dX9_puts_10 : decode cX9_puts 10 = .ok (.getfield 22, 3) := by decide +kernel
theorem dX9_puts_13 : decode cX9_puts 13 = .ok (.iconst 0, 1) := by decide +kernel
theorem dX9_puts_14 : decode cX9_puts 14 = .ok (.iaload, 1) := by decide +kernel
theorem dX9_puts_15 : decode cX9_puts 15 = .ok (.iastore, 1) := by decide +kernel
theorem dX9_puts_16 : decode cX9_puts 16 = .ok (.aload_n 0, 1) := by decide +kernel
theorem dX9_puts_17 : decode cX9_puts 17 = .ok (.getfield 7, 3) := by decide +kernel
theorem dX9_puts_20 : decode cX9_puts 20 = .ok (.iconst 1, 1) := by decide +kernel
theorem dX9_puts_21 : decode cX9_puts 21 = .ok (.aload_n 0, 1) := by decide +kernel
theorem dX9_puts_22 : decode cX9_puts 22 = .ok (.getfield 22, 3) := by decide +kernel
theorem dX9_puts_25 : decode cX9_puts 25 = .ok (.iconst 1, 1) := by decide +kernel
theorem dX9_puts_26 : decode cX9_puts 26 = .ok (.iaload, 1) := by decide +kernel
theorem dX9_puts_27 : decode cX9_puts 27 = .ok (.iastore, 1) := by decide +kernel
theorem dX9_puts_28 : decode cX9_puts 28 = .ok (.goto 110, 3) := by decide +kernel
theorem dX9_puts_31 : decode cX9_puts 31 = .ok (.iload_n 1, 1) := by decide +kernel
theorem dX9_puts_32 : decode cX9_puts 32 = .ok (.iconst 4, 1) := by decide +kernel
theorem dX9_puts_33 : decode cX9_puts 33 = .ok (.if_icmp .ne 28, 3) := by decide +kernel
theorem dX9_puts_36 : decode cX9_puts 36 = .ok (.aload_n 0, 1) := by decide +kernel
theorem dX9_puts_37 : decode cX9_puts 37 = .ok (.aload_n 0, 1) := by decide +kernel
theorem dX9_puts_38 : decode cX9_puts 38 = .ok (.getfield 22, 3) := by decide +kernel
theorem dX9_puts_41 : decode cX9_puts 41 = .ok (.iconst 0, 1) := by decide +kernel
theorem dX9_puts_42 : decode cX9_puts 42 = .ok (.iaload, 1) := by decide +kernel
theorem dX9_puts_43 : decode cX9_puts 43 = .ok (.aload_n 0, 1) := by decide +kernel
theorem dX9_puts_44 : decode cX9_puts 44 = .ok (.getfield 22, 3) := by decide +kernel
theorem dX9_puts_47 : decode cX9_puts 47 = .ok (.iconst 1, 1) := by decide +kernel
theorem dX9_puts_48 : decode cX9_puts 48 = .ok (.iaload, 1) := by decide +kernel
theorem dX9_puts_49 : decode cX9_puts 49 = .ok (.aload_n 0, 1) := by decide +kernel
theorem dX9_puts_50 : decode cX9_puts 50 = .ok (.getfield 22, 3) := by decide +kernel
theorem dX9_puts_53 : decode cX9_puts 53 = .ok (.iconst 2, 1) := by decide +kernel
theorem dX9_puts_54 : decode cX9_puts 54 = .ok (.iaload, 1) := by decide +kernel
theorem dX9_puts_55 : decode cX9_puts 55 = .ok (.invokevirtual 167, 3) := by decide +kernel
theorem dX9_puts_58 : decode cX9_puts 58 = .ok (.goto 80, 3) := by decide +kernel
theorem dX9_puts_61 : decode cX9_puts 61 = .ok (.iload_n 1, 1) := by decide +kernel
theorem dX9_puts_62 : decode cX9_puts 62 = .ok (.iconst 5, 1) := by decide +kernel
theorem dX9_puts_63 : decode cX9_puts 63 = .ok (.if_icmp .ne 43, 3) := by decide +kernel
theorem dX9_puts_66 : decode cX9_puts 66 = .ok (.aload_n 0, 1) := by decide +kernel
theorem dX9_puts_67 : decode cX9_puts 67 = .ok (.aload_n 0, 1) := by decide +kernel
theorem dX9_puts_68 : decode cX9_puts 68 = .ok (.getfield 22, 3) := by decide +kernel
theorem dX9_puts_71 : decode cX9_puts 71 = .ok (.iconst 1, 1) := by decide +kernel
theorem dX9_puts_72 : decode cX9_puts 72 = .ok (.iaload, 1) := by decide +kernel
theorem dX9_puts_73 : decode cX9_puts 73 = .ok (.aload_n 0, 1) := by decide +kernel
theorem dX9_puts_74 : decode cX9_puts 74 = .ok (.getfield 7, 3) := by decide +kernel
theorem dX9_puts_77 : decode cX9_puts 77 = .ok (.iconst 0, 1) := by decide +kernel
theorem dX9_puts_78 : decode cX9_puts 78 = .ok (.iaload, 1) := by decide +kernel
theorem dX9_puts_79 : decode cX9_puts 79 = .ok (.imul, 1) := by decide +kernel
theorem dX9_puts_80 : decode cX9_puts 80 = .ok (.aload_n 0, 1) := by decide +kernel
theorem dX9_puts_81 : decode cX9_puts 81 = .ok (.getfield 22, 3) := by decide +kernel
theorem dX9_puts_84 : decode cX9_puts 84 = .ok (.iconst 0, 1) := by decide +kernel
theorem dX9_puts_85 : decode cX9_puts 85 = .ok (.iaload, 1) := by decide +kernel
theorem dX9_puts_86 : decode cX9_puts 86 = .ok (.iadd, 1) := by decide +kernel
theorem dX9_puts_87 : decode cX9_puts 87 = .ok (.aload_n 0, 1) := by decide +kernel
theorem dX9_puts_88 : decode cX9_puts 88 = .ok (.getfield 22, 3) := by decide +kernel
theorem dX9_puts_91 : decode cX9_puts 91 = .ok (.iconst 2, 1) := by decide +kernel
theorem dX9_puts_92 : decode cX9_puts 92 = .ok (.iaload, 1) := by decide +kernel
theorem dX9_puts_93 : decode cX9_puts 93 = .ok (.aload_n 0, 1) := by decide +kernel
theorem dX9_puts_94 : decode cX9_puts 94 = .ok (.getfield 22, 3) := by decide +kernel
theorem dX9_puts_97 : decode cX9_puts 97 = .ok (.iconst 3, 1) := by decide +kernel
theorem dX9_puts_98 : decode cX9_puts 98 = .ok (.iaload, 1) := by decide +kernel
theorem dX9_puts_99 : decode cX9_puts 99 = .ok (.invokevirtual 171, 3) := by decide +kernel
theorem dX9_puts_102 : decode cX9_puts 102 = .ok (.istore_n 2, 1) := by decide +kernel
theorem dX9_puts_103 : decode cX9_puts 103 = .ok (.goto 35, 3) := by decide +kernel
theorem dX9_puts_106 : decode cX9_puts 106 = .ok (.aload_n 0, 1) := by decide +kernel
theorem dX9_puts_107 : decode cX9_puts 107 = .ok (.getfield 7, 3) := by decide +kernel
theorem dX9_puts_110 : decode cX9_puts 110 = .ok (.iload_n 1, 1) := by decide +kernel
theorem dX9_puts_111 : decode cX9_puts 111 = .ok (.iconst 1, 1) := by decide +kernel
theorem dX9_puts_112 : decode cX9_puts 112 = .ok (.if_icmp .ne 7, 3) := by decide +kernel
theorem dX9_puts_115 : decode cX9_puts 115 = .ok (.iconst 5, 1) := by decide +kernel
theorem dX9_puts_116 : decode cX9_puts 116 = .ok (.goto 15, 3) := by decide +kernel
theorem dX9_puts_119 : decode cX9_puts 119 = .ok (.iload_n 1, 1) := by decide +kernel
theorem dX9_puts_120 : decode cX9_puts 120 = .ok (.iconst 2, 1) := by decide +kernel
theorem dX9_puts_121 : decode cX9_puts 121 = .ok (.if_icmp .ne 8, 3) := by decide +kernel
theorem dX9_puts_124 : decode cX9_puts 124 = .ok (.bipush 6, 2) := by decide +kernel
theorem dX9_puts_126 : decode cX9_puts 126 = .ok (.goto 5, 3) := by decide +kernel
theorem dX9_puts_129 : decode cX9_puts 129 = .ok (.bipush 7, 2) := by decide +kernel
theorem dX9_puts_131 : decode cX9_puts 131 = .ok (.aload_n 0, 1) := by decide +kernel
theorem dX9_puts_132 : decode cX9_puts 132 = .ok (.getfield 22, 3) := by decide +kernel
theorem dX9_puts_135 : decode cX9_puts 135 = .ok (.iconst 0, 1) := by decide +kernel
theorem dX9_puts_136 : decode cX9_puts 136 = .ok (.iaload, 1) := by decide +kernel
theorem dX9_puts_137 : decode cX9_puts 137 = .ok (.iastore, 1) := by decide +kernel
theorem dX9_puts_138 : decode cX9_puts 138 = .ok (.return_, 1) := by decide +kernel
theorem dX9_mayBegin_0 : decode cX9_mayBegin 0 = .ok (.aload_n 0, 1) := by decide +kernel
theorem dX9_mayBegin_1 : decode cX9_mayBegin 1 = .ok (.getfield 136, 3) := by decide +kernel
theorem dX9_mayBegin_4 : decode cX9_mayBegin 4 = .ok (.iconst 1, 1) := by decide +kernel
theorem dX9_mayBegin_5 : decode cX9_mayBegin 5 = .ok (.if_icmp .ne 53, 3) := by decide +kernel
theorem dX9_mayBegin_8 : decode cX9_mayBegin 8 = .ok (.iload_n 1, 1) := by decide +kernel
theorem dX9_mayBegin_9 : decode cX9_mayBegin 9 = .ok (.ifCond .lt 49, 3) := by decide +kernel
theorem dX9_mayBegin_12 : decode cX9_mayBegin 12 = .ok (.iload_n 1, 1) := by decide +kernel
theorem dX9_mayBegin_13 : decode cX9_mayBegin 13 = .ok (.ifCond .ne 7, 3) := by decide +kernel
theorem dX9_mayBegin_16 : decode cX9_mayBegin 16 = .ok (.iload_n 2, 1) := by decide +kernel
theorem dX9_mayBegin_17 : decode cX9_mayBegin 17 = .ok (.ifCond .ne 41, 3) := by decide +kernel
theorem dX9_mayBegin_20 : decode cX9_mayBegin 20 = .ok (.iload_n 1, 1) := by decide +kernel
theorem dX9_mayBegin_21 : decode cX9_mayBegin 21 = .ok (.iconst 4, 1) := by decide +kernel
theorem dX9_mayBegin_22 : decode cX9_mayBegin 22 = .ok (.if_icmp .ne 15, 3) := by decide +kernel
theorem dX9_mayBegin_25 : decode cX9_mayBegin 25 = .ok (.aload_n 0, 1) := by decide +kernel
theorem dX9_mayBegin_26 : decode cX9_mayBegin 26 = .ok (.getfield 7, 3) := by decide +kernel
theorem dX9_mayBegin_29 : decode cX9_mayBegin 29 = .ok (.bipush 8, 2) := by decide +kernel
theorem dX9_mayBegin_31 : decode cX9_mayBegin 31 = .ok (.iaload, 1) := by decide +kernel
theorem dX9_mayBegin_32 : decode cX9_mayBegin 32 = .ok (.bipush 8, 2) := by decide +kernel
theorem dX9_mayBegin_34 : decode cX9_mayBegin 34 = .ok (.if_icmp .ge 24, 3) := by decide +kernel
theorem dX9_mayBegin_37 : decode cX9_mayBegin 37 = .ok (.iload_n 1, 1) := by decide +kernel
theorem dX9_mayBegin_38 : decode cX9_mayBegin 38 = .ok (.iconst 5, 1) := by decide +kernel
theorem dX9_mayBegin_39 : decode cX9_mayBegin 39 = .ok (.if_icmp .ne 15, 3) := by decide +kernel
theorem dX9_mayBegin_42 : decode cX9_mayBegin 42 = .ok (.aload_n 0, 1) := by decide +kernel
theorem dX9_mayBegin_43 : decode cX9_mayBegin 43 = .ok (.getfield 7, 3) := by decide +kernel
theorem dX9_mayBegin_46 : decode cX9_mayBegin 46 = .ok (.bipush 33, 2) := by decide +kernel
theorem dX9_mayBegin_48 : decode cX9_mayBegin 48 = .ok (.iaload, 1) := by decide +kernel
theorem dX9_mayBegin_49 : decode cX9_mayBegin 49 = .ok (.bipush 10, 2) := by decide +kernel
theorem dX9_mayBegin_51 : decode cX9_mayBegin 51 = .ok (.if_icmp .ge 7, 3) := by decide +kernel
theorem dX9_mayBegin_54 : decode cX9_mayBegin 54 = .ok (.iconst 1, 1) := by decide +kernel
theorem dX9_mayBegin_55 : decode cX9_mayBegin 55 = .ok (.goto 4, 3) := by decide +kernel
theorem dX9_mayBegin_58 : decode cX9_mayBegin 58 = .ok (.iconst 0, 1) := by decide +kernel
theorem dX9_mayBegin_59 : decode cX9_mayBegin 59 = .ok (.ireturn, 1) := by decide +kernel
theorem dX9_isRead_0 : decode cX9_isRead 0 = .ok (.iload_n 1, 1) := by decide +kernel
theorem dX9_isRead_1 : decode cX9_isRead 1 = .ok (.invokestatic 175, 3) := by decide +kernel
theorem dX9_isRead_4 : decode cX9_isRead 4 = .ok (.istore_n 2, 1) := by decide +kernel
theorem dX9_isRead_5 : decode cX9_isRead 5 = .ok (.iconst 1, 1) := by decide +kernel
theorem dX9_isRead_6 : decode cX9_isRead 6 = .ok (.istore_n 3, 1) := by decide +kernel
theorem dX9_isRead_7 : decode cX9_isRead 7 = .ok (.iconst 0, 1) := by decide +kernel
theorem dX9_isRead_8 : decode cX9_isRead 8 = .ok (.istore 4, 2) := by decide +kernel
theorem dX9_isRead_10 : decode cX9_isRead 10 = .ok (.iload 4, 2) := by decide +kernel
theorem dX9_isRead_12 : decode cX9_isRead 12 = .ok (.iload_n 2, 1) := by decide +kernel
theorem dX9_isRead_13 : decode cX9_isRead 13 = .ok (.if_icmp .ge 52, 3) := by decide +kernel
theorem dX9_isRead_16 : decode cX9_isRead 16 = .ok (.iload_n 3, 1) := by decide +kernel
theorem dX9_isRead_17 : decode cX9_isRead 17 = .ok (.ifCond .eq 48, 3) := by decide +kernel
theorem dX9_isRead_20 : decode cX9_isRead 20 = .ok (.aload_n 0, 1) := by decide +kernel
theorem dX9_isRead_21 : decode cX9_isRead 21 = .ok (.invokevirtual 178, 3) := by decide +kernel
theorem dX9_isRead_24 : decode cX9_isRead 24 = .ok (.aload_n 0, 1) := by decide +kernel
theorem dX9_isRead_25 : decode cX9_isRead 25 = .ok (.getfield 136, 3) := by decide +kernel
theorem dX9_isRead_28 : decode cX9_isRead 28 = .ok (.iconst 2, 1) := by decide +kernel
theorem dX9_isRead_29 : decode cX9_isRead 29 = .ok (.if_icmp .ne 17, 3) := by decide +kernel
theorem dX9_isRead_32 : decode cX9_isRead 32 = .ok (.aload_n 0, 1) := by decide +kernel
theorem dX9_isRead_33 : decode cX9_isRead 33 = .ok (.iload_n 1, 1) := by decide +kernel
theorem dX9_isRead_34 : decode cX9_isRead 34 = .ok (.iload 4, 2) := by decide +kernel
theorem dX9_isRead_36 : decode cX9_isRead 36 = .ok (.invokevirtual 181, 3) := by decide +kernel
theorem dX9_isRead_39 : decode cX9_isRead 39 = .ok (.ifCond .eq 7, 3) := by decide +kernel
theorem dX9_isRead_42 : decode cX9_isRead 42 = .ok (.iconst 1, 1) := by decide +kernel
theorem dX9_isRead_43 : decode cX9_isRead 43 = .ok (.goto 4, 3) := by decide +kernel
theorem dX9_isRead_46 : decode cX9_isRead 46 = .ok (.iconst 0, 1) := by decide +kernel
theorem dX9_isRead_47 : decode cX9_isRead 47 = .ok (.istore_n 3, 1) := by decide +kernel
theorem dX9_isRead_48 : decode cX9_isRead 48 = .ok (.aload_n 0, 1) := by decide +kernel
theorem dX9_isRead_49 : decode cX9_isRead 49 = .ok (.getfield 22, 3) := by decide +kernel
theorem dX9_isRead_52 : decode cX9_isRead 52 = .ok (.iload 4, 2) := by decide +kernel
theorem dX9_isRead_54 : decode cX9_isRead 54 = .ok (.aload_n 0, 1) := by decide +kernel
theorem dX9_isRead_55 : decode cX9_isRead 55 = .ok (.getfield 139, 3) := by decide +kernel
theorem dX9_isRead_58 : decode cX9_isRead 58 = .ok (.iastore, 1) := by decide +kernel
theorem dX9_isRead_59 : decode cX9_isRead 59 = .ok (.iinc 4 1, 3) := by decide +kernel
theorem dX9_isRead_62 : decode cX9_isRead 62 = .ok (.goto (-52), 3) := by decide +kernel
theorem dX9_isRead_65 : decode cX9_isRead 65 = .ok (.iload_n 3, 1) := by decide +kernel
theorem dX9_isRead_66 : decode cX9_isRead 66 = .ok (.ifCond .eq 21, 3) := by decide +kernel
theorem dX9_isRead_69 : decode cX9_isRead 69 = .ok (.aload_n 0, 1) := by decide +kernel
theorem dX9_isRead_70 : decode cX9_isRead 70 = .ok (.invokevirtual 178, 3) := by decide +kernel
theorem dX9_isRead_73 : decode cX9_isRead 73 = .ok (.aload_n 0, 1) := by decide +kernel
theorem dX9_isRead_74 : decode cX9_isRead 74 = .ok (.getfield 136, 3) := by decide +kernel
theorem dX9_isRead_77 : decode cX9_isRead 77 = .ok (.iconst 3, 1) := by decide +kernel
theorem dX9_isRead_78 : decode cX9_isRead 78 = .ok (.if_icmp .ne 7, 3) := by decide +kernel
theorem dX9_isRead_81 : decode cX9_isRead 81 = .ok (.iconst 1, 1) := by decide +kernel
theorem dX9_isRead_82 : decode cX9_isRead 82 = .ok (.goto 4, 3) := by decide +kernel
theorem dX9_isRead_85 : decode cX9_isRead 85 = .ok (.iconst 0, 1) := by decide +kernel
theorem dX9_isRead_86 : decode cX9_isRead 86 = .ok (.istore_n 3, 1) := by decide +kernel
theorem dX9_isRead_87 : decode cX9_isRead 87 = .ok (.iload_n 3, 1) := by decide +kernel
theorem dX9_isRead_88 : decode cX9_isRead 88 = .ok (.ifCond .eq 8, 3) := by decide +kernel
theorem dX9_isRead_91 : decode cX9_isRead 91 = .ok (.aload_n 0, 1) := by decide +kernel
theorem dX9_isRead_92 : decode cX9_isRead 92 = .ok (.iload_n 1, 1) := by decide +kernel
theorem dX9_isRead_93 : decode cX9_isRead 93 = .ok (.invokevirtual 184, 3) := by decide +kernel
theorem dX9_isRead_96 : decode cX9_isRead 96 = .ok (.iload_n 3, 1) := by decide +kernel
theorem dX9_isRead_97 : decode cX9_isRead 97 = .ok (.ireturn, 1) := by decide +kernel
theorem dX9_loadOf_0 : decode cX9_loadOf 0 = .ok (.aload_n 0, 1) := by decide +kernel
theorem dX9_loadOf_1 : decode cX9_loadOf 1 = .ok (.getfield 7, 3) := by decide +kernel
theorem dX9_loadOf_4 : decode cX9_loadOf 4 = .ok (.iconst 5, 1) := by decide +kernel
theorem dX9_loadOf_5 : decode cX9_loadOf 5 = .ok (.iaload, 1) := by decide +kernel
theorem dX9_loadOf_6 : decode cX9_loadOf 6 = .ok (.istore_n 1, 1) := by decide +kernel
theorem dX9_loadOf_7 : decode cX9_loadOf 7 = .ok (.iconst 0, 1) := by decide +kernel
theorem dX9_loadOf_8 : decode cX9_loadOf 8 = .ok (.istore_n 2, 1) := by decide +kernel
theorem dX9_loadOf_9 : decode cX9_loadOf 9 = .ok (.iload_n 2, 1) := by decide +kernel
theorem dX9_loadOf_10 : decode cX9_loadOf 10 = .ok (.aload_n 0, 1) := by decide +kernel
theorem dX9_loadOf_11 : decode cX9_loadOf 11 = .ok (.invokevirtual 95, 3) := by decide +kernel
theorem dX9_loadOf_14 : decode cX9_loadOf 14 = .ok (.if_icmp .ge 21, 3) := by decide +kernel
theorem dX9_loadOf_17 : decode cX9_loadOf 17 = .ok (.iload_n 1, 1) := by decide +kernel
theorem dX9_loadOf_18 : decode cX9_loadOf 18 = .ok (.aload_n 0, 1) := by decide +kernel
theorem dX9_loadOf_19 : decode cX9_loadOf 19 = .ok (.getfield 7, 3) := by decide +kernel
theorem dX9_loadOf_22 : decode cX9_loadOf 22 = .ok (.bipush 68, 2) := by decide +kernel
theorem dX9_loadOf_24 : decode cX9_loadOf 24 = .ok (.iload_n 2, 1) := by decide +kernel
theorem dX9_loadOf_25 : decode cX9_loadOf 25 = .ok (.iadd, 1) := by decide +kernel
theorem dX9_loadOf_26 : decode cX9_loadOf 26 = .ok (.iaload, 1) := by decide +kernel
theorem dX9_loadOf_27 : decode cX9_loadOf 27 = .ok (.iadd, 1) := by decide +kernel
theorem dX9_loadOf_28 : decode cX9_loadOf 28 = .ok (.istore_n 1, 1) := by decide +kernel
theorem dX9_loadOf_29 : decode cX9_loadOf 29 = .ok (.iinc 2 1, 3) := by decide +kernel
theorem dX9_loadOf_32 : decode cX9_loadOf 32 = .ok (.goto (-23), 3) := by decide +kernel
theorem dX9_loadOf_35 : decode cX9_loadOf 35 = .ok (.iconst 4, 1) := by decide +kernel
theorem dX9_loadOf_36 : decode cX9_loadOf 36 = .ok (.iload_n 1, 1) := by decide +kernel
theorem dX9_loadOf_37 : decode cX9_loadOf 37 = .ok (.imul, 1) := by decide +kernel
theorem dX9_loadOf_38 : decode cX9_loadOf 38 = .ok (.ireturn, 1) := by decide +kernel
theorem dX9_load_0 : decode cX9_load 0 = .ok (.aload_n 0, 1) := by decide +kernel
theorem dX9_load_1 : decode cX9_load 1 = .ok (.invokevirtual 188, 3) := by decide +kernel
theorem dX9_load_4 : decode cX9_load 4 = .ok (.aload_n 0, 1) := by decide +kernel
theorem dX9_load_5 : decode cX9_load 5 = .ok (.invokevirtual 31, 3) := by decide +kernel
theorem dX9_load_8 : decode cX9_load 8 = .ok (.aload_n 0, 1) := by decide +kernel
theorem dX9_load_9 : decode cX9_load 9 = .ok (.iconst 0, 1) := by decide +kernel
theorem dX9_load_10 : decode cX9_load 10 = .ok (.putfield 127, 3) := by decide +kernel
theorem dX9_load_13 : decode cX9_load 13 = .ok (.iconst 0, 1) := by decide +kernel
theorem dX9_load_14 : decode cX9_load 14 = .ok (.istore_n 1, 1) := by decide +kernel
theorem dX9_load_15 : decode cX9_load 15 = .ok (.aload_n 0, 1) := by decide +kernel
theorem dX9_load_16 : decode cX9_load 16 = .ok (.invokevirtual 178, 3) := by decide +kernel
theorem dX9_load_19 : decode cX9_load 19 = .ok (.aload_n 0, 1) := by decide +kernel
theorem dX9_load_20 : decode cX9_load 20 = .ok (.getfield 136, 3) := by decide +kernel
theorem dX9_load_23 : decode cX9_load 23 = .ok (.ifCond .eq 60, 3) := by decide +kernel
theorem dX9_load_26 : decode cX9_load 26 = .ok (.aload_n 0, 1) := by decide +kernel
theorem dX9_load_27 : decode cX9_load 27 = .ok (.getfield 136, 3) := by decide +kernel
theorem dX9_load_30 : decode cX9_load 30 = .ok (.iconst 1, 1) := by decide +kernel
theorem dX9_load_31 : decode cX9_load 31 = .ok (.if_icmp .ne 10, 3) := by decide +kernel
theorem dX9_load_34 : decode cX9_load 34 = .ok (.aload_n 0, 1) := by decide +kernel
theorem dX9_load_35 : decode cX9_load 35 = .ok (.invokevirtual 191, 3) := by decide +kernel
theorem dX9_load_38 : decode cX9_load 38 = .ok (.goto 5, 3) := by decide +kernel
theorem dX9_load_41 : decode cX9_load 41 = .ok (.ldc 160, 2) := by decide +kernel
theorem dX9_load_43 : decode cX9_load 43 = .ok (.istore_n 2, 1) := by decide +kernel
theorem dX9_load_44 : decode cX9_load 44 = .ok (.aload_n 0, 1) := by decide +kernel
theorem dX9_load_45 : decode cX9_load 45 = .ok (.iload_n 2, 1) := by decide +kernel
theorem dX9_load_46 : decode cX9_load 46 = .ok (.iload_n 1, 1) := by decide +kernel
theorem dX9_load_47 : decode cX9_load 47 = .ok (.invokevirtual 194, 3) := by decide +kernel
theorem dX9_load_50 : decode cX9_load 50 = .ok (.ifCond .eq 11, 3) := by decide +kernel
theorem dX9_load_53 : decode cX9_load 53 = .ok (.aload_n 0, 1) := by decide +kernel
theorem dX9_load_54 : decode cX9_load 54 = .ok (.iload_n 2, 1) := by decide +kernel
theorem dX9_load_55 : decode cX9_load 55 = .ok (.invokevirtual 197, 3) := by decide +kernel
theorem dX9_load_58 : decode cX9_load 58 = .ok (.ifCond .ne 15, 3) := by decide +kernel
theorem dX9_load_61 : decode cX9_load 61 = .ok (.aload_n 0, 1) := by decide +kernel
theorem dX9_load_62 : decode cX9_load 62 = .ok (.invokevirtual 200, 3) := by decide +kernel
theorem dX9_load_65 : decode cX9_load 65 = .ok (.bipush (-10), 2) := by decide +kernel
theorem dX9_load_67 : decode cX9_load 67 = .ok (.aload_n 0, 1) := by decide +kernel
theorem dX9_load_68 : decode cX9_load 68 = .ok (.getfield 133, 3) := by decide +kernel
theorem dX9_load_71 : decode cX9_load 71 = .ok (.isub, 1) := by decide +kernel
theorem dX9_load_72 : decode cX9_load 72 = .ok (.ireturn, 1) := by decide +kernel
theorem dX9_load_73 : decode cX9_load 73 = .ok (.iinc 1 1, 3) := by decide +kernel
theorem dX9_load_76 : decode cX9_load 76 = .ok (.aload_n 0, 1) := by decide +kernel
theorem dX9_load_77 : decode cX9_load 77 = .ok (.invokevirtual 178, 3) := by decide +kernel
theorem dX9_load_80 : decode cX9_load 80 = .ok (.goto (-61), 3) := by decide +kernel
theorem dX9_load_83 : decode cX9_load 83 = .ok (.aload_n 0, 1) := by decide +kernel
theorem dX9_load_84 : decode cX9_load 84 = .ok (.iconst 0, 1) := by decide +kernel
theorem dX9_load_85 : decode cX9_load 85 = .ok (.putfield 123, 3) := by decide +kernel
theorem dX9_load_88 : decode cX9_load 88 = .ok (.aload_n 0, 1) := by decide +kernel
theorem dX9_load_89 : decode cX9_load 89 = .ok (.iload_n 1, 1) := by decide +kernel
theorem dX9_load_90 : decode cX9_load 90 = .ok (.invokevirtual 203, 3) := by decide +kernel
theorem dX9_load_93 : decode cX9_load 93 = .ok (.ireturn, 1) := by decide +kernel
theorem dX9_resize_0 : decode cX9_resize 0 = .ok (.iload_n 1, 1) := by decide +kernel
theorem dX9_resize_1 : decode cX9_resize 1 = .ok (.iconst 3, 1) := by decide +kernel
theorem dX9_resize_2 : decode cX9_resize 2 = .ok (.bipush 7, 2) := by decide +kernel
theorem dX9_resize_4 : decode cX9_resize 4 = .ok (.invokestatic 38, 3) := by decide +kernel
theorem dX9_resize_7 : decode cX9_resize 7 = .ok (.ifCond .eq 13, 3) := by decide +kernel
theorem dX9_resize_10 : decode cX9_resize 10 = .ok (.iload_n 2, 1) := by decide +kernel
theorem dX9_resize_11 : decode cX9_resize 11 = .ok (.iconst 3, 1) := by decide +kernel
theorem dX9_resize_12 : decode cX9_resize 12 = .ok (.bipush 7, 2) := by decide +kernel
theorem dX9_resize_14 : decode cX9_resize 14 = .ok (.invokestatic 38, 3) := by decide +kernel
theorem dX9_resize_17 : decode cX9_resize 17 = .ok (.ifCond .ne 6, 3) := by decide +kernel
theorem dX9_resize_20 : decode cX9_resize 20 = .ok (.ldc 122, 2) := by decide +kernel
theorem dX9_resize_22 : decode cX9_resize 22 = .ok (.ireturn, 1) := by decide +kernel
theorem dX9_resize_23 : decode cX9_resize 23 = .ok (.aload_n 0, 1) := by decide +kernel
theorem dX9_resize_24 : decode cX9_resize 24 = .ok (.invokevirtual 188, 3) := by decide +kernel
theorem dX9_resize_27 : decode cX9_resize 27 = .ok (.aload_n 0, 1) := by decide +kernel
theorem dX9_resize_28 : decode cX9_resize 28 = .ok (.getfield 7, 3) := by decide +kernel
theorem dX9_resize_31 : decode cX9_resize 31 = .ok (.iconst 0, 1) := by decide +kernel
theorem dX9_resize_32 : decode cX9_resize 32 = .ok (.iload_n 1, 1) := by decide +kernel
theorem dX9_resize_33 : decode cX9_resize 33 = .ok (.iastore, 1) := by decide +kernel
theorem dX9_resize_34 : decode cX9_resize 34 = .ok (.aload_n 0, 1) := by decide +kernel
theorem dX9_resize_35 : decode cX9_resize 35 = .ok (.getfield 7, 3) := by decide +kernel
theorem dX9_resize_38 : decode cX9_resize 38 = .ok (.iconst 1, 1) := by decide +kernel
theorem dX9_resize_39 : decode cX9_resize 39 = .ok (.iload_n 2, 1) := by decide +kernel
theorem dX9_resize_40 : decode cX9_resize 40 = .ok (.iastore, 1) := by decide +kernel
theorem dX9_resize_41 : decode cX9_resize 41 = .ok (.aload_n 0, 1) := by decide +kernel
theorem dX9_resize_42 : decode cX9_resize 42 = .ok (.getfield 7, 3) := by decide +kernel
theorem dX9_resize_45 : decode cX9_resize 45 = .ok (.iconst 2, 1) := by decide +kernel
theorem dX9_resize_46 : decode cX9_resize 46 = .ok (.iconst 0, 1) := by decide +kernel
theorem dX9_resize_47 : decode cX9_resize 47 = .ok (.iastore, 1) := by decide +kernel
theorem dX9_resize_48 : decode cX9_resize 48 = .ok (.aload_n 0, 1) := by decide +kernel
theorem dX9_resize_49 : decode cX9_resize 49 = .ok (.getfield 7, 3) := by decide +kernel
theorem dX9_resize_52 : decode cX9_resize 52 = .ok (.iconst 3, 1) := by decide +kernel
theorem dX9_resize_53 : decode cX9_resize 53 = .ok (.iconst 0, 1) := by decide +kernel
theorem dX9_resize_54 : decode cX9_resize 54 = .ok (.iastore, 1) := by decide +kernel
theorem dX9_resize_55 : decode cX9_resize 55 = .ok (.aload_n 0, 1) := by decide +kernel
theorem dX9_resize_56 : decode cX9_resize 56 = .ok (.getfield 7, 3) := by decide +kernel
theorem dX9_resize_59 : decode cX9_resize 59 = .ok (.iconst 4, 1) := by decide +kernel
theorem dX9_resize_60 : decode cX9_resize 60 = .ok (.iconst 0, 1) := by decide +kernel
theorem dX9_resize_61 : decode cX9_resize 61 = .ok (.iastore, 1) := by decide +kernel
theorem dX9_resize_62 : decode cX9_resize 62 = .ok (.aload_n 0, 1) := by decide +kernel
theorem dX9_resize_63 : decode cX9_resize 63 = .ok (.getfield 7, 3) := by decide +kernel
theorem dX9_resize_66 : decode cX9_resize 66 = .ok (.bipush 33, 2) := by decide +kernel
theorem dX9_resize_68 : decode cX9_resize 68 = .ok (.iconst 0, 1) := by decide +kernel
theorem dX9_resize_69 : decode cX9_resize 69 = .ok (.iastore, 1) := by decide +kernel
theorem dX9_resize_70 : decode cX9_resize 70 = .ok (.bipush 64, 2) := by decide +kernel
theorem dX9_resize_72 : decode cX9_resize 72 = .ok (.istore_n 3, 1) := by decide +kernel
theorem dX9_resize_73 : decode cX9_resize 73 = .ok (.iload_n 3, 1) := by decide +kernel
theorem dX9_resize_74 : decode cX9_resize 74 = .ok (.sipush 166, 3) := by decide +kernel
theorem dX9_resize_77 : decode cX9_resize 77 = .ok (.if_icmp .ge 16, 3) := by decide +kernel
theorem dX9_resize_80 : decode cX9_resize 80 = .ok (.aload_n 0, 1) := by decide +kernel
theorem dX9_resize_81 : decode cX9_resize 81 = .ok (.getfield 7, 3) := by decide +kernel
theorem dX9_resize_84 : decode cX9_resize 84 = .ok (.iload_n 3, 1) := by decide +kernel
theorem dX9_resize_85 : decode cX9_resize 85 = .ok (.iconst 0, 1) := by decide +kernel
theorem dX9_resize_86 : decode cX9_resize 86 = .ok (.iastore, 1) := by decide +kernel
theorem dX9_resize_87 : decode cX9_resize 87 = .ok (.iinc 3 1, 3) := by decide +kernel
theorem dX9_resize_90 : decode cX9_resize 90 = .ok (.goto (-17), 3) := by decide +kernel
theorem dX9_resize_93 : decode cX9_resize 93 = .ok (.aload_n 0, 1) := by decide +kernel
theorem dX9_resize_94 : decode cX9_resize 94 = .ok (.iload_n 1, 1) := by decide +kernel
theorem dX9_resize_95 : decode cX9_resize 95 = .ok (.iconst 2, 1) := by decide +kernel
theorem dX9_resize_96 : decode cX9_resize 96 = .ok (.isub, 1) := by decide +kernel
theorem dX9_resize_97 : decode cX9_resize 97 = .ok (.iload_n 2, 1) := by decide +kernel
theorem dX9_resize_98 : decode cX9_resize 98 = .ok (.iconst 2, 1) := by decide +kernel
theorem dX9_resize_99 : decode cX9_resize 99 = .ok (.isub, 1) := by decide +kernel
theorem dX9_resize_100 : decode cX9_resize 100 = .ok (.imul, 1) := by decide +kernel
theorem dX9_resize_101 : decode cX9_resize 101 = .ok (.invokevirtual 203, 3) := by decide +kernel
theorem dX9_resize_104 : decode cX9_resize 104 = .ok (.ireturn, 1) := by decide +kernel
theorem dX9_becomes_0 : decode cX9_becomes 0 = .ok (.aload_n 0, 1) := by decide +kernel
theorem dX9_becomes_1 : decode cX9_becomes 1 = .ok (.invokevirtual 188, 3) := by decide +kernel
theorem dX9_becomes_4 : decode cX9_becomes 4 = .ok (.aload_n 0, 1) := by decide +kernel
theorem dX9_becomes_5 : decode cX9_becomes 5 = .ok (.getfield 7, 3) := by decide +kernel
theorem dX9_becomes_8 : decode cX9_becomes 8 = .ok (.iload_n 1, 1) := by decide +kernel
theorem dX9_becomes_9 : decode cX9_becomes 9 = .ok (.iaload, 1) := by decide +kernel
theorem dX9_becomes_10 : decode cX9_becomes 10 = .ok (.istore_n 3, 1) := by decide +kernel
theorem dX9_becomes_11 : decode cX9_becomes 11 = .ok (.aload_n 0, 1) := by decide +kernel
theorem dX9_becomes_12 : decode cX9_becomes 12 = .ok (.getfield 7, 3) := by decide +kernel
theorem dX9_becomes_15 : decode cX9_becomes 15 = .ok (.iload_n 1, 1) := by decide +kernel
theorem dX9_becomes_16 : decode cX9_becomes 16 = .ok (.iload_n 2, 1) := by decide +kernel
theorem dX9_becomes_17 : decode cX9_becomes 17 = .ok (.iastore, 1) := by decide +kernel
theorem dX9_becomes_18 : decode cX9_becomes 18 = .ok (.aload_n 0, 1) := by decide +kernel
theorem dX9_becomes_19 : decode cX9_becomes 19 = .ok (.iload_n 3, 1) := by decide +kernel
theorem dX9_becomes_20 : decode cX9_becomes 20 = .ok (.invokevirtual 203, 3) := by decide +kernel
theorem dX9_becomes_23 : decode cX9_becomes 23 = .ok (.ireturn, 1) := by decide +kernel
theorem dX9_setWeight_0 : decode cX9_setWeight 0 = .ok (.iload_n 1, 1) := by decide +kernel
theorem dX9_setWeight_1 : decode cX9_setWeight 1 = .ok (.iconst 1, 1) := by decide +kernel
theorem dX9_setWeight_2 : decode cX9_setWeight 2 = .ok (.sipush 9999, 3) := by decide +kernel
theorem dX9_setWeight_5 : decode cX9_setWeight 5 = .ok (.invokestatic 38, 3) := by decide +kernel
theorem dX9_setWeight_8 : decode cX9_setWeight 8 = .ok (.ifCond .eq 12, 3) := by decide +kernel
theorem dX9_setWeight_11 : decode cX9_setWeight 11 = .ok (.aload_n 0, 1) := by decide +kernel
theorem dX9_setWeight_12 : decode cX9_setWeight 12 = .ok (.iconst 5, 1) := by decide +kernel
theorem dX9_setWeight_13 : decode cX9_setWeight 13 = .ok (.iload_n 1, 1) := by decide +kernel
theorem dX9_setWeight_14 : decode cX9_setWeight 14 = .ok (.invokevirtual 206, 3) := by decide +kernel
theorem dX9_setWeight_17 : decode cX9_setWeight 17 = .ok (.goto 5, 3) := by decide +kernel
theorem dX9_setWeight_20 : decode cX9_setWeight 20 = .ok (.ldc 122, 2) := by decide +kernel
theorem dX9_setWeight_22 : decode cX9_setWeight 22 = .ok (.ireturn, 1) := by decide +kernel
theorem dX9_setStiffness_0 : decode cX9_setStiffness 0 = .ok (.iload_n 1, 1) := by decide +kernel
theorem dX9_setStiffness_1 : decode cX9_setStiffness 1 = .ok (.iconst 0, 1) := by decide +kernel
theorem dX9_setStiffness_2 : decode cX9_setStiffness 2 = .ok (.sipush 9999, 3) := by decide +kernel
theorem dX9_setStiffness_5 : decode cX9_setStiffness 5 = .ok (.invokestatic 38, 3) := by decide +kernel
theorem dX9_setStiffness_8 : decode cX9_setStiffness 8 = .ok (.ifCond .eq 13, 3) := by decide +kernel
theorem dX9_setStiffness_11 : decode cX9_setStiffness 11 = .ok (.aload_n 0, 1) := by decide +kernel
theorem dX9_setStiffness_12 : decode cX9_setStiffness 12 = .ok (.bipush 7, 2) := by decide +kernel
theorem dX9_setStiffness_14 : decode cX9_setStiffness 14 = .ok (.iload_n 1, 1) := by decide +kernel
theorem dX9_setStiffness_15 : decode cX9_setStiffness 15 = .ok (.invokevirtual 206, 3) := by decide +kernel
theorem dX9_setStiffness_18 : decode cX9_setStiffness 18 = .ok (.goto 5, 3) := by decide +kernel
theorem dX9_setStiffness_21 : decode cX9_setStiffness 21 = .ok (.ldc 122, 2) := by decide +kernel
theorem dX9_setStiffness_23 : decode cX9_setStiffness 23 = .ok (.ireturn, 1) := by decide +kernel
theorem dX9_putsLayer_0 : decode cX9_putsLayer 0 = .ok (.bipush 9, 2) := by decide +kernel
theorem dX9_putsLayer_2 : decode cX9_putsLayer 2 = .ok (.iconst 3, 1) := by decide +kernel
theorem dX9_putsLayer_3 : decode cX9_putsLayer 3 = .ok (.aload_n 0, 1) := by decide +kernel
theorem dX9_putsLayer_4 : decode cX9_putsLayer 4 = .ok (.getfield 7, 3) := by decide +kernel
theorem dX9_putsLayer_7 : decode cX9_putsLayer 7 = .ok (.bipush 8, 2) := by decide +kernel
theorem dX9_putsLayer_9 : decode cX9_putsLayer 9 = .ok (.iaload, 1) := by decide +kernel
theorem dX9_putsLayer_10 : decode cX9_putsLayer 10 = .ok (.imul, 1) := by decide +kernel
theorem dX9_putsLayer_11 : decode cX9_putsLayer 11 = .ok (.iadd, 1) := by decide +kernel
theorem dX9_putsLayer_12 : decode cX9_putsLayer 12 = .ok (.istore 4, 2) := by decide +kernel
theorem dX9_putsLayer_14 : decode cX9_putsLayer 14 = .ok (.aload_n 0, 1) := by decide +kernel
theorem dX9_putsLayer_15 : decode cX9_putsLayer 15 = .ok (.getfield 7, 3) := by decide +kernel
theorem dX9_putsLayer_18 : decode cX9_putsLayer 18 = .ok (.iload 4, 2) := by decide +kernel
theorem dX9_putsLayer_20 : decode cX9_putsLayer 20 = .ok (.iload_n 1, 1) := by decide +kernel
theorem dX9_putsLayer_21 : decode cX9_putsLayer 21 = .ok (.iastore, 1) := by decide +kernel
theorem dX9_putsLayer_22 : decode cX9_putsLayer 22 = .ok (.aload_n 0, 1) := by decide +kernel
theorem dX9_putsLayer_23 : decode cX9_putsLayer 23 = .ok (.getfield 7, 3) := by decide +kernel
theorem dX9_putsLayer_26 : decode cX9_putsLayer 26 = .ok (.iload 4, 2) := by decide +kernel
theorem dX9_putsLayer_28 : decode cX9_putsLayer 28 = .ok (.iconst 1, 1) := by decide +kernel
theorem dX9_putsLayer_29 : decode cX9_putsLayer 29 = .ok (.iadd, 1) := by decide +kernel
theorem dX9_putsLayer_30 : decode cX9_putsLayer 30 = .ok (.iload_n 2, 1) := by decide +kernel
theorem dX9_putsLayer_31 : decode cX9_putsLayer 31 = .ok (.iastore, 1) := by decide +kernel
theorem dX9_putsLayer_32 : decode cX9_putsLayer 32 = .ok (.aload_n 0, 1) := by decide +kernel
theorem dX9_putsLayer_33 : decode cX9_putsLayer 33 = .ok (.getfield 7, 3) := by decide +kernel
theorem dX9_putsLayer_36 : decode cX9_putsLayer 36 = .ok (.iload 4, 2) := by decide +kernel
theorem dX9_putsLayer_38 : decode cX9_putsLayer 38 = .ok (.iconst 2, 1) := by decide +kernel
theorem dX9_putsLayer_39 : decode cX9_putsLayer 39 = .ok (.iadd, 1) := by decide +kernel
theorem dX9_putsLayer_40 : decode cX9_putsLayer 40 = .ok (.iload_n 3, 1) := by decide +kernel
theorem dX9_putsLayer_41 : decode cX9_putsLayer 41 = .ok (.iastore, 1) := by decide +kernel
theorem dX9_putsLayer_42 : decode cX9_putsLayer 42 = .ok (.aload_n 0, 1) := by decide +kernel
theorem dX9_putsLayer_43 : decode cX9_putsLayer 43 = .ok (.getfield 7, 3) := by decide +kernel
theorem dX9_putsLayer_46 : decode cX9_putsLayer 46 = .ok (.bipush 8, 2) := by decide +kernel
theorem dX9_putsLayer_48 : decode cX9_putsLayer 48 = .ok (.dup2, 1) := by decide +kernel
theorem dX9_putsLayer_49 : decode cX9_putsLayer 49 = .ok (.iaload, 1) := by decide +kernel
theorem dX9_putsLayer_50 : decode cX9_putsLayer 50 = .ok (.iconst 1, 1) := by decide +kernel
theorem dX9_putsLayer_51 : decode cX9_putsLayer 51 = .ok (.iadd, 1) := by decide +kernel
theorem dX9_putsLayer_52 : decode cX9_putsLayer 52 = .ok (.iastore, 1) := by decide +kernel
theorem dX9_putsLayer_53 : decode cX9_putsLayer 53 = .ok (.return_, 1) := by decide +kernel
theorem dX9_addLayer_0 : decode cX9_addLayer 0 = .ok (.iload_n 1, 1) := by decide +kernel
theorem dX9_addLayer_1 : decode cX9_addLayer 1 = .ok (.iconst 1, 1) := by decide +kernel
theorem dX9_addLayer_2 : decode cX9_addLayer 2 = .ok (.bipush 100, 2) := by decide +kernel
theorem dX9_addLayer_4 : decode cX9_addLayer 4 = .ok (.invokestatic 38, 3) := by decide +kernel
theorem dX9_addLayer_7 : decode cX9_addLayer 7 = .ok (.ifCond .eq 23, 3) := by decide +kernel
theorem dX9_addLayer_10 : decode cX9_addLayer 10 = .ok (.iload_n 2, 1) := by decide +kernel
theorem dX9_addLayer_11 : decode cX9_addLayer 11 = .ok (.iconst 0, 1) := by decide +kernel
theorem dX9_addLayer_12 : decode cX9_addLayer 12 = .ok (.bipush 50, 2) := by decide +kernel
theorem dX9_addLayer_14 : decode cX9_addLayer 14 = .ok (.invokestatic 38, 3) := by decide +kernel
theorem dX9_addLayer_17 : decode cX9_addLayer 17 = .ok (.ifCond .eq 13, 3) := by decide +kernel
theorem dX9_addLayer_20 : decode cX9_addLayer 20 = .ok (.iload_n 3, 1) := by decide +kernel
theorem dX9_addLayer_21 : decode cX9_addLayer 21 = .ok (.iconst 0, 1) := by decide +kernel
theorem dX9_addLayer_22 : decode cX9_addLayer 22 = .ok (.bipush 9, 2) := by decide +kernel
theorem dX9_addLayer_24 : decode cX9_addLayer 24 = .ok (.invokestatic 38, 3) := by decide +kernel
theorem dX9_addLayer_27 : decode cX9_addLayer 27 = .ok (.ifCond .ne 6, 3) := by decide +kernel
theorem dX9_addLayer_30 : decode cX9_addLayer 30 = .ok (.ldc 122, 2) := by decide +kernel
theorem dX9_addLayer_32 : decode cX9_addLayer 32 = .ok (.ireturn, 1) := by decide +kernel
theorem dX9_addLayer_33 : decode cX9_addLayer 33 = .ok (.aload_n 0, 1) := by decide +kernel
theorem dX9_addLayer_34 : decode cX9_addLayer 34 = .ok (.getfield 7, 3) := by decide +kernel
theorem dX9_addLayer_37 : decode cX9_addLayer 37 = .ok (.bipush 8, 2) := by decide +kernel
theorem dX9_addLayer_39 : decode cX9_addLayer 39 = .ok (.iaload, 1) := by decide +kernel
theorem dX9_addLayer_40 : decode cX9_addLayer 40 = .ok (.bipush 8, 2) := by decide +kernel
theorem dX9_addLayer_42 : decode cX9_addLayer 42 = .ok (.if_icmp .ne 6, 3) := by decide +kernel
theorem dX9_addLayer_45 : decode cX9_addLayer 45 = .ok (.ldc 126, 2) := by decide +kernel
theorem dX9_addLayer_47 : decode cX9_addLayer 47 = .ok (.ireturn, 1) := by decide +kernel
theorem dX9_addLayer_48 : decode cX9_addLayer 48 = .ok (.aload_n 0, 1) := by decide +kernel
theorem dX9_addLayer_49 : decode cX9_addLayer 49 = .ok (.invokevirtual 188, 3) := by decide +kernel
theorem dX9_addLayer_52 : decode cX9_addLayer 52 = .ok (.aload_n 0, 1) := by decide +kernel
theorem dX9_addLayer_53 : decode cX9_addLayer 53 = .ok (.iload_n 1, 1) := by decide +kernel
theorem dX9_addLayer_54 : decode cX9_addLayer 54 = .ok (.iload_n 2, 1) := by decide +kernel
theorem dX9_addLayer_55 : decode cX9_addLayer 55 = .ok (.iload_n 3, 1) := by decide +kernel
theorem dX9_addLayer_56 : decode cX9_addLayer 56 = .ok (.invokevirtual 167, 3) := by decide +kernel
theorem dX9_addLayer_59 : decode cX9_addLayer 59 = .ok (.aload_n 0, 1) := by decide +kernel
theorem dX9_addLayer_60 : decode cX9_addLayer 60 = .ok (.aload_n 0, 1) := by decide +kernel
theorem dX9_addLayer_61 : decode cX9_addLayer 61 = .ok (.getfield 7, 3) := by decide +kernel
theorem dX9_addLayer_64 : decode cX9_addLayer 64 = .ok (.bipush 8, 2) := by decide +kernel
theorem dX9_addLayer_66 : decode cX9_addLayer 66 = .ok (.iaload, 1) := by decide +kernel
theorem dX9_addLayer_67 : decode cX9_addLayer 67 = .ok (.invokevirtual 203, 3) := by decide +kernel
theorem dX9_addLayer_70 : decode cX9_addLayer 70 = .ok (.ireturn, 1) := by decide +kernel
theorem dX9_boulderAt_0 : decode cX9_boulderAt 0 = .ok (.ldc 160, 2) := by decide +kernel
theorem dX9_boulderAt_2 : decode cX9_boulderAt 2 = .ok (.istore_n 3, 1) := by decide +kernel
theorem dX9_boulderAt_3 : decode cX9_boulderAt 3 = .ok (.iconst 0, 1) := by decide +kernel
theorem dX9_boulderAt_4 : decode cX9_boulderAt 4 = .ok (.istore 4, 2) := by decide +kernel
theorem dX9_boulderAt_6 : decode cX9_boulderAt 6 = .ok (.iload 4, 2) := by decide +kernel
theorem dX9_boulderAt_8 : decode cX9_boulderAt 8 = .ok (.aload_n 0, 1) := by decide +kernel
theorem dX9_boulderAt_9 : decode cX9_boulderAt 9 = .ok (.getfield 7, 3) := by decide +kernel
theorem dX9_boulderAt_12 : decode cX9_boulderAt 12 = .ok (.bipush 33, 2) := by decide +kernel
theorem dX9_boulderAt_14 : decode cX9_boulderAt 14 = .ok (.iaload, 1) := by decide +kernel
theorem dX9_boulderAt_15 : decode cX9_boulderAt 15 = .ok (.if_icmp .ge 50, 3) := by decide +kernel
theorem dX9_boulderAt_18 : decode cX9_boulderAt 18 = .ok (.aload_n 0, 1) := by decide +kernel
theorem dX9_boulderAt_19 : decode cX9_boulderAt 19 = .ok (.getfield 7, 3) := by decide +kernel
theorem dX9_boulderAt_22 : decode cX9_boulderAt 22 = .ok (.bipush 34, 2) := by decide +kernel
theorem dX9_boulderAt_24 : decode cX9_boulderAt 24 = .ok (.iconst 3, 1) := by decide +kernel
theorem dX9_boulderAt_25 : decode cX9_boulderAt 25 = .ok (.iload 4, 2) := by decide +kernel
theorem dX9_boulderAt_27 : decode cX9_boulderAt 27 = .ok (.imul, 1) := by decide +kernel
theorem dX9_boulderAt_28 : decode cX9_boulderAt 28 = .ok (.iadd, 1) := by decide +kernel
theorem dX9_boulderAt_29 : decode cX9_boulderAt 29 = .ok (.iaload, 1) := by decide +kernel
theorem dX9_boulderAt_30 : decode cX9_boulderAt 30 = .ok (.iload_n 1, 1) := by decide +kernel
theorem dX9_boulderAt_31 : decode cX9_boulderAt 31 = .ok (.if_icmp .ne 26, 3) := by decide +kernel
theorem dX9_boulderAt_34 : decode cX9_boulderAt 34 = .ok (.aload_n 0, 1) := by decide +kernel
theorem dX9_boulderAt_35 : decode cX9_boulderAt 35 = .ok (.getfield 7, 3) := by decide +kernel
theorem dX9_boulderAt_38 : decode cX9_boulderAt 38 = .ok (.bipush 34, 2) := by decide +kernel
theorem dX9_boulderAt_40 : decode cX9_boulderAt 40 = .ok (.iconst 3, 1) := by decide +kernel
theorem dX9_boulderAt_41 : decode cX9_boulderAt 41 = .ok (.iload 4, 2) := by decide +kernel
theorem dX9_boulderAt_43 : decode cX9_boulderAt 43 = .ok (.imul, 1) := by decide +kernel
theorem dX9_boulderAt_44 : decode cX9_boulderAt 44 = .ok (.iadd, 1) := by decide +kernel
theorem dX9_boulderAt_45 : decode cX9_boulderAt 45 = .ok (.iconst 1, 1) := by decide +kernel
theorem dX9_boulderAt_46 : decode cX9_boulderAt 46 = .ok (.iadd, 1) := by decide +kernel
theorem dX9_boulderAt_47 : decode cX9_boulderAt 47 = .ok (.iaload, 1) := by decide +kernel
theorem dX9_boulderAt_48 : decode cX9_boulderAt 48 = .ok (.iload_n 2, 1) := by decide +kernel
theorem dX9_boulderAt_49 : decode cX9_boulderAt 49 = .ok (.if_icmp .ne 8, 3) := by decide +kernel
theorem dX9_boulderAt_52 : decode cX9_boulderAt 52 = .ok (.iload 4, 2) := by decide +kernel
theorem dX9_boulderAt_54 : decode cX9_boulderAt 54 = .ok (.goto 4, 3) := by decide +kernel
theorem dX9_boulderAt_57 : decode cX9_boulderAt 57 = .ok (.iload_n 3, 1) := by decide +kernel
theorem dX9_boulderAt_58 : decode cX9_boulderAt 58 = .ok (.istore_n 3, 1) := by decide +kernel
theorem dX9_boulderAt_59 : decode cX9_boulderAt 59 = .ok (.iinc 4 1, 3) := by decide +kernel
theorem dX9_boulderAt_62 : decode cX9_boulderAt 62 = .ok (.goto (-56), 3) := by decide +kernel
theorem dX9_boulderAt_65 : decode cX9_boulderAt 65 = .ok (.iload_n 3, 1) := by decide +kernel
theorem dX9_boulderAt_66 : decode cX9_boulderAt 66 = .ok (.ireturn, 1) := by decide +kernel
theorem dX9_putsBoulder_0 : decode cX9_putsBoulder 0 = .ok (.aload_n 0, 1) := by decide +kernel
theorem dX9_putsBoulder_1 : decode cX9_putsBoulder 1 = .ok (.getfield 7, 3) := by decide +kernel
theorem dX9_putsBoulder_4 : decode cX9_putsBoulder 4 = .ok (.bipush 33, 2) := by decide +kernel
theorem dX9_putsBoulder_6 : decode cX9_putsBoulder 6 = .ok (.iaload, 1) := by decide +kernel
theorem dX9_putsBoulder_7 : decode cX9_putsBoulder 7 = .ok (.istore 4, 2) := by decide +kernel
theorem dX9_putsBoulder_9 : decode cX9_putsBoulder 9 = .ok (.iload 4, 2) := by decide +kernel
theorem dX9_putsBoulder_11 : decode cX9_putsBoulder 11 = .ok (.ifCond .le 99, 3) := by decide +kernel
theorem dX9_putsBoulder_14 : decode cX9_putsBoulder 14 = .ok (.sipush 1000, 3) := by decide +kernel
theorem dX9_putsBoulder_17 : decode cX9_putsBoulder 17 = .ok (.aload_n 0, 1) := by decide +kernel
theorem dX9_putsBoulder_18 : decode cX9_putsBoulder 18 = .ok (.getfield 7, 3) := by decide +kernel
theorem dX9_putsBoulder_21 : decode cX9_putsBoulder 21 = .ok (.bipush 34, 2) := by decide +kernel
theorem dX9_putsBoulder_23 : decode cX9_putsBoulder 23 = .ok (.iconst 3, 1) := by decide +kernel
theorem dX9_putsBoulder_24 : decode cX9_putsBoulder 24 = .ok (.iload 4, 2) := by decide +kernel
theorem dX9_putsBoulder_26 : decode cX9_putsBoulder 26 = .ok (.imul, 1) := by decide +kernel
theorem dX9_putsBoulder_27 : decode cX9_putsBoulder 27 = .ok (.iadd, 1) := by decide +kernel
theorem dX9_putsBoulder_28 : decode cX9_putsBoulder 28 = .ok (.iconst 3, 1) := by decide +kernel
theorem dX9_putsBoulder_29 : decode cX9_putsBoulder 29 = .ok (.isub, 1) := by decide +kernel
theorem dX9_putsBoulder_30 : decode cX9_putsBoulder 30 = .ok (.iaload, 1) := by decide +kernel
theorem dX9_putsBoulder_31 : decode cX9_putsBoulder 31 = .ok (.imul, 1) := by decide +kernel
theorem dX9_putsBoulder_32 : decode cX9_putsBoulder 32 = .ok (.aload_n 0, 1) := by decide +kernel
theorem dX9_putsBoulder_33 : decode cX9_putsBoulder 33 = .ok (.getfield 7, 3) := by decide +kernel
theorem dX9_putsBoulder_36 : decode cX9_putsBoulder 36 = .ok (.bipush 34, 2) := by decide +kernel
theorem dX9_putsBoulder_38 : decode cX9_putsBoulder 38 = .ok (.iconst 3, 1) := by decide +kernel
theorem dX9_putsBoulder_39 : decode cX9_putsBoulder 39 = .ok (.iload 4, 2) := by decide +kernel
theorem dX9_putsBoulder_41 : decode cX9_putsBoulder 41 = .ok (.imul, 1) := by decide +kernel
theorem dX9_putsBoulder_42 : decode cX9_putsBoulder 42 = .ok (.iadd, 1) := by decide +kernel
theorem dX9_putsBoulder_43 : decode cX9_putsBoulder 43 = .ok (.iconst 2, 1) := by decide +kernel
theorem dX9_putsBoulder_44 : decode cX9_putsBoulder 44 = .ok (.isub, 1) := by decide +kernel
theorem dX9_putsBoulder_45 : decode cX9_putsBoulder 45 = .ok (.iaload, 1) := by decide +kernel
theorem dX9_putsBoulder_46 : decode cX9_putsBoulder 46 = .ok (.iadd, 1) := by decide +kernel
theorem dX9_putsBoulder_47 : decode cX9_putsBoulder 47 = .ok (.sipush 1000, 3) := by decide +kernel
theorem dX9_putsBoulder_50 : decode cX9_putsBoulder 50 = .ok (.iload_n 1, 1) := by decide +kernel
theorem dX9_putsBoulder_51 : decode cX9_putsBoulder 51 = .ok (.imul, 1) := by decide +kernel
theorem dX9_putsBoulder_52 : decode cX9_putsBoulder 52 = .ok (.iload_n 2, 1) := by decide +kernel
theorem dX9_putsBoulder_53 : decode cX9_putsBoulder 53 = .ok (.iadd, 1) := by decide +kernel
theorem dX9_putsBoulder_54 : decode cX9_putsBoulder 54 = .ok (.if_icmp .le 56, 3) := by decide +kernel
theorem dX9_putsBoulder_57 : decode cX9_putsBoulder 57 = .ok (.iconst 0, 1) := by decide +kernel
theorem dX9_putsBoulder_58 : decode cX9_putsBoulder 58 = .ok (.istore 5, 2) := by decide +kernel
theorem dX9_putsBoulder_60 : decode cX9_putsBoulder 60 = .ok (.iload 5, 2) := by decide +kernel
theorem dX9_putsBoulder_62 : decode cX9_putsBoulder 62 = .ok (.iconst 3, 1) := by decide +kernel
theorem dX9_putsBoulder_63 : decode cX9_putsBoulder 63 = .ok (.if_icmp .ge 41, 3) := by decide +kernel
theorem dX9_putsBoulder_66 : decode cX9_putsBoulder 66 = .ok (.aload_n 0, 1) := by decide +kernel
theorem dX9_putsBoulder_67 : decode cX9_putsBoulder 67 = .ok (.getfield 7, 3) := by decide +kernel
theorem dX9_putsBoulder_70 : decode cX9_putsBoulder 70 = .ok (.bipush 34, 2) := by decide +kernel
theorem dX9_putsBoulder_72 : decode cX9_putsBoulder 72 = .ok (.iconst 3, 1) := by decide +kernel
theorem dX9_putsBoulder_73 : decode cX9_putsBoulder 73 = .ok (.iload 4, 2) := by decide +kernel
theorem dX9_putsBoulder_75 : decode cX9_putsBoulder 75 = .ok (.imul, 1) := by decide +kernel
theorem dX9_putsBoulder_76 : decode cX9_putsBoulder 76 = .ok (.iadd, 1) := by decide +kernel
theorem dX9_putsBoulder_77 : decode cX9_putsBoulder 77 = .ok (.iload 5, 2) := by decide +kernel
theorem dX9_putsBoulder_79 : decode cX9_putsBoulder 79 = .ok (.iadd, 1) := by decide +kernel
theorem dX9_putsBoulder_80 : decode cX9_putsBoulder 80 = .ok (.aload_n 0, 1) := by decide +kernel
theorem dX9_putsBoulder_81 : decode cX9_putsBoulder 81 = .ok (.getfield 7, 3) := by decide +kernel
theorem dX9_putsBoulder_84 : decode cX9_putsBoulder 84 = .ok (.bipush 34, 2) := by decide +kernel
theorem dX9_putsBoulder_86 : decode cX9_putsBoulder 86 = .ok (.iconst 3, 1) := by decide +kernel
theorem dX9_putsBoulder_87 : decode cX9_putsBoulder 87 = .ok (.iload 4, 2) := by decide +kernel
theorem dX9_putsBoulder_89 : decode cX9_putsBoulder 89 = .ok (.imul, 1) := by decide +kernel
theorem dX9_putsBoulder_90 : decode cX9_putsBoulder 90 = .ok (.iadd, 1) := by decide +kernel
theorem dX9_putsBoulder_91 : decode cX9_putsBoulder 91 = .ok (.iconst 3, 1) := by decide +kernel
theorem dX9_putsBoulder_92 : decode cX9_putsBoulder 92 = .ok (.isub, 1) := by decide +kernel
theorem dX9_putsBoulder_93 : decode cX9_putsBoulder 93 = .ok (.iload 5, 2) := by decide +kernel
theorem dX9_putsBoulder_95 : decode cX9_putsBoulder 95 = .ok (.iadd, 1) := by decide +kernel
theorem dX9_putsBoulder_96 : decode cX9_putsBoulder 96 = .ok (.iaload, 1) := by decide +kernel
theorem dX9_putsBoulder_97 : decode cX9_putsBoulder 97 = .ok (.iastore, 1) := by decide +kernel
theorem dX9_putsBoulder_98 : decode cX9_putsBoulder 98 = .ok (.iinc 5 1, 3) := by decide +kernel
theorem dX9_putsBoulder_101 : decode cX9_putsBoulder 101 = .ok (.goto (-41), 3) := by decide +kernel
theorem dX9_putsBoulder_104 : decode cX9_putsBoulder 104 = .ok (.iinc 4 (-1), 3) := by decide +kernel
theorem dX9_putsBoulder_107 : decode cX9_putsBoulder 107 = .ok (.goto (-98), 3) := by decide +kernel
theorem dX9_putsBoulder_110 : decode cX9_putsBoulder 110 = .ok (.aload_n 0, 1) := by decide +kernel
theorem dX9_putsBoulder_111 : decode cX9_putsBoulder 111 = .ok (.getfield 7, 3) := by decide +kernel
theorem dX9_putsBoulder_114 : decode cX9_putsBoulder 114 = .ok (.bipush 34, 2) := by decide +kernel
theorem dX9_putsBoulder_116 : decode cX9_putsBoulder 116 = .ok (.iconst 3, 1) := by decide +kernel
theorem dX9_putsBoulder_117 : decode cX9_putsBoulder 117 = .ok (.iload 4, 2) := by decide +kernel
theorem dX9_putsBoulder_119 : decode cX9_putsBoulder 119 = .ok (.imul, 1) := by decide +kernel
theorem dX9_putsBoulder_120 : decode cX9_putsBoulder 120 = .ok (.iadd, 1) := by decide +kernel
theorem dX9_putsBoulder_121 : decode cX9_putsBoulder 121 = .ok (.iload_n 1, 1) := by decide +kernel
theorem dX9_putsBoulder_122 : decode cX9_putsBoulder 122 = .ok (.iastore, 1) := by decide +kernel
theorem dX9_putsBoulder_123 : decode cX9_putsBoulder 123 = .ok (.aload_n 0, 1) := by decide +kernel
theorem dX9_putsBoulder_124 : decode cX9_putsBoulder 124 = .ok (.getfield 7, 3) := by decide +kernel
theorem dX9_putsBoulder_127 : decode cX9_putsBoulder 127 = .ok (.bipush 34, 2) := by decide +kernel
theorem dX9_putsBoulder_129 : decode cX9_putsBoulder 129 = .ok (.iconst 3, 1) := by decide +kernel
theorem dX9_putsBoulder_130 : decode cX9_putsBoulder 130 = .ok (.iload 4, 2) := by decide +kernel
theorem dX9_putsBoulder_132 : decode cX9_putsBoulder 132 = .ok (.imul, 1) := by decide +kernel
theorem dX9_putsBoulder_133 : decode cX9_putsBoulder 133 = .ok (.iadd, 1) := by decide +kernel
theorem dX9_putsBoulder_134 : decode cX9_putsBoulder 134 = .ok (.iconst 1, 1) := by decide +kernel
theorem dX9_putsBoulder_135 : decode cX9_putsBoulder 135 = .ok (.iadd, 1) := by decide +kernel
theorem dX9_putsBoulder_136 : decode cX9_putsBoulder 136 = .ok (.iload_n 2, 1) := by decide +kernel
theorem dX9_putsBoulder_137 : decode cX9_putsBoulder 137 = .ok (.iastore, 1) := by decide +kernel
theorem dX9_putsBoulder_138 : decode cX9_putsBoulder 138 = .ok (.aload_n 0, 1) := by decide +kernel
theorem dX9_putsBoulder_139 : decode cX9_putsBoulder 139 = .ok (.getfield 7, 3) := by decide +kernel
theorem dX9_putsBoulder_142 : decode cX9_putsBoulder 142 = .ok (.bipush 34, 2) := by decide +kernel
theorem dX9_putsBoulder_144 : decode cX9_putsBoulder 144 = .ok (.iconst 3, 1) := by decide +kernel
theorem dX9_putsBoulder_145 : decode cX9_putsBoulder 145 = .ok (.iload 4, 2) := by decide +kernel
theorem dX9_putsBoulder_147 : decode cX9_putsBoulder 147 = .ok (.imul, 1) := by decide +kernel
theorem dX9_putsBoulder_148 : decode cX9_putsBoulder 148 = .ok (.iadd, 1) := by decide +kernel
theorem dX9_putsBoulder_149 : decode cX9_putsBoulder 149 = .ok (.iconst 2, 1) := by decide +kernel
theorem dX9_putsBoulder_150 : decode cX9_putsBoulder 150 = .ok (.iadd, 1) := by decide +kernel
theorem dX9_putsBoulder_151 : decode cX9_putsBoulder 151 = .ok (.iload_n 3, 1) := by decide +kernel
theorem dX9_putsBoulder_152 : decode cX9_putsBoulder 152 = .ok (.iastore, 1) := by decide +kernel
theorem dX9_putsBoulder_153 : decode cX9_putsBoulder 153 = .ok (.aload_n 0, 1) := by decide +kernel
theorem dX9_putsBoulder_154 : decode cX9_putsBoulder 154 = .ok (.getfield 7, 3) := by decide +kernel
theorem dX9_putsBoulder_157 : decode cX9_putsBoulder 157 = .ok (.bipush 33, 2) := by decide +kernel
theorem dX9_putsBoulder_159 : decode cX9_putsBoulder 159 = .ok (.dup2, 1) := by decide +kernel
theorem dX9_putsBoulder_160 : decode cX9_putsBoulder 160 = .ok (.iaload, 1) := by decide +kernel
theorem dX9_putsBoulder_161 : decode cX9_putsBoulder 161 = .ok (.iconst 1, 1) := by decide +kernel
theorem dX9_putsBoulder_162 : decode cX9_putsBoulder 162 = .ok (.iadd, 1) := by decide +kernel
theorem dX9_putsBoulder_163 : decode cX9_putsBoulder 163 = .ok (.iastore, 1) := by decide +kernel
theorem dX9_putsBoulder_164 : decode cX9_putsBoulder 164 = .ok (.iload 4, 2) := by decide +kernel
theorem dX9_putsBoulder_166 : decode cX9_putsBoulder 166 = .ok (.ireturn, 1) := by decide +kernel
theorem dX9_addBoulder_0 : decode cX9_addBoulder 0 = .ok (.aload_n 0, 1) := by decide +kernel
theorem dX9_addBoulder_1 : decode cX9_addBoulder 1 = .ok (.iload_n 1, 1) := by decide +kernel
theorem dX9_addBoulder_2 : decode cX9_addBoulder 2 = .ok (.invokevirtual 49, 3) := by decide +kernel
theorem dX9_addBoulder_5 : decode cX9_addBoulder 5 = .ok (.ifCond .eq 24, 3) := by decide +kernel
theorem dX9_addBoulder_8 : decode cX9_addBoulder 8 = .ok (.iload_n 2, 1) := by decide +kernel
theorem dX9_addBoulder_9 : decode cX9_addBoulder 9 = .ok (.iconst 1, 1) := by decide +kernel
theorem dX9_addBoulder_10 : decode cX9_addBoulder 10 = .ok (.sipush 200, 3) := by decide +kernel
theorem dX9_addBoulder_13 : decode cX9_addBoulder 13 = .ok (.invokestatic 38, 3) := by decide +kernel
theorem dX9_addBoulder_16 : decode cX9_addBoulder 16 = .ok (.ifCond .eq 13, 3) := by decide +kernel
theorem dX9_addBoulder_19 : decode cX9_addBoulder 19 = .ok (.iload_n 3, 1) := by decide +kernel
theorem dX9_addBoulder_20 : decode cX9_addBoulder 20 = .ok (.iconst 1, 1) := by decide +kernel
theorem dX9_addBoulder_21 : decode cX9_addBoulder 21 = .ok (.bipush 50, 2) := by decide +kernel
theorem dX9_addBoulder_23 : decode cX9_addBoulder 23 = .ok (.invokestatic 38, 3) := by decide +kernel
theorem dX9_addBoulder_26 : decode cX9_addBoulder 26 = .ok (.ifCond .ne 6, 3) := by decide +kernel
theorem dX9_addBoulder_29 : decode cX9_addBoulder 29 = .ok (.ldc 122, 2) := by decide +kernel
theorem dX9_addBoulder_31 : decode cX9_addBoulder 31 = .ok (.ireturn, 1) := by decide +kernel
theorem dX9_addBoulder_32 : decode cX9_addBoulder 32 = .ok (.aload_n 0, 1) := by decide +kernel
theorem dX9_addBoulder_33 : decode cX9_addBoulder 33 = .ok (.iload_n 1, 1) := by decide +kernel
theorem dX9_addBoulder_34 : decode cX9_addBoulder 34 = .ok (.iload_n 2, 1) := by decide +kernel
theorem dX9_addBoulder_35 : decode cX9_addBoulder 35 = .ok (.invokevirtual 164, 3) := by decide +kernel
theorem dX9_addBoulder_38 : decode cX9_addBoulder 38 = .ok (.ifCond .lt 6, 3) := by decide +kernel
theorem dX9_addBoulder_41 : decode cX9_addBoulder 41 = .ok (.ldc 209, 2) := by decide +kernel
theorem dX9_addBoulder_43 : decode cX9_addBoulder 43 = .ok (.ireturn, 1) := by decide +kernel
theorem dX9_addBoulder_44 : decode cX9_addBoulder 44 = .ok (.aload_n 0, 1) := by decide +kernel
theorem dX9_addBoulder_45 : decode cX9_addBoulder 45 = .ok (.getfield 7, 3) := by decide +kernel
theorem dX9_addBoulder_48 : decode cX9_addBoulder 48 = .ok (.bipush 33, 2) := by decide +kernel
theorem dX9_addBoulder_50 : decode cX9_addBoulder 50 = .ok (.iaload, 1) := by decide +kernel
theorem dX9_addBoulder_51 : decode cX9_addBoulder 51 = .ok (.bipush 10, 2) := by decide +kernel
theorem dX9_addBoulder_53 : decode cX9_addBoulder 53 = .ok (.if_icmp .ne 6, 3) := by decide +kernel
theorem dX9_addBoulder_56 : decode cX9_addBoulder 56 = .ok (.ldc 126, 2) := by decide +kernel
theorem dX9_addBoulder_58 : decode cX9_addBoulder 58 = .ok (.ireturn, 1) := by decide +kernel
theorem dX9_addBoulder_59 : decode cX9_addBoulder 59 = .ok (.aload_n 0, 1) := by decide +kernel
theorem dX9_addBoulder_60 : decode cX9_addBoulder 60 = .ok (.invokevirtual 188, 3) := by decide +kernel
theorem dX9_addBoulder_63 : decode cX9_addBoulder 63 = .ok (.aload_n 0, 1) := by decide +kernel
theorem dX9_addBoulder_64 : decode cX9_addBoulder 64 = .ok (.aload_n 0, 1) := by decide +kernel
theorem dX9_addBoulder_65 : decode cX9_addBoulder 65 = .ok (.iload_n 1, 1) := by decide +kernel
theorem dX9_addBoulder_66 : decode cX9_addBoulder 66 = .ok (.iload_n 2, 1) := by decide +kernel
theorem dX9_addBoulder_67 : decode cX9_addBoulder 67 = .ok (.iload_n 3, 1) := by decide +kernel
theorem dX9_addBoulder_68 : decode cX9_addBoulder 68 = .ok (.invokevirtual 171, 3) := by decide +kernel
theorem dX9_addBoulder_71 : decode cX9_addBoulder 71 = .ok (.invokevirtual 203, 3) := by decide +kernel
theorem dX9_addBoulder_74 : decode cX9_addBoulder 74 = .ok (.ireturn, 1) := by decide +kernel
theorem dX9_ground_0 : decode cX9_ground 0 = .ok (.iload_n 1, 1) := by decide +kernel
theorem dX9_ground_1 : decode cX9_ground 1 = .ok (.iconst 0, 1) := by decide +kernel
theorem dX9_ground_2 : decode cX9_ground 2 = .ok (.sipush 999, 3) := by decide +kernel
theorem dX9_ground_5 : decode cX9_ground 5 = .ok (.invokestatic 38, 3) := by decide +kernel
theorem dX9_ground_8 : decode cX9_ground 8 = .ok (.ifCond .eq 21, 3) := by decide +kernel
theorem dX9_ground_11 : decode cX9_ground 11 = .ok (.iload_n 2, 1) := by decide +kernel
theorem dX9_ground_12 : decode cX9_ground 12 = .ok (.iconst 0, 1) := by decide +kernel
theorem dX9_ground_13 : decode cX9_ground 13 = .ok (.iconst 1, 1) := by decide +kernel
theorem dX9_ground_14 : decode cX9_ground 14 = .ok (.invokestatic 38, 3) := by decide +kernel
theorem dX9_ground_17 : decode cX9_ground 17 = .ok (.ifCond .eq 12, 3) := by decide +kernel
theorem dX9_ground_20 : decode cX9_ground 20 = .ok (.aload_n 0, 1) := by decide +kernel
theorem dX9_ground_21 : decode cX9_ground 21 = .ok (.iload_n 1, 1) := by decide +kernel
theorem dX9_ground_22 : decode cX9_ground 22 = .ok (.iload_n 2, 1) := by decide +kernel
theorem dX9_ground_23 : decode cX9_ground 23 = .ok (.invokevirtual 76, 3) := by decide +kernel
theorem dX9_ground_26 : decode cX9_ground 26 = .ok (.goto 5, 3) := by decide +kernel
theorem dX9_ground_29 : decode cX9_ground 29 = .ok (.ldc 122, 2) := by decide +kernel
theorem dX9_ground_31 : decode cX9_ground 31 = .ok (.ireturn, 1) := by decide +kernel
theorem dX9_boulder_0 : decode cX9_boulder 0 = .ok (.iload_n 1, 1) := by decide +kernel
theorem dX9_boulder_1 : decode cX9_boulder 1 = .ok (.iconst 0, 1) := by decide +kernel
theorem dX9_boulder_2 : decode cX9_boulder 2 = .ok (.aload_n 0, 1) := by decide +kernel
theorem dX9_boulder_3 : decode cX9_boulder 3 = .ok (.getfield 7, 3) := by decide +kernel
theorem dX9_boulder_6 : decode cX9_boulder 6 = .ok (.bipush 33, 2) := by decide +kernel
theorem dX9_boulder_8 : decode cX9_boulder 8 = .ok (.iaload, 1) := by decide +kernel
theorem dX9_boulder_9 : decode cX9_boulder 9 = .ok (.iconst 1, 1) := by decide +kernel
theorem dX9_boulder_10 : decode cX9_boulder 10 = .ok (.isub, 1) := by decide +kernel
theorem dX9_boulder_11 : decode cX9_boulder 11 = .ok (.invokestatic 38, 3) := by decide +kernel
theorem dX9_boulder_14 : decode cX9_boulder 14 = .ok (.ifCond .eq 28, 3) := by decide +kernel
theorem dX9_boulder_17 : decode cX9_boulder 17 = .ok (.iload_n 2, 1) := by decide +kernel
theorem dX9_boulder_18 : decode cX9_boulder 18 = .ok (.iconst 0, 1) := by decide +kernel
theorem dX9_boulder_19 : decode cX9_boulder 19 = .ok (.iconst 2, 1) := by decide +kernel
theorem dX9_boulder_20 : decode cX9_boulder 20 = .ok (.invokestatic 38, 3) := by decide +kernel
theorem dX9_boulder_23 : decode cX9_boulder 23 = .ok (.ifCond .eq 19, 3) := by decide +kernel
theorem dX9_boulder_26 : decode cX9_boulder 26 = .ok (.aload_n 0, 1) := by decide +kernel
theorem dX9_boulder_27 : decode cX9_boulder 27 = .ok (.getfield 7, 3) := by decide +kernel
theorem dX9_boulder_30 : decode cX9_boulder 30 = .ok (.bipush 34, 2) := by decide +kernel
theorem dX9_boulder_32 : decode cX9_boulder 32 = .ok (.iconst 3, 1) := by decide +kernel
theorem dX9_boulder_33 : decode cX9_boulder 33 = .ok (.iload_n 1, 1) := by decide +kernel
theorem dX9_boulder_34 : decode cX9_boulder 34 = .ok (.imul, 1) := by decide +kernel
theorem dX9_boulder_35 : decode cX9_boulder 35 = .ok (.iadd, 1) := by decide +kernel
theorem dX9_boulder_36 : decode cX9_boulder 36 = .ok (.iload_n 2, 1) := by decide +kernel
theorem dX9_boulder_37 : decode cX9_boulder 37 = .ok (.iadd, 1) := by decide +kernel
theorem dX9_boulder_38 : decode cX9_boulder 38 = .ok (.iaload, 1) := by decide +kernel
theorem dX9_boulder_39 : decode cX9_boulder 39 = .ok (.goto 5, 3) := by decide +kernel
theorem dX9_boulder_42 : decode cX9_boulder 42 = .ok (.ldc 122, 2) := by decide +kernel
theorem dX9_boulder_44 : decode cX9_boulder 44 = .ok (.ireturn, 1) := by decide +kernel
theorem dX9_state_0 : decode cX9_state 0 = .ok (.iload_n 1, 1) := by decide +kernel
theorem dX9_state_1 : decode cX9_state 1 = .ok (.tableswitch 166 0 11 #[63, 70, 77, 84, 91, 101, 111, 125, 133, 141, 149, 157], 63) := by decide +kernel
theorem dX9_state_64 : decode cX9_state 64 = .ok (.aload_n 0, 1) := by decide +kernel
theorem dX9_state_65 : decode cX9_state 65 = .ok (.getfield 7, 3) := by decide +kernel
theorem dX9_state_68 : decode cX9_state 68 = .ok (.iconst 0, 1) := by decide +kernel
theorem dX9_state_69 : decode cX9_state 69 = .ok (.iaload, 1) := by decide +kernel
theorem dX9_state_70 : decode cX9_state 70 = .ok (.ireturn, 1) := by decide +kernel
theorem dX9_state_71 : decode cX9_state 71 = .ok (.aload_n 0, 1) := by decide +kernel
theorem dX9_state_72 : decode cX9_state 72 = .ok (.getfield 7, 3) := by decide +kernel
theorem dX9_state_75 : decode cX9_state 75 = .ok (.iconst 1, 1) := by decide +kernel
theorem dX9_state_76 : decode cX9_state 76 = .ok (.iaload, 1) := by decide +kernel
theorem dX9_state_77 : decode cX9_state 77 = .ok (.ireturn, 1) := by decide +kernel
theorem dX9_state_78 : decode cX9_state 78 = .ok (.aload_n 0, 1) := by decide +kernel
theorem dX9_state_79 : decode cX9_state 79 = .ok (.getfield 7, 3) := by decide +kernel
theorem dX9_state_82 : decode cX9_state 82 = .ok (.iconst 5, 1) := by decide +kernel
theorem dX9_state_83 : decode cX9_state 83 = .ok (.iaload, 1) := by decide +kernel
theorem dX9_state_84 : decode cX9_state 84 = .ok (.ireturn, 1) := by decide +kernel
theorem dX9_state_85 : decode cX9_state 85 = .ok (.aload_n 0, 1) := by decide +kernel
theorem dX9_state_86 : decode cX9_state 86 = .ok (.getfield 7, 3) := by decide +kernel
theorem dX9_state_89 : decode cX9_state 89 = .ok (.iconst 2, 1) := by decide +kernel
theorem dX9_state_90 : decode cX9_state 90 = .ok (.iaload, 1) := by decide +kernel
theorem dX9_state_91 : decode cX9_state 91 = .ok (.ireturn, 1) := by decide +kernel
theorem dX9_state_92 : decode cX9_state 92 = .ok (.aload_n 0, 1) := by decide +kernel
theorem dX9_state_93 : decode cX9_state 93 = .ok (.getfield 7, 3) := by decide +kernel
theorem dX9_state_96 : decode cX9_state 96 = .ok (.iconst 3, 1) := by decide +kernel
theorem dX9_state_97 : decode cX9_state 97 = .ok (.iaload, 1) := by decide +kernel
theorem dX9_state_98 : decode cX9_state 98 = .ok (.bipush 10, 2) := by decide +kernel
theorem dX9_state_100 : decode cX9_state 100 = .ok (.iadd, 1) := by decide +kernel
theorem dX9_state_101 : decode cX9_state 101 = .ok (.ireturn, 1) := by decide +kernel
theorem dX9_state_102 : decode cX9_state 102 = .ok (.aload_n 0, 1) := by decide +kernel
theorem dX9_state_103 : decode cX9_state 103 = .ok (.getfield 7, 3) := by decide +kernel
theorem dX9_state_106 : decode cX9_state 106 = .ok (.iconst 4, 1) := by decide +kernel
theorem dX9_state_107 : decode cX9_state 107 = .ok (.iaload, 1) := by decide +kernel
theorem dX9_state_108 : decode cX9_state 108 = .ok (.bipush 10, 2) := by decide +kernel
theorem dX9_state_110 : decode cX9_state 110 = .ok (.iadd, 1) := by decide +kernel
theorem dX9_state_111 : decode cX9_state 111 = .ok (.ireturn, 1) := by decide +kernel
theorem dX9_state_112 : decode cX9_state 112 = .ok (.aload_n 0, 1) := by decide +kernel
theorem dX9_state_113 : decode cX9_state 113 = .ok (.invokevirtual 91, 3) := by decide +kernel
theorem dX9_state_116 : decode cX9_state 116 = .ok (.iconst 4, 1) := by decide +kernel
theorem dX9_state_117 : decode cX9_state 117 = .ok (.idiv, 1) := by decide +kernel
theorem dX9_state_118 : decode cX9_state 118 = .ok (.aload_n 0, 1) := by decide +kernel
theorem dX9_state_119 : decode cX9_state 119 = .ok (.getfield 7, 3) := by decide +kernel
theorem dX9_state_122 : decode cX9_state 122 = .ok (.iconst 5, 1) := by decide +kernel
theorem dX9_state_123 : decode cX9_state 123 = .ok (.iaload, 1) := by decide +kernel
theorem dX9_state_124 : decode cX9_state 124 = .ok (.isub, 1) := by decide +kernel
theorem dX9_state_125 : decode cX9_state 125 = .ok (.ireturn, 1) := by decide +kernel
theorem dX9_state_126 : decode cX9_state 126 = .ok (.aload_n 0, 1) := by decide +kernel
theorem dX9_state_127 : decode cX9_state 127 = .ok (.getfield 7, 3) := by decide +kernel
theorem dX9_state_130 : decode cX9_state 130 = .ok (.bipush 33, 2) := by decide +kernel
theorem dX9_state_132 : decode cX9_state 132 = .ok (.iaload, 1) := by decide +kernel
theorem dX9_state_133 : decode cX9_state 133 = .ok (.ireturn, 1) := by decide +kernel
theorem dX9_state_134 : decode cX9_state 134 = .ok (.aload_n 0, 1) := by decide +kernel
theorem dX9_state_135 : decode cX9_state 135 = .ok (.getfield 7, 3) := by decide +kernel
theorem dX9_state_138 : decode cX9_state 138 = .ok (.bipush 8, 2) := by decide +kernel
theorem dX9_state_140 : decode cX9_state 140 = .ok (.iaload, 1) := by decide +kernel
theorem dX9_state_141 : decode cX9_state 141 = .ok (.ireturn, 1) := by decide +kernel
theorem dX9_state_142 : decode cX9_state 142 = .ok (.aload_n 0, 1) := by decide +kernel
theorem dX9_state_143 : decode cX9_state 143 = .ok (.getfield 7, 3) := by decide +kernel
theorem dX9_state_146 : decode cX9_state 146 = .ok (.bipush 6, 2) := by decide +kernel
theorem dX9_state_148 : decode cX9_state 148 = .ok (.iaload, 1) := by decide +kernel
theorem dX9_state_149 : decode cX9_state 149 = .ok (.ireturn, 1) := by decide +kernel
theorem dX9_state_150 : decode cX9_state 150 = .ok (.aload_n 0, 1) := by decide +kernel
theorem dX9_state_151 : decode cX9_state 151 = .ok (.getfield 7, 3) := by decide +kernel
theorem dX9_state_154 : decode cX9_state 154 = .ok (.bipush 7, 2) := by decide +kernel
theorem dX9_state_156 : decode cX9_state 156 = .ok (.iaload, 1) := by decide +kernel
theorem dX9_state_157 : decode cX9_state 157 = .ok (.ireturn, 1) := by decide +kernel
theorem dX9_state_158 : decode cX9_state 158 = .ok (.aload_n 0, 1) := by decide +kernel
theorem dX9_state_159 : decode cX9_state 159 = .ok (.getfield 7, 3) := by decide +kernel
theorem dX9_state_162 : decode cX9_state 162 = .ok (.sipush 166, 3) := by decide +kernel
theorem dX9_state_165 : decode cX9_state 165 = .ok (.iaload, 1) := by decide +kernel
theorem dX9_state_166 : decode cX9_state 166 = .ok (.ireturn, 1) := by decide +kernel
theorem dX9_state_167 : decode cX9_state 167 = .ok (.ldc 122, 2) := by decide +kernel
theorem dX9_state_169 : decode cX9_state 169 = .ok (.ireturn, 1) := by decide +kernel
theorem dX9_edge_0 : decode cX9_edge 0 = .ok (.aload_n 0, 1) := by decide +kernel
theorem dX9_edge_1 : decode cX9_edge 1 = .ok (.iload_n 1, 1) := by decide +kernel
theorem dX9_edge_2 : decode cX9_edge 2 = .ok (.invokevirtual 57, 3) := by decide +kernel
theorem dX9_edge_5 : decode cX9_edge 5 = .ok (.ifCond .eq 12, 3) := by decide +kernel
theorem dX9_edge_8 : decode cX9_edge 8 = .ok (.iload_n 2, 1) := by decide +kernel
theorem dX9_edge_9 : decode cX9_edge 9 = .ok (.iconst 0, 1) := by decide +kernel
theorem dX9_edge_10 : decode cX9_edge 10 = .ok (.iconst 4, 1) := by decide +kernel
theorem dX9_edge_11 : decode cX9_edge 11 = .ok (.invokestatic 38, 3) := by decide +kernel
theorem dX9_edge_14 : decode cX9_edge 14 = .ok (.ifCond .ne 6, 3) := by decide +kernel
theorem dX9_edge_17 : decode cX9_edge 17 = .ok (.ldc 122, 2) := by decide +kernel
theorem dX9_edge_19 : decode cX9_edge 19 = .ok (.ireturn, 1) := by decide +kernel
theorem dX9_edge_20 : decode cX9_edge 20 = .ok (.aload_n 0, 1) := by decide +kernel
theorem dX9_edge_21 : decode cX9_edge 21 = .ok (.iload_n 1, 1) := by decide +kernel
theorem dX9_edge_22 : decode cX9_edge 22 = .ok (.invokevirtual 70, 3) := by decide +kernel
theorem dX9_edge_25 : decode cX9_edge 25 = .ok (.istore_n 3, 1) := by decide +kernel
theorem dX9_edge_26 : decode cX9_edge 26 = .ok (.iload_n 2, 1) := by decide +kernel
theorem dX9_edge_27 : decode cX9_edge 27 = .ok (.tableswitch 50 0 3 #[29, 31, 37, 44], 29) := by decide +kernel
theorem dX9_edge_56 : decode cX9_edge 56 = .ok (.iload_n 3, 1) := by decide +kernel
theorem dX9_edge_57 : decode cX9_edge 57 = .ok (.ireturn, 1) := by decide +kernel
theorem dX9_edge_58 : decode cX9_edge 58 = .ok (.aload_n 0, 1) := by decide +kernel
theorem dX9_edge_59 : decode cX9_edge 59 = .ok (.iload_n 1, 1) := by decide +kernel
theorem dX9_edge_60 : decode cX9_edge 60 = .ok (.invokevirtual 82, 3) := by decide +kernel
theorem dX9_edge_63 : decode cX9_edge 63 = .ok (.ireturn, 1) := by decide +kernel
theorem dX9_edge_64 : decode cX9_edge 64 = .ok (.aload_n 0, 1) := by decide +kernel
theorem dX9_edge_65 : decode cX9_edge 65 = .ok (.iload_n 1, 1) := by decide +kernel
theorem dX9_edge_66 : decode cX9_edge 66 = .ok (.iload_n 3, 1) := by decide +kernel
theorem dX9_edge_67 : decode cX9_edge 67 = .ok (.invokevirtual 85, 3) := by decide +kernel
theorem dX9_edge_70 : decode cX9_edge 70 = .ok (.ireturn, 1) := by decide +kernel
theorem dX9_edge_71 : decode cX9_edge 71 = .ok (.aload_n 0, 1) := by decide +kernel
theorem dX9_edge_72 : decode cX9_edge 72 = .ok (.iload_n 3, 1) := by decide +kernel
theorem dX9_edge_73 : decode cX9_edge 73 = .ok (.invokevirtual 88, 3) := by decide +kernel
theorem dX9_edge_76 : decode cX9_edge 76 = .ok (.ireturn, 1) := by decide +kernel
theorem dX9_edge_77 : decode cX9_edge 77 = .ok (.aload_n 0, 1) := by decide +kernel
theorem dX9_edge_78 : decode cX9_edge 78 = .ok (.iload_n 1, 1) := by decide +kernel
theorem dX9_edge_79 : decode cX9_edge 79 = .ok (.invokevirtual 73, 3) := by decide +kernel
theorem dX9_edge_82 : decode cX9_edge 82 = .ok (.ireturn, 1) := by decide +kernel
theorem dX9_bottom_0 : decode cX9_bottom 0 = .ok (.aload_n 0, 1) := by decide +kernel
theorem dX9_bottom_1 : decode cX9_bottom 1 = .ok (.iload_n 1, 1) := by decide +kernel
theorem dX9_bottom_2 : decode cX9_bottom 2 = .ok (.invokevirtual 116, 3) := by decide +kernel
theorem dX9_bottom_5 : decode cX9_bottom 5 = .ok (.ifCond .eq 15, 3) := by decide +kernel
theorem dX9_bottom_8 : decode cX9_bottom 8 = .ok (.aload_n 0, 1) := by decide +kernel
theorem dX9_bottom_9 : decode cX9_bottom 9 = .ok (.getfield 7, 3) := by decide +kernel
theorem dX9_bottom_12 : decode cX9_bottom 12 = .ok (.bipush 117, 2) := by decide +kernel
theorem dX9_bottom_14 : decode cX9_bottom 14 = .ok (.iload_n 1, 1) := by decide +kernel
theorem dX9_bottom_15 : decode cX9_bottom 15 = .ok (.iadd, 1) := by decide +kernel
theorem dX9_bottom_16 : decode cX9_bottom 16 = .ok (.iaload, 1) := by decide +kernel
theorem dX9_bottom_17 : decode cX9_bottom 17 = .ok (.goto 5, 3) := by decide +kernel
theorem dX9_bottom_20 : decode cX9_bottom 20 = .ok (.ldc 122, 2) := by decide +kernel
theorem dX9_bottom_22 : decode cX9_bottom 22 = .ok (.ireturn, 1) := by decide +kernel
theorem dX9_surplus_0 : decode cX9_surplus 0 = .ok (.aload_n 0, 1) := by decide +kernel
theorem dX9_surplus_1 : decode cX9_surplus 1 = .ok (.invokevirtual 104, 3) := by decide +kernel
theorem dX9_surplus_4 : decode cX9_surplus 4 = .ok (.ireturn, 1) := by decide +kernel
theorem dX9_moment_0 : decode cX9_moment 0 = .ok (.iload_n 1, 1) := by decide +kernel
theorem dX9_moment_1 : decode cX9_moment 1 = .ok (.iconst 0, 1) := by decide +kernel
theorem dX9_moment_2 : decode cX9_moment 2 = .ok (.iconst 1, 1) := by decide +kernel
theorem dX9_moment_3 : decode cX9_moment 3 = .ok (.invokestatic 38, 3) := by decide +kernel
theorem dX9_moment_6 : decode cX9_moment 6 = .ok (.ifCond .eq 11, 3) := by decide +kernel
theorem dX9_moment_9 : decode cX9_moment 9 = .ok (.aload_n 0, 1) := by decide +kernel
theorem dX9_moment_10 : decode cX9_moment 10 = .ok (.iload_n 1, 1) := by decide +kernel
theorem dX9_moment_11 : decode cX9_moment 11 = .ok (.invokevirtual 101, 3) := by decide +kernel
theorem dX9_moment_14 : decode cX9_moment 14 = .ok (.goto 5, 3) := by decide +kernel
theorem dX9_moment_17 : decode cX9_moment 17 = .ok (.ldc 122, 2) := by decide +kernel
theorem dX9_moment_19 : decode cX9_moment 19 = .ok (.ireturn, 1) := by decide +kernel
theorem dX9_nextStep_0 : decode cX9_nextStep 0 = .ok (.aload_n 0, 1) := by decide +kernel
theorem dX9_nextStep_1 : decode cX9_nextStep 1 = .ok (.invokevirtual 113, 3) := by decide +kernel
theorem dX9_nextStep_4 : decode cX9_nextStep 4 = .ok (.ireturn, 1) := by decide +kernel
theorem dX9_sideResistance_0 : decode cX9_sideResistance 0 = .ok (.iload_n 1, 1) := by decide +kernel
theorem dX9_sideResistance_1 : decode cX9_sideResistance 1 = .ok (.iconst 0, 1) := by decide +kernel
theorem dX9_sideResistance_2 : decode cX9_sideResistance 2 = .ok (.iconst 3, 1) := by decide +kernel
theorem dX9_sideResistance_3 : decode cX9_sideResistance 3 = .ok (.invokestatic 38, 3) := by decide +kernel
theorem dX9_sideResistance_6 : decode cX9_sideResistance 6 = .ok (.ifCond .ne 6, 3) := by decide +kernel
theorem dX9_sideResistance_9 : decode cX9_sideResistance 9 = .ok (.ldc 122, 2) := by decide +kernel
theorem dX9_sideResistance_11 : decode cX9_sideResistance 11 = .ok (.ireturn, 1) := by decide +kernel
theorem dX9_sideResistance_12 : decode cX9_sideResistance 12 = .ok (.iconst 0, 1) := by decide +kernel
theorem dX9_sideResistance_13 : decode cX9_sideResistance 13 = .ok (.istore_n 2, 1) := by decide +kernel
theorem dX9_sideResistance_14 : decode cX9_sideResistance 14 = .ok (.iconst 0, 1) := by decide +kernel
theorem dX9_sideResistance_15 : decode cX9_sideResistance 15 = .ok (.istore_n 3, 1) := by decide +kernel
theorem dX9_sideResistance_16 : decode cX9_sideResistance 16 = .ok (.iload_n 3, 1) := by decide +kernel
theorem dX9_sideResistance_17 : decode cX9_sideResistance 17 = .ok (.aload_n 0, 1) := by decide +kernel
theorem dX9_sideResistance_18 : decode cX9_sideResistance 18 = .ok (.invokevirtual 95, 3) := by decide +kernel
theorem dX9_sideResistance_21 : decode cX9_sideResistance 21 = .ok (.if_icmp .ge 30, 3) := by decide +kernel
theorem dX9_sideResistance_24 : decode cX9_sideResistance 24 = .ok (.iload_n 2, 1) := by decide +kernel
theorem dX9_sideResistance_25 : decode cX9_sideResistance 25 = .ok (.aload_n 0, 1) := by decide +kernel
theorem dX9_sideResistance_26 : decode cX9_sideResistance 26 = .ok (.iload_n 3, 1) := by decide +kernel
theorem dX9_sideResistance_27 : decode cX9_sideResistance 27 = .ok (.iload_n 1, 1) := by decide +kernel
theorem dX9_sideResistance_28 : decode cX9_sideResistance 28 = .ok (.invokevirtual 53, 3) := by decide +kernel
theorem dX9_sideResistance_31 : decode cX9_sideResistance 31 = .ok (.ifCond .eq 11, 3) := by decide +kernel
theorem dX9_sideResistance_34 : decode cX9_sideResistance 34 = .ok (.aload_n 0, 1) := by decide +kernel
theorem dX9_sideResistance_35 : decode cX9_sideResistance 35 = .ok (.iload_n 3, 1) := by decide +kernel
theorem dX9_sideResistance_36 : decode cX9_sideResistance 36 = .ok (.invokevirtual 98, 3) := by decide +kernel
theorem dX9_sideResistance_39 : decode cX9_sideResistance 39 = .ok (.goto 4, 3) := by decide +kernel
theorem dX9_sideResistance_42 : decode cX9_sideResistance 42 = .ok (.iconst 0, 1) := by decide +kernel
theorem dX9_sideResistance_43 : decode cX9_sideResistance 43 = .ok (.iadd, 1) := by decide +kernel
theorem dX9_sideResistance_44 : decode cX9_sideResistance 44 = .ok (.istore_n 2, 1) := by decide +kernel
theorem dX9_sideResistance_45 : decode cX9_sideResistance 45 = .ok (.iinc 3 1, 3) := by decide +kernel
theorem dX9_sideResistance_48 : decode cX9_sideResistance 48 = .ok (.goto (-32), 3) := by decide +kernel
theorem dX9_sideResistance_51 : decode cX9_sideResistance 51 = .ok (.iload_n 2, 1) := by decide +kernel
theorem dX9_sideResistance_52 : decode cX9_sideResistance 52 = .ok (.ireturn, 1) := by decide +kernel
theorem dX9_stuckDepth_0 : decode cX9_stuckDepth 0 = .ok (.aload_n 0, 1) := by decide +kernel
theorem dX9_stuckDepth_1 : decode cX9_stuckDepth 1 = .ok (.getfield 7, 3) := by decide +kernel
theorem dX9_stuckDepth_4 : decode cX9_stuckDepth 4 = .ok (.iconst 2, 1) := by decide +kernel
theorem dX9_stuckDepth_5 : decode cX9_stuckDepth 5 = .ok (.iaload, 1) := by decide +kernel
theorem dX9_stuckDepth_6 : decode cX9_stuckDepth 6 = .ok (.istore_n 1, 1) := by decide +kernel
theorem dX9_stuckDepth_7 : decode cX9_stuckDepth 7 = .ok (.iload_n 1, 1) := by decide +kernel
theorem dX9_stuckDepth_8 : decode cX9_stuckDepth 8 = .ok (.sipush 200, 3) := by decide +kernel
theorem dX9_stuckDepth_11 : decode cX9_stuckDepth 11 = .ok (.if_icmp .gt 64, 3) := by decide +kernel
theorem dX9_stuckDepth_14 : decode cX9_stuckDepth 14 = .ok (.iconst 0, 1) := by decide +kernel
theorem dX9_stuckDepth_15 : decode cX9_stuckDepth 15 = .ok (.istore_n 2, 1) := by decide +kernel
theorem dX9_stuckDepth_16 : decode cX9_stuckDepth 16 = .ok (.iconst 0, 1) := by decide +kernel
theorem dX9_stuckDepth_17 : decode cX9_stuckDepth 17 = .ok (.istore_n 3, 1) := by decide +kernel
theorem dX9_stuckDepth_18 : decode cX9_stuckDepth 18 = .ok (.iload_n 3, 1) := by decide +kernel
theorem dX9_stuckDepth_19 : decode cX9_stuckDepth 19 = .ok (.aload_n 0, 1) := by decide +kernel
theorem dX9_stuckDepth_20 : decode cX9_stuckDepth 20 = .ok (.invokevirtual 95, 3) := by decide +kernel
theorem dX9_stuckDepth_23 : decode cX9_stuckDepth 23 = .ok (.if_icmp .ge 36, 3) := by decide +kernel
theorem dX9_stuckDepth_26 : decode cX9_stuckDepth 26 = .ok (.iload_n 2, 1) := by decide +kernel
theorem dX9_stuckDepth_27 : decode cX9_stuckDepth 27 = .ok (.aload_n 0, 1) := by decide +kernel
theorem dX9_stuckDepth_28 : decode cX9_stuckDepth 28 = .ok (.iload_n 3, 1) := by decide +kernel
theorem dX9_stuckDepth_29 : decode cX9_stuckDepth 29 = .ok (.invokevirtual 57, 3) := by decide +kernel
theorem dX9_stuckDepth_32 : decode cX9_stuckDepth 32 = .ok (.ifCond .eq 18, 3) := by decide +kernel
theorem dX9_stuckDepth_35 : decode cX9_stuckDepth 35 = .ok (.aload_n 0, 1) := by decide +kernel
theorem dX9_stuckDepth_36 : decode cX9_stuckDepth 36 = .ok (.iload_n 3, 1) := by decide +kernel
theorem dX9_stuckDepth_37 : decode cX9_stuckDepth 37 = .ok (.iload_n 1, 1) := by decide +kernel
theorem dX9_stuckDepth_38 : decode cX9_stuckDepth 38 = .ok (.invokevirtual 85, 3) := by decide +kernel
theorem dX9_stuckDepth_41 : decode cX9_stuckDepth 41 = .ok (.aload_n 0, 1) := by decide +kernel
theorem dX9_stuckDepth_42 : decode cX9_stuckDepth 42 = .ok (.iload_n 1, 1) := by decide +kernel
theorem dX9_stuckDepth_43 : decode cX9_stuckDepth 43 = .ok (.invokevirtual 88, 3) := by decide +kernel
theorem dX9_stuckDepth_46 : decode cX9_stuckDepth 46 = .ok (.iadd, 1) := by decide +kernel
theorem dX9_stuckDepth_47 : decode cX9_stuckDepth 47 = .ok (.goto 4, 3) := by decide +kernel
theorem dX9_stuckDepth_50 : decode cX9_stuckDepth 50 = .ok (.iconst 0, 1) := by decide +kernel
theorem dX9_stuckDepth_51 : decode cX9_stuckDepth 51 = .ok (.iadd, 1) := by decide +kernel
theorem dX9_stuckDepth_52 : decode cX9_stuckDepth 52 = .ok (.istore_n 2, 1) := by decide +kernel
theorem dX9_stuckDepth_53 : decode cX9_stuckDepth 53 = .ok (.iinc 3 1, 3) := by decide +kernel
theorem dX9_stuckDepth_56 : decode cX9_stuckDepth 56 = .ok (.goto (-38), 3) := by decide +kernel
theorem dX9_stuckDepth_59 : decode cX9_stuckDepth 59 = .ok (.aload_n 0, 1) := by decide +kernel
theorem dX9_stuckDepth_60 : decode cX9_stuckDepth 60 = .ok (.invokevirtual 91, 3) := by decide +kernel
theorem dX9_stuckDepth_63 : decode cX9_stuckDepth 63 = .ok (.iload_n 2, 1) := by decide +kernel
theorem dX9_stuckDepth_64 : decode cX9_stuckDepth 64 = .ok (.if_icmp .gt 5, 3) := by decide +kernel
theorem dX9_stuckDepth_67 : decode cX9_stuckDepth 67 = .ok (.iload_n 1, 1) := by decide +kernel
theorem dX9_stuckDepth_68 : decode cX9_stuckDepth 68 = .ok (.ireturn, 1) := by decide +kernel
theorem dX9_stuckDepth_69 : decode cX9_stuckDepth 69 = .ok (.iinc 1 1, 3) := by decide +kernel
theorem dX9_stuckDepth_72 : decode cX9_stuckDepth 72 = .ok (.goto (-65), 3) := by decide +kernel
theorem dX9_stuckDepth_75 : decode cX9_stuckDepth 75 = .ok (.ldc 160, 2) := by decide +kernel
theorem dX9_stuckDepth_77 : decode cX9_stuckDepth 77 = .ok (.ireturn, 1) := by decide +kernel
theorem dX9_ballastNeeded_0 : decode cX9_ballastNeeded 0 = .ok (.aload_n 0, 1) := by decide +kernel
theorem dX9_ballastNeeded_1 : decode cX9_ballastNeeded 1 = .ok (.invokevirtual 104, 3) := by decide +kernel
theorem dX9_ballastNeeded_4 : decode cX9_ballastNeeded 4 = .ok (.istore_n 1, 1) := by decide +kernel
theorem dX9_ballastNeeded_5 : decode cX9_ballastNeeded 5 = .ok (.iload_n 1, 1) := by decide +kernel
theorem dX9_ballastNeeded_6 : decode cX9_ballastNeeded 6 = .ok (.ifCond .le 7, 3) := by decide +kernel
theorem dX9_ballastNeeded_9 : decode cX9_ballastNeeded 9 = .ok (.iconst 0, 1) := by decide +kernel
theorem dX9_ballastNeeded_10 : decode cX9_ballastNeeded 10 = .ok (.goto 9, 3) := by decide +kernel
theorem dX9_ballastNeeded_13 : decode cX9_ballastNeeded 13 = .ok (.iload_n 1, 1) := by decide +kernel
theorem dX9_ballastNeeded_14 : decode cX9_ballastNeeded 14 = .ok (.ineg, 1) := by decide +kernel
theorem dX9_ballastNeeded_15 : decode cX9_ballastNeeded 15 = .ok (.iconst 4, 1) := by decide +kernel
theorem dX9_ballastNeeded_16 : decode cX9_ballastNeeded 16 = .ok (.idiv, 1) := by decide +kernel
theorem dX9_ballastNeeded_17 : decode cX9_ballastNeeded 17 = .ok (.iconst 1, 1) := by decide +kernel
theorem dX9_ballastNeeded_18 : decode cX9_ballastNeeded 18 = .ok (.iadd, 1) := by decide +kernel
theorem dX9_ballastNeeded_19 : decode cX9_ballastNeeded 19 = .ok (.ireturn, 1) := by decide +kernel
theorem dX9_dig_0 : decode cX9_dig 0 = .ok (.aload_n 0, 1) := by decide +kernel
theorem dX9_dig_1 : decode cX9_dig 1 = .ok (.iload_n 1, 1) := by decide +kernel
theorem dX9_dig_2 : decode cX9_dig 2 = .ok (.invokevirtual 116, 3) := by decide +kernel
theorem dX9_dig_5 : decode cX9_dig 5 = .ok (.ifCond .eq 13, 3) := by decide +kernel
theorem dX9_dig_8 : decode cX9_dig 8 = .ok (.iload_n 2, 1) := by decide +kernel
theorem dX9_dig_9 : decode cX9_dig 9 = .ok (.iconst 1, 1) := by decide +kernel
theorem dX9_dig_10 : decode cX9_dig 10 = .ok (.bipush 10, 2) := by decide +kernel
theorem dX9_dig_12 : decode cX9_dig 12 = .ok (.invokestatic 38, 3) := by decide +kernel
theorem dX9_dig_15 : decode cX9_dig 15 = .ok (.ifCond .ne 6, 3) := by decide +kernel
theorem dX9_dig_18 : decode cX9_dig 18 = .ok (.ldc 122, 2) := by decide +kernel
theorem dX9_dig_20 : decode cX9_dig 20 = .ok (.ireturn, 1) := by decide +kernel
theorem dX9_dig_21 : decode cX9_dig 21 = .ok (.aload_n 0, 1) := by decide +kernel
theorem dX9_dig_22 : decode cX9_dig 22 = .ok (.iload_n 1, 1) := by decide +kernel
theorem dX9_dig_23 : decode cX9_dig 23 = .ok (.iload_n 2, 1) := by decide +kernel
theorem dX9_dig_24 : decode cX9_dig 24 = .ok (.invokevirtual 210, 3) := by decide +kernel
theorem dX9_dig_27 : decode cX9_dig 27 = .ok (.istore_n 3, 1) := by decide +kernel
theorem dX9_dig_28 : decode cX9_dig 28 = .ok (.iload_n 3, 1) := by decide +kernel
theorem dX9_dig_29 : decode cX9_dig 29 = .ok (.ifCond .ne 6, 3) := by decide +kernel
theorem dX9_dig_32 : decode cX9_dig 32 = .ok (.ldc 209, 2) := by decide +kernel
theorem dX9_dig_34 : decode cX9_dig 34 = .ok (.ireturn, 1) := by decide +kernel
theorem dX9_dig_35 : decode cX9_dig 35 = .ok (.aload_n 0, 1) := by decide +kernel
theorem dX9_dig_36 : decode cX9_dig 36 = .ok (.invokevirtual 188, 3) := by decide +kernel
theorem dX9_dig_39 : decode cX9_dig 39 = .ok (.aload_n 0, 1) := by decide +kernel
theorem dX9_dig_40 : decode cX9_dig 40 = .ok (.getfield 7, 3) := by decide +kernel
theorem dX9_dig_43 : decode cX9_dig 43 = .ok (.bipush 117, 2) := by decide +kernel
theorem dX9_dig_45 : decode cX9_dig 45 = .ok (.iload_n 1, 1) := by decide +kernel
theorem dX9_dig_46 : decode cX9_dig 46 = .ok (.iadd, 1) := by decide +kernel
theorem dX9_dig_47 : decode cX9_dig 47 = .ok (.dup2, 1) := by decide +kernel
theorem dX9_dig_48 : decode cX9_dig 48 = .ok (.iaload, 1) := by decide +kernel
theorem dX9_dig_49 : decode cX9_dig 49 = .ok (.iload_n 3, 1) := by decide +kernel
theorem dX9_dig_50 : decode cX9_dig 50 = .ok (.iadd, 1) := by decide +kernel
theorem dX9_dig_51 : decode cX9_dig 51 = .ok (.iastore, 1) := by decide +kernel
theorem dX9_dig_52 : decode cX9_dig 52 = .ok (.aload_n 0, 1) := by decide +kernel
theorem dX9_dig_53 : decode cX9_dig 53 = .ok (.iconst 0, 1) := by decide +kernel
theorem dX9_dig_54 : decode cX9_dig 54 = .ok (.iload_n 1, 1) := by decide +kernel
theorem dX9_dig_55 : decode cX9_dig 55 = .ok (.invokevirtual 213, 3) := by decide +kernel
theorem dX9_dig_58 : decode cX9_dig 58 = .ok (.aload_n 0, 1) := by decide +kernel
theorem dX9_dig_59 : decode cX9_dig 59 = .ok (.iload_n 3, 1) := by decide +kernel
theorem dX9_dig_60 : decode cX9_dig 60 = .ok (.invokevirtual 203, 3) := by decide +kernel
theorem dX9_dig_63 : decode cX9_dig 63 = .ok (.ireturn, 1) := by decide +kernel
theorem dX9_settle_0 : decode cX9_settle 0 = .ok (.iload_n 1, 1) := by decide +kernel
theorem dX9_settle_1 : decode cX9_settle 1 = .ok (.iconst 1, 1) := by decide +kernel
theorem dX9_settle_2 : decode cX9_settle 2 = .ok (.bipush 50, 2) := by decide +kernel
theorem dX9_settle_4 : decode cX9_settle 4 = .ok (.invokestatic 38, 3) := by decide +kernel
theorem dX9_settle_7 : decode cX9_settle 7 = .ok (.ifCond .ne 6, 3) := by decide +kernel
theorem dX9_settle_10 : decode cX9_settle 10 = .ok (.ldc 122, 2) := by decide +kernel
theorem dX9_settle_12 : decode cX9_settle 12 = .ok (.ireturn, 1) := by decide +kernel
theorem dX9_settle_13 : decode cX9_settle 13 = .ok (.aload_n 0, 1) := by decide +kernel
theorem dX9_settle_14 : decode cX9_settle 14 = .ok (.invokevirtual 113, 3) := by decide +kernel
theorem dX9_settle_17 : decode cX9_settle 17 = .ok (.ifCond .ne 6, 3) := by decide +kernel
theorem dX9_settle_20 : decode cX9_settle 20 = .ok (.ldc 209, 2) := by decide +kernel
theorem dX9_settle_22 : decode cX9_settle 22 = .ok (.ireturn, 1) := by decide +kernel
theorem dX9_settle_23 : decode cX9_settle 23 = .ok (.aload_n 0, 1) := by decide +kernel
theorem dX9_settle_24 : decode cX9_settle 24 = .ok (.invokevirtual 188, 3) := by decide +kernel
theorem dX9_settle_27 : decode cX9_settle 27 = .ok (.aload_n 0, 1) := by decide +kernel
theorem dX9_settle_28 : decode cX9_settle 28 = .ok (.iload_n 1, 1) := by decide +kernel
theorem dX9_settle_29 : decode cX9_settle 29 = .ok (.invokevirtual 119, 3) := by decide +kernel
theorem dX9_settle_32 : decode cX9_settle 32 = .ok (.istore_n 2, 1) := by decide +kernel
theorem dX9_settle_33 : decode cX9_settle 33 = .ok (.aload_n 0, 1) := by decide +kernel
theorem dX9_settle_34 : decode cX9_settle 34 = .ok (.iconst 1, 1) := by decide +kernel
theorem dX9_settle_35 : decode cX9_settle 35 = .ok (.iload_n 2, 1) := by decide +kernel
theorem dX9_settle_36 : decode cX9_settle 36 = .ok (.invokevirtual 213, 3) := by decide +kernel
theorem dX9_settle_39 : decode cX9_settle 39 = .ok (.aload_n 0, 1) := by decide +kernel
theorem dX9_settle_40 : decode cX9_settle 40 = .ok (.iload_n 2, 1) := by decide +kernel
theorem dX9_settle_41 : decode cX9_settle 41 = .ok (.invokevirtual 203, 3) := by decide +kernel
theorem dX9_settle_44 : decode cX9_settle 44 = .ok (.ireturn, 1) := by decide +kernel
theorem dX9_setBallast_0 : decode cX9_setBallast 0 = .ok (.aload_n 0, 1) := by decide +kernel
theorem dX9_setBallast_1 : decode cX9_setBallast 1 = .ok (.iload_n 1, 1) := by decide +kernel
theorem dX9_setBallast_2 : decode cX9_setBallast 2 = .ok (.invokevirtual 49, 3) := by decide +kernel
theorem dX9_setBallast_5 : decode cX9_setBallast 5 = .ok (.ifCond .eq 13, 3) := by decide +kernel
theorem dX9_setBallast_8 : decode cX9_setBallast 8 = .ok (.iload_n 2, 1) := by decide +kernel
theorem dX9_setBallast_9 : decode cX9_setBallast 9 = .ok (.iconst 0, 1) := by decide +kernel
theorem dX9_setBallast_10 : decode cX9_setBallast 10 = .ok (.bipush 99, 2) := by decide +kernel
theorem dX9_setBallast_12 : decode cX9_setBallast 12 = .ok (.invokestatic 38, 3) := by decide +kernel
theorem dX9_setBallast_15 : decode cX9_setBallast 15 = .ok (.ifCond .ne 6, 3) := by decide +kernel
theorem dX9_setBallast_18 : decode cX9_setBallast 18 = .ok (.ldc 122, 2) := by decide +kernel
theorem dX9_setBallast_20 : decode cX9_setBallast 20 = .ok (.ireturn, 1) := by decide +kernel
theorem dX9_setBallast_21 : decode cX9_setBallast 21 = .ok (.aload_n 0, 1) := by decide +kernel
theorem dX9_setBallast_22 : decode cX9_setBallast 22 = .ok (.getfield 7, 3) := by decide +kernel
theorem dX9_setBallast_25 : decode cX9_setBallast 25 = .ok (.bipush 68, 2) := by decide +kernel
theorem dX9_setBallast_27 : decode cX9_setBallast 27 = .ok (.iload_n 1, 1) := by decide +kernel
theorem dX9_setBallast_28 : decode cX9_setBallast 28 = .ok (.iadd, 1) := by decide +kernel
theorem dX9_setBallast_29 : decode cX9_setBallast 29 = .ok (.iaload, 1) := by decide +kernel
theorem dX9_setBallast_30 : decode cX9_setBallast 30 = .ok (.istore_n 3, 1) := by decide +kernel
theorem dX9_setBallast_31 : decode cX9_setBallast 31 = .ok (.iload_n 3, 1) := by decide +kernel
theorem dX9_setBallast_32 : decode cX9_setBallast 32 = .ok (.iload_n 2, 1) := by decide +kernel
theorem dX9_setBallast_33 : decode cX9_setBallast 33 = .ok (.if_icmp .ne 6, 3) := by decide +kernel
theorem dX9_setBallast_36 : decode cX9_setBallast 36 = .ok (.ldc 209, 2) := by decide +kernel
theorem dX9_setBallast_38 : decode cX9_setBallast 38 = .ok (.ireturn, 1) := by decide +kernel
theorem dX9_setBallast_39 : decode cX9_setBallast 39 = .ok (.aload_n 0, 1) := by decide +kernel
theorem dX9_setBallast_40 : decode cX9_setBallast 40 = .ok (.invokevirtual 188, 3) := by decide +kernel
theorem dX9_setBallast_43 : decode cX9_setBallast 43 = .ok (.aload_n 0, 1) := by decide +kernel
theorem dX9_setBallast_44 : decode cX9_setBallast 44 = .ok (.getfield 7, 3) := by decide +kernel
theorem dX9_setBallast_47 : decode cX9_setBallast 47 = .ok (.bipush 68, 2) := by decide +kernel
theorem dX9_setBallast_49 : decode cX9_setBallast 49 = .ok (.iload_n 1, 1) := by decide +kernel
theorem dX9_setBallast_50 : decode cX9_setBallast 50 = .ok (.iadd, 1) := by decide +kernel
theorem dX9_setBallast_51 : decode cX9_setBallast 51 = .ok (.iload_n 2, 1) := by decide +kernel
theorem dX9_setBallast_52 : decode cX9_setBallast 52 = .ok (.iastore, 1) := by decide +kernel
theorem dX9_setBallast_53 : decode cX9_setBallast 53 = .ok (.aload_n 0, 1) := by decide +kernel
theorem dX9_setBallast_54 : decode cX9_setBallast 54 = .ok (.iconst 2, 1) := by decide +kernel
theorem dX9_setBallast_55 : decode cX9_setBallast 55 = .ok (.iload_n 1, 1) := by decide +kernel
theorem dX9_setBallast_56 : decode cX9_setBallast 56 = .ok (.invokevirtual 213, 3) := by decide +kernel
theorem dX9_setBallast_59 : decode cX9_setBallast 59 = .ok (.aload_n 0, 1) := by decide +kernel
theorem dX9_setBallast_60 : decode cX9_setBallast 60 = .ok (.iload_n 3, 1) := by decide +kernel
theorem dX9_setBallast_61 : decode cX9_setBallast 61 = .ok (.invokevirtual 203, 3) := by decide +kernel
theorem dX9_setBallast_64 : decode cX9_setBallast 64 = .ok (.ireturn, 1) := by decide +kernel
theorem dX9_lubricate_0 : decode cX9_lubricate 0 = .ok (.iload_n 1, 1) := by decide +kernel
theorem dX9_lubricate_1 : decode cX9_lubricate 1 = .ok (.iconst 0, 1) := by decide +kernel
theorem dX9_lubricate_2 : decode cX9_lubricate 2 = .ok (.iconst 3, 1) := by decide +kernel
theorem dX9_lubricate_3 : decode cX9_lubricate 3 = .ok (.invokestatic 38, 3) := by decide +kernel
theorem dX9_lubricate_6 : decode cX9_lubricate 6 = .ok (.ifCond .eq 12, 3) := by decide +kernel
theorem dX9_lubricate_9 : decode cX9_lubricate 9 = .ok (.iload_n 2, 1) := by decide +kernel
theorem dX9_lubricate_10 : decode cX9_lubricate 10 = .ok (.iconst 0, 1) := by decide +kernel
theorem dX9_lubricate_11 : decode cX9_lubricate 11 = .ok (.iconst 1, 1) := by decide +kernel
theorem dX9_lubricate_12 : decode cX9_lubricate 12 = .ok (.invokestatic 38, 3) := by decide +kernel
theorem dX9_lubricate_15 : decode cX9_lubricate 15 = .ok (.ifCond .ne 6, 3) := by decide +kernel
theorem dX9_lubricate_18 : decode cX9_lubricate 18 = .ok (.ldc 122, 2) := by decide +kernel
theorem dX9_lubricate_20 : decode cX9_lubricate 20 = .ok (.ireturn, 1) := by decide +kernel
theorem dX9_lubricate_21 : decode cX9_lubricate 21 = .ok (.aload_n 0, 1) := by decide +kernel
theorem dX9_lubricate_22 : decode cX9_lubricate 22 = .ok (.getfield 7, 3) := by decide +kernel
theorem dX9_lubricate_25 : decode cX9_lubricate 25 = .ok (.bipush 64, 2) := by decide +kernel
theorem dX9_lubricate_27 : decode cX9_lubricate 27 = .ok (.iload_n 1, 1) := by decide +kernel
theorem dX9_lubricate_28 : decode cX9_lubricate 28 = .ok (.iadd, 1) := by decide +kernel
theorem dX9_lubricate_29 : decode cX9_lubricate 29 = .ok (.iaload, 1) := by decide +kernel
theorem dX9_lubricate_30 : decode cX9_lubricate 30 = .ok (.iload_n 2, 1) := by decide +kernel
theorem dX9_lubricate_31 : decode cX9_lubricate 31 = .ok (.if_icmp .ne 6, 3) := by decide +kernel
theorem dX9_lubricate_34 : decode cX9_lubricate 34 = .ok (.ldc 209, 2) := by decide +kernel
theorem dX9_lubricate_36 : decode cX9_lubricate 36 = .ok (.ireturn, 1) := by decide +kernel
theorem dX9_lubricate_37 : decode cX9_lubricate 37 = .ok (.aload_n 0, 1) := by decide +kernel
theorem dX9_lubricate_38 : decode cX9_lubricate 38 = .ok (.invokevirtual 188, 3) := by decide +kernel
theorem dX9_lubricate_41 : decode cX9_lubricate 41 = .ok (.aload_n 0, 1) := by decide +kernel
theorem dX9_lubricate_42 : decode cX9_lubricate 42 = .ok (.getfield 7, 3) := by decide +kernel
theorem dX9_lubricate_45 : decode cX9_lubricate 45 = .ok (.bipush 64, 2) := by decide +kernel
theorem dX9_lubricate_47 : decode cX9_lubricate 47 = .ok (.iload_n 1, 1) := by decide +kernel
theorem dX9_lubricate_48 : decode cX9_lubricate 48 = .ok (.iadd, 1) := by decide +kernel
theorem dX9_lubricate_49 : decode cX9_lubricate 49 = .ok (.iload_n 2, 1) := by decide +kernel
theorem dX9_lubricate_50 : decode cX9_lubricate 50 = .ok (.iastore, 1) := by decide +kernel
theorem dX9_lubricate_51 : decode cX9_lubricate 51 = .ok (.aload_n 0, 1) := by decide +kernel
theorem dX9_lubricate_52 : decode cX9_lubricate 52 = .ok (.iconst 3, 1) := by decide +kernel
theorem dX9_lubricate_53 : decode cX9_lubricate 53 = .ok (.iload_n 1, 1) := by decide +kernel
theorem dX9_lubricate_54 : decode cX9_lubricate 54 = .ok (.invokevirtual 213, 3) := by decide +kernel
theorem dX9_lubricate_57 : decode cX9_lubricate 57 = .ok (.aload_n 0, 1) := by decide +kernel
theorem dX9_lubricate_58 : decode cX9_lubricate 58 = .ok (.aload_n 0, 1) := by decide +kernel
theorem dX9_lubricate_59 : decode cX9_lubricate 59 = .ok (.getfield 7, 3) := by decide +kernel
theorem dX9_lubricate_62 : decode cX9_lubricate 62 = .ok (.bipush 64, 2) := by decide +kernel
theorem dX9_lubricate_64 : decode cX9_lubricate 64 = .ok (.iaload, 1) := by decide +kernel
theorem dX9_lubricate_65 : decode cX9_lubricate 65 = .ok (.aload_n 0, 1) := by decide +kernel
theorem dX9_lubricate_66 : decode cX9_lubricate 66 = .ok (.getfield 7, 3) := by decide +kernel
theorem dX9_lubricate_69 : decode cX9_lubricate 69 = .ok (.bipush 65, 2) := by decide +kernel
theorem dX9_lubricate_71 : decode cX9_lubricate 71 = .ok (.iaload, 1) := by decide +kernel
theorem dX9_lubricate_72 : decode cX9_lubricate 72 = .ok (.iadd, 1) := by decide +kernel
theorem dX9_lubricate_73 : decode cX9_lubricate 73 = .ok (.aload_n 0, 1) := by decide +kernel
theorem dX9_lubricate_74 : decode cX9_lubricate 74 = .ok (.getfield 7, 3) := by decide +kernel
theorem dX9_lubricate_77 : decode cX9_lubricate 77 = .ok (.bipush 66, 2) := by decide +kernel
theorem dX9_lubricate_79 : decode cX9_lubricate 79 = .ok (.iaload, 1) := by decide +kernel
theorem dX9_lubricate_80 : decode cX9_lubricate 80 = .ok (.iadd, 1) := by decide +kernel
theorem dX9_lubricate_81 : decode cX9_lubricate 81 = .ok (.aload_n 0, 1) := by decide +kernel
theorem dX9_lubricate_82 : decode cX9_lubricate 82 = .ok (.getfield 7, 3) := by decide +kernel
theorem dX9_lubricate_85 : decode cX9_lubricate 85 = .ok (.bipush 67, 2) := by decide +kernel
theorem dX9_lubricate_87 : decode cX9_lubricate 87 = .ok (.iaload, 1) := by decide +kernel
theorem dX9_lubricate_88 : decode cX9_lubricate 88 = .ok (.iadd, 1) := by decide +kernel
theorem dX9_lubricate_89 : decode cX9_lubricate 89 = .ok (.invokevirtual 203, 3) := by decide +kernel
theorem dX9_lubricate_92 : decode cX9_lubricate 92 = .ok (.ireturn, 1) := by decide +kernel
theorem dX9_reachable_0 : decode cX9_reachable 0 = .ok (.aload_n 0, 1) := by decide +kernel
theorem dX9_reachable_1 : decode cX9_reachable 1 = .ok (.iload_n 1, 1) := by decide +kernel
theorem dX9_reachable_2 : decode cX9_reachable 2 = .ok (.invokevirtual 57, 3) := by decide +kernel
theorem dX9_reachable_5 : decode cX9_reachable 5 = .ok (.istore_n 2, 1) := by decide +kernel
theorem dX9_reachable_6 : decode cX9_reachable 6 = .ok (.iload_n 2, 1) := by decide +kernel
theorem dX9_reachable_7 : decode cX9_reachable 7 = .ok (.ifCond .eq 7, 3) := by decide +kernel
theorem dX9_reachable_10 : decode cX9_reachable 10 = .ok (.iconst 0, 1) := by decide +kernel
theorem dX9_reachable_11 : decode cX9_reachable 11 = .ok (.goto 12, 3) := by decide +kernel
theorem dX9_reachable_14 : decode cX9_reachable 14 = .ok (.aload_n 0, 1) := by decide +kernel
theorem dX9_reachable_15 : decode cX9_reachable 15 = .ok (.getfield 7, 3) := by decide +kernel
theorem dX9_reachable_18 : decode cX9_reachable 18 = .ok (.bipush 117, 2) := by decide +kernel
theorem dX9_reachable_20 : decode cX9_reachable 20 = .ok (.iload_n 1, 1) := by decide +kernel
theorem dX9_reachable_21 : decode cX9_reachable 21 = .ok (.iadd, 1) := by decide +kernel
theorem dX9_reachable_22 : decode cX9_reachable 22 = .ok (.iaload, 1) := by decide +kernel
theorem dX9_reachable_23 : decode cX9_reachable 23 = .ok (.istore_n 3, 1) := by decide +kernel
theorem dX9_reachable_24 : decode cX9_reachable 24 = .ok (.iload_n 2, 1) := by decide +kernel
theorem dX9_reachable_25 : decode cX9_reachable 25 = .ok (.ifCond .eq 11, 3) := by decide +kernel
theorem dX9_reachable_28 : decode cX9_reachable 28 = .ok (.aload_n 0, 1) := by decide +kernel
theorem dX9_reachable_29 : decode cX9_reachable 29 = .ok (.iload_n 1, 1) := by decide +kernel
theorem dX9_reachable_30 : decode cX9_reachable 30 = .ok (.invokevirtual 70, 3) := by decide +kernel
theorem dX9_reachable_33 : decode cX9_reachable 33 = .ok (.goto 6, 3) := by decide +kernel
theorem dX9_reachable_36 : decode cX9_reachable 36 = .ok (.iload_n 3, 1) := by decide +kernel
theorem dX9_reachable_37 : decode cX9_reachable 37 = .ok (.iconst 1, 1) := by decide +kernel
theorem dX9_reachable_38 : decode cX9_reachable 38 = .ok (.iadd, 1) := by decide +kernel
theorem dX9_reachable_39 : decode cX9_reachable 39 = .ok (.istore 4, 2) := by decide +kernel
theorem dX9_reachable_41 : decode cX9_reachable 41 = .ok (.ldc 160, 2) := by decide +kernel
theorem dX9_reachable_43 : decode cX9_reachable 43 = .ok (.istore 5, 2) := by decide +kernel
theorem dX9_reachable_45 : decode cX9_reachable 45 = .ok (.aload_n 0, 1) := by decide +kernel
theorem dX9_reachable_46 : decode cX9_reachable 46 = .ok (.getfield 7, 3) := by decide +kernel
theorem dX9_reachable_49 : decode cX9_reachable 49 = .ok (.bipush 33, 2) := by decide +kernel
theorem dX9_reachable_51 : decode cX9_reachable 51 = .ok (.iaload, 1) := by decide +kernel
theorem dX9_reachable_52 : decode cX9_reachable 52 = .ok (.iconst 1, 1) := by decide +kernel
theorem dX9_reachable_53 : decode cX9_reachable 53 = .ok (.isub, 1) := by decide +kernel
theorem dX9_reachable_54 : decode cX9_reachable 54 = .ok (.istore 6, 2) := by decide +kernel
theorem dX9_reachable_56 : decode cX9_reachable 56 = .ok (.iload 6, 2) := by decide +kernel
theorem dX9_reachable_58 : decode cX9_reachable 58 = .ok (.ifCond .lt 57, 3) := by decide +kernel
theorem dX9_reachable_61 : decode cX9_reachable 61 = .ok (.aload_n 0, 1) := by decide +kernel
theorem dX9_reachable_62 : decode cX9_reachable 62 = .ok (.getfield 7, 3) := by decide +kernel
theorem dX9_reachable_65 : decode cX9_reachable 65 = .ok (.bipush 34, 2) := by decide +kernel
theorem dX9_reachable_67 : decode cX9_reachable 67 = .ok (.iconst 3, 1) := by decide +kernel
theorem dX9_reachable_68 : decode cX9_reachable 68 = .ok (.iload 6, 2) := by decide +kernel
theorem dX9_reachable_70 : decode cX9_reachable 70 = .ok (.imul, 1) := by decide +kernel
theorem dX9_reachable_71 : decode cX9_reachable 71 = .ok (.iadd, 1) := by decide +kernel
theorem dX9_reachable_72 : decode cX9_reachable 72 = .ok (.iaload, 1) := by decide +kernel
theorem dX9_reachable_73 : decode cX9_reachable 73 = .ok (.iload_n 1, 1) := by decide +kernel
theorem dX9_reachable_74 : decode cX9_reachable 74 = .ok (.if_icmp .ne 31, 3) := by decide +kernel
theorem dX9_reachable_77 : decode cX9_reachable 77 = .ok (.aload_n 0, 1) := by decide +kernel
theorem dX9_reachable_78 : decode cX9_reachable 78 = .ok (.getfield 7, 3) := by decide +kernel
theorem dX9_reachable_81 : decode cX9_reachable 81 = .ok (.bipush 34, 2) := by decide +kernel
theorem dX9_reachable_83 : decode cX9_reachable 83 = .ok (.iconst 3, 1) := by decide +kernel
theorem dX9_reachable_84 : decode cX9_reachable 84 = .ok (.iload 6, 2) := by decide +kernel
theorem dX9_reachable_86 : decode cX9_reachable 86 = .ok (.imul, 1) := by decide +kernel
theorem dX9_reachable_87 : decode cX9_reachable 87 = .ok (.iadd, 1) := by decide +kernel
theorem dX9_reachable_88 : decode cX9_reachable 88 = .ok (.iconst 1, 1) := by decide +kernel
theorem dX9_reachable_89 : decode cX9_reachable 89 = .ok (.iadd, 1) := by decide +kernel
theorem dX9_reachable_90 : decode cX9_reachable 90 = .ok (.iaload, 1) := by decide +kernel
theorem dX9_reachable_91 : decode cX9_reachable 91 = .ok (.iload_n 3, 1) := by decide +kernel
theorem dX9_reachable_92 : decode cX9_reachable 92 = .ok (.iload 4, 2) := by decide +kernel
theorem dX9_reachable_94 : decode cX9_reachable 94 = .ok (.invokestatic 38, 3) := by decide +kernel
theorem dX9_reachable_97 : decode cX9_reachable 97 = .ok (.ifCond .eq 8, 3) := by decide +kernel
theorem dX9_reachable_100 : decode cX9_reachable 100 = .ok (.iload 6, 2) := by decide +kernel
theorem dX9_reachable_102 : decode cX9_reachable 102 = .ok (.goto 5, 3) := by decide +kernel
theorem dX9_reachable_105 : decode cX9_reachable 105 = .ok (.iload 5, 2) := by decide +kernel
theorem dX9_reachable_107 : decode cX9_reachable 107 = .ok (.istore 5, 2) := by decide +kernel
theorem dX9_reachable_109 : decode cX9_reachable 109 = .ok (.iinc 6 (-1), 3) := by decide +kernel
theorem dX9_reachable_112 : decode cX9_reachable 112 = .ok (.goto (-56), 3) := by decide +kernel
theorem dX9_reachable_115 : decode cX9_reachable 115 = .ok (.iload 5, 2) := by decide +kernel
theorem dX9_reachable_117 : decode cX9_reachable 117 = .ok (.ireturn, 1) := by decide +kernel
theorem dX9_blast_0 : decode cX9_blast 0 = .ok (.aload_n 0, 1) := by decide +kernel
theorem dX9_blast_1 : decode cX9_blast 1 = .ok (.iload_n 1, 1) := by decide +kernel
theorem dX9_blast_2 : decode cX9_blast 2 = .ok (.invokevirtual 49, 3) := by decide +kernel
theorem dX9_blast_5 : decode cX9_blast 5 = .ok (.ifCond .eq 13, 3) := by decide +kernel
theorem dX9_blast_8 : decode cX9_blast 8 = .ok (.iload_n 2, 1) := by decide +kernel
theorem dX9_blast_9 : decode cX9_blast 9 = .ok (.iconst 1, 1) := by decide +kernel
theorem dX9_blast_10 : decode cX9_blast 10 = .ok (.bipush 50, 2) := by decide +kernel
theorem dX9_blast_12 : decode cX9_blast 12 = .ok (.invokestatic 38, 3) := by decide +kernel
theorem dX9_blast_15 : decode cX9_blast 15 = .ok (.ifCond .ne 6, 3) := by decide +kernel
theorem dX9_blast_18 : decode cX9_blast 18 = .ok (.ldc 122, 2) := by decide +kernel
theorem dX9_blast_20 : decode cX9_blast 20 = .ok (.ireturn, 1) := by decide +kernel
theorem dX9_blast_21 : decode cX9_blast 21 = .ok (.aload_n 0, 1) := by decide +kernel
theorem dX9_blast_22 : decode cX9_blast 22 = .ok (.iload_n 1, 1) := by decide +kernel
theorem dX9_blast_23 : decode cX9_blast 23 = .ok (.invokevirtual 217, 3) := by decide +kernel
theorem dX9_blast_26 : decode cX9_blast 26 = .ok (.istore_n 3, 1) := by decide +kernel
theorem dX9_blast_27 : decode cX9_blast 27 = .ok (.iload_n 3, 1) := by decide +kernel
theorem dX9_blast_28 : decode cX9_blast 28 = .ok (.ifCond .ge 6, 3) := by decide +kernel
theorem dX9_blast_31 : decode cX9_blast 31 = .ok (.ldc 209, 2) := by decide +kernel
theorem dX9_blast_33 : decode cX9_blast 33 = .ok (.ireturn, 1) := by decide +kernel
theorem dX9_blast_34 : decode cX9_blast 34 = .ok (.aload_n 0, 1) := by decide +kernel
theorem dX9_blast_35 : decode cX9_blast 35 = .ok (.invokevirtual 188, 3) := by decide +kernel
theorem dX9_blast_38 : decode cX9_blast 38 = .ok (.aload_n 0, 1) := by decide +kernel
theorem dX9_blast_39 : decode cX9_blast 39 = .ok (.getfield 7, 3) := by decide +kernel
theorem dX9_blast_42 : decode cX9_blast 42 = .ok (.bipush 34, 2) := by decide +kernel
theorem dX9_blast_44 : decode cX9_blast 44 = .ok (.iconst 3, 1) := by decide +kernel
theorem dX9_blast_45 : decode cX9_blast 45 = .ok (.iload_n 3, 1) := by decide +kernel
theorem dX9_blast_46 : decode cX9_blast 46 = .ok (.imul, 1) := by decide +kernel
theorem dX9_blast_47 : decode cX9_blast 47 = .ok (.iadd, 1) := by decide +kernel
theorem dX9_blast_48 : decode cX9_blast 48 = .ok (.iconst 2, 1) := by decide +kernel
theorem dX9_blast_49 : decode cX9_blast 49 = .ok (.iadd, 1) := by decide +kernel
theorem dX9_blast_50 : decode cX9_blast 50 = .ok (.iaload, 1) := by decide +kernel
theorem dX9_blast_51 : decode cX9_blast 51 = .ok (.iload_n 2, 1) := by decide +kernel
theorem dX9_blast_52 : decode cX9_blast 52 = .ok (.isub, 1) := by decide +kernel
theorem dX9_blast_53 : decode cX9_blast 53 = .ok (.istore 4, 2) := by decide +kernel
theorem dX9_blast_55 : decode cX9_blast 55 = .ok (.iload 4, 2) := by decide +kernel
theorem dX9_blast_57 : decode cX9_blast 57 = .ok (.ifCond .le 21, 3) := by decide +kernel
theorem dX9_blast_60 : decode cX9_blast 60 = .ok (.aload_n 0, 1) := by decide +kernel
theorem dX9_blast_61 : decode cX9_blast 61 = .ok (.getfield 7, 3) := by decide +kernel
theorem dX9_blast_64 : decode cX9_blast 64 = .ok (.bipush 34, 2) := by decide +kernel
theorem dX9_blast_66 : decode cX9_blast 66 = .ok (.iconst 3, 1) := by decide +kernel
theorem dX9_blast_67 : decode cX9_blast 67 = .ok (.iload_n 3, 1) := by decide +kernel
theorem dX9_blast_68 : decode cX9_blast 68 = .ok (.imul, 1) := by decide +kernel
theorem dX9_blast_69 : decode cX9_blast 69 = .ok (.iadd, 1) := by decide +kernel
theorem dX9_blast_70 : decode cX9_blast 70 = .ok (.iconst 2, 1) := by decide +kernel
theorem dX9_blast_71 : decode cX9_blast 71 = .ok (.iadd, 1) := by decide +kernel
theorem dX9_blast_72 : decode cX9_blast 72 = .ok (.iload 4, 2) := by decide +kernel
theorem dX9_blast_74 : decode cX9_blast 74 = .ok (.iastore, 1) := by decide +kernel
theorem dX9_blast_75 : decode cX9_blast 75 = .ok (.goto 64, 3) := by decide +kernel
theorem dX9_blast_78 : decode cX9_blast 78 = .ok (.iconst 0, 1) := by decide +kernel
theorem dX9_blast_79 : decode cX9_blast 79 = .ok (.istore 4, 2) := by decide +kernel
theorem dX9_blast_81 : decode cX9_blast 81 = .ok (.aload_n 0, 1) := by decide +kernel
theorem dX9_blast_82 : decode cX9_blast 82 = .ok (.getfield 7, 3) := by decide +kernel
theorem dX9_blast_85 : decode cX9_blast 85 = .ok (.bipush 33, 2) := by decide +kernel
theorem dX9_blast_87 : decode cX9_blast 87 = .ok (.dup2, 1) := by decide +kernel
theorem dX9_blast_88 : decode cX9_blast 88 = .ok (.iaload, 1) := by decide +kernel
theorem dX9_blast_89 : decode cX9_blast 89 = .ok (.iconst 1, 1) := by decide +kernel
theorem dX9_blast_90 : decode cX9_blast 90 = .ok (.isub, 1) := by decide +kernel
theorem dX9_blast_91 : decode cX9_blast 91 = .ok (.iastore, 1) := by decide +kernel
theorem dX9_blast_92 : decode cX9_blast 92 = .ok (.iconst 3, 1) := by decide +kernel
theorem dX9_blast_93 : decode cX9_blast 93 = .ok (.iload_n 3, 1) := by decide +kernel
theorem dX9_blast_94 : decode cX9_blast 94 = .ok (.imul, 1) := by decide +kernel
theorem dX9_blast_95 : decode cX9_blast 95 = .ok (.istore 5, 2) := by decide +kernel
theorem dX9_blast_97 : decode cX9_blast 97 = .ok (.iload 5, 2) := by decide +kernel
theorem dX9_blast_99 : decode cX9_blast 99 = .ok (.iconst 3, 1) := by decide +kernel
theorem dX9_blast_100 : decode cX9_blast 100 = .ok (.aload_n 0, 1) := by decide +kernel
theorem dX9_blast_101 : decode cX9_blast 101 = .ok (.getfield 7, 3) := by decide +kernel
theorem dX9_blast_104 : decode cX9_blast 104 = .ok (.bipush 33, 2) := by decide +kernel
theorem dX9_blast_106 : decode cX9_blast 106 = .ok (.iaload, 1) := by decide +kernel
theorem dX9_blast_107 : decode cX9_blast 107 = .ok (.imul, 1) := by decide +kernel
theorem dX9_blast_108 : decode cX9_blast 108 = .ok (.if_icmp .ge 31, 3) := by decide +kernel
theorem dX9_blast_111 : decode cX9_blast 111 = .ok (.aload_n 0, 1) := by decide +kernel
theorem dX9_blast_112 : decode cX9_blast 112 = .ok (.getfield 7, 3) := by decide +kernel
theorem dX9_blast_115 : decode cX9_blast 115 = .ok (.bipush 34, 2) := by decide +kernel
theorem dX9_blast_117 : decode cX9_blast 117 = .ok (.iload 5, 2) := by decide +kernel
theorem dX9_blast_119 : decode cX9_blast 119 = .ok (.iadd, 1) := by decide +kernel
theorem dX9_blast_120 : decode cX9_blast 120 = .ok (.aload_n 0, 1) := by decide +kernel
theorem dX9_blast_121 : decode cX9_blast 121 = .ok (.getfield 7, 3) := by decide +kernel
theorem dX9_blast_124 : decode cX9_blast 124 = .ok (.bipush 34, 2) := by decide +kernel
theorem dX9_blast_126 : decode cX9_blast 126 = .ok (.iload 5, 2) := by decide +kernel
theorem dX9_blast_128 : decode cX9_blast 128 = .ok (.iadd, 1) := by decide +kernel
theorem dX9_blast_129 : decode cX9_blast 129 = .ok (.iconst 3, 1) := by decide +kernel
theorem dX9_blast_130 : decode cX9_blast 130 = .ok (.iadd, 1) := by decide +kernel
theorem dX9_blast_131 : decode cX9_blast 131 = .ok (.iaload, 1) := by decide +kernel
theorem dX9_blast_132 : decode cX9_blast 132 = .ok (.iastore, 1) := by decide +kernel
theorem dX9_blast_133 : decode cX9_blast 133 = .ok (.iinc 5 1, 3) := by decide +kernel
theorem dX9_blast_136 : decode cX9_blast 136 = .ok (.goto (-39), 3) := by decide +kernel
theorem dX9_blast_139 : decode cX9_blast 139 = .ok (.aload_n 0, 1) := by decide +kernel
theorem dX9_blast_140 : decode cX9_blast 140 = .ok (.iconst 4, 1) := by decide +kernel
theorem dX9_blast_141 : decode cX9_blast 141 = .ok (.iload_n 1, 1) := by decide +kernel
theorem dX9_blast_142 : decode cX9_blast 142 = .ok (.invokevirtual 213, 3) := by decide +kernel
theorem dX9_blast_145 : decode cX9_blast 145 = .ok (.aload_n 0, 1) := by decide +kernel
theorem dX9_blast_146 : decode cX9_blast 146 = .ok (.iload 4, 2) := by decide +kernel
theorem dX9_blast_148 : decode cX9_blast 148 = .ok (.invokevirtual 203, 3) := by decide +kernel
theorem dX9_blast_151 : decode cX9_blast 151 = .ok (.ireturn, 1) := by decide +kernel
theorem dX9_pump_0 : decode cX9_pump 0 = .ok (.iload_n 1, 1) := by decide +kernel
theorem dX9_pump_1 : decode cX9_pump 1 = .ok (.iconst 0, 1) := by decide +kernel
theorem dX9_pump_2 : decode cX9_pump 2 = .ok (.sipush 400, 3) := by decide +kernel
theorem dX9_pump_5 : decode cX9_pump 5 = .ok (.invokestatic 38, 3) := by decide +kernel
theorem dX9_pump_8 : decode cX9_pump 8 = .ok (.ifCond .ne 6, 3) := by decide +kernel
theorem dX9_pump_11 : decode cX9_pump 11 = .ok (.ldc 122, 2) := by decide +kernel
theorem dX9_pump_13 : decode cX9_pump 13 = .ok (.ireturn, 1) := by decide +kernel
theorem dX9_pump_14 : decode cX9_pump 14 = .ok (.aload_n 0, 1) := by decide +kernel
theorem dX9_pump_15 : decode cX9_pump 15 = .ok (.getfield 7, 3) := by decide +kernel
theorem dX9_pump_18 : decode cX9_pump 18 = .ok (.bipush 6, 2) := by decide +kernel
theorem dX9_pump_20 : decode cX9_pump 20 = .ok (.iaload, 1) := by decide +kernel
theorem dX9_pump_21 : decode cX9_pump 21 = .ok (.istore_n 2, 1) := by decide +kernel
theorem dX9_pump_22 : decode cX9_pump 22 = .ok (.iload_n 2, 1) := by decide +kernel
theorem dX9_pump_23 : decode cX9_pump 23 = .ok (.iload_n 1, 1) := by decide +kernel
theorem dX9_pump_24 : decode cX9_pump 24 = .ok (.if_icmp .ne 6, 3) := by decide +kernel
theorem dX9_pump_27 : decode cX9_pump 27 = .ok (.ldc 209, 2) := by decide +kernel
theorem dX9_pump_29 : decode cX9_pump 29 = .ok (.ireturn, 1) := by decide +kernel
theorem dX9_pump_30 : decode cX9_pump 30 = .ok (.aload_n 0, 1) := by decide +kernel
theorem dX9_pump_31 : decode cX9_pump 31 = .ok (.invokevirtual 188, 3) := by decide +kernel
theorem dX9_pump_34 : decode cX9_pump 34 = .ok (.aload_n 0, 1) := by decide +kernel
theorem dX9_pump_35 : decode cX9_pump 35 = .ok (.getfield 7, 3) := by decide +kernel
theorem dX9_pump_38 : decode cX9_pump 38 = .ok (.bipush 6, 2) := by decide +kernel
theorem dX9_pump_40 : decode cX9_pump 40 = .ok (.iload_n 1, 1) := by decide +kernel
theorem dX9_pump_41 : decode cX9_pump 41 = .ok (.iastore, 1) := by decide +kernel
theorem dX9_pump_42 : decode cX9_pump 42 = .ok (.aload_n 0, 1) := by decide +kernel
theorem dX9_pump_43 : decode cX9_pump 43 = .ok (.iconst 5, 1) := by decide +kernel
theorem dX9_pump_44 : decode cX9_pump 44 = .ok (.iload_n 1, 1) := by decide +kernel
theorem dX9_pump_45 : decode cX9_pump 45 = .ok (.invokevirtual 213, 3) := by decide +kernel
theorem dX9_pump_48 : decode cX9_pump 48 = .ok (.aload_n 0, 1) := by decide +kernel
theorem dX9_pump_49 : decode cX9_pump 49 = .ok (.iload_n 2, 1) := by decide +kernel
theorem dX9_pump_50 : decode cX9_pump 50 = .ok (.invokevirtual 203, 3) := by decide +kernel
theorem dX9_pump_53 : decode cX9_pump 53 = .ok (.ireturn, 1) := by decide +kernel
theorem dX9_record_0 : decode cX9_record 0 = .ok (.iload_n 1, 1) := by decide +kernel
theorem dX9_record_1 : decode cX9_record 1 = .ok (.ifCond .lt 12, 3) := by decide +kernel
theorem dX9_record_4 : decode cX9_record 4 = .ok (.iload_n 2, 1) := by decide +kernel
theorem dX9_record_5 : decode cX9_record 5 = .ok (.iconst 0, 1) := by decide +kernel
theorem dX9_record_6 : decode cX9_record 6 = .ok (.iconst 2, 1) := by decide +kernel
theorem dX9_record_7 : decode cX9_record 7 = .ok (.invokestatic 38, 3) := by decide +kernel
theorem dX9_record_10 : decode cX9_record 10 = .ok (.ifCond .ne 6, 3) := by decide +kernel
theorem dX9_record_13 : decode cX9_record 13 = .ok (.ldc 122, 2) := by decide +kernel
theorem dX9_record_15 : decode cX9_record 15 = .ok (.ireturn, 1) := by decide +kernel
theorem dX9_record_16 : decode cX9_record 16 = .ok (.iload_n 1, 1) := by decide +kernel
theorem dX9_record_17 : decode cX9_record 17 = .ok (.aload_n 0, 1) := by decide +kernel
theorem dX9_record_18 : decode cX9_record 18 = .ok (.getfield 7, 3) := by decide +kernel
theorem dX9_record_21 : decode cX9_record 21 = .ok (.sipush 166, 3) := by decide +kernel
theorem dX9_record_24 : decode cX9_record 24 = .ok (.iaload, 1) := by decide +kernel
theorem dX9_record_25 : decode cX9_record 25 = .ok (.if_icmp .ge 31, 3) := by decide +kernel
theorem dX9_record_28 : decode cX9_record 28 = .ok (.aload_n 0, 1) := by decide +kernel
theorem dX9_record_29 : decode cX9_record 29 = .ok (.getfield 7, 3) := by decide +kernel
theorem dX9_record_32 : decode cX9_record 32 = .ok (.sipush 167, 3) := by decide +kernel
theorem dX9_record_35 : decode cX9_record 35 = .ok (.iconst 3, 1) := by decide +kernel
theorem dX9_record_36 : decode cX9_record 36 = .ok (.aload_n 0, 1) := by decide +kernel
theorem dX9_record_37 : decode cX9_record 37 = .ok (.getfield 7, 3) := by decide +kernel
theorem dX9_record_40 : decode cX9_record 40 = .ok (.sipush 166, 3) := by decide +kernel
theorem dX9_record_43 : decode cX9_record 43 = .ok (.iaload, 1) := by decide +kernel
theorem dX9_record_44 : decode cX9_record 44 = .ok (.iconst 1, 1) := by decide +kernel
theorem dX9_record_45 : decode cX9_record 45 = .ok (.isub, 1) := by decide +kernel
theorem dX9_record_46 : decode cX9_record 46 = .ok (.iload_n 1, 1) := by decide +kernel
theorem dX9_record_47 : decode cX9_record 47 = .ok (.isub, 1) := by decide +kernel
theorem dX9_record_48 : decode cX9_record 48 = .ok (.imul, 1) := by decide +kernel
theorem dX9_record_49 : decode cX9_record 49 = .ok (.iadd, 1) := by decide +kernel
theorem dX9_record_50 : decode cX9_record 50 = .ok (.iload_n 2, 1) := by decide +kernel
theorem dX9_record_51 : decode cX9_record 51 = .ok (.iadd, 1) := by decide +kernel
theorem dX9_record_52 : decode cX9_record 52 = .ok (.iaload, 1) := by decide +kernel
theorem dX9_record_53 : decode cX9_record 53 = .ok (.goto 5, 3) := by decide +kernel
theorem dX9_record_56 : decode cX9_record 56 = .ok (.ldc 160, 2) := by decide +kernel
theorem dX9_record_58 : decode cX9_record 58 = .ok (.ireturn, 1) := by decide +kernel
theorem dX9_wouldSettle_0 : decode cX9_wouldSettle 0 = .ok (.iload_n 1, 1) := by decide +kernel
theorem dX9_wouldSettle_1 : decode cX9_wouldSettle 1 = .ok (.iconst 1, 1) := by decide +kernel
theorem dX9_wouldSettle_2 : decode cX9_wouldSettle 2 = .ok (.bipush 50, 2) := by decide +kernel
theorem dX9_wouldSettle_4 : decode cX9_wouldSettle 4 = .ok (.invokestatic 38, 3) := by decide +kernel
theorem dX9_wouldSettle_7 : decode cX9_wouldSettle 7 = .ok (.ifCond .eq 12, 3) := by decide +kernel
theorem dX9_wouldSettle_10 : decode cX9_wouldSettle 10 = .ok (.iload_n 2, 1) := by decide +kernel
theorem dX9_wouldSettle_11 : decode cX9_wouldSettle 11 = .ok (.iconst 0, 1) := by decide +kernel
theorem dX9_wouldSettle_12 : decode cX9_wouldSettle 12 = .ok (.iconst 3, 1) := by decide +kernel
theorem dX9_wouldSettle_13 : decode cX9_wouldSettle 13 = .ok (.invokestatic 38, 3) := by decide +kernel
theorem dX9_wouldSettle_16 : decode cX9_wouldSettle 16 = .ok (.ifCond .ne 6, 3) := by decide +kernel
theorem dX9_wouldSettle_19 : decode cX9_wouldSettle 19 = .ok (.ldc 122, 2) := by decide +kernel
theorem dX9_wouldSettle_21 : decode cX9_wouldSettle 21 = .ok (.ireturn, 1) := by decide +kernel
theorem dX9_wouldSettle_22 : decode cX9_wouldSettle 22 = .ok (.aload_n 0, 1) := by decide +kernel
theorem dX9_wouldSettle_23 : decode cX9_wouldSettle 23 = .ok (.invokevirtual 188, 3) := by decide +kernel
theorem dX9_wouldSettle_26 : decode cX9_wouldSettle 26 = .ok (.aload_n 0, 1) := by decide +kernel
theorem dX9_wouldSettle_27 : decode cX9_wouldSettle 27 = .ok (.invokevirtual 113, 3) := by decide +kernel
theorem dX9_wouldSettle_30 : decode cX9_wouldSettle 30 = .ok (.ifCond .ne 7, 3) := by decide +kernel
theorem dX9_wouldSettle_33 : decode cX9_wouldSettle 33 = .ok (.iconst 0, 1) := by decide +kernel
theorem dX9_wouldSettle_34 : decode cX9_wouldSettle 34 = .ok (.goto 8, 3) := by decide +kernel
theorem dX9_wouldSettle_37 : decode cX9_wouldSettle 37 = .ok (.aload_n 0, 1) := by decide +kernel
theorem dX9_wouldSettle_38 : decode cX9_wouldSettle 38 = .ok (.iload_n 1, 1) := by decide +kernel
theorem dX9_wouldSettle_39 : decode cX9_wouldSettle 39 = .ok (.invokevirtual 119, 3) := by decide +kernel
theorem dX9_wouldSettle_42 : decode cX9_wouldSettle 42 = .ok (.istore_n 3, 1) := by decide +kernel
theorem dX9_wouldSettle_43 : decode cX9_wouldSettle 43 = .ok (.iload_n 2, 1) := by decide +kernel
theorem dX9_wouldSettle_44 : decode cX9_wouldSettle 44 = .ok (.ifCond .ne 7, 3) := by decide +kernel
theorem dX9_wouldSettle_47 : decode cX9_wouldSettle 47 = .ok (.iload_n 3, 1) := by decide +kernel
theorem dX9_wouldSettle_48 : decode cX9_wouldSettle 48 = .ok (.goto 37, 3) := by decide +kernel
theorem dX9_wouldSettle_51 : decode cX9_wouldSettle 51 = .ok (.iload_n 2, 1) := by decide +kernel
theorem dX9_wouldSettle_52 : decode cX9_wouldSettle 52 = .ok (.iconst 3, 1) := by decide +kernel
theorem dX9_wouldSettle_53 : decode cX9_wouldSettle 53 = .ok (.if_icmp .ge 19, 3) := by decide +kernel
theorem dX9_wouldSettle_56 : decode cX9_wouldSettle 56 = .ok (.aload_n 0, 1) := by decide +kernel
theorem dX9_wouldSettle_57 : decode cX9_wouldSettle 57 = .ok (.getfield 7, 3) := by decide +kernel
theorem dX9_wouldSettle_60 : decode cX9_wouldSettle 60 = .ok (.iconst 3, 1) := by decide +kernel
theorem dX9_wouldSettle_61 : decode cX9_wouldSettle 61 = .ok (.iload_n 2, 1) := by decide +kernel
theorem dX9_wouldSettle_62 : decode cX9_wouldSettle 62 = .ok (.iadd, 1) := by decide +kernel
theorem dX9_wouldSettle_63 : decode cX9_wouldSettle 63 = .ok (.iconst 1, 1) := by decide +kernel
theorem dX9_wouldSettle_64 : decode cX9_wouldSettle 64 = .ok (.isub, 1) := by decide +kernel
theorem dX9_wouldSettle_65 : decode cX9_wouldSettle 65 = .ok (.iaload, 1) := by decide +kernel
theorem dX9_wouldSettle_66 : decode cX9_wouldSettle 66 = .ok (.bipush 10, 2) := by decide +kernel
theorem dX9_wouldSettle_68 : decode cX9_wouldSettle 68 = .ok (.iadd, 1) := by decide +kernel
theorem dX9_wouldSettle_69 : decode cX9_wouldSettle 69 = .ok (.goto 16, 3) := by decide +kernel
theorem dX9_wouldSettle_72 : decode cX9_wouldSettle 72 = .ok (.aload_n 0, 1) := by decide +kernel
theorem dX9_wouldSettle_73 : decode cX9_wouldSettle 73 = .ok (.invokevirtual 113, 3) := by decide +kernel
theorem dX9_wouldSettle_76 : decode cX9_wouldSettle 76 = .ok (.iconst 2, 1) := by decide +kernel
theorem dX9_wouldSettle_77 : decode cX9_wouldSettle 77 = .ok (.if_icmp .ne 7, 3) := by decide +kernel
theorem dX9_wouldSettle_80 : decode cX9_wouldSettle 80 = .ok (.iconst 1, 1) := by decide +kernel
theorem dX9_wouldSettle_81 : decode cX9_wouldSettle 81 = .ok (.goto 4, 3) := by decide +kernel
theorem dX9_wouldSettle_84 : decode cX9_wouldSettle 84 = .ok (.iconst 0, 1) := by decide +kernel
theorem dX9_wouldSettle_85 : decode cX9_wouldSettle 85 = .ok (.istore 4, 2) := by decide +kernel
theorem dX9_wouldSettle_87 : decode cX9_wouldSettle 87 = .ok (.aload_n 0, 1) := by decide +kernel
theorem dX9_wouldSettle_88 : decode cX9_wouldSettle 88 = .ok (.invokevirtual 200, 3) := by decide +kernel
theorem dX9_wouldSettle_91 : decode cX9_wouldSettle 91 = .ok (.iload 4, 2) := by decide +kernel
theorem dX9_wouldSettle_93 : decode cX9_wouldSettle 93 = .ok (.ireturn, 1) := by decide +kernel
theorem dX9_tilted_0 : decode cX9_tilted 0 = .ok (.aload_n 0, 1) := by decide +kernel
theorem dX9_tilted_1 : decode cX9_tilted 1 = .ok (.getfield 7, 3) := by decide +kernel
theorem dX9_tilted_4 : decode cX9_tilted 4 = .ok (.iconst 3, 1) := by decide +kernel
theorem dX9_tilted_5 : decode cX9_tilted 5 = .ok (.iaload, 1) := by decide +kernel
theorem dX9_tilted_6 : decode cX9_tilted 6 = .ok (.invokestatic 110, 3) := by decide +kernel
theorem dX9_tilted_9 : decode cX9_tilted 9 = .ok (.aload_n 0, 1) := by decide +kernel
theorem dX9_tilted_10 : decode cX9_tilted 10 = .ok (.getfield 7, 3) := by decide +kernel
theorem dX9_tilted_13 : decode cX9_tilted 13 = .ok (.iconst 4, 1) := by decide +kernel
theorem dX9_tilted_14 : decode cX9_tilted 14 = .ok (.iaload, 1) := by decide +kernel
theorem dX9_tilted_15 : decode cX9_tilted 15 = .ok (.invokestatic 110, 3) := by decide +kernel
theorem dX9_tilted_18 : decode cX9_tilted 18 = .ok (.iadd, 1) := by decide +kernel
theorem dX9_tilted_19 : decode cX9_tilted 19 = .ok (.ireturn, 1) := by decide +kernel
theorem dX9_keeps_0 : decode cX9_keeps 0 = .ok (.iconst 0, 1) := by decide +kernel
theorem dX9_keeps_1 : decode cX9_keeps 1 = .ok (.istore_n 1, 1) := by decide +kernel
theorem dX9_keeps_2 : decode cX9_keeps 2 = .ok (.iload_n 1, 1) := by decide +kernel
theorem dX9_keeps_3 : decode cX9_keeps 3 = .ok (.bipush 49, 2) := by decide +kernel
theorem dX9_keeps_5 : decode cX9_keeps 5 = .ok (.if_icmp .ge 24, 3) := by decide +kernel
theorem dX9_keeps_8 : decode cX9_keeps 8 = .ok (.aload_n 0, 1) := by decide +kernel
theorem dX9_keeps_9 : decode cX9_keeps 9 = .ok (.getfield 25, 3) := by decide +kernel
theorem dX9_keeps_12 : decode cX9_keeps 12 = .ok (.iload_n 1, 1) := by decide +kernel
theorem dX9_keeps_13 : decode cX9_keeps 13 = .ok (.aload_n 0, 1) := by decide +kernel
theorem dX9_keeps_14 : decode cX9_keeps 14 = .ok (.getfield 7, 3) := by decide +kernel
theorem dX9_keeps_17 : decode cX9_keeps 17 = .ok (.bipush 117, 2) := by decide +kernel
theorem dX9_keeps_19 : decode cX9_keeps 19 = .ok (.iload_n 1, 1) := by decide +kernel
theorem dX9_keeps_20 : decode cX9_keeps 20 = .ok (.iadd, 1) := by decide +kernel
theorem dX9_keeps_21 : decode cX9_keeps 21 = .ok (.iaload, 1) := by decide +kernel
theorem dX9_keeps_22 : decode cX9_keeps 22 = .ok (.iastore, 1) := by decide +kernel
theorem dX9_keeps_23 : decode cX9_keeps 23 = .ok (.iinc 1 1, 3) := by decide +kernel
theorem dX9_keeps_26 : decode cX9_keeps 26 = .ok (.goto (-24), 3) := by decide +kernel
theorem dX9_keeps_29 : decode cX9_keeps 29 = .ok (.iconst 0, 1) := by decide +kernel
theorem dX9_keeps_30 : decode cX9_keeps 30 = .ok (.istore_n 1, 1) := by decide +kernel
theorem dX9_keeps_31 : decode cX9_keeps 31 = .ok (.iload_n 1, 1) := by decide +kernel
theorem dX9_keeps_32 : decode cX9_keeps 32 = .ok (.iconst 3, 1) := by decide +kernel
theorem dX9_keeps_33 : decode cX9_keeps 33 = .ok (.if_icmp .ge 26, 3) := by decide +kernel
theorem dX9_keeps_36 : decode cX9_keeps 36 = .ok (.aload_n 0, 1) := by decide +kernel
theorem dX9_keeps_37 : decode cX9_keeps 37 = .ok (.getfield 25, 3) := by decide +kernel
theorem dX9_keeps_40 : decode cX9_keeps 40 = .ok (.bipush 49, 2) := by decide +kernel
theorem dX9_keeps_42 : decode cX9_keeps 42 = .ok (.iload_n 1, 1) := by decide +kernel
theorem dX9_keeps_43 : decode cX9_keeps 43 = .ok (.iadd, 1) := by decide +kernel
theorem dX9_keeps_44 : decode cX9_keeps 44 = .ok (.aload_n 0, 1) := by decide +kernel
theorem dX9_keeps_45 : decode cX9_keeps 45 = .ok (.getfield 7, 3) := by decide +kernel
theorem dX9_keeps_48 : decode cX9_keeps 48 = .ok (.iconst 2, 1) := by decide +kernel
theorem dX9_keeps_49 : decode cX9_keeps 49 = .ok (.iload_n 1, 1) := by decide +kernel
theorem dX9_keeps_50 : decode cX9_keeps 50 = .ok (.iadd, 1) := by decide +kernel
theorem dX9_keeps_51 : decode cX9_keeps 51 = .ok (.iaload, 1) := by decide +kernel
theorem dX9_keeps_52 : decode cX9_keeps 52 = .ok (.iastore, 1) := by decide +kernel
theorem dX9_keeps_53 : decode cX9_keeps 53 = .ok (.iinc 1 1, 3) := by decide +kernel
theorem dX9_keeps_56 : decode cX9_keeps 56 = .ok (.goto (-25), 3) := by decide +kernel
theorem dX9_keeps_59 : decode cX9_keeps 59 = .ok (.return_, 1) := by decide +kernel
theorem dX9_returns_0 : decode cX9_returns 0 = .ok (.iconst 0, 1) := by decide +kernel
theorem dX9_returns_1 : decode cX9_returns 1 = .ok (.istore_n 1, 1) := by decide +kernel
theorem dX9_returns_2 : decode cX9_returns 2 = .ok (.iload_n 1, 1) := by decide +kernel
theorem dX9_returns_3 : decode cX9_returns 3 = .ok (.bipush 49, 2) := by decide +kernel
theorem dX9_returns_5 : decode cX9_returns 5 = .ok (.if_icmp .ge 24, 3) := by decide +kernel
theorem dX9_returns_8 : decode cX9_returns 8 = .ok (.aload_n 0, 1) := by decide +kernel
theorem dX9_returns_9 : decode cX9_returns 9 = .ok (.getfield 7, 3) := by decide +kernel
theorem dX9_returns_12 : decode cX9_returns 12 = .ok (.bipush 117, 2) := by decide +kernel
theorem dX9_returns_14 : decode cX9_returns 14 = .ok (.iload_n 1, 1) := by decide +kernel
theorem dX9_returns_15 : decode cX9_returns 15 = .ok (.iadd, 1) := by decide +kernel
theorem dX9_returns_16 : decode cX9_returns 16 = .ok (.aload_n 0, 1) := by decide +kernel
theorem dX9_returns_17 : decode cX9_returns 17 = .ok (.getfield 25, 3) := by decide +kernel
theorem dX9_returns_20 : decode cX9_returns 20 = .ok (.iload_n 1, 1) := by decide +kernel
theorem dX9_returns_21 : decode cX9_returns 21 = .ok (.iaload, 1) := by decide +kernel
theorem dX9_returns_22 : decode cX9_returns 22 = .ok (.iastore, 1) := by decide +kernel
theorem dX9_returns_23 : decode cX9_returns 23 = .ok (.iinc 1 1, 3) := by decide +kernel
theorem dX9_returns_26 : decode cX9_returns 26 = .ok (.goto (-24), 3) := by decide +kernel
theorem dX9_returns_29 : decode cX9_returns 29 = .ok (.iconst 0, 1) := by decide +kernel
theorem dX9_returns_30 : decode cX9_returns 30 = .ok (.istore_n 1, 1) := by decide +kernel
theorem dX9_returns_31 : decode cX9_returns 31 = .ok (.iload_n 1, 1) := by decide +kernel
theorem dX9_returns_32 : decode cX9_returns 32 = .ok (.iconst 3, 1) := by decide +kernel
theorem dX9_returns_33 : decode cX9_returns 33 = .ok (.if_icmp .ge 26, 3) := by decide +kernel
theorem dX9_returns_36 : decode cX9_returns 36 = .ok (.aload_n 0, 1) := by decide +kernel
theorem dX9_returns_37 : decode cX9_returns 37 = .ok (.getfield 7, 3) := by decide +kernel
theorem dX9_returns_40 : decode cX9_returns 40 = .ok (.iconst 2, 1) := by decide +kernel
theorem dX9_returns_41 : decode cX9_returns 41 = .ok (.iload_n 1, 1) := by decide +kernel
theorem dX9_returns_42 : decode cX9_returns 42 = .ok (.iadd, 1) := by decide +kernel
theorem dX9_returns_43 : decode cX9_returns 43 = .ok (.aload_n 0, 1) := by decide +kernel
theorem dX9_returns_44 : decode cX9_returns 44 = .ok (.getfield 25, 3) := by decide +kernel
theorem dX9_returns_47 : decode cX9_returns 47 = .ok (.bipush 49, 2) := by decide +kernel
theorem dX9_returns_49 : decode cX9_returns 49 = .ok (.iload_n 1, 1) := by decide +kernel
theorem dX9_returns_50 : decode cX9_returns 50 = .ok (.iadd, 1) := by decide +kernel
theorem dX9_returns_51 : decode cX9_returns 51 = .ok (.iaload, 1) := by decide +kernel
theorem dX9_returns_52 : decode cX9_returns 52 = .ok (.iastore, 1) := by decide +kernel
theorem dX9_returns_53 : decode cX9_returns 53 = .ok (.iinc 1 1, 3) := by decide +kernel
theorem dX9_returns_56 : decode cX9_returns 56 = .ok (.goto (-25), 3) := by decide +kernel
theorem dX9_returns_59 : decode cX9_returns 59 = .ok (.return_, 1) := by decide +kernel
theorem dX9_best_0 : decode cX9_best 0 = .ok (.ldc 160, 2) := by decide +kernel
theorem dX9_best_2 : decode cX9_best 2 = .ok (.istore_n 2, 1) := by decide +kernel
theorem dX9_best_3 : decode cX9_best 3 = .ok (.iconst 0, 1) := by decide +kernel
theorem dX9_best_4 : decode cX9_best 4 = .ok (.istore_n 3, 1) := by decide +kernel
theorem dX9_best_5 : decode cX9_best 5 = .ok (.iconst 0, 1) := by decide +kernel
theorem dX9_best_6 : decode cX9_best 6 = .ok (.istore 4, 2) := by decide +kernel
theorem dX9_best_8 : decode cX9_best 8 = .ok (.aload_n 0, 1) := by decide +kernel
theorem dX9_best_9 : decode cX9_best 9 = .ok (.invokevirtual 220, 3) := by decide +kernel
theorem dX9_best_12 : decode cX9_best 12 = .ok (.iconst 0, 1) := by decide +kernel
theorem dX9_best_13 : decode cX9_best 13 = .ok (.istore 5, 2) := by decide +kernel
theorem dX9_best_15 : decode cX9_best 15 = .ok (.iload 5, 2) := by decide +kernel
theorem dX9_best_17 : decode cX9_best 17 = .ok (.aload_n 0, 1) := by decide +kernel
theorem dX9_best_18 : decode cX9_best 18 = .ok (.invokevirtual 95, 3) := by decide +kernel
theorem dX9_best_21 : decode cX9_best 21 = .ok (.if_icmp .ge 106, 3) := by decide +kernel
theorem dX9_best_24 : decode cX9_best 24 = .ok (.aload_n 0, 1) := by decide +kernel
theorem dX9_best_25 : decode cX9_best 25 = .ok (.iload 5, 2) := by decide +kernel
theorem dX9_best_27 : decode cX9_best 27 = .ok (.invokevirtual 116, 3) := by decide +kernel
theorem dX9_best_30 : decode cX9_best 30 = .ok (.ifCond .eq 13, 3) := by decide +kernel
theorem dX9_best_33 : decode cX9_best 33 = .ok (.aload_n 0, 1) := by decide +kernel
theorem dX9_best_34 : decode cX9_best 34 = .ok (.iload 5, 2) := by decide +kernel
theorem dX9_best_36 : decode cX9_best 36 = .ok (.iload_n 1, 1) := by decide +kernel
theorem dX9_best_37 : decode cX9_best 37 = .ok (.invokevirtual 210, 3) := by decide +kernel
theorem dX9_best_40 : decode cX9_best 40 = .ok (.goto 4, 3) := by decide +kernel
theorem dX9_best_43 : decode cX9_best 43 = .ok (.iconst 0, 1) := by decide +kernel
theorem dX9_best_44 : decode cX9_best 44 = .ok (.istore 6, 2) := by decide +kernel
theorem dX9_best_46 : decode cX9_best 46 = .ok (.iload 6, 2) := by decide +kernel
theorem dX9_best_48 : decode cX9_best 48 = .ok (.ifCond .le 73, 3) := by decide +kernel
theorem dX9_best_51 : decode cX9_best 51 = .ok (.aload_n 0, 1) := by decide +kernel
theorem dX9_best_52 : decode cX9_best 52 = .ok (.getfield 7, 3) := by decide +kernel
theorem dX9_best_55 : decode cX9_best 55 = .ok (.bipush 117, 2) := by decide +kernel
theorem dX9_best_57 : decode cX9_best 57 = .ok (.iload 5, 2) := by decide +kernel
theorem dX9_best_59 : decode cX9_best 59 = .ok (.iadd, 1) := by decide +kernel
theorem dX9_best_60 : decode cX9_best 60 = .ok (.dup2, 1) := by decide +kernel
theorem dX9_best_61 : decode cX9_best 61 = .ok (.iaload, 1) := by decide +kernel
theorem dX9_best_62 : decode cX9_best 62 = .ok (.iload 6, 2) := by decide +kernel
theorem dX9_best_64 : decode cX9_best 64 = .ok (.iadd, 1) := by decide +kernel
theorem dX9_best_65 : decode cX9_best 65 = .ok (.iastore, 1) := by decide +kernel
theorem dX9_best_66 : decode cX9_best 66 = .ok (.aload_n 0, 1) := by decide +kernel
theorem dX9_best_67 : decode cX9_best 67 = .ok (.invokevirtual 223, 3) := by decide +kernel
theorem dX9_best_70 : decode cX9_best 70 = .ok (.iload_n 2, 1) := by decide +kernel
theorem dX9_best_71 : decode cX9_best 71 = .ok (.ifCond .lt 30, 3) := by decide +kernel
theorem dX9_best_74 : decode cX9_best 74 = .ok (.aload_n 0, 1) := by decide +kernel
theorem dX9_best_75 : decode cX9_best 75 = .ok (.invokevirtual 226, 3) := by decide +kernel
theorem dX9_best_78 : decode cX9_best 78 = .ok (.iload_n 3, 1) := by decide +kernel
theorem dX9_best_79 : decode cX9_best 79 = .ok (.if_icmp .lt 22, 3) := by decide +kernel
theorem dX9_best_82 : decode cX9_best 82 = .ok (.aload_n 0, 1) := by decide +kernel
theorem dX9_best_83 : decode cX9_best 83 = .ok (.invokevirtual 226, 3) := by decide +kernel
theorem dX9_best_86 : decode cX9_best 86 = .ok (.iload_n 3, 1) := by decide +kernel
theorem dX9_best_87 : decode cX9_best 87 = .ok (.if_icmp .ne 30, 3) := by decide +kernel
theorem dX9_best_90 : decode cX9_best 90 = .ok (.aload_n 0, 1) := by decide +kernel
theorem dX9_best_91 : decode cX9_best 91 = .ok (.getfield 7, 3) := by decide +kernel
theorem dX9_best_94 : decode cX9_best 94 = .ok (.iconst 2, 1) := by decide +kernel
theorem dX9_best_95 : decode cX9_best 95 = .ok (.iaload, 1) := by decide +kernel
theorem dX9_best_96 : decode cX9_best 96 = .ok (.iload 4, 2) := by decide +kernel
theorem dX9_best_98 : decode cX9_best 98 = .ok (.if_icmp .le 19, 3) := by decide +kernel
theorem dX9_best_101 : decode cX9_best 101 = .ok (.iload 5, 2) := by decide +kernel
theorem dX9_best_103 : decode cX9_best 103 = .ok (.istore_n 2, 1) := by decide +kernel
theorem dX9_best_104 : decode cX9_best 104 = .ok (.aload_n 0, 1) := by decide +kernel
theorem dX9_best_105 : decode cX9_best 105 = .ok (.invokevirtual 226, 3) := by decide +kernel
theorem dX9_best_108 : decode cX9_best 108 = .ok (.istore_n 3, 1) := by decide +kernel
theorem dX9_best_109 : decode cX9_best 109 = .ok (.aload_n 0, 1) := by decide +kernel
theorem dX9_best_110 : decode cX9_best 110 = .ok (.getfield 7, 3) := by decide +kernel
theorem dX9_best_113 : decode cX9_best 113 = .ok (.iconst 2, 1) := by decide +kernel
theorem dX9_best_114 : decode cX9_best 114 = .ok (.iaload, 1) := by decide +kernel
theorem dX9_best_115 : decode cX9_best 115 = .ok (.istore 4, 2) := by decide +kernel
theorem dX9_best_117 : decode cX9_best 117 = .ok (.aload_n 0, 1) := by decide +kernel
theorem dX9_best_118 : decode cX9_best 118 = .ok (.invokevirtual 229, 3) := by decide +kernel
theorem dX9_best_121 : decode cX9_best 121 = .ok (.iinc 5 1, 3) := by decide +kernel
theorem dX9_best_124 : decode cX9_best 124 = .ok (.goto (-109), 3) := by decide +kernel
theorem dX9_best_127 : decode cX9_best 127 = .ok (.iload_n 2, 1) := by decide +kernel
theorem dX9_best_128 : decode cX9_best 128 = .ok (.ireturn, 1) := by decide +kernel
theorem dX9_bestWell_0 : decode cX9_bestWell 0 = .ok (.iload_n 1, 1) := by decide +kernel
theorem dX9_bestWell_1 : decode cX9_bestWell 1 = .ok (.iconst 1, 1) := by decide +kernel
theorem dX9_bestWell_2 : decode cX9_bestWell 2 = .ok (.bipush 10, 2) := by decide +kernel
theorem dX9_bestWell_4 : decode cX9_bestWell 4 = .ok (.invokestatic 38, 3) := by decide +kernel
theorem dX9_bestWell_7 : decode cX9_bestWell 7 = .ok (.ifCond .eq 11, 3) := by decide +kernel
theorem dX9_bestWell_10 : decode cX9_bestWell 10 = .ok (.aload_n 0, 1) := by decide +kernel
theorem dX9_bestWell_11 : decode cX9_bestWell 11 = .ok (.iload_n 1, 1) := by decide +kernel
theorem dX9_bestWell_12 : decode cX9_bestWell 12 = .ok (.invokevirtual 232, 3) := by decide +kernel
theorem dX9_bestWell_15 : decode cX9_bestWell 15 = .ok (.goto 5, 3) := by decide +kernel
theorem dX9_bestWell_18 : decode cX9_bestWell 18 = .ok (.ldc 122, 2) := by decide +kernel
theorem dX9_bestWell_20 : decode cX9_bestWell 20 = .ok (.ireturn, 1) := by decide +kernel
theorem dX9_makePlan_0 : decode cX9_makePlan 0 = .ok (.iload_n 1, 1) := by decide +kernel
theorem dX9_makePlan_1 : decode cX9_makePlan 1 = .ok (.iconst 1, 1) := by decide +kernel
theorem dX9_makePlan_2 : decode cX9_makePlan 2 = .ok (.sipush 200, 3) := by decide +kernel
theorem dX9_makePlan_5 : decode cX9_makePlan 5 = .ok (.invokestatic 38, 3) := by decide +kernel
theorem dX9_makePlan_8 : decode cX9_makePlan 8 = .ok (.ifCond .eq 13, 3) := by decide +kernel
theorem dX9_makePlan_11 : decode cX9_makePlan 11 = .ok (.iload_n 2, 1) := by decide +kernel
theorem dX9_makePlan_12 : decode cX9_makePlan 12 = .ok (.iconst 1, 1) := by decide +kernel
theorem dX9_makePlan_13 : decode cX9_makePlan 13 = .ok (.bipush 10, 2) := by decide +kernel
theorem dX9_makePlan_15 : decode cX9_makePlan 15 = .ok (.invokestatic 38, 3) := by decide +kernel
theorem dX9_makePlan_18 : decode cX9_makePlan 18 = .ok (.ifCond .ne 6, 3) := by decide +kernel
theorem dX9_makePlan_21 : decode cX9_makePlan 21 = .ok (.ldc 122, 2) := by decide +kernel
theorem dX9_makePlan_23 : decode cX9_makePlan 23 = .ok (.ireturn, 1) := by decide +kernel
theorem dX9_makePlan_24 : decode cX9_makePlan 24 = .ok (.aload_n 0, 1) := by decide +kernel
theorem dX9_makePlan_25 : decode cX9_makePlan 25 = .ok (.getfield 7, 3) := by decide +kernel
theorem dX9_makePlan_28 : decode cX9_makePlan 28 = .ok (.iconst 2, 1) := by decide +kernel
theorem dX9_makePlan_29 : decode cX9_makePlan 29 = .ok (.iaload, 1) := by decide +kernel
theorem dX9_makePlan_30 : decode cX9_makePlan 30 = .ok (.iload_n 1, 1) := by decide +kernel
theorem dX9_makePlan_31 : decode cX9_makePlan 31 = .ok (.if_icmp .lt 6, 3) := by decide +kernel
theorem dX9_makePlan_34 : decode cX9_makePlan 34 = .ok (.ldc 209, 2) := by decide +kernel
theorem dX9_makePlan_36 : decode cX9_makePlan 36 = .ok (.ireturn, 1) := by decide +kernel
theorem dX9_makePlan_37 : decode cX9_makePlan 37 = .ok (.aload_n 0, 1) := by decide +kernel
theorem dX9_makePlan_38 : decode cX9_makePlan 38 = .ok (.invokevirtual 188, 3) := by decide +kernel
theorem dX9_makePlan_41 : decode cX9_makePlan 41 = .ok (.aload_n 0, 1) := by decide +kernel
theorem dX9_makePlan_42 : decode cX9_makePlan 42 = .ok (.iconst 0, 1) := by decide +kernel
theorem dX9_makePlan_43 : decode cX9_makePlan 43 = .ok (.putfield 235, 3) := by decide +kernel
theorem dX9_makePlan_46 : decode cX9_makePlan 46 = .ok (.aload_n 0, 1) := by decide +kernel
theorem dX9_makePlan_47 : decode cX9_makePlan 47 = .ok (.iload_n 2, 1) := by decide +kernel
theorem dX9_makePlan_48 : decode cX9_makePlan 48 = .ok (.putfield 238, 3) := by decide +kernel
theorem dX9_makePlan_51 : decode cX9_makePlan 51 = .ok (.aload_n 0, 1) := by decide +kernel
theorem dX9_makePlan_52 : decode cX9_makePlan 52 = .ok (.iload_n 2, 1) := by decide +kernel
theorem dX9_makePlan_53 : decode cX9_makePlan 53 = .ok (.invokevirtual 232, 3) := by decide +kernel
theorem dX9_makePlan_56 : decode cX9_makePlan 56 = .ok (.istore_n 3, 1) := by decide +kernel
theorem dX9_makePlan_57 : decode cX9_makePlan 57 = .ok (.iload_n 3, 1) := by decide +kernel
theorem dX9_makePlan_58 : decode cX9_makePlan 58 = .ok (.ifCond .lt 116, 3) := by decide +kernel
theorem dX9_makePlan_61 : decode cX9_makePlan 61 = .ok (.aload_n 0, 1) := by decide +kernel
theorem dX9_makePlan_62 : decode cX9_makePlan 62 = .ok (.getfield 7, 3) := by decide +kernel
theorem dX9_makePlan_65 : decode cX9_makePlan 65 = .ok (.bipush 117, 2) := by decide +kernel
theorem dX9_makePlan_67 : decode cX9_makePlan 67 = .ok (.iload_n 3, 1) := by decide +kernel
theorem dX9_makePlan_68 : decode cX9_makePlan 68 = .ok (.iadd, 1) := by decide +kernel
theorem dX9_makePlan_69 : decode cX9_makePlan 69 = .ok (.dup2, 1) := by decide +kernel
theorem dX9_makePlan_70 : decode cX9_makePlan 70 = .ok (.iaload, 1) := by decide +kernel
theorem dX9_makePlan_71 : decode cX9_makePlan 71 = .ok (.aload_n 0, 1) := by decide +kernel
theorem dX9_makePlan_72 : decode cX9_makePlan 72 = .ok (.iload_n 3, 1) := by decide +kernel
theorem dX9_makePlan_73 : decode cX9_makePlan 73 = .ok (.iload_n 2, 1) := by decide +kernel
theorem dX9_makePlan_74 : decode cX9_makePlan 74 = .ok (.invokevirtual 210, 3) := by decide +kernel
theorem dX9_makePlan_77 : decode cX9_makePlan 77 = .ok (.iadd, 1) := by decide +kernel
theorem dX9_makePlan_78 : decode cX9_makePlan 78 = .ok (.iastore, 1) := by decide +kernel
theorem dX9_makePlan_79 : decode cX9_makePlan 79 = .ok (.aload_n 0, 1) := by decide +kernel
theorem dX9_makePlan_80 : decode cX9_makePlan 80 = .ok (.invokevirtual 223, 3) := by decide +kernel
theorem dX9_makePlan_83 : decode cX9_makePlan 83 = .ok (.aload_n 0, 1) := by decide +kernel
theorem dX9_makePlan_84 : decode cX9_makePlan 84 = .ok (.getfield 28, 3) := by decide +kernel
theorem dX9_makePlan_87 : decode cX9_makePlan 87 = .ok (.iconst 3, 1) := by decide +kernel
theorem dX9_makePlan_88 : decode cX9_makePlan 88 = .ok (.aload_n 0, 1) := by decide +kernel
theorem dX9_makePlan_89 : decode cX9_makePlan 89 = .ok (.getfield 235, 3) := by decide +kernel
theorem dX9_makePlan_92 : decode cX9_makePlan 92 = .ok (.imul, 1) := by decide +kernel
theorem dX9_makePlan_93 : decode cX9_makePlan 93 = .ok (.iload_n 3, 1) := by decide +kernel
theorem dX9_makePlan_94 : decode cX9_makePlan 94 = .ok (.iastore, 1) := by decide +kernel
theorem dX9_makePlan_95 : decode cX9_makePlan 95 = .ok (.aload_n 0, 1) := by decide +kernel
theorem dX9_makePlan_96 : decode cX9_makePlan 96 = .ok (.getfield 28, 3) := by decide +kernel
theorem dX9_makePlan_99 : decode cX9_makePlan 99 = .ok (.iconst 3, 1) := by decide +kernel
theorem dX9_makePlan_100 : decode cX9_makePlan 100 = .ok (.aload_n 0, 1) := by decide +kernel
theorem dX9_makePlan_101 : decode cX9_makePlan 101 = .ok (.getfield 235, 3) := by decide +kernel
theorem dX9_makePlan_104 : decode cX9_makePlan 104 = .ok (.imul, 1) := by decide +kernel
theorem dX9_makePlan_105 : decode cX9_makePlan 105 = .ok (.iconst 1, 1) := by decide +kernel
theorem dX9_makePlan_106 : decode cX9_makePlan 106 = .ok (.iadd, 1) := by decide +kernel
theorem dX9_makePlan_107 : decode cX9_makePlan 107 = .ok (.aload_n 0, 1) := by decide +kernel
theorem dX9_makePlan_108 : decode cX9_makePlan 108 = .ok (.getfield 7, 3) := by decide +kernel
theorem dX9_makePlan_111 : decode cX9_makePlan 111 = .ok (.iconst 2, 1) := by decide +kernel
theorem dX9_makePlan_112 : decode cX9_makePlan 112 = .ok (.iaload, 1) := by decide +kernel
theorem dX9_makePlan_113 : decode cX9_makePlan 113 = .ok (.iastore, 1) := by decide +kernel
theorem dX9_makePlan_114 : decode cX9_makePlan 114 = .ok (.aload_n 0, 1) := by decide +kernel
theorem dX9_makePlan_115 : decode cX9_makePlan 115 = .ok (.getfield 28, 3) := by decide +kernel
theorem dX9_makePlan_118 : decode cX9_makePlan 118 = .ok (.iconst 3, 1) := by decide +kernel
theorem dX9_makePlan_119 : decode cX9_makePlan 119 = .ok (.aload_n 0, 1) := by decide +kernel
theorem dX9_makePlan_120 : decode cX9_makePlan 120 = .ok (.getfield 235, 3) := by decide +kernel
theorem dX9_makePlan_123 : decode cX9_makePlan 123 = .ok (.imul, 1) := by decide +kernel
theorem dX9_makePlan_124 : decode cX9_makePlan 124 = .ok (.iconst 2, 1) := by decide +kernel
theorem dX9_makePlan_125 : decode cX9_makePlan 125 = .ok (.iadd, 1) := by decide +kernel
theorem dX9_makePlan_126 : decode cX9_makePlan 126 = .ok (.aload_n 0, 1) := by decide +kernel
theorem dX9_makePlan_127 : decode cX9_makePlan 127 = .ok (.invokevirtual 226, 3) := by decide +kernel
theorem dX9_makePlan_130 : decode cX9_makePlan 130 = .ok (.iastore, 1) := by decide +kernel
theorem dX9_makePlan_131 : decode cX9_makePlan 131 = .ok (.aload_n 0, 1) := by decide +kernel
theorem dX9_makePlan_132 : decode cX9_makePlan 132 = .ok (.dup, 1) := by decide +kernel
theorem dX9_makePlan_133 : decode cX9_makePlan 133 = .ok (.getfield 235, 3) := by decide +kernel
theorem dX9_makePlan_136 : decode cX9_makePlan 136 = .ok (.iconst 1, 1) := by decide +kernel
theorem dX9_makePlan_137 : decode cX9_makePlan 137 = .ok (.iadd, 1) := by decide +kernel
theorem dX9_makePlan_138 : decode cX9_makePlan 138 = .ok (.putfield 235, 3) := by decide +kernel
theorem dX9_makePlan_141 : decode cX9_makePlan 141 = .ok (.aload_n 0, 1) := by decide +kernel
theorem dX9_makePlan_142 : decode cX9_makePlan 142 = .ok (.getfield 7, 3) := by decide +kernel
theorem dX9_makePlan_145 : decode cX9_makePlan 145 = .ok (.iconst 2, 1) := by decide +kernel
theorem dX9_makePlan_146 : decode cX9_makePlan 146 = .ok (.iaload, 1) := by decide +kernel
theorem dX9_makePlan_147 : decode cX9_makePlan 147 = .ok (.iload_n 1, 1) := by decide +kernel
theorem dX9_makePlan_148 : decode cX9_makePlan 148 = .ok (.if_icmp .ge 12, 3) := by decide +kernel
theorem dX9_makePlan_151 : decode cX9_makePlan 151 = .ok (.aload_n 0, 1) := by decide +kernel
theorem dX9_makePlan_152 : decode cX9_makePlan 152 = .ok (.getfield 235, 3) := by decide +kernel
theorem dX9_makePlan_155 : decode cX9_makePlan 155 = .ok (.bipush 12, 2) := by decide +kernel
theorem dX9_makePlan_157 : decode cX9_makePlan 157 = .ok (.if_icmp .ne 8, 3) := by decide +kernel
theorem dX9_makePlan_160 : decode cX9_makePlan 160 = .ok (.ldc 160, 2) := by decide +kernel
theorem dX9_makePlan_162 : decode cX9_makePlan 162 = .ok (.goto 8, 3) := by decide +kernel
theorem dX9_makePlan_165 : decode cX9_makePlan 165 = .ok (.aload_n 0, 1) := by decide +kernel
theorem dX9_makePlan_166 : decode cX9_makePlan 166 = .ok (.iload_n 2, 1) := by decide +kernel
theorem dX9_makePlan_167 : decode cX9_makePlan 167 = .ok (.invokevirtual 232, 3) := by decide +kernel
theorem dX9_makePlan_170 : decode cX9_makePlan 170 = .ok (.istore_n 3, 1) := by decide +kernel
theorem dX9_makePlan_171 : decode cX9_makePlan 171 = .ok (.goto (-114), 3) := by decide +kernel
theorem dX9_makePlan_174 : decode cX9_makePlan 174 = .ok (.aload_n 0, 1) := by decide +kernel
theorem dX9_makePlan_175 : decode cX9_makePlan 175 = .ok (.invokevirtual 200, 3) := by decide +kernel
theorem dX9_makePlan_178 : decode cX9_makePlan 178 = .ok (.aload_n 0, 1) := by decide +kernel
theorem dX9_makePlan_179 : decode cX9_makePlan 179 = .ok (.getfield 235, 3) := by decide +kernel
theorem dX9_makePlan_182 : decode cX9_makePlan 182 = .ok (.ireturn, 1) := by decide +kernel
theorem dX9_plan_0 : decode cX9_plan 0 = .ok (.iload_n 1, 1) := by decide +kernel
theorem dX9_plan_1 : decode cX9_plan 1 = .ok (.ifCond .lt 12, 3) := by decide +kernel
theorem dX9_plan_4 : decode cX9_plan 4 = .ok (.iload_n 2, 1) := by decide +kernel
theorem dX9_plan_5 : decode cX9_plan 5 = .ok (.iconst 0, 1) := by decide +kernel
theorem dX9_plan_6 : decode cX9_plan 6 = .ok (.iconst 2, 1) := by decide +kernel
theorem dX9_plan_7 : decode cX9_plan 7 = .ok (.invokestatic 38, 3) := by decide +kernel
theorem dX9_plan_10 : decode cX9_plan 10 = .ok (.ifCond .ne 6, 3) := by decide +kernel
theorem dX9_plan_13 : decode cX9_plan 13 = .ok (.ldc 122, 2) := by decide +kernel
theorem dX9_plan_15 : decode cX9_plan 15 = .ok (.ireturn, 1) := by decide +kernel
theorem dX9_plan_16 : decode cX9_plan 16 = .ok (.iload_n 1, 1) := by decide +kernel
theorem dX9_plan_17 : decode cX9_plan 17 = .ok (.aload_n 0, 1) := by decide +kernel
theorem dX9_plan_18 : decode cX9_plan 18 = .ok (.getfield 235, 3) := by decide +kernel
theorem dX9_plan_21 : decode cX9_plan 21 = .ok (.if_icmp .ge 16, 3) := by decide +kernel
theorem dX9_plan_24 : decode cX9_plan 24 = .ok (.aload_n 0, 1) := by decide +kernel
theorem dX9_plan_25 : decode cX9_plan 25 = .ok (.getfield 28, 3) := by decide +kernel
theorem dX9_plan_28 : decode cX9_plan 28 = .ok (.iconst 3, 1) := by decide +kernel
theorem dX9_plan_29 : decode cX9_plan 29 = .ok (.iload_n 1, 1) := by decide +kernel
theorem dX9_plan_30 : decode cX9_plan 30 = .ok (.imul, 1) := by decide +kernel
theorem dX9_plan_31 : decode cX9_plan 31 = .ok (.iload_n 2, 1) := by decide +kernel
theorem dX9_plan_32 : decode cX9_plan 32 = .ok (.iadd, 1) := by decide +kernel
theorem dX9_plan_33 : decode cX9_plan 33 = .ok (.iaload, 1) := by decide +kernel
theorem dX9_plan_34 : decode cX9_plan 34 = .ok (.goto 5, 3) := by decide +kernel
theorem dX9_plan_37 : decode cX9_plan 37 = .ok (.ldc 160, 2) := by decide +kernel
theorem dX9_plan_39 : decode cX9_plan 39 = .ok (.ireturn, 1) := by decide +kernel
theorem dX9_carryOut_0 : decode cX9_carryOut 0 = .ok (.iload_n 1, 1) := by decide +kernel
theorem dX9_carryOut_1 : decode cX9_carryOut 1 = .ok (.iconst 1, 1) := by decide +kernel
theorem dX9_carryOut_2 : decode cX9_carryOut 2 = .ok (.aload_n 0, 1) := by decide +kernel
theorem dX9_carryOut_3 : decode cX9_carryOut 3 = .ok (.getfield 235, 3) := by decide +kernel
theorem dX9_carryOut_6 : decode cX9_carryOut 6 = .ok (.invokestatic 38, 3) := by decide +kernel
theorem dX9_carryOut_9 : decode cX9_carryOut 9 = .ok (.ifCond .ne 6, 3) := by decide +kernel
theorem dX9_carryOut_12 : decode cX9_carryOut 12 = .ok (.ldc 122, 2) := by decide +kernel
theorem dX9_carryOut_14 : decode cX9_carryOut 14 = .ok (.ireturn, 1) := by decide +kernel
theorem dX9_carryOut_15 : decode cX9_carryOut 15 = .ok (.aload_n 0, 1) := by decide +kernel
theorem dX9_carryOut_16 : decode cX9_carryOut 16 = .ok (.invokevirtual 188, 3) := by decide +kernel
theorem dX9_carryOut_19 : decode cX9_carryOut 19 = .ok (.iconst 0, 1) := by decide +kernel
theorem dX9_carryOut_20 : decode cX9_carryOut 20 = .ok (.istore_n 2, 1) := by decide +kernel
theorem dX9_carryOut_21 : decode cX9_carryOut 21 = .ok (.iload_n 2, 1) := by decide +kernel
theorem dX9_carryOut_22 : decode cX9_carryOut 22 = .ok (.iload_n 1, 1) := by decide +kernel
theorem dX9_carryOut_23 : decode cX9_carryOut 23 = .ok (.if_icmp .ge 55, 3) := by decide +kernel
theorem dX9_carryOut_26 : decode cX9_carryOut 26 = .ok (.aload_n 0, 1) := by decide +kernel
theorem dX9_carryOut_27 : decode cX9_carryOut 27 = .ok (.getfield 28, 3) := by decide +kernel
theorem dX9_carryOut_30 : decode cX9_carryOut 30 = .ok (.iconst 3, 1) := by decide +kernel
theorem dX9_carryOut_31 : decode cX9_carryOut 31 = .ok (.iload_n 2, 1) := by decide +kernel
theorem dX9_carryOut_32 : decode cX9_carryOut 32 = .ok (.imul, 1) := by decide +kernel
theorem dX9_carryOut_33 : decode cX9_carryOut 33 = .ok (.iaload, 1) := by decide +kernel
theorem dX9_carryOut_34 : decode cX9_carryOut 34 = .ok (.istore_n 3, 1) := by decide +kernel
theorem dX9_carryOut_35 : decode cX9_carryOut 35 = .ok (.aload_n 0, 1) := by decide +kernel
theorem dX9_carryOut_36 : decode cX9_carryOut 36 = .ok (.getfield 7, 3) := by decide +kernel
theorem dX9_carryOut_39 : decode cX9_carryOut 39 = .ok (.bipush 117, 2) := by decide +kernel
theorem dX9_carryOut_41 : decode cX9_carryOut 41 = .ok (.iload_n 3, 1) := by decide +kernel
theorem dX9_carryOut_42 : decode cX9_carryOut 42 = .ok (.iadd, 1) := by decide +kernel
theorem dX9_carryOut_43 : decode cX9_carryOut 43 = .ok (.dup2, 1) := by decide +kernel
theorem dX9_carryOut_44 : decode cX9_carryOut 44 = .ok (.iaload, 1) := by decide +kernel
theorem dX9_carryOut_45 : decode cX9_carryOut 45 = .ok (.aload_n 0, 1) := by decide +kernel
theorem dX9_carryOut_46 : decode cX9_carryOut 46 = .ok (.iload_n 3, 1) := by decide +kernel
theorem dX9_carryOut_47 : decode cX9_carryOut 47 = .ok (.invokevirtual 116, 3) := by decide +kernel
theorem dX9_carryOut_50 : decode cX9_carryOut 50 = .ok (.ifCond .eq 15, 3) := by decide +kernel
theorem dX9_carryOut_53 : decode cX9_carryOut 53 = .ok (.aload_n 0, 1) := by decide +kernel
theorem dX9_carryOut_54 : decode cX9_carryOut 54 = .ok (.iload_n 3, 1) := by decide +kernel
theorem dX9_carryOut_55 : decode cX9_carryOut 55 = .ok (.aload_n 0, 1) := by decide +kernel
theorem dX9_carryOut_56 : decode cX9_carryOut 56 = .ok (.getfield 238, 3) := by decide +kernel
theorem dX9_carryOut_59 : decode cX9_carryOut 59 = .ok (.invokevirtual 210, 3) := by decide +kernel
theorem dX9_carryOut_62 : decode cX9_carryOut 62 = .ok (.goto 4, 3) := by decide +kernel
theorem dX9_carryOut_65 : decode cX9_carryOut 65 = .ok (.iconst 0, 1) := by decide +kernel
theorem dX9_carryOut_66 : decode cX9_carryOut 66 = .ok (.iadd, 1) := by decide +kernel
theorem dX9_carryOut_67 : decode cX9_carryOut 67 = .ok (.iastore, 1) := by decide +kernel
theorem dX9_carryOut_68 : decode cX9_carryOut 68 = .ok (.aload_n 0, 1) := by decide +kernel
theorem dX9_carryOut_69 : decode cX9_carryOut 69 = .ok (.invokevirtual 223, 3) := by decide +kernel
theorem dX9_carryOut_72 : decode cX9_carryOut 72 = .ok (.iinc 2 1, 3) := by decide +kernel
theorem dX9_carryOut_75 : decode cX9_carryOut 75 = .ok (.goto (-54), 3) := by decide +kernel
theorem dX9_carryOut_78 : decode cX9_carryOut 78 = .ok (.aload_n 0, 1) := by decide +kernel
theorem dX9_carryOut_79 : decode cX9_carryOut 79 = .ok (.aload_n 0, 1) := by decide +kernel
theorem dX9_carryOut_80 : decode cX9_carryOut 80 = .ok (.getfield 7, 3) := by decide +kernel
theorem dX9_carryOut_83 : decode cX9_carryOut 83 = .ok (.iconst 2, 1) := by decide +kernel
theorem dX9_carryOut_84 : decode cX9_carryOut 84 = .ok (.iaload, 1) := by decide +kernel
theorem dX9_carryOut_85 : decode cX9_carryOut 85 = .ok (.invokevirtual 203, 3) := by decide +kernel
theorem dX9_carryOut_88 : decode cX9_carryOut 88 = .ok (.ireturn, 1) := by decide +kernel
theorem dX9_highSide_0 : decode cX9_highSide 0 = .ok (.aload_n 0, 1) := by decide +kernel
theorem dX9_highSide_1 : decode cX9_highSide 1 = .ok (.getfield 7, 3) := by decide +kernel
theorem dX9_highSide_4 : decode cX9_highSide 4 = .ok (.iconst 3, 1) := by decide +kernel
theorem dX9_highSide_5 : decode cX9_highSide 5 = .ok (.iaload, 1) := by decide +kernel
theorem dX9_highSide_6 : decode cX9_highSide 6 = .ok (.ifCond .ne 15, 3) := by decide +kernel
theorem dX9_highSide_9 : decode cX9_highSide 9 = .ok (.aload_n 0, 1) := by decide +kernel
theorem dX9_highSide_10 : decode cX9_highSide 10 = .ok (.getfield 7, 3) := by decide +kernel
theorem dX9_highSide_13 : decode cX9_highSide 13 = .ok (.iconst 4, 1) := by decide +kernel
theorem dX9_highSide_14 : decode cX9_highSide 14 = .ok (.iaload, 1) := by decide +kernel
theorem dX9_highSide_15 : decode cX9_highSide 15 = .ok (.ifCond .ne 6, 3) := by decide +kernel
theorem dX9_highSide_18 : decode cX9_highSide 18 = .ok (.ldc 160, 2) := by decide +kernel
theorem dX9_highSide_20 : decode cX9_highSide 20 = .ok (.ireturn, 1) := by decide +kernel
theorem dX9_highSide_21 : decode cX9_highSide 21 = .ok (.ldc 160, 2) := by decide +kernel
theorem dX9_highSide_23 : decode cX9_highSide 23 = .ok (.istore_n 1, 1) := by decide +kernel
theorem dX9_highSide_24 : decode cX9_highSide 24 = .ok (.iconst 0, 1) := by decide +kernel
theorem dX9_highSide_25 : decode cX9_highSide 25 = .ok (.istore_n 2, 1) := by decide +kernel
theorem dX9_highSide_26 : decode cX9_highSide 26 = .ok (.iconst 1, 1) := by decide +kernel
theorem dX9_highSide_27 : decode cX9_highSide 27 = .ok (.istore_n 3, 1) := by decide +kernel
theorem dX9_highSide_28 : decode cX9_highSide 28 = .ok (.iconst 0, 1) := by decide +kernel
theorem dX9_highSide_29 : decode cX9_highSide 29 = .ok (.istore 4, 2) := by decide +kernel
theorem dX9_highSide_31 : decode cX9_highSide 31 = .ok (.iload 4, 2) := by decide +kernel
theorem dX9_highSide_33 : decode cX9_highSide 33 = .ok (.iconst 4, 1) := by decide +kernel
theorem dX9_highSide_34 : decode cX9_highSide 34 = .ok (.if_icmp .ge 104, 3) := by decide +kernel
theorem dX9_highSide_37 : decode cX9_highSide 37 = .ok (.iconst 0, 1) := by decide +kernel
theorem dX9_highSide_38 : decode cX9_highSide 38 = .ok (.istore 5, 2) := by decide +kernel
theorem dX9_highSide_40 : decode cX9_highSide 40 = .ok (.iconst 0, 1) := by decide +kernel
theorem dX9_highSide_41 : decode cX9_highSide 41 = .ok (.istore 6, 2) := by decide +kernel
theorem dX9_highSide_43 : decode cX9_highSide 43 = .ok (.iconst 0, 1) := by decide +kernel
theorem dX9_highSide_44 : decode cX9_highSide 44 = .ok (.istore 7, 2) := by decide +kernel
theorem dX9_highSide_46 : decode cX9_highSide 46 = .ok (.iload 7, 2) := by decide +kernel
theorem dX9_highSide_48 : decode cX9_highSide 48 = .ok (.aload_n 0, 1) := by decide +kernel
theorem dX9_highSide_49 : decode cX9_highSide 49 = .ok (.invokevirtual 95, 3) := by decide +kernel
theorem dX9_highSide_52 : decode cX9_highSide 52 = .ok (.if_icmp .ge 56, 3) := by decide +kernel
theorem dX9_highSide_55 : decode cX9_highSide 55 = .ok (.iload 5, 2) := by decide +kernel
theorem dX9_highSide_57 : decode cX9_highSide 57 = .ok (.aload_n 0, 1) := by decide +kernel
theorem dX9_highSide_58 : decode cX9_highSide 58 = .ok (.iload 7, 2) := by decide +kernel
theorem dX9_highSide_60 : decode cX9_highSide 60 = .ok (.iload 4, 2) := by decide +kernel
theorem dX9_highSide_62 : decode cX9_highSide 62 = .ok (.invokevirtual 53, 3) := by decide +kernel
theorem dX9_highSide_65 : decode cX9_highSide 65 = .ok (.ifCond .eq 12, 3) := by decide +kernel
theorem dX9_highSide_68 : decode cX9_highSide 68 = .ok (.aload_n 0, 1) := by decide +kernel
theorem dX9_highSide_69 : decode cX9_highSide 69 = .ok (.iload 7, 2) := by decide +kernel
theorem dX9_highSide_71 : decode cX9_highSide 71 = .ok (.invokevirtual 70, 3) := by decide +kernel
theorem dX9_highSide_74 : decode cX9_highSide 74 = .ok (.goto 4, 3) := by decide +kernel
theorem dX9_highSide_77 : decode cX9_highSide 77 = .ok (.iconst 0, 1) := by decide +kernel
theorem dX9_highSide_78 : decode cX9_highSide 78 = .ok (.iadd, 1) := by decide +kernel
theorem dX9_highSide_79 : decode cX9_highSide 79 = .ok (.istore 5, 2) := by decide +kernel
theorem dX9_highSide_81 : decode cX9_highSide 81 = .ok (.iload 6, 2) := by decide +kernel
theorem dX9_highSide_83 : decode cX9_highSide 83 = .ok (.aload_n 0, 1) := by decide +kernel
theorem dX9_highSide_84 : decode cX9_highSide 84 = .ok (.iload 7, 2) := by decide +kernel
theorem dX9_highSide_86 : decode cX9_highSide 86 = .ok (.iload 4, 2) := by decide +kernel
theorem dX9_highSide_88 : decode cX9_highSide 88 = .ok (.invokevirtual 53, 3) := by decide +kernel
theorem dX9_highSide_91 : decode cX9_highSide 91 = .ok (.ifCond .eq 7, 3) := by decide +kernel
theorem dX9_highSide_94 : decode cX9_highSide 94 = .ok (.iconst 1, 1) := by decide +kernel
theorem dX9_highSide_95 : decode cX9_highSide 95 = .ok (.goto 4, 3) := by decide +kernel
theorem dX9_highSide_98 : decode cX9_highSide 98 = .ok (.iconst 0, 1) := by decide +kernel
theorem dX9_highSide_99 : decode cX9_highSide 99 = .ok (.iadd, 1) := by decide +kernel
theorem dX9_highSide_100 : decode cX9_highSide 100 = .ok (.istore 6, 2) := by decide +kernel
theorem dX9_highSide_102 : decode cX9_highSide 102 = .ok (.iinc 7 1, 3) := by decide +kernel
theorem dX9_highSide_105 : decode cX9_highSide 105 = .ok (.goto (-59), 3) := by decide +kernel
theorem dX9_highSide_108 : decode cX9_highSide 108 = .ok (.iload_n 1, 1) := by decide +kernel
theorem dX9_highSide_109 : decode cX9_highSide 109 = .ok (.ifCond .lt 14, 3) := by decide +kernel
theorem dX9_highSide_112 : decode cX9_highSide 112 = .ok (.iload 5, 2) := by decide +kernel
theorem dX9_highSide_114 : decode cX9_highSide 114 = .ok (.iload_n 3, 1) := by decide +kernel
theorem dX9_highSide_115 : decode cX9_highSide 115 = .ok (.imul, 1) := by decide +kernel
theorem dX9_highSide_116 : decode cX9_highSide 116 = .ok (.iload_n 2, 1) := by decide +kernel
theorem dX9_highSide_117 : decode cX9_highSide 117 = .ok (.iload 6, 2) := by decide +kernel
theorem dX9_highSide_119 : decode cX9_highSide 119 = .ok (.imul, 1) := by decide +kernel
theorem dX9_highSide_120 : decode cX9_highSide 120 = .ok (.if_icmp .ge 12, 3) := by decide +kernel
theorem dX9_highSide_123 : decode cX9_highSide 123 = .ok (.iload 4, 2) := by decide +kernel
theorem dX9_highSide_125 : decode cX9_highSide 125 = .ok (.istore_n 1, 1) := by decide +kernel
theorem dX9_highSide_126 : decode cX9_highSide 126 = .ok (.iload 5, 2) := by decide +kernel
theorem dX9_highSide_128 : decode cX9_highSide 128 = .ok (.istore_n 2, 1) := by decide +kernel
theorem dX9_highSide_129 : decode cX9_highSide 129 = .ok (.iload 6, 2) := by decide +kernel
theorem dX9_highSide_131 : decode cX9_highSide 131 = .ok (.istore_n 3, 1) := by decide +kernel
theorem dX9_highSide_132 : decode cX9_highSide 132 = .ok (.iinc 4 1, 3) := by decide +kernel
theorem dX9_highSide_135 : decode cX9_highSide 135 = .ok (.goto (-104), 3) := by decide +kernel
theorem dX9_highSide_138 : decode cX9_highSide 138 = .ok (.iload_n 1, 1) := by decide +kernel
theorem dX9_highSide_139 : decode cX9_highSide 139 = .ok (.ireturn, 1) := by decide +kernel
theorem dX9_undo_0 : decode cX9_undo 0 = .ok (.aload_n 0, 1) := by decide +kernel
theorem dX9_undo_1 : decode cX9_undo 1 = .ok (.getfield 34, 3) := by decide +kernel
theorem dX9_undo_4 : decode cX9_undo 4 = .ok (.ifCond .ne 6, 3) := by decide +kernel
theorem dX9_undo_7 : decode cX9_undo 7 = .ok (.ldc 209, 2) := by decide +kernel
theorem dX9_undo_9 : decode cX9_undo 9 = .ok (.ireturn, 1) := by decide +kernel
theorem dX9_undo_10 : decode cX9_undo 10 = .ok (.aload_n 0, 1) := by decide +kernel
theorem dX9_undo_11 : decode cX9_undo 11 = .ok (.dup, 1) := by decide +kernel
theorem dX9_undo_12 : decode cX9_undo 12 = .ok (.getfield 34, 3) := by decide +kernel
theorem dX9_undo_15 : decode cX9_undo 15 = .ok (.iconst 1, 1) := by decide +kernel
theorem dX9_undo_16 : decode cX9_undo 16 = .ok (.isub, 1) := by decide +kernel
theorem dX9_undo_17 : decode cX9_undo 17 = .ok (.putfield 34, 3) := by decide +kernel
theorem dX9_undo_20 : decode cX9_undo 20 = .ok (.iconst 0, 1) := by decide +kernel
theorem dX9_undo_21 : decode cX9_undo 21 = .ok (.istore_n 1, 1) := by decide +kernel
theorem dX9_undo_22 : decode cX9_undo 22 = .ok (.iload_n 1, 1) := by decide +kernel
theorem dX9_undo_23 : decode cX9_undo 23 = .ok (.sipush 227, 3) := by decide +kernel
theorem dX9_undo_26 : decode cX9_undo 26 = .ok (.if_icmp .ge 30, 3) := by decide +kernel
theorem dX9_undo_29 : decode cX9_undo 29 = .ok (.aload_n 0, 1) := by decide +kernel
theorem dX9_undo_30 : decode cX9_undo 30 = .ok (.getfield 7, 3) := by decide +kernel
theorem dX9_undo_33 : decode cX9_undo 33 = .ok (.iload_n 1, 1) := by decide +kernel
theorem dX9_undo_34 : decode cX9_undo 34 = .ok (.aload_n 0, 1) := by decide +kernel
theorem dX9_undo_35 : decode cX9_undo 35 = .ok (.getfield 13, 3) := by decide +kernel
theorem dX9_undo_38 : decode cX9_undo 38 = .ok (.sipush 227, 3) := by decide +kernel
theorem dX9_undo_41 : decode cX9_undo 41 = .ok (.aload_n 0, 1) := by decide +kernel
theorem dX9_undo_42 : decode cX9_undo 42 = .ok (.getfield 34, 3) := by decide +kernel
theorem dX9_undo_45 : decode cX9_undo 45 = .ok (.imul, 1) := by decide +kernel
theorem dX9_undo_46 : decode cX9_undo 46 = .ok (.iload_n 1, 1) := by decide +kernel
theorem dX9_undo_47 : decode cX9_undo 47 = .ok (.iadd, 1) := by decide +kernel
theorem dX9_undo_48 : decode cX9_undo 48 = .ok (.iaload, 1) := by decide +kernel
theorem dX9_undo_49 : decode cX9_undo 49 = .ok (.iastore, 1) := by decide +kernel
theorem dX9_undo_50 : decode cX9_undo 50 = .ok (.iinc 1 1, 3) := by decide +kernel
theorem dX9_undo_53 : decode cX9_undo 53 = .ok (.goto (-31), 3) := by decide +kernel
theorem dX9_undo_56 : decode cX9_undo 56 = .ok (.aload_n 0, 1) := by decide +kernel
theorem dX9_undo_57 : decode cX9_undo 57 = .ok (.getfield 34, 3) := by decide +kernel
theorem dX9_undo_60 : decode cX9_undo 60 = .ok (.ireturn, 1) := by decide +kernel
