theorem dX6_init_0 : decode cX6_init 0 = .ok (.aload_n 0, 1) := by decide +kernel
theorem dX6_init_1 : decode cX6_init 1 = .ok (.invokespecial 3, 3) := by decide +kernel
theorem dX6_init_4 : decode cX6_init 4 = .ok (.aload_n 0, 1) := by decide +kernel
theorem dX6_init_5 : decode cX6_init 5 = .ok (.sipush 200, 3) := by decide +kernel
theorem dX6_init_8 : decode cX6_init 8 = .ok (.newarray .char, 2) := by decide +kernel
theorem dX6_init_10 : decode cX6_init 10 = .ok (.putfield 9, 3) := by decide +kernel
theorem dX6_init_13 : decode cX6_init 13 = .ok (.aload_n 0, 1) := by decide +kernel
theorem dX6_init_14 : decode cX6_init 14 = .ok (.iconst 4, 1) := by decide +kernel
theorem dX6_init_15 : decode cX6_init 15 = .ok (.newarray .int, 2) := by decide +kernel
theorem dX6_init_17 : decode cX6_init 17 = .ok (.putfield 15, 3) := by decide +kernel
theorem dX6_init_20 : decode cX6_init 20 = .ok (.return_, 1) := by decide +kernel
theorem dX6_append_0 : decode cX6_append 0 = .ok (.aload_n 0, 1) := by decide +kernel
theorem dX6_append_1 : decode cX6_append 1 = .ok (.getfield 19, 3) := by decide +kernel
theorem dX6_append_4 : decode cX6_append 4 = .ok (.sipush 200, 3) := by decide +kernel
theorem dX6_append_7 : decode cX6_append 7 = .ok (.if_icmp .ge 23, 3) := by decide +kernel
theorem dX6_append_10 : decode cX6_append 10 = .ok (.aload_n 0, 1) := by decide +kernel
theorem dX6_append_11 : decode cX6_append 11 = .ok (.getfield 9, 3) := by decide +kernel
theorem dX6_append_14 : decode cX6_append 14 = .ok (.aload_n 0, 1) := by decide +kernel
theorem dX6_append_15 : decode cX6_append 15 = .ok (.getfield 19, 3) := by decide +kernel
theorem dX6_append_18 : decode cX6_append 18 = .ok (.iload_n 1, 1) := by decide +kernel
theorem dX6_append_19 : decode cX6_append 19 = .ok (.castore, 1) := by decide +kernel
theorem dX6_append_20 : decode cX6_append 20 = .ok (.aload_n 0, 1) := by decide +kernel
theorem dX6_append_21 : decode cX6_append 21 = .ok (.dup, 1) := by decide +kernel
theorem dX6_append_22 : decode cX6_append 22 = .ok (.getfield 19, 3) := by decide +kernel
theorem dX6_append_25 : decode cX6_append 25 = .ok (.iconst 1, 1) := by decide +kernel
theorem dX6_append_26 : decode cX6_append 26 = .ok (.iadd, 1) := by decide +kernel
theorem dX6_append_27 : decode cX6_append 27 = .ok (.putfield 19, 3) := by decide +kernel
theorem dX6_append_30 : decode cX6_append 30 = .ok (.return_, 1) := by decide +kernel
theorem dX6_readInto_0 : decode cX6_readInto 0 = .ok (.aload_n 1, 1) := by decide +kernel
theorem dX6_readInto_1 : decode cX6_readInto 1 = .ok (.invokevirtual 23, 3) := by decide +kernel
theorem dX6_readInto_4 : decode cX6_readInto 4 = .ok (.aload_n 0, 1) := by decide +kernel
theorem dX6_readInto_5 : decode cX6_readInto 5 = .ok (.iconst 0, 1) := by decide +kernel
theorem dX6_readInto_6 : decode cX6_readInto 6 = .ok (.putfield 28, 3) := by decide +kernel
theorem dX6_readInto_9 : decode cX6_readInto 9 = .ok (.iconst 0, 1) := by decide +kernel
theorem dX6_readInto_10 : decode cX6_readInto 10 = .ok (.istore_n 2, 1) := by decide +kernel
theorem dX6_readInto_11 : decode cX6_readInto 11 = .ok (.aload_n 0, 1) := by decide +kernel
theorem dX6_readInto_12 : decode cX6_readInto 12 = .ok (.invokevirtual 31, 3) := by decide +kernel
theorem dX6_readInto_15 : decode cX6_readInto 15 = .ok (.aload_n 0, 1) := by decide +kernel
theorem dX6_readInto_16 : decode cX6_readInto 16 = .ok (.getfield 34, 3) := by decide +kernel
theorem dX6_readInto_19 : decode cX6_readInto 19 = .ok (.ifCond .eq 66, 3) := by decide +kernel
theorem dX6_readInto_22 : decode cX6_readInto 22 = .ok (.iload_n 2, 1) := by decide +kernel
theorem dX6_readInto_23 : decode cX6_readInto 23 = .ok (.aload_n 0, 1) := by decide +kernel
theorem dX6_readInto_24 : decode cX6_readInto 24 = .ok (.getfield 19, 3) := by decide +kernel
theorem dX6_readInto_27 : decode cX6_readInto 27 = .ok (.if_icmp .ge 58, 3) := by decide +kernel
theorem dX6_readInto_30 : decode cX6_readInto 30 = .ok (.aload_n 0, 1) := by decide +kernel
theorem dX6_readInto_31 : decode cX6_readInto 31 = .ok (.invokevirtual 37, 3) := by decide +kernel
theorem dX6_readInto_34 : decode cX6_readInto 34 = .ok (.istore_n 3, 1) := by decide +kernel
theorem dX6_readInto_35 : decode cX6_readInto 35 = .ok (.aload_n 0, 1) := by decide +kernel
theorem dX6_readInto_36 : decode cX6_readInto 36 = .ok (.iload_n 3, 1) := by decide +kernel
theorem dX6_readInto_37 : decode cX6_readInto 37 = .ok (.iload_n 2, 1) := by decide +kernel
theorem dX6_readInto_38 : decode cX6_readInto 38 = .ok (.aload_n 1, 1) := by decide +kernel
theorem dX6_readInto_39 : decode cX6_readInto 39 = .ok (.invokevirtual 41, 3) := by decide +kernel
theorem dX6_readInto_42 : decode cX6_readInto 42 = .ok (.ifCond .eq 19, 3) := by decide +kernel
theorem dX6_readInto_45 : decode cX6_readInto 45 = .ok (.aload_n 0, 1) := by decide +kernel
theorem dX6_readInto_46 : decode cX6_readInto 46 = .ok (.iload_n 3, 1) := by decide +kernel
theorem dX6_readInto_47 : decode cX6_readInto 47 = .ok (.aload_n 1, 1) := by decide +kernel
theorem dX6_readInto_48 : decode cX6_readInto 48 = .ok (.invokevirtual 45, 3) := by decide +kernel
theorem dX6_readInto_51 : decode cX6_readInto 51 = .ok (.ifCond .eq 10, 3) := by decide +kernel
theorem dX6_readInto_54 : decode cX6_readInto 54 = .ok (.aload_n 0, 1) := by decide +kernel
theorem dX6_readInto_55 : decode cX6_readInto 55 = .ok (.invokevirtual 49, 3) := by decide +kernel
theorem dX6_readInto_58 : decode cX6_readInto 58 = .ok (.ifCond .ne 11, 3) := by decide +kernel
theorem dX6_readInto_61 : decode cX6_readInto 61 = .ok (.bipush (-10), 2) := by decide +kernel
theorem dX6_readInto_63 : decode cX6_readInto 63 = .ok (.aload_n 0, 1) := by decide +kernel
theorem dX6_readInto_64 : decode cX6_readInto 64 = .ok (.getfield 53, 3) := by decide +kernel
theorem dX6_readInto_67 : decode cX6_readInto 67 = .ok (.isub, 1) := by decide +kernel
theorem dX6_readInto_68 : decode cX6_readInto 68 = .ok (.ireturn, 1) := by decide +kernel
theorem dX6_readInto_69 : decode cX6_readInto 69 = .ok (.aload_n 0, 1) := by decide +kernel
theorem dX6_readInto_70 : decode cX6_readInto 70 = .ok (.iload_n 3, 1) := by decide +kernel
theorem dX6_readInto_71 : decode cX6_readInto 71 = .ok (.aload_n 1, 1) := by decide +kernel
theorem dX6_readInto_72 : decode cX6_readInto 72 = .ok (.invokevirtual 56, 3) := by decide +kernel
theorem dX6_readInto_75 : decode cX6_readInto 75 = .ok (.iinc 2 1, 3) := by decide +kernel
theorem dX6_readInto_78 : decode cX6_readInto 78 = .ok (.aload_n 0, 1) := by decide +kernel
theorem dX6_readInto_79 : decode cX6_readInto 79 = .ok (.invokevirtual 31, 3) := by decide +kernel
theorem dX6_readInto_82 : decode cX6_readInto 82 = .ok (.goto (-67), 3) := by decide +kernel
theorem dX6_readInto_85 : decode cX6_readInto 85 = .ok (.iload_n 2, 1) := by decide +kernel
theorem dX6_readInto_86 : decode cX6_readInto 86 = .ok (.ireturn, 1) := by decide +kernel
theorem dX6_mayBegin_0 : decode cX6_mayBegin 0 = .ok (.iload_n 1, 1) := by decide +kernel
theorem dX6_mayBegin_1 : decode cX6_mayBegin 1 = .ok (.lookupswitch 83 #[(0, 35), (4, 45), (5, 64)], 35) := by decide +kernel
theorem dX6_mayBegin_36 : decode cX6_mayBegin 36 = .ok (.iload_n 2, 1) := by decide +kernel
theorem dX6_mayBegin_37 : decode cX6_mayBegin 37 = .ok (.ifCond .ne 7, 3) := by decide +kernel
theorem dX6_mayBegin_40 : decode cX6_mayBegin 40 = .ok (.iconst 1, 1) := by decide +kernel
theorem dX6_mayBegin_41 : decode cX6_mayBegin 41 = .ok (.goto 4, 3) := by decide +kernel
theorem dX6_mayBegin_44 : decode cX6_mayBegin 44 = .ok (.iconst 0, 1) := by decide +kernel
theorem dX6_mayBegin_45 : decode cX6_mayBegin 45 = .ok (.ireturn, 1) := by decide +kernel
theorem dX6_mayBegin_46 : decode cX6_mayBegin 46 = .ok (.aload_n 3, 1) := by decide +kernel
theorem dX6_mayBegin_47 : decode cX6_mayBegin 47 = .ok (.getfield 60, 3) := by decide +kernel
theorem dX6_mayBegin_50 : decode cX6_mayBegin 50 = .ok (.getfield 64, 3) := by decide +kernel
theorem dX6_mayBegin_53 : decode cX6_mayBegin 53 = .ok (.invokevirtual 70, 3) := by decide +kernel
theorem dX6_mayBegin_56 : decode cX6_mayBegin 56 = .ok (.ifCond .ne 7, 3) := by decide +kernel
theorem dX6_mayBegin_59 : decode cX6_mayBegin 59 = .ok (.iconst 1, 1) := by decide +kernel
theorem dX6_mayBegin_60 : decode cX6_mayBegin 60 = .ok (.goto 4, 3) := by decide +kernel
theorem dX6_mayBegin_63 : decode cX6_mayBegin 63 = .ok (.iconst 0, 1) := by decide +kernel
theorem dX6_mayBegin_64 : decode cX6_mayBegin 64 = .ok (.ireturn, 1) := by decide +kernel
theorem dX6_mayBegin_65 : decode cX6_mayBegin 65 = .ok (.aload_n 3, 1) := by decide +kernel
theorem dX6_mayBegin_66 : decode cX6_mayBegin 66 = .ok (.getfield 75, 3) := by decide +kernel
theorem dX6_mayBegin_69 : decode cX6_mayBegin 69 = .ok (.getfield 79, 3) := by decide +kernel
theorem dX6_mayBegin_72 : decode cX6_mayBegin 72 = .ok (.invokevirtual 70, 3) := by decide +kernel
theorem dX6_mayBegin_75 : decode cX6_mayBegin 75 = .ok (.ifCond .ne 7, 3) := by decide +kernel
theorem dX6_mayBegin_78 : decode cX6_mayBegin 78 = .ok (.iconst 1, 1) := by decide +kernel
theorem dX6_mayBegin_79 : decode cX6_mayBegin 79 = .ok (.goto 4, 3) := by decide +kernel
theorem dX6_mayBegin_82 : decode cX6_mayBegin 82 = .ok (.iconst 0, 1) := by decide +kernel
theorem dX6_mayBegin_83 : decode cX6_mayBegin 83 = .ok (.ireturn, 1) := by decide +kernel
theorem dX6_mayBegin_84 : decode cX6_mayBegin 84 = .ok (.iload_n 1, 1) := by decide +kernel
theorem dX6_mayBegin_85 : decode cX6_mayBegin 85 = .ok (.iconst (-1), 1) := by decide +kernel
theorem dX6_mayBegin_86 : decode cX6_mayBegin 86 = .ok (.if_icmp .eq 7, 3) := by decide +kernel
theorem dX6_mayBegin_89 : decode cX6_mayBegin 89 = .ok (.iconst 1, 1) := by decide +kernel
theorem dX6_mayBegin_90 : decode cX6_mayBegin 90 = .ok (.goto 4, 3) := by decide +kernel
theorem dX6_mayBegin_93 : decode cX6_mayBegin 93 = .ok (.iconst 0, 1) := by decide +kernel
theorem dX6_mayBegin_94 : decode cX6_mayBegin 94 = .ok (.ireturn, 1) := by decide +kernel
theorem dX6_readValues_0 : decode cX6_readValues 0 = .ok (.iload_n 1, 1) := by decide +kernel
theorem dX6_readValues_1 : decode cX6_readValues 1 = .ok (.iconst 5, 1) := by decide +kernel
theorem dX6_readValues_2 : decode cX6_readValues 2 = .ok (.if_icmp .ne 7, 3) := by decide +kernel
theorem dX6_readValues_5 : decode cX6_readValues 5 = .ok (.iconst 4, 1) := by decide +kernel
theorem dX6_readValues_6 : decode cX6_readValues 6 = .ok (.goto 21, 3) := by decide +kernel
theorem dX6_readValues_9 : decode cX6_readValues 9 = .ok (.iload_n 1, 1) := by decide +kernel
theorem dX6_readValues_10 : decode cX6_readValues 10 = .ok (.iconst 4, 1) := by decide +kernel
theorem dX6_readValues_11 : decode cX6_readValues 11 = .ok (.if_icmp .ne 7, 3) := by decide +kernel
theorem dX6_readValues_14 : decode cX6_readValues 14 = .ok (.iconst 3, 1) := by decide +kernel
theorem dX6_readValues_15 : decode cX6_readValues 15 = .ok (.goto 12, 3) := by decide +kernel
theorem dX6_readValues_18 : decode cX6_readValues 18 = .ok (.iload_n 1, 1) := by decide +kernel
theorem dX6_readValues_19 : decode cX6_readValues 19 = .ok (.ifCond .ne 7, 3) := by decide +kernel
theorem dX6_readValues_22 : decode cX6_readValues 22 = .ok (.iconst 2, 1) := by decide +kernel
theorem dX6_readValues_23 : decode cX6_readValues 23 = .ok (.goto 4, 3) := by decide +kernel
theorem dX6_readValues_26 : decode cX6_readValues 26 = .ok (.iconst 1, 1) := by decide +kernel
theorem dX6_readValues_27 : decode cX6_readValues 27 = .ok (.istore_n 3, 1) := by decide +kernel
theorem dX6_readValues_28 : decode cX6_readValues 28 = .ok (.iconst 0, 1) := by decide +kernel
theorem dX6_readValues_29 : decode cX6_readValues 29 = .ok (.istore 4, 2) := by decide +kernel
theorem dX6_readValues_31 : decode cX6_readValues 31 = .ok (.iload 4, 2) := by decide +kernel
theorem dX6_readValues_33 : decode cX6_readValues 33 = .ok (.iload_n 3, 1) := by decide +kernel
theorem dX6_readValues_34 : decode cX6_readValues 34 = .ok (.if_icmp .ge 45, 3) := by decide +kernel
theorem dX6_readValues_37 : decode cX6_readValues 37 = .ok (.aload_n 0, 1) := by decide +kernel
theorem dX6_readValues_38 : decode cX6_readValues 38 = .ok (.invokevirtual 31, 3) := by decide +kernel
theorem dX6_readValues_41 : decode cX6_readValues 41 = .ok (.aload_n 0, 1) := by decide +kernel
theorem dX6_readValues_42 : decode cX6_readValues 42 = .ok (.getfield 34, 3) := by decide +kernel
theorem dX6_readValues_45 : decode cX6_readValues 45 = .ok (.iconst 2, 1) := by decide +kernel
theorem dX6_readValues_46 : decode cX6_readValues 46 = .ok (.if_icmp .ne 14, 3) := by decide +kernel
theorem dX6_readValues_49 : decode cX6_readValues 49 = .ok (.aload_n 0, 1) := by decide +kernel
theorem dX6_readValues_50 : decode cX6_readValues 50 = .ok (.iload_n 1, 1) := by decide +kernel
theorem dX6_readValues_51 : decode cX6_readValues 51 = .ok (.iload 4, 2) := by decide +kernel
theorem dX6_readValues_53 : decode cX6_readValues 53 = .ok (.aload_n 2, 1) := by decide +kernel
theorem dX6_readValues_54 : decode cX6_readValues 54 = .ok (.invokevirtual 84, 3) := by decide +kernel
theorem dX6_readValues_57 : decode cX6_readValues 57 = .ok (.ifCond .ne 5, 3) := by decide +kernel
theorem dX6_readValues_60 : decode cX6_readValues 60 = .ok (.iconst 0, 1) := by decide +kernel
theorem dX6_readValues_61 : decode cX6_readValues 61 = .ok (.ireturn, 1) := by decide +kernel
theorem dX6_readValues_62 : decode cX6_readValues 62 = .ok (.aload_n 0, 1) := by decide +kernel
theorem dX6_readValues_63 : decode cX6_readValues 63 = .ok (.getfield 15, 3) := by decide +kernel
theorem dX6_readValues_66 : decode cX6_readValues 66 = .ok (.iload 4, 2) := by decide +kernel
theorem dX6_readValues_68 : decode cX6_readValues 68 = .ok (.aload_n 0, 1) := by decide +kernel
theorem dX6_readValues_69 : decode cX6_readValues 69 = .ok (.getfield 87, 3) := by decide +kernel
theorem dX6_readValues_72 : decode cX6_readValues 72 = .ok (.iastore, 1) := by decide +kernel
theorem dX6_readValues_73 : decode cX6_readValues 73 = .ok (.iinc 4 1, 3) := by decide +kernel
theorem dX6_readValues_76 : decode cX6_readValues 76 = .ok (.goto (-45), 3) := by decide +kernel
theorem dX6_readValues_79 : decode cX6_readValues 79 = .ok (.iconst 1, 1) := by decide +kernel
theorem dX6_readValues_80 : decode cX6_readValues 80 = .ok (.ireturn, 1) := by decide +kernel
theorem dX6_readSemicolon_0 : decode cX6_readSemicolon 0 = .ok (.aload_n 0, 1) := by decide +kernel
theorem dX6_readSemicolon_1 : decode cX6_readSemicolon 1 = .ok (.invokevirtual 31, 3) := by decide +kernel
theorem dX6_readSemicolon_4 : decode cX6_readSemicolon 4 = .ok (.aload_n 0, 1) := by decide +kernel
theorem dX6_readSemicolon_5 : decode cX6_readSemicolon 5 = .ok (.getfield 34, 3) := by decide +kernel
theorem dX6_readSemicolon_8 : decode cX6_readSemicolon 8 = .ok (.iconst 3, 1) := by decide +kernel
theorem dX6_readSemicolon_9 : decode cX6_readSemicolon 9 = .ok (.if_icmp .ne 7, 3) := by decide +kernel
theorem dX6_readSemicolon_12 : decode cX6_readSemicolon 12 = .ok (.iconst 1, 1) := by decide +kernel
theorem dX6_readSemicolon_13 : decode cX6_readSemicolon 13 = .ok (.goto 4, 3) := by decide +kernel
theorem dX6_readSemicolon_16 : decode cX6_readSemicolon 16 = .ok (.iconst 0, 1) := by decide +kernel
theorem dX6_readSemicolon_17 : decode cX6_readSemicolon 17 = .ok (.ireturn, 1) := by decide +kernel
theorem dX6_isAllowed_0 : decode cX6_isAllowed 0 = .ok (.iload_n 1, 1) := by decide +kernel
theorem dX6_isAllowed_1 : decode cX6_isAllowed 1 = .ok (.tableswitch 99 0 5 #[39, 50, 62, 74, 86, 92], 39) := by decide +kernel
theorem dX6_isAllowed_40 : decode cX6_isAllowed 40 = .ok (.aload_n 0, 1) := by decide +kernel
theorem dX6_isAllowed_41 : decode cX6_isAllowed 41 = .ok (.getfield 87, 3) := by decide +kernel
theorem dX6_isAllowed_44 : decode cX6_isAllowed 44 = .ok (.iconst 3, 1) := by decide +kernel
theorem dX6_isAllowed_45 : decode cX6_isAllowed 45 = .ok (.bipush 7, 2) := by decide +kernel
theorem dX6_isAllowed_47 : decode cX6_isAllowed 47 = .ok (.invokestatic 90, 3) := by decide +kernel
theorem dX6_isAllowed_50 : decode cX6_isAllowed 50 = .ok (.ireturn, 1) := by decide +kernel
theorem dX6_isAllowed_51 : decode cX6_isAllowed 51 = .ok (.aload_n 0, 1) := by decide +kernel
theorem dX6_isAllowed_52 : decode cX6_isAllowed 52 = .ok (.getfield 87, 3) := by decide +kernel
theorem dX6_isAllowed_55 : decode cX6_isAllowed 55 = .ok (.iconst 1, 1) := by decide +kernel
theorem dX6_isAllowed_56 : decode cX6_isAllowed 56 = .ok (.sipush 9999, 3) := by decide +kernel
theorem dX6_isAllowed_59 : decode cX6_isAllowed 59 = .ok (.invokestatic 90, 3) := by decide +kernel
theorem dX6_isAllowed_62 : decode cX6_isAllowed 62 = .ok (.ireturn, 1) := by decide +kernel
theorem dX6_isAllowed_63 : decode cX6_isAllowed 63 = .ok (.aload_n 0, 1) := by decide +kernel
theorem dX6_isAllowed_64 : decode cX6_isAllowed 64 = .ok (.getfield 87, 3) := by decide +kernel
theorem dX6_isAllowed_67 : decode cX6_isAllowed 67 = .ok (.iconst 0, 1) := by decide +kernel
theorem dX6_isAllowed_68 : decode cX6_isAllowed 68 = .ok (.sipush 400, 3) := by decide +kernel
theorem dX6_isAllowed_71 : decode cX6_isAllowed 71 = .ok (.invokestatic 90, 3) := by decide +kernel
theorem dX6_isAllowed_74 : decode cX6_isAllowed 74 = .ok (.ireturn, 1) := by decide +kernel
theorem dX6_isAllowed_75 : decode cX6_isAllowed 75 = .ok (.aload_n 0, 1) := by decide +kernel
theorem dX6_isAllowed_76 : decode cX6_isAllowed 76 = .ok (.getfield 87, 3) := by decide +kernel
theorem dX6_isAllowed_79 : decode cX6_isAllowed 79 = .ok (.iconst 0, 1) := by decide +kernel
theorem dX6_isAllowed_80 : decode cX6_isAllowed 80 = .ok (.sipush 9999, 3) := by decide +kernel
theorem dX6_isAllowed_83 : decode cX6_isAllowed 83 = .ok (.invokestatic 90, 3) := by decide +kernel
theorem dX6_isAllowed_86 : decode cX6_isAllowed 86 = .ok (.ireturn, 1) := by decide +kernel
theorem dX6_isAllowed_87 : decode cX6_isAllowed 87 = .ok (.aload_n 0, 1) := by decide +kernel
theorem dX6_isAllowed_88 : decode cX6_isAllowed 88 = .ok (.iload_n 2, 1) := by decide +kernel
theorem dX6_isAllowed_89 : decode cX6_isAllowed 89 = .ok (.invokevirtual 94, 3) := by decide +kernel
theorem dX6_isAllowed_92 : decode cX6_isAllowed 92 = .ok (.ireturn, 1) := by decide +kernel
theorem dX6_isAllowed_93 : decode cX6_isAllowed 93 = .ok (.aload_n 0, 1) := by decide +kernel
theorem dX6_isAllowed_94 : decode cX6_isAllowed 94 = .ok (.iload_n 2, 1) := by decide +kernel
theorem dX6_isAllowed_95 : decode cX6_isAllowed 95 = .ok (.aload_n 3, 1) := by decide +kernel
theorem dX6_isAllowed_96 : decode cX6_isAllowed 96 = .ok (.invokevirtual 98, 3) := by decide +kernel
theorem dX6_isAllowed_99 : decode cX6_isAllowed 99 = .ok (.ireturn, 1) := by decide +kernel
theorem dX6_isAllowed_100 : decode cX6_isAllowed 100 = .ok (.iconst 0, 1) := by decide +kernel
theorem dX6_isAllowed_101 : decode cX6_isAllowed 101 = .ok (.ireturn, 1) := by decide +kernel
theorem dX6_isAllowedInLayer_0 : decode cX6_isAllowedInLayer 0 = .ok (.iload_n 1, 1) := by decide +kernel
theorem dX6_isAllowedInLayer_1 : decode cX6_isAllowedInLayer 1 = .ok (.lookupswitch 49 #[(0, 27), (1, 38)], 27) := by decide +kernel
theorem dX6_isAllowedInLayer_28 : decode cX6_isAllowedInLayer 28 = .ok (.aload_n 0, 1) := by decide +kernel
theorem dX6_isAllowedInLayer_29 : decode cX6_isAllowedInLayer 29 = .ok (.getfield 87, 3) := by decide +kernel
theorem dX6_isAllowedInLayer_32 : decode cX6_isAllowedInLayer 32 = .ok (.iconst 1, 1) := by decide +kernel
theorem dX6_isAllowedInLayer_33 : decode cX6_isAllowedInLayer 33 = .ok (.bipush 100, 2) := by decide +kernel
theorem dX6_isAllowedInLayer_35 : decode cX6_isAllowedInLayer 35 = .ok (.invokestatic 90, 3) := by decide +kernel
theorem dX6_isAllowedInLayer_38 : decode cX6_isAllowedInLayer 38 = .ok (.ireturn, 1) := by decide +kernel
theorem dX6_isAllowedInLayer_39 : decode cX6_isAllowedInLayer 39 = .ok (.aload_n 0, 1) := by decide +kernel
theorem dX6_isAllowedInLayer_40 : decode cX6_isAllowedInLayer 40 = .ok (.getfield 87, 3) := by decide +kernel
theorem dX6_isAllowedInLayer_43 : decode cX6_isAllowedInLayer 43 = .ok (.iconst 0, 1) := by decide +kernel
theorem dX6_isAllowedInLayer_44 : decode cX6_isAllowedInLayer 44 = .ok (.bipush 50, 2) := by decide +kernel
theorem dX6_isAllowedInLayer_46 : decode cX6_isAllowedInLayer 46 = .ok (.invokestatic 90, 3) := by decide +kernel
theorem dX6_isAllowedInLayer_49 : decode cX6_isAllowedInLayer 49 = .ok (.ireturn, 1) := by decide +kernel
theorem dX6_isAllowedInLayer_50 : decode cX6_isAllowedInLayer 50 = .ok (.aload_n 0, 1) := by decide +kernel
theorem dX6_isAllowedInLayer_51 : decode cX6_isAllowedInLayer 51 = .ok (.getfield 87, 3) := by decide +kernel
theorem dX6_isAllowedInLayer_54 : decode cX6_isAllowedInLayer 54 = .ok (.iconst 0, 1) := by decide +kernel
theorem dX6_isAllowedInLayer_55 : decode cX6_isAllowedInLayer 55 = .ok (.bipush 9, 2) := by decide +kernel
theorem dX6_isAllowedInLayer_57 : decode cX6_isAllowedInLayer 57 = .ok (.invokestatic 90, 3) := by decide +kernel
theorem dX6_isAllowedInLayer_60 : decode cX6_isAllowedInLayer 60 = .ok (.ireturn, 1) := by decide +kernel
theorem dX6_isAllowedInBoulder_0 : decode cX6_isAllowedInBoulder 0 = .ok (.iload_n 1, 1) := by decide +kernel
theorem dX6_isAllowedInBoulder_1 : decode cX6_isAllowedInBoulder 1 = .ok (.tableswitch 96 0 2 #[27, 42, 57], 27) := by decide +kernel
theorem dX6_isAllowedInBoulder_28 : decode cX6_isAllowedInBoulder 28 = .ok (.aload_n 0, 1) := by decide +kernel
theorem dX6_isAllowedInBoulder_29 : decode cX6_isAllowedInBoulder 29 = .ok (.getfield 87, 3) := by decide +kernel
theorem dX6_isAllowedInBoulder_32 : decode cX6_isAllowedInBoulder 32 = .ok (.iconst 0, 1) := by decide +kernel
theorem dX6_isAllowedInBoulder_33 : decode cX6_isAllowedInBoulder 33 = .ok (.aload_n 2, 1) := by decide +kernel
theorem dX6_isAllowedInBoulder_34 : decode cX6_isAllowedInBoulder 34 = .ok (.getfield 101, 3) := by decide +kernel
theorem dX6_isAllowedInBoulder_37 : decode cX6_isAllowedInBoulder 37 = .ok (.iconst 1, 1) := by decide +kernel
theorem dX6_isAllowedInBoulder_38 : decode cX6_isAllowedInBoulder 38 = .ok (.isub, 1) := by decide +kernel
theorem dX6_isAllowedInBoulder_39 : decode cX6_isAllowedInBoulder 39 = .ok (.invokestatic 90, 3) := by decide +kernel
theorem dX6_isAllowedInBoulder_42 : decode cX6_isAllowedInBoulder 42 = .ok (.ireturn, 1) := by decide +kernel
theorem dX6_isAllowedInBoulder_43 : decode cX6_isAllowedInBoulder 43 = .ok (.aload_n 0, 1) := by decide +kernel
theorem dX6_isAllowedInBoulder_44 : decode cX6_isAllowedInBoulder 44 = .ok (.getfield 87, 3) := by decide +kernel
theorem dX6_isAllowedInBoulder_47 : decode cX6_isAllowedInBoulder 47 = .ok (.iconst 0, 1) := by decide +kernel
theorem dX6_isAllowedInBoulder_48 : decode cX6_isAllowedInBoulder 48 = .ok (.aload_n 2, 1) := by decide +kernel
theorem dX6_isAllowedInBoulder_49 : decode cX6_isAllowedInBoulder 49 = .ok (.getfield 104, 3) := by decide +kernel
theorem dX6_isAllowedInBoulder_52 : decode cX6_isAllowedInBoulder 52 = .ok (.iconst 1, 1) := by decide +kernel
theorem dX6_isAllowedInBoulder_53 : decode cX6_isAllowedInBoulder 53 = .ok (.isub, 1) := by decide +kernel
theorem dX6_isAllowedInBoulder_54 : decode cX6_isAllowedInBoulder 54 = .ok (.invokestatic 90, 3) := by decide +kernel
theorem dX6_isAllowedInBoulder_57 : decode cX6_isAllowedInBoulder 57 = .ok (.ireturn, 1) := by decide +kernel
theorem dX6_isAllowedInBoulder_58 : decode cX6_isAllowedInBoulder 58 = .ok (.aload_n 0, 1) := by decide +kernel
theorem dX6_isAllowedInBoulder_59 : decode cX6_isAllowedInBoulder 59 = .ok (.getfield 87, 3) := by decide +kernel
theorem dX6_isAllowedInBoulder_62 : decode cX6_isAllowedInBoulder 62 = .ok (.iconst 1, 1) := by decide +kernel
theorem dX6_isAllowedInBoulder_63 : decode cX6_isAllowedInBoulder 63 = .ok (.sipush 200, 3) := by decide +kernel
theorem dX6_isAllowedInBoulder_66 : decode cX6_isAllowedInBoulder 66 = .ok (.invokestatic 90, 3) := by decide +kernel
theorem dX6_isAllowedInBoulder_69 : decode cX6_isAllowedInBoulder 69 = .ok (.ifCond .eq 26, 3) := by decide +kernel
theorem dX6_isAllowedInBoulder_72 : decode cX6_isAllowedInBoulder 72 = .ok (.aload_n 2, 1) := by decide +kernel
theorem dX6_isAllowedInBoulder_73 : decode cX6_isAllowedInBoulder 73 = .ok (.getfield 75, 3) := by decide +kernel
theorem dX6_isAllowedInBoulder_76 : decode cX6_isAllowedInBoulder 76 = .ok (.aload_n 0, 1) := by decide +kernel
theorem dX6_isAllowedInBoulder_77 : decode cX6_isAllowedInBoulder 77 = .ok (.aload_n 2, 1) := by decide +kernel
theorem dX6_isAllowedInBoulder_78 : decode cX6_isAllowedInBoulder 78 = .ok (.invokevirtual 107, 3) := by decide +kernel
theorem dX6_isAllowedInBoulder_81 : decode cX6_isAllowedInBoulder 81 = .ok (.aload_n 0, 1) := by decide +kernel
theorem dX6_isAllowedInBoulder_82 : decode cX6_isAllowedInBoulder 82 = .ok (.getfield 87, 3) := by decide +kernel
theorem dX6_isAllowedInBoulder_85 : decode cX6_isAllowedInBoulder 85 = .ok (.invokevirtual 111, 3) := by decide +kernel
theorem dX6_isAllowedInBoulder_88 : decode cX6_isAllowedInBoulder 88 = .ok (.ifCond .ne 7, 3) := by decide +kernel
theorem dX6_isAllowedInBoulder_91 : decode cX6_isAllowedInBoulder 91 = .ok (.iconst 1, 1) := by decide +kernel
theorem dX6_isAllowedInBoulder_92 : decode cX6_isAllowedInBoulder 92 = .ok (.goto 4, 3) := by decide +kernel
theorem dX6_isAllowedInBoulder_95 : decode cX6_isAllowedInBoulder 95 = .ok (.iconst 0, 1) := by decide +kernel
theorem dX6_isAllowedInBoulder_96 : decode cX6_isAllowedInBoulder 96 = .ok (.ireturn, 1) := by decide +kernel
theorem dX6_isAllowedInBoulder_97 : decode cX6_isAllowedInBoulder 97 = .ok (.aload_n 0, 1) := by decide +kernel
theorem dX6_isAllowedInBoulder_98 : decode cX6_isAllowedInBoulder 98 = .ok (.getfield 87, 3) := by decide +kernel
theorem dX6_isAllowedInBoulder_101 : decode cX6_isAllowedInBoulder 101 = .ok (.iconst 1, 1) := by decide +kernel
theorem dX6_isAllowedInBoulder_102 : decode cX6_isAllowedInBoulder 102 = .ok (.bipush 50, 2) := by decide +kernel
theorem dX6_isAllowedInBoulder_104 : decode cX6_isAllowedInBoulder 104 = .ok (.invokestatic 90, 3) := by decide +kernel
theorem dX6_isAllowedInBoulder_107 : decode cX6_isAllowedInBoulder 107 = .ok (.ireturn, 1) := by decide +kernel
theorem dX6_cellInValues_0 : decode cX6_cellInValues 0 = .ok (.aload_n 0, 1) := by decide +kernel
theorem dX6_cellInValues_1 : decode cX6_cellInValues 1 = .ok (.getfield 15, 3) := by decide +kernel
theorem dX6_cellInValues_4 : decode cX6_cellInValues 4 = .ok (.iconst 1, 1) := by decide +kernel
theorem dX6_cellInValues_5 : decode cX6_cellInValues 5 = .ok (.iaload, 1) := by decide +kernel
theorem dX6_cellInValues_6 : decode cX6_cellInValues 6 = .ok (.aload_n 1, 1) := by decide +kernel
theorem dX6_cellInValues_7 : decode cX6_cellInValues 7 = .ok (.getfield 101, 3) := by decide +kernel
theorem dX6_cellInValues_10 : decode cX6_cellInValues 10 = .ok (.imul, 1) := by decide +kernel
theorem dX6_cellInValues_11 : decode cX6_cellInValues 11 = .ok (.aload_n 0, 1) := by decide +kernel
theorem dX6_cellInValues_12 : decode cX6_cellInValues 12 = .ok (.getfield 15, 3) := by decide +kernel
theorem dX6_cellInValues_15 : decode cX6_cellInValues 15 = .ok (.iconst 0, 1) := by decide +kernel
theorem dX6_cellInValues_16 : decode cX6_cellInValues 16 = .ok (.iaload, 1) := by decide +kernel
theorem dX6_cellInValues_17 : decode cX6_cellInValues 17 = .ok (.iadd, 1) := by decide +kernel
theorem dX6_cellInValues_18 : decode cX6_cellInValues 18 = .ok (.ireturn, 1) := by decide +kernel
theorem dX6_enter_0 : decode cX6_enter 0 = .ok (.iload_n 1, 1) := by decide +kernel
theorem dX6_enter_1 : decode cX6_enter 1 = .ok (.tableswitch 121 0 4 #[35, 54, 67, 80, 93], 35) := by decide +kernel
theorem dX6_enter_36 : decode cX6_enter 36 = .ok (.aload_n 2, 1) := by decide +kernel
theorem dX6_enter_37 : decode cX6_enter 37 = .ok (.aload_n 0, 1) := by decide +kernel
theorem dX6_enter_38 : decode cX6_enter 38 = .ok (.getfield 15, 3) := by decide +kernel
theorem dX6_enter_41 : decode cX6_enter 41 = .ok (.iconst 0, 1) := by decide +kernel
theorem dX6_enter_42 : decode cX6_enter 42 = .ok (.iaload, 1) := by decide +kernel
theorem dX6_enter_43 : decode cX6_enter 43 = .ok (.aload_n 0, 1) := by decide +kernel
theorem dX6_enter_44 : decode cX6_enter 44 = .ok (.getfield 15, 3) := by decide +kernel
theorem dX6_enter_47 : decode cX6_enter 47 = .ok (.iconst 1, 1) := by decide +kernel
theorem dX6_enter_48 : decode cX6_enter 48 = .ok (.iaload, 1) := by decide +kernel
theorem dX6_enter_49 : decode cX6_enter 49 = .ok (.invokevirtual 115, 3) := by decide +kernel
theorem dX6_enter_52 : decode cX6_enter 52 = .ok (.goto 95, 3) := by decide +kernel
theorem dX6_enter_55 : decode cX6_enter 55 = .ok (.aload_n 2, 1) := by decide +kernel
theorem dX6_enter_56 : decode cX6_enter 56 = .ok (.aload_n 0, 1) := by decide +kernel
theorem dX6_enter_57 : decode cX6_enter 57 = .ok (.getfield 15, 3) := by decide +kernel
theorem dX6_enter_60 : decode cX6_enter 60 = .ok (.iconst 0, 1) := by decide +kernel
theorem dX6_enter_61 : decode cX6_enter 61 = .ok (.iaload, 1) := by decide +kernel
theorem dX6_enter_62 : decode cX6_enter 62 = .ok (.putfield 119, 3) := by decide +kernel
theorem dX6_enter_65 : decode cX6_enter 65 = .ok (.goto 82, 3) := by decide +kernel
theorem dX6_enter_68 : decode cX6_enter 68 = .ok (.aload_n 2, 1) := by decide +kernel
theorem dX6_enter_69 : decode cX6_enter 69 = .ok (.aload_n 0, 1) := by decide +kernel
theorem dX6_enter_70 : decode cX6_enter 70 = .ok (.getfield 15, 3) := by decide +kernel
theorem dX6_enter_73 : decode cX6_enter 73 = .ok (.iconst 0, 1) := by decide +kernel
theorem dX6_enter_74 : decode cX6_enter 74 = .ok (.iaload, 1) := by decide +kernel
theorem dX6_enter_75 : decode cX6_enter 75 = .ok (.putfield 122, 3) := by decide +kernel
theorem dX6_enter_78 : decode cX6_enter 78 = .ok (.goto 69, 3) := by decide +kernel
theorem dX6_enter_81 : decode cX6_enter 81 = .ok (.aload_n 2, 1) := by decide +kernel
theorem dX6_enter_82 : decode cX6_enter 82 = .ok (.aload_n 0, 1) := by decide +kernel
theorem dX6_enter_83 : decode cX6_enter 83 = .ok (.getfield 15, 3) := by decide +kernel
theorem dX6_enter_86 : decode cX6_enter 86 = .ok (.iconst 0, 1) := by decide +kernel
theorem dX6_enter_87 : decode cX6_enter 87 = .ok (.iaload, 1) := by decide +kernel
theorem dX6_enter_88 : decode cX6_enter 88 = .ok (.putfield 125, 3) := by decide +kernel
theorem dX6_enter_91 : decode cX6_enter 91 = .ok (.goto 56, 3) := by decide +kernel
theorem dX6_enter_94 : decode cX6_enter 94 = .ok (.aload_n 2, 1) := by decide +kernel
theorem dX6_enter_95 : decode cX6_enter 95 = .ok (.getfield 60, 3) := by decide +kernel
theorem dX6_enter_98 : decode cX6_enter 98 = .ok (.aload_n 0, 1) := by decide +kernel
theorem dX6_enter_99 : decode cX6_enter 99 = .ok (.getfield 15, 3) := by decide +kernel
theorem dX6_enter_102 : decode cX6_enter 102 = .ok (.iconst 0, 1) := by decide +kernel
theorem dX6_enter_103 : decode cX6_enter 103 = .ok (.iaload, 1) := by decide +kernel
theorem dX6_enter_104 : decode cX6_enter 104 = .ok (.aload_n 0, 1) := by decide +kernel
theorem dX6_enter_105 : decode cX6_enter 105 = .ok (.getfield 15, 3) := by decide +kernel
theorem dX6_enter_108 : decode cX6_enter 108 = .ok (.iconst 1, 1) := by decide +kernel
theorem dX6_enter_109 : decode cX6_enter 109 = .ok (.iaload, 1) := by decide +kernel
theorem dX6_enter_110 : decode cX6_enter 110 = .ok (.aload_n 0, 1) := by decide +kernel
theorem dX6_enter_111 : decode cX6_enter 111 = .ok (.getfield 15, 3) := by decide +kernel
theorem dX6_enter_114 : decode cX6_enter 114 = .ok (.iconst 2, 1) := by decide +kernel
theorem dX6_enter_115 : decode cX6_enter 115 = .ok (.iaload, 1) := by decide +kernel
theorem dX6_enter_116 : decode cX6_enter 116 = .ok (.invokevirtual 128, 3) := by decide +kernel
theorem dX6_enter_119 : decode cX6_enter 119 = .ok (.goto 28, 3) := by decide +kernel
theorem dX6_enter_122 : decode cX6_enter 122 = .ok (.aload_n 2, 1) := by decide +kernel
theorem dX6_enter_123 : decode cX6_enter 123 = .ok (.getfield 75, 3) := by decide +kernel
theorem dX6_enter_126 : decode cX6_enter 126 = .ok (.aload_n 0, 1) := by decide +kernel
theorem dX6_enter_127 : decode cX6_enter 127 = .ok (.aload_n 2, 1) := by decide +kernel
theorem dX6_enter_128 : decode cX6_enter 128 = .ok (.invokevirtual 107, 3) := by decide +kernel
theorem dX6_enter_131 : decode cX6_enter 131 = .ok (.aload_n 0, 1) := by decide +kernel
theorem dX6_enter_132 : decode cX6_enter 132 = .ok (.getfield 15, 3) := by decide +kernel
theorem dX6_enter_135 : decode cX6_enter 135 = .ok (.iconst 2, 1) := by decide +kernel
theorem dX6_enter_136 : decode cX6_enter 136 = .ok (.iaload, 1) := by decide +kernel
theorem dX6_enter_137 : decode cX6_enter 137 = .ok (.aload_n 0, 1) := by decide +kernel
theorem dX6_enter_138 : decode cX6_enter 138 = .ok (.getfield 15, 3) := by decide +kernel
theorem dX6_enter_141 : decode cX6_enter 141 = .ok (.iconst 3, 1) := by decide +kernel
theorem dX6_enter_142 : decode cX6_enter 142 = .ok (.iaload, 1) := by decide +kernel
theorem dX6_enter_143 : decode cX6_enter 143 = .ok (.invokevirtual 132, 3) := by decide +kernel
theorem dX6_enter_146 : decode cX6_enter 146 = .ok (.pop, 1) := by decide +kernel
theorem dX6_enter_147 : decode cX6_enter 147 = .ok (.return_, 1) := by decide +kernel
theorem dX6_readToken_0 : decode cX6_readToken 0 = .ok (.aload_n 0, 1) := by decide +kernel
theorem dX6_readToken_1 : decode cX6_readToken 1 = .ok (.getfield 28, 3) := by decide +kernel
theorem dX6_readToken_4 : decode cX6_readToken 4 = .ok (.aload_n 0, 1) := by decide +kernel
theorem dX6_readToken_5 : decode cX6_readToken 5 = .ok (.getfield 19, 3) := by decide +kernel
theorem dX6_readToken_8 : decode cX6_readToken 8 = .ok (.if_icmp .ge 30, 3) := by decide +kernel
theorem dX6_readToken_11 : decode cX6_readToken 11 = .ok (.aload_n 0, 1) := by decide +kernel
theorem dX6_readToken_12 : decode cX6_readToken 12 = .ok (.getfield 9, 3) := by decide +kernel
theorem dX6_readToken_15 : decode cX6_readToken 15 = .ok (.aload_n 0, 1) := by decide +kernel
theorem dX6_readToken_16 : decode cX6_readToken 16 = .ok (.getfield 28, 3) := by decide +kernel
theorem dX6_readToken_19 : decode cX6_readToken 19 = .ok (.caload, 1) := by decide +kernel
theorem dX6_readToken_20 : decode cX6_readToken 20 = .ok (.bipush 32, 2) := by decide +kernel
theorem dX6_readToken_22 : decode cX6_readToken 22 = .ok (.if_icmp .ne 16, 3) := by decide +kernel
theorem dX6_readToken_25 : decode cX6_readToken 25 = .ok (.aload_n 0, 1) := by decide +kernel
theorem dX6_readToken_26 : decode cX6_readToken 26 = .ok (.dup, 1) := by decide +kernel
theorem dX6_readToken_27 : decode cX6_readToken 27 = .ok (.getfield 28, 3) := by decide +kernel
theorem dX6_readToken_30 : decode cX6_readToken 30 = .ok (.iconst 1, 1) := by decide +kernel
theorem dX6_readToken_31 : decode cX6_readToken 31 = .ok (.iadd, 1) := by decide +kernel
theorem dX6_readToken_32 : decode cX6_readToken 32 = .ok (.putfield 28, 3) := by decide +kernel
theorem dX6_readToken_35 : decode cX6_readToken 35 = .ok (.goto (-35), 3) := by decide +kernel
theorem dX6_readToken_38 : decode cX6_readToken 38 = .ok (.aload_n 0, 1) := by decide +kernel
theorem dX6_readToken_39 : decode cX6_readToken 39 = .ok (.aload_n 0, 1) := by decide +kernel
theorem dX6_readToken_40 : decode cX6_readToken 40 = .ok (.getfield 28, 3) := by decide +kernel
theorem dX6_readToken_43 : decode cX6_readToken 43 = .ok (.putfield 53, 3) := by decide +kernel
theorem dX6_readToken_46 : decode cX6_readToken 46 = .ok (.aload_n 0, 1) := by decide +kernel
theorem dX6_readToken_47 : decode cX6_readToken 47 = .ok (.getfield 28, 3) := by decide +kernel
theorem dX6_readToken_50 : decode cX6_readToken 50 = .ok (.aload_n 0, 1) := by decide +kernel
theorem dX6_readToken_51 : decode cX6_readToken 51 = .ok (.getfield 19, 3) := by decide +kernel
theorem dX6_readToken_54 : decode cX6_readToken 54 = .ok (.if_icmp .lt 11, 3) := by decide +kernel
theorem dX6_readToken_57 : decode cX6_readToken 57 = .ok (.aload_n 0, 1) := by decide +kernel
theorem dX6_readToken_58 : decode cX6_readToken 58 = .ok (.iconst 0, 1) := by decide +kernel
theorem dX6_readToken_59 : decode cX6_readToken 59 = .ok (.putfield 34, 3) := by decide +kernel
theorem dX6_readToken_62 : decode cX6_readToken 62 = .ok (.goto 117, 3) := by decide +kernel
theorem dX6_readToken_65 : decode cX6_readToken 65 = .ok (.aload_n 0, 1) := by decide +kernel
theorem dX6_readToken_66 : decode cX6_readToken 66 = .ok (.getfield 9, 3) := by decide +kernel
theorem dX6_readToken_69 : decode cX6_readToken 69 = .ok (.aload_n 0, 1) := by decide +kernel
theorem dX6_readToken_70 : decode cX6_readToken 70 = .ok (.getfield 28, 3) := by decide +kernel
theorem dX6_readToken_73 : decode cX6_readToken 73 = .ok (.caload, 1) := by decide +kernel
theorem dX6_readToken_74 : decode cX6_readToken 74 = .ok (.invokestatic 136, 3) := by decide +kernel
theorem dX6_readToken_77 : decode cX6_readToken 77 = .ok (.ifCond .eq 47, 3) := by decide +kernel
theorem dX6_readToken_80 : decode cX6_readToken 80 = .ok (.aload_n 0, 1) := by decide +kernel
theorem dX6_readToken_81 : decode cX6_readToken 81 = .ok (.iconst 1, 1) := by decide +kernel
theorem dX6_readToken_82 : decode cX6_readToken 82 = .ok (.putfield 34, 3) := by decide +kernel
theorem dX6_readToken_85 : decode cX6_readToken 85 = .ok (.aload_n 0, 1) := by decide +kernel
theorem dX6_readToken_86 : decode cX6_readToken 86 = .ok (.getfield 28, 3) := by decide +kernel
theorem dX6_readToken_89 : decode cX6_readToken 89 = .ok (.aload_n 0, 1) := by decide +kernel
theorem dX6_readToken_90 : decode cX6_readToken 90 = .ok (.getfield 19, 3) := by decide +kernel
theorem dX6_readToken_93 : decode cX6_readToken 93 = .ok (.if_icmp .ge 86, 3) := by decide +kernel
theorem dX6_readToken_96 : decode cX6_readToken 96 = .ok (.aload_n 0, 1) := by decide +kernel
theorem dX6_readToken_97 : decode cX6_readToken 97 = .ok (.getfield 9, 3) := by decide +kernel
theorem dX6_readToken_100 : decode cX6_readToken 100 = .ok (.aload_n 0, 1) := by decide +kernel
theorem dX6_readToken_101 : decode cX6_readToken 101 = .ok (.getfield 28, 3) := by decide +kernel
theorem dX6_readToken_104 : decode cX6_readToken 104 = .ok (.caload, 1) := by decide +kernel
theorem dX6_readToken_105 : decode cX6_readToken 105 = .ok (.invokestatic 136, 3) := by decide +kernel
theorem dX6_readToken_108 : decode cX6_readToken 108 = .ok (.ifCond .eq 71, 3) := by decide +kernel
theorem dX6_readToken_111 : decode cX6_readToken 111 = .ok (.aload_n 0, 1) := by decide +kernel
theorem dX6_readToken_112 : decode cX6_readToken 112 = .ok (.dup, 1) := by decide +kernel
theorem dX6_readToken_113 : decode cX6_readToken 113 = .ok (.getfield 28, 3) := by decide +kernel
theorem dX6_readToken_116 : decode cX6_readToken 116 = .ok (.iconst 1, 1) := by decide +kernel
theorem dX6_readToken_117 : decode cX6_readToken 117 = .ok (.iadd, 1) := by decide +kernel
theorem dX6_readToken_118 : decode cX6_readToken 118 = .ok (.putfield 28, 3) := by decide +kernel
theorem dX6_readToken_121 : decode cX6_readToken 121 = .ok (.goto (-36), 3) := by decide +kernel
theorem dX6_readToken_124 : decode cX6_readToken 124 = .ok (.aload_n 0, 1) := by decide +kernel
theorem dX6_readToken_125 : decode cX6_readToken 125 = .ok (.getfield 9, 3) := by decide +kernel
theorem dX6_readToken_128 : decode cX6_readToken 128 = .ok (.aload_n 0, 1) := by decide +kernel
theorem dX6_readToken_129 : decode cX6_readToken 129 = .ok (.getfield 28, 3) := by decide +kernel
theorem dX6_readToken_132 : decode cX6_readToken 132 = .ok (.caload, 1) := by decide +kernel
theorem dX6_readToken_133 : decode cX6_readToken 133 = .ok (.invokestatic 140, 3) := by decide +kernel
theorem dX6_readToken_136 : decode cX6_readToken 136 = .ok (.ifCond .eq 10, 3) := by decide +kernel
theorem dX6_readToken_139 : decode cX6_readToken 139 = .ok (.aload_n 0, 1) := by decide +kernel
theorem dX6_readToken_140 : decode cX6_readToken 140 = .ok (.invokevirtual 143, 3) := by decide +kernel
theorem dX6_readToken_143 : decode cX6_readToken 143 = .ok (.goto 36, 3) := by decide +kernel
theorem dX6_readToken_146 : decode cX6_readToken 146 = .ok (.aload_n 0, 1) := by decide +kernel
theorem dX6_readToken_147 : decode cX6_readToken 147 = .ok (.aload_n 0, 1) := by decide +kernel
theorem dX6_readToken_148 : decode cX6_readToken 148 = .ok (.getfield 9, 3) := by decide +kernel
theorem dX6_readToken_151 : decode cX6_readToken 151 = .ok (.aload_n 0, 1) := by decide +kernel
theorem dX6_readToken_152 : decode cX6_readToken 152 = .ok (.getfield 28, 3) := by decide +kernel
theorem dX6_readToken_155 : decode cX6_readToken 155 = .ok (.caload, 1) := by decide +kernel
theorem dX6_readToken_156 : decode cX6_readToken 156 = .ok (.bipush 59, 2) := by decide +kernel
theorem dX6_readToken_158 : decode cX6_readToken 158 = .ok (.if_icmp .ne 7, 3) := by decide +kernel
theorem dX6_readToken_161 : decode cX6_readToken 161 = .ok (.iconst 3, 1) := by decide +kernel
theorem dX6_readToken_162 : decode cX6_readToken 162 = .ok (.goto 4, 3) := by decide +kernel
theorem dX6_readToken_165 : decode cX6_readToken 165 = .ok (.iconst 4, 1) := by decide +kernel
theorem dX6_readToken_166 : decode cX6_readToken 166 = .ok (.putfield 34, 3) := by decide +kernel
theorem dX6_readToken_169 : decode cX6_readToken 169 = .ok (.aload_n 0, 1) := by decide +kernel
theorem dX6_readToken_170 : decode cX6_readToken 170 = .ok (.dup, 1) := by decide +kernel
theorem dX6_readToken_171 : decode cX6_readToken 171 = .ok (.getfield 28, 3) := by decide +kernel
theorem dX6_readToken_174 : decode cX6_readToken 174 = .ok (.iconst 1, 1) := by decide +kernel
theorem dX6_readToken_175 : decode cX6_readToken 175 = .ok (.iadd, 1) := by decide +kernel
theorem dX6_readToken_176 : decode cX6_readToken 176 = .ok (.putfield 28, 3) := by decide +kernel
theorem dX6_readToken_179 : decode cX6_readToken 179 = .ok (.return_, 1) := by decide +kernel
theorem dX6_readNumber_0 : decode cX6_readNumber 0 = .ok (.aload_n 0, 1) := by decide +kernel
theorem dX6_readNumber_1 : decode cX6_readNumber 1 = .ok (.iconst 2, 1) := by decide +kernel
theorem dX6_readNumber_2 : decode cX6_readNumber 2 = .ok (.putfield 34, 3) := by decide +kernel
theorem dX6_readNumber_5 : decode cX6_readNumber 5 = .ok (.aload_n 0, 1) := by decide +kernel
theorem dX6_readNumber_6 : decode cX6_readNumber 6 = .ok (.iconst 0, 1) := by decide +kernel
theorem dX6_readNumber_7 : decode cX6_readNumber 7 = .ok (.putfield 87, 3) := by decide +kernel
theorem dX6_readNumber_10 : decode cX6_readNumber 10 = .ok (.aload_n 0, 1) := by decide +kernel
theorem dX6_readNumber_11 : decode cX6_readNumber 11 = .ok (.getfield 28, 3) := by decide +kernel
theorem dX6_readNumber_14 : decode cX6_readNumber 14 = .ok (.aload_n 0, 1) := by decide +kernel
theorem dX6_readNumber_15 : decode cX6_readNumber 15 = .ok (.getfield 19, 3) := by decide +kernel
theorem dX6_readNumber_18 : decode cX6_readNumber 18 = .ok (.if_icmp .ge 68, 3) := by decide +kernel
theorem dX6_readNumber_21 : decode cX6_readNumber 21 = .ok (.aload_n 0, 1) := by decide +kernel
theorem dX6_readNumber_22 : decode cX6_readNumber 22 = .ok (.getfield 9, 3) := by decide +kernel
theorem dX6_readNumber_25 : decode cX6_readNumber 25 = .ok (.aload_n 0, 1) := by decide +kernel
theorem dX6_readNumber_26 : decode cX6_readNumber 26 = .ok (.getfield 28, 3) := by decide +kernel
theorem dX6_readNumber_29 : decode cX6_readNumber 29 = .ok (.caload, 1) := by decide +kernel
theorem dX6_readNumber_30 : decode cX6_readNumber 30 = .ok (.invokestatic 140, 3) := by decide +kernel
theorem dX6_readNumber_33 : decode cX6_readNumber 33 = .ok (.ifCond .eq 53, 3) := by decide +kernel
theorem dX6_readNumber_36 : decode cX6_readNumber 36 = .ok (.aload_n 0, 1) := by decide +kernel
theorem dX6_readNumber_37 : decode cX6_readNumber 37 = .ok (.getfield 28, 3) := by decide +kernel
theorem dX6_readNumber_40 : decode cX6_readNumber 40 = .ok (.aload_n 0, 1) := by decide +kernel
theorem dX6_readNumber_41 : decode cX6_readNumber 41 = .ok (.getfield 53, 3) := by decide +kernel
theorem dX6_readNumber_44 : decode cX6_readNumber 44 = .ok (.isub, 1) := by decide +kernel
theorem dX6_readNumber_45 : decode cX6_readNumber 45 = .ok (.iconst 4, 1) := by decide +kernel
theorem dX6_readNumber_46 : decode cX6_readNumber 46 = .ok (.if_icmp .ge 27, 3) := by decide +kernel
theorem dX6_readNumber_49 : decode cX6_readNumber 49 = .ok (.aload_n 0, 1) := by decide +kernel
theorem dX6_readNumber_50 : decode cX6_readNumber 50 = .ok (.aload_n 0, 1) := by decide +kernel
theorem dX6_readNumber_51 : decode cX6_readNumber 51 = .ok (.getfield 87, 3) := by decide +kernel
theorem dX6_readNumber_54 : decode cX6_readNumber 54 = .ok (.bipush 10, 2) := by decide +kernel
theorem dX6_readNumber_56 : decode cX6_readNumber 56 = .ok (.imul, 1) := by decide +kernel
theorem dX6_readNumber_57 : decode cX6_readNumber 57 = .ok (.aload_n 0, 1) := by decide +kernel
theorem dX6_readNumber_58 : decode cX6_readNumber 58 = .ok (.getfield 9, 3) := by decide +kernel
theorem dX6_readNumber_61 : decode cX6_readNumber 61 = .ok (.aload_n 0, 1) := by decide +kernel
theorem dX6_readNumber_62 : decode cX6_readNumber 62 = .ok (.getfield 28, 3) := by decide +kernel
theorem dX6_readNumber_65 : decode cX6_readNumber 65 = .ok (.caload, 1) := by decide +kernel
theorem dX6_readNumber_66 : decode cX6_readNumber 66 = .ok (.bipush 48, 2) := by decide +kernel
theorem dX6_readNumber_68 : decode cX6_readNumber 68 = .ok (.isub, 1) := by decide +kernel
theorem dX6_readNumber_69 : decode cX6_readNumber 69 = .ok (.iadd, 1) := by decide +kernel
theorem dX6_readNumber_70 : decode cX6_readNumber 70 = .ok (.putfield 87, 3) := by decide +kernel
theorem dX6_readNumber_73 : decode cX6_readNumber 73 = .ok (.aload_n 0, 1) := by decide +kernel
theorem dX6_readNumber_74 : decode cX6_readNumber 74 = .ok (.dup, 1) := by decide +kernel
theorem dX6_readNumber_75 : decode cX6_readNumber 75 = .ok (.getfield 28, 3) := by decide +kernel
theorem dX6_readNumber_78 : decode cX6_readNumber 78 = .ok (.iconst 1, 1) := by decide +kernel
theorem dX6_readNumber_79 : decode cX6_readNumber 79 = .ok (.iadd, 1) := by decide +kernel
theorem dX6_readNumber_80 : decode cX6_readNumber 80 = .ok (.putfield 28, 3) := by decide +kernel
theorem dX6_readNumber_83 : decode cX6_readNumber 83 = .ok (.goto (-73), 3) := by decide +kernel
theorem dX6_readNumber_86 : decode cX6_readNumber 86 = .ok (.aload_n 0, 1) := by decide +kernel
theorem dX6_readNumber_87 : decode cX6_readNumber 87 = .ok (.getfield 28, 3) := by decide +kernel
theorem dX6_readNumber_90 : decode cX6_readNumber 90 = .ok (.aload_n 0, 1) := by decide +kernel
theorem dX6_readNumber_91 : decode cX6_readNumber 91 = .ok (.getfield 53, 3) := by decide +kernel
theorem dX6_readNumber_94 : decode cX6_readNumber 94 = .ok (.isub, 1) := by decide +kernel
theorem dX6_readNumber_95 : decode cX6_readNumber 95 = .ok (.istore_n 1, 1) := by decide +kernel
theorem dX6_readNumber_96 : decode cX6_readNumber 96 = .ok (.iload_n 1, 1) := by decide +kernel
theorem dX6_readNumber_97 : decode cX6_readNumber 97 = .ok (.iconst 4, 1) := by decide +kernel
theorem dX6_readNumber_98 : decode cX6_readNumber 98 = .ok (.if_icmp .gt 22, 3) := by decide +kernel
theorem dX6_readNumber_101 : decode cX6_readNumber 101 = .ok (.iload_n 1, 1) := by decide +kernel
theorem dX6_readNumber_102 : decode cX6_readNumber 102 = .ok (.iconst 1, 1) := by decide +kernel
theorem dX6_readNumber_103 : decode cX6_readNumber 103 = .ok (.if_icmp .le 22, 3) := by decide +kernel
theorem dX6_readNumber_106 : decode cX6_readNumber 106 = .ok (.aload_n 0, 1) := by decide +kernel
theorem dX6_readNumber_107 : decode cX6_readNumber 107 = .ok (.getfield 9, 3) := by decide +kernel
theorem dX6_readNumber_110 : decode cX6_readNumber 110 = .ok (.aload_n 0, 1) := by decide +kernel
theorem dX6_readNumber_111 : decode cX6_readNumber 111 = .ok (.getfield 53, 3) := by decide +kernel
theorem dX6_readNumber_114 : decode cX6_readNumber 114 = .ok (.caload, 1) := by decide +kernel
theorem dX6_readNumber_115 : decode cX6_readNumber 115 = .ok (.bipush 48, 2) := by decide +kernel
theorem dX6_readNumber_117 : decode cX6_readNumber 117 = .ok (.if_icmp .ne 8, 3) := by decide +kernel
theorem dX6_readNumber_120 : decode cX6_readNumber 120 = .ok (.aload_n 0, 1) := by decide +kernel
theorem dX6_readNumber_121 : decode cX6_readNumber 121 = .ok (.iconst (-1), 1) := by decide +kernel
theorem dX6_readNumber_122 : decode cX6_readNumber 122 = .ok (.putfield 87, 3) := by decide +kernel
theorem dX6_readNumber_125 : decode cX6_readNumber 125 = .ok (.return_, 1) := by decide +kernel
theorem dX6_isLetter_0 : decode cX6_isLetter 0 = .ok (.iload_n 0, 1) := by decide +kernel
theorem dX6_isLetter_1 : decode cX6_isLetter 1 = .ok (.bipush 97, 2) := by decide +kernel
theorem dX6_isLetter_3 : decode cX6_isLetter 3 = .ok (.if_icmp .lt 13, 3) := by decide +kernel
theorem dX6_isLetter_6 : decode cX6_isLetter 6 = .ok (.iload_n 0, 1) := by decide +kernel
theorem dX6_isLetter_7 : decode cX6_isLetter 7 = .ok (.bipush 122, 2) := by decide +kernel
theorem dX6_isLetter_9 : decode cX6_isLetter 9 = .ok (.if_icmp .gt 7, 3) := by decide +kernel
theorem dX6_isLetter_12 : decode cX6_isLetter 12 = .ok (.iconst 1, 1) := by decide +kernel
theorem dX6_isLetter_13 : decode cX6_isLetter 13 = .ok (.goto 4, 3) := by decide +kernel
theorem dX6_isLetter_16 : decode cX6_isLetter 16 = .ok (.iconst 0, 1) := by decide +kernel
theorem dX6_isLetter_17 : decode cX6_isLetter 17 = .ok (.ireturn, 1) := by decide +kernel
theorem dX6_isDigit_0 : decode cX6_isDigit 0 = .ok (.iload_n 0, 1) := by decide +kernel
theorem dX6_isDigit_1 : decode cX6_isDigit 1 = .ok (.bipush 48, 2) := by decide +kernel
theorem dX6_isDigit_3 : decode cX6_isDigit 3 = .ok (.if_icmp .lt 13, 3) := by decide +kernel
theorem dX6_isDigit_6 : decode cX6_isDigit 6 = .ok (.iload_n 0, 1) := by decide +kernel
theorem dX6_isDigit_7 : decode cX6_isDigit 7 = .ok (.bipush 57, 2) := by decide +kernel
theorem dX6_isDigit_9 : decode cX6_isDigit 9 = .ok (.if_icmp .gt 7, 3) := by decide +kernel
theorem dX6_isDigit_12 : decode cX6_isDigit 12 = .ok (.iconst 1, 1) := by decide +kernel
theorem dX6_isDigit_13 : decode cX6_isDigit 13 = .ok (.goto 4, 3) := by decide +kernel
theorem dX6_isDigit_16 : decode cX6_isDigit 16 = .ok (.iconst 0, 1) := by decide +kernel
theorem dX6_isDigit_17 : decode cX6_isDigit 17 = .ok (.ireturn, 1) := by decide +kernel
theorem dX6_kindOfItem_0 : decode cX6_kindOfItem 0 = .ok (.aload_n 0, 1) := by decide +kernel
theorem dX6_kindOfItem_1 : decode cX6_kindOfItem 1 = .ok (.ldc 146, 2) := by decide +kernel
theorem dX6_kindOfItem_3 : decode cX6_kindOfItem 3 = .ok (.invokevirtual 148, 3) := by decide +kernel
theorem dX6_kindOfItem_6 : decode cX6_kindOfItem 6 = .ok (.ifCond .eq 5, 3) := by decide +kernel
theorem dX6_kindOfItem_9 : decode cX6_kindOfItem 9 = .ok (.iconst 0, 1) := by decide +kernel
theorem dX6_kindOfItem_10 : decode cX6_kindOfItem 10 = .ok (.ireturn, 1) := by decide +kernel
theorem dX6_kindOfItem_11 : decode cX6_kindOfItem 11 = .ok (.aload_n 0, 1) := by decide +kernel
theorem dX6_kindOfItem_12 : decode cX6_kindOfItem 12 = .ok (.ldc 152, 2) := by decide +kernel
theorem dX6_kindOfItem_14 : decode cX6_kindOfItem 14 = .ok (.invokevirtual 148, 3) := by decide +kernel
theorem dX6_kindOfItem_17 : decode cX6_kindOfItem 17 = .ok (.ifCond .eq 5, 3) := by decide +kernel
theorem dX6_kindOfItem_20 : decode cX6_kindOfItem 20 = .ok (.iconst 1, 1) := by decide +kernel
theorem dX6_kindOfItem_21 : decode cX6_kindOfItem 21 = .ok (.ireturn, 1) := by decide +kernel
theorem dX6_kindOfItem_22 : decode cX6_kindOfItem 22 = .ok (.aload_n 0, 1) := by decide +kernel
theorem dX6_kindOfItem_23 : decode cX6_kindOfItem 23 = .ok (.ldc 153, 2) := by decide +kernel
theorem dX6_kindOfItem_25 : decode cX6_kindOfItem 25 = .ok (.invokevirtual 148, 3) := by decide +kernel
theorem dX6_kindOfItem_28 : decode cX6_kindOfItem 28 = .ok (.ifCond .eq 5, 3) := by decide +kernel
theorem dX6_kindOfItem_31 : decode cX6_kindOfItem 31 = .ok (.iconst 2, 1) := by decide +kernel
theorem dX6_kindOfItem_32 : decode cX6_kindOfItem 32 = .ok (.ireturn, 1) := by decide +kernel
theorem dX6_kindOfItem_33 : decode cX6_kindOfItem 33 = .ok (.aload_n 0, 1) := by decide +kernel
theorem dX6_kindOfItem_34 : decode cX6_kindOfItem 34 = .ok (.ldc 154, 2) := by decide +kernel
theorem dX6_kindOfItem_36 : decode cX6_kindOfItem 36 = .ok (.invokevirtual 148, 3) := by decide +kernel
theorem dX6_kindOfItem_39 : decode cX6_kindOfItem 39 = .ok (.ifCond .eq 5, 3) := by decide +kernel
theorem dX6_kindOfItem_42 : decode cX6_kindOfItem 42 = .ok (.iconst 3, 1) := by decide +kernel
theorem dX6_kindOfItem_43 : decode cX6_kindOfItem 43 = .ok (.ireturn, 1) := by decide +kernel
theorem dX6_kindOfItem_44 : decode cX6_kindOfItem 44 = .ok (.aload_n 0, 1) := by decide +kernel
theorem dX6_kindOfItem_45 : decode cX6_kindOfItem 45 = .ok (.ldc 156, 2) := by decide +kernel
theorem dX6_kindOfItem_47 : decode cX6_kindOfItem 47 = .ok (.invokevirtual 148, 3) := by decide +kernel
theorem dX6_kindOfItem_50 : decode cX6_kindOfItem 50 = .ok (.ifCond .eq 5, 3) := by decide +kernel
theorem dX6_kindOfItem_53 : decode cX6_kindOfItem 53 = .ok (.iconst 4, 1) := by decide +kernel
theorem dX6_kindOfItem_54 : decode cX6_kindOfItem 54 = .ok (.ireturn, 1) := by decide +kernel
theorem dX6_kindOfItem_55 : decode cX6_kindOfItem 55 = .ok (.aload_n 0, 1) := by decide +kernel
theorem dX6_kindOfItem_56 : decode cX6_kindOfItem 56 = .ok (.ldc 158, 2) := by decide +kernel
theorem dX6_kindOfItem_58 : decode cX6_kindOfItem 58 = .ok (.invokevirtual 148, 3) := by decide +kernel
theorem dX6_kindOfItem_61 : decode cX6_kindOfItem 61 = .ok (.ifCond .eq 7, 3) := by decide +kernel
theorem dX6_kindOfItem_64 : decode cX6_kindOfItem 64 = .ok (.iconst 5, 1) := by decide +kernel
theorem dX6_kindOfItem_65 : decode cX6_kindOfItem 65 = .ok (.goto 4, 3) := by decide +kernel
theorem dX6_kindOfItem_68 : decode cX6_kindOfItem 68 = .ok (.iconst (-1), 1) := by decide +kernel
theorem dX6_kindOfItem_69 : decode cX6_kindOfItem 69 = .ok (.ireturn, 1) := by decide +kernel
theorem dX6_isWord_0 : decode cX6_isWord 0 = .ok (.aload_n 0, 1) := by decide +kernel
theorem dX6_isWord_1 : decode cX6_isWord 1 = .ok (.getfield 34, 3) := by decide +kernel
theorem dX6_isWord_4 : decode cX6_isWord 4 = .ok (.iconst 1, 1) := by decide +kernel
theorem dX6_isWord_5 : decode cX6_isWord 5 = .ok (.if_icmp .ne 19, 3) := by decide +kernel
theorem dX6_isWord_8 : decode cX6_isWord 8 = .ok (.aload_n 0, 1) := by decide +kernel
theorem dX6_isWord_9 : decode cX6_isWord 9 = .ok (.getfield 28, 3) := by decide +kernel
theorem dX6_isWord_12 : decode cX6_isWord 12 = .ok (.aload_n 0, 1) := by decide +kernel
theorem dX6_isWord_13 : decode cX6_isWord 13 = .ok (.getfield 53, 3) := by decide +kernel
theorem dX6_isWord_16 : decode cX6_isWord 16 = .ok (.isub, 1) := by decide +kernel
theorem dX6_isWord_17 : decode cX6_isWord 17 = .ok (.aload_n 1, 1) := by decide +kernel
theorem dX6_isWord_18 : decode cX6_isWord 18 = .ok (.invokevirtual 160, 3) := by decide +kernel
theorem dX6_isWord_21 : decode cX6_isWord 21 = .ok (.if_icmp .eq 5, 3) := by decide +kernel
theorem dX6_isWord_24 : decode cX6_isWord 24 = .ok (.iconst 0, 1) := by decide +kernel
theorem dX6_isWord_25 : decode cX6_isWord 25 = .ok (.ireturn, 1) := by decide +kernel
theorem dX6_isWord_26 : decode cX6_isWord 26 = .ok (.iconst 0, 1) := by decide +kernel
theorem dX6_isWord_27 : decode cX6_isWord 27 = .ok (.istore_n 2, 1) := by decide +kernel
theorem dX6_isWord_28 : decode cX6_isWord 28 = .ok (.iload_n 2, 1) := by decide +kernel
theorem dX6_isWord_29 : decode cX6_isWord 29 = .ok (.aload_n 1, 1) := by decide +kernel
theorem dX6_isWord_30 : decode cX6_isWord 30 = .ok (.invokevirtual 160, 3) := by decide +kernel
theorem dX6_isWord_33 : decode cX6_isWord 33 = .ok (.if_icmp .ge 30, 3) := by decide +kernel
theorem dX6_isWord_36 : decode cX6_isWord 36 = .ok (.aload_n 0, 1) := by decide +kernel
theorem dX6_isWord_37 : decode cX6_isWord 37 = .ok (.getfield 9, 3) := by decide +kernel
theorem dX6_isWord_40 : decode cX6_isWord 40 = .ok (.aload_n 0, 1) := by decide +kernel
theorem dX6_isWord_41 : decode cX6_isWord 41 = .ok (.getfield 53, 3) := by decide +kernel
theorem dX6_isWord_44 : decode cX6_isWord 44 = .ok (.iload_n 2, 1) := by decide +kernel
theorem dX6_isWord_45 : decode cX6_isWord 45 = .ok (.iadd, 1) := by decide +kernel
theorem dX6_isWord_46 : decode cX6_isWord 46 = .ok (.caload, 1) := by decide +kernel
theorem dX6_isWord_47 : decode cX6_isWord 47 = .ok (.aload_n 1, 1) := by decide +kernel
theorem dX6_isWord_48 : decode cX6_isWord 48 = .ok (.iload_n 2, 1) := by decide +kernel
theorem dX6_isWord_49 : decode cX6_isWord 49 = .ok (.invokevirtual 164, 3) := by decide +kernel
theorem dX6_isWord_52 : decode cX6_isWord 52 = .ok (.if_icmp .eq 5, 3) := by decide +kernel
theorem dX6_isWord_55 : decode cX6_isWord 55 = .ok (.iconst 0, 1) := by decide +kernel
theorem dX6_isWord_56 : decode cX6_isWord 56 = .ok (.ireturn, 1) := by decide +kernel
theorem dX6_isWord_57 : decode cX6_isWord 57 = .ok (.iinc 2 1, 3) := by decide +kernel
theorem dX6_isWord_60 : decode cX6_isWord 60 = .ok (.goto (-32), 3) := by decide +kernel
theorem dX6_isWord_63 : decode cX6_isWord 63 = .ok (.iconst 1, 1) := by decide +kernel
theorem dX6_isWord_64 : decode cX6_isWord 64 = .ok (.ireturn, 1) := by decide +kernel
theorem dX8_init_0 : decode cX8_init 0 = .ok (.aload_n 0, 1) := by decide +kernel
theorem dX8_init_1 : decode cX8_init 1 = .ok (.invokespecial 3, 3) := by decide +kernel
theorem dX8_init_4 : decode cX8_init 4 = .ok (.aload_n 0, 1) := by decide +kernel
theorem dX8_init_5 : decode cX8_init 5 = .ok (.new 9, 3) := by decide +kernel
theorem dX8_init_8 : decode cX8_init 8 = .ok (.dup, 1) := by decide +kernel
theorem dX8_init_9 : decode cX8_init 9 = .ok (.invokespecial 11, 3) := by decide +kernel
theorem dX8_init_12 : decode cX8_init 12 = .ok (.putfield 12, 3) := by decide +kernel
theorem dX8_init_15 : decode cX8_init 15 = .ok (.aload_n 0, 1) := by decide +kernel
theorem dX8_init_16 : decode cX8_init 16 = .ok (.aload_n 0, 1) := by decide +kernel
theorem dX8_init_17 : decode cX8_init 17 = .ok (.getfield 12, 3) := by decide +kernel
theorem dX8_init_20 : decode cX8_init 20 = .ok (.getfield 16, 3) := by decide +kernel
theorem dX8_init_23 : decode cX8_init 23 = .ok (.putfield 20, 3) := by decide +kernel
theorem dX8_init_26 : decode cX8_init 26 = .ok (.aload_n 0, 1) := by decide +kernel
theorem dX8_init_27 : decode cX8_init 27 = .ok (.new 21, 3) := by decide +kernel
theorem dX8_init_30 : decode cX8_init 30 = .ok (.dup, 1) := by decide +kernel
theorem dX8_init_31 : decode cX8_init 31 = .ok (.invokespecial 23, 3) := by decide +kernel
theorem dX8_init_34 : decode cX8_init 34 = .ok (.putfield 24, 3) := by decide +kernel
theorem dX8_init_37 : decode cX8_init 37 = .ok (.aload_n 0, 1) := by decide +kernel
theorem dX8_init_38 : decode cX8_init 38 = .ok (.new 27, 3) := by decide +kernel
theorem dX8_init_41 : decode cX8_init 41 = .ok (.dup, 1) := by decide +kernel
theorem dX8_init_42 : decode cX8_init 42 = .ok (.invokespecial 29, 3) := by decide +kernel
theorem dX8_init_45 : decode cX8_init 45 = .ok (.putfield 30, 3) := by decide +kernel
theorem dX8_init_48 : decode cX8_init 48 = .ok (.aload_n 0, 1) := by decide +kernel
theorem dX8_init_49 : decode cX8_init 49 = .ok (.new 34, 3) := by decide +kernel
theorem dX8_init_52 : decode cX8_init 52 = .ok (.dup, 1) := by decide +kernel
theorem dX8_init_53 : decode cX8_init 53 = .ok (.invokespecial 36, 3) := by decide +kernel
theorem dX8_init_56 : decode cX8_init 56 = .ok (.putfield 37, 3) := by decide +kernel
theorem dX8_init_59 : decode cX8_init 59 = .ok (.aload_n 0, 1) := by decide +kernel
theorem dX8_init_60 : decode cX8_init 60 = .ok (.new 41, 3) := by decide +kernel
theorem dX8_init_63 : decode cX8_init 63 = .ok (.dup, 1) := by decide +kernel
theorem dX8_init_64 : decode cX8_init 64 = .ok (.bipush 12, 2) := by decide +kernel
theorem dX8_init_66 : decode cX8_init 66 = .ok (.invokespecial 43, 3) := by decide +kernel
theorem dX8_init_69 : decode cX8_init 69 = .ok (.putfield 46, 3) := by decide +kernel
theorem dX8_init_72 : decode cX8_init 72 = .ok (.aload_n 0, 1) := by decide +kernel
theorem dX8_init_73 : decode cX8_init 73 = .ok (.new 50, 3) := by decide +kernel
theorem dX8_init_76 : decode cX8_init 76 = .ok (.dup, 1) := by decide +kernel
theorem dX8_init_77 : decode cX8_init 77 = .ok (.invokespecial 52, 3) := by decide +kernel
theorem dX8_init_80 : decode cX8_init 80 = .ok (.putfield 53, 3) := by decide +kernel
theorem dX8_init_83 : decode cX8_init 83 = .ok (.aload_n 0, 1) := by decide +kernel
theorem dX8_init_84 : decode cX8_init 84 = .ok (.iconst 0, 1) := by decide +kernel
theorem dX8_init_85 : decode cX8_init 85 = .ok (.putfield 57, 3) := by decide +kernel
theorem dX8_init_88 : decode cX8_init 88 = .ok (.return_, 1) := by decide +kernel
theorem dX8_appendCharacter_0 : decode cX8_appendCharacter 0 = .ok (.iload_n 1, 1) := by decide +kernel
theorem dX8_appendCharacter_1 : decode cX8_appendCharacter 1 = .ok (.iconst 0, 1) := by decide +kernel
theorem dX8_appendCharacter_2 : decode cX8_appendCharacter 2 = .ok (.sipush 255, 3) := by decide +kernel
theorem dX8_appendCharacter_5 : decode cX8_appendCharacter 5 = .ok (.invokestatic 61, 3) := by decide +kernel
theorem dX8_appendCharacter_8 : decode cX8_appendCharacter 8 = .ok (.ifCond .ne 6, 3) := by decide +kernel
theorem dX8_appendCharacter_11 : decode cX8_appendCharacter 11 = .ok (.ldc 65, 2) := by decide +kernel
theorem dX8_appendCharacter_13 : decode cX8_appendCharacter 13 = .ok (.ireturn, 1) := by decide +kernel
theorem dX8_appendCharacter_14 : decode cX8_appendCharacter 14 = .ok (.aload_n 0, 1) := by decide +kernel
theorem dX8_appendCharacter_15 : decode cX8_appendCharacter 15 = .ok (.getfield 37, 3) := by decide +kernel
theorem dX8_appendCharacter_18 : decode cX8_appendCharacter 18 = .ok (.getfield 66, 3) := by decide +kernel
theorem dX8_appendCharacter_21 : decode cX8_appendCharacter 21 = .ok (.sipush 200, 3) := by decide +kernel
theorem dX8_appendCharacter_24 : decode cX8_appendCharacter 24 = .ok (.if_icmp .lt 6, 3) := by decide +kernel
theorem dX8_appendCharacter_27 : decode cX8_appendCharacter 27 = .ok (.ldc 69, 2) := by decide +kernel
theorem dX8_appendCharacter_29 : decode cX8_appendCharacter 29 = .ok (.ireturn, 1) := by decide +kernel
theorem dX8_appendCharacter_30 : decode cX8_appendCharacter 30 = .ok (.aload_n 0, 1) := by decide +kernel
theorem dX8_appendCharacter_31 : decode cX8_appendCharacter 31 = .ok (.getfield 37, 3) := by decide +kernel
theorem dX8_appendCharacter_34 : decode cX8_appendCharacter 34 = .ok (.iload_n 1, 1) := by decide +kernel
theorem dX8_appendCharacter_35 : decode cX8_appendCharacter 35 = .ok (.i2c, 1) := by decide +kernel
theorem dX8_appendCharacter_36 : decode cX8_appendCharacter 36 = .ok (.invokevirtual 70, 3) := by decide +kernel
theorem dX8_appendCharacter_39 : decode cX8_appendCharacter 39 = .ok (.aload_n 0, 1) := by decide +kernel
theorem dX8_appendCharacter_40 : decode cX8_appendCharacter 40 = .ok (.getfield 37, 3) := by decide +kernel
theorem dX8_appendCharacter_43 : decode cX8_appendCharacter 43 = .ok (.getfield 66, 3) := by decide +kernel
theorem dX8_appendCharacter_46 : decode cX8_appendCharacter 46 = .ok (.ireturn, 1) := by decide +kernel
theorem dX8_clearText_0 : decode cX8_clearText 0 = .ok (.aload_n 0, 1) := by decide +kernel
theorem dX8_clearText_1 : decode cX8_clearText 1 = .ok (.getfield 37, 3) := by decide +kernel
theorem dX8_clearText_4 : decode cX8_clearText 4 = .ok (.getfield 66, 3) := by decide +kernel
theorem dX8_clearText_7 : decode cX8_clearText 7 = .ok (.istore_n 1, 1) := by decide +kernel
theorem dX8_clearText_8 : decode cX8_clearText 8 = .ok (.aload_n 0, 1) := by decide +kernel
theorem dX8_clearText_9 : decode cX8_clearText 9 = .ok (.getfield 37, 3) := by decide +kernel
theorem dX8_clearText_12 : decode cX8_clearText 12 = .ok (.iconst 0, 1) := by decide +kernel
theorem dX8_clearText_13 : decode cX8_clearText 13 = .ok (.putfield 66, 3) := by decide +kernel
theorem dX8_clearText_16 : decode cX8_clearText 16 = .ok (.iload_n 1, 1) := by decide +kernel
theorem dX8_clearText_17 : decode cX8_clearText 17 = .ok (.ireturn, 1) := by decide +kernel
theorem dX8_load_0 : decode cX8_load 0 = .ok (.aload_n 0, 1) := by decide +kernel
theorem dX8_load_1 : decode cX8_load 1 = .ok (.getfield 37, 3) := by decide +kernel
theorem dX8_load_4 : decode cX8_load 4 = .ok (.aload_n 0, 1) := by decide +kernel
theorem dX8_load_5 : decode cX8_load 5 = .ok (.getfield 24, 3) := by decide +kernel
theorem dX8_load_8 : decode cX8_load 8 = .ok (.invokevirtual 74, 3) := by decide +kernel
theorem dX8_load_11 : decode cX8_load 11 = .ok (.istore_n 1, 1) := by decide +kernel
theorem dX8_load_12 : decode cX8_load 12 = .ok (.iload_n 1, 1) := by decide +kernel
theorem dX8_load_13 : decode cX8_load 13 = .ok (.ifCond .ge 5, 3) := by decide +kernel
theorem dX8_load_16 : decode cX8_load 16 = .ok (.iload_n 1, 1) := by decide +kernel
theorem dX8_load_17 : decode cX8_load 17 = .ok (.ireturn, 1) := by decide +kernel
theorem dX8_load_18 : decode cX8_load 18 = .ok (.aload_n 0, 1) := by decide +kernel
theorem dX8_load_19 : decode cX8_load 19 = .ok (.getfield 30, 3) := by decide +kernel
theorem dX8_load_22 : decode cX8_load 22 = .ok (.aload_n 0, 1) := by decide +kernel
theorem dX8_load_23 : decode cX8_load 23 = .ok (.getfield 20, 3) := by decide +kernel
theorem dX8_load_26 : decode cX8_load 26 = .ok (.invokevirtual 78, 3) := by decide +kernel
theorem dX8_load_29 : decode cX8_load 29 = .ok (.aload_n 0, 1) := by decide +kernel
theorem dX8_load_30 : decode cX8_load 30 = .ok (.getfield 20, 3) := by decide +kernel
theorem dX8_load_33 : decode cX8_load 33 = .ok (.aload_n 0, 1) := by decide +kernel
theorem dX8_load_34 : decode cX8_load 34 = .ok (.getfield 24, 3) := by decide +kernel
theorem dX8_load_37 : decode cX8_load 37 = .ok (.invokevirtual 82, 3) := by decide +kernel
theorem dX8_load_40 : decode cX8_load 40 = .ok (.aload_n 0, 1) := by decide +kernel
theorem dX8_load_41 : decode cX8_load 41 = .ok (.getfield 37, 3) := by decide +kernel
theorem dX8_load_44 : decode cX8_load 44 = .ok (.iconst 0, 1) := by decide +kernel
theorem dX8_load_45 : decode cX8_load 45 = .ok (.putfield 66, 3) := by decide +kernel
theorem dX8_load_48 : decode cX8_load 48 = .ok (.iload_n 1, 1) := by decide +kernel
theorem dX8_load_49 : decode cX8_load 49 = .ok (.ireturn, 1) := by decide +kernel
theorem dX8_resize_0 : decode cX8_resize 0 = .ok (.iload_n 1, 1) := by decide +kernel
theorem dX8_resize_1 : decode cX8_resize 1 = .ok (.iconst 3, 1) := by decide +kernel
theorem dX8_resize_2 : decode cX8_resize 2 = .ok (.bipush 7, 2) := by decide +kernel
theorem dX8_resize_4 : decode cX8_resize 4 = .ok (.invokestatic 61, 3) := by decide +kernel
theorem dX8_resize_7 : decode cX8_resize 7 = .ok (.ifCond .eq 13, 3) := by decide +kernel
theorem dX8_resize_10 : decode cX8_resize 10 = .ok (.iload_n 2, 1) := by decide +kernel
theorem dX8_resize_11 : decode cX8_resize 11 = .ok (.iconst 3, 1) := by decide +kernel
theorem dX8_resize_12 : decode cX8_resize 12 = .ok (.bipush 7, 2) := by decide +kernel
theorem dX8_resize_14 : decode cX8_resize 14 = .ok (.invokestatic 61, 3) := by decide +kernel
theorem dX8_resize_17 : decode cX8_resize 17 = .ok (.ifCond .ne 6, 3) := by decide +kernel
theorem dX8_resize_20 : decode cX8_resize 20 = .ok (.ldc 65, 2) := by decide +kernel
theorem dX8_resize_22 : decode cX8_resize 22 = .ok (.ireturn, 1) := by decide +kernel
theorem dX8_resize_23 : decode cX8_resize 23 = .ok (.aload_n 0, 1) := by decide +kernel
theorem dX8_resize_24 : decode cX8_resize 24 = .ok (.getfield 30, 3) := by decide +kernel
theorem dX8_resize_27 : decode cX8_resize 27 = .ok (.aload_n 0, 1) := by decide +kernel
theorem dX8_resize_28 : decode cX8_resize 28 = .ok (.getfield 20, 3) := by decide +kernel
theorem dX8_resize_31 : decode cX8_resize 31 = .ok (.invokevirtual 78, 3) := by decide +kernel
theorem dX8_resize_34 : decode cX8_resize 34 = .ok (.aload_n 0, 1) := by decide +kernel
theorem dX8_resize_35 : decode cX8_resize 35 = .ok (.getfield 20, 3) := by decide +kernel
theorem dX8_resize_38 : decode cX8_resize 38 = .ok (.iload_n 1, 1) := by decide +kernel
theorem dX8_resize_39 : decode cX8_resize 39 = .ok (.iload_n 2, 1) := by decide +kernel
theorem dX8_resize_40 : decode cX8_resize 40 = .ok (.invokevirtual 85, 3) := by decide +kernel
theorem dX8_resize_43 : decode cX8_resize 43 = .ok (.iload_n 1, 1) := by decide +kernel
theorem dX8_resize_44 : decode cX8_resize 44 = .ok (.iconst 2, 1) := by decide +kernel
theorem dX8_resize_45 : decode cX8_resize 45 = .ok (.isub, 1) := by decide +kernel
theorem dX8_resize_46 : decode cX8_resize 46 = .ok (.iload_n 2, 1) := by decide +kernel
theorem dX8_resize_47 : decode cX8_resize 47 = .ok (.iconst 2, 1) := by decide +kernel
theorem dX8_resize_48 : decode cX8_resize 48 = .ok (.isub, 1) := by decide +kernel
theorem dX8_resize_49 : decode cX8_resize 49 = .ok (.imul, 1) := by decide +kernel
theorem dX8_resize_50 : decode cX8_resize 50 = .ok (.ireturn, 1) := by decide +kernel
theorem dX8_setWeight_0 : decode cX8_setWeight 0 = .ok (.iload_n 1, 1) := by decide +kernel
theorem dX8_setWeight_1 : decode cX8_setWeight 1 = .ok (.iconst 1, 1) := by decide +kernel
theorem dX8_setWeight_2 : decode cX8_setWeight 2 = .ok (.sipush 9999, 3) := by decide +kernel
theorem dX8_setWeight_5 : decode cX8_setWeight 5 = .ok (.invokestatic 61, 3) := by decide +kernel
theorem dX8_setWeight_8 : decode cX8_setWeight 8 = .ok (.ifCond .ne 6, 3) := by decide +kernel
theorem dX8_setWeight_11 : decode cX8_setWeight 11 = .ok (.ldc 65, 2) := by decide +kernel
theorem dX8_setWeight_13 : decode cX8_setWeight 13 = .ok (.ireturn, 1) := by decide +kernel
theorem dX8_setWeight_14 : decode cX8_setWeight 14 = .ok (.aload_n 0, 1) := by decide +kernel
theorem dX8_setWeight_15 : decode cX8_setWeight 15 = .ok (.getfield 30, 3) := by decide +kernel
theorem dX8_setWeight_18 : decode cX8_setWeight 18 = .ok (.aload_n 0, 1) := by decide +kernel
theorem dX8_setWeight_19 : decode cX8_setWeight 19 = .ok (.getfield 20, 3) := by decide +kernel
theorem dX8_setWeight_22 : decode cX8_setWeight 22 = .ok (.invokevirtual 78, 3) := by decide +kernel
theorem dX8_setWeight_25 : decode cX8_setWeight 25 = .ok (.aload_n 0, 1) := by decide +kernel
theorem dX8_setWeight_26 : decode cX8_setWeight 26 = .ok (.getfield 20, 3) := by decide +kernel
theorem dX8_setWeight_29 : decode cX8_setWeight 29 = .ok (.getfield 89, 3) := by decide +kernel
theorem dX8_setWeight_32 : decode cX8_setWeight 32 = .ok (.istore_n 2, 1) := by decide +kernel
theorem dX8_setWeight_33 : decode cX8_setWeight 33 = .ok (.aload_n 0, 1) := by decide +kernel
theorem dX8_setWeight_34 : decode cX8_setWeight 34 = .ok (.getfield 20, 3) := by decide +kernel
theorem dX8_setWeight_37 : decode cX8_setWeight 37 = .ok (.iload_n 1, 1) := by decide +kernel
theorem dX8_setWeight_38 : decode cX8_setWeight 38 = .ok (.putfield 89, 3) := by decide +kernel
theorem dX8_setWeight_41 : decode cX8_setWeight 41 = .ok (.iload_n 2, 1) := by decide +kernel
theorem dX8_setWeight_42 : decode cX8_setWeight 42 = .ok (.ireturn, 1) := by decide +kernel
theorem dX8_setStiffness_0 : decode cX8_setStiffness 0 = .ok (.iload_n 1, 1) := by decide +kernel
theorem dX8_setStiffness_1 : decode cX8_setStiffness 1 = .ok (.iconst 0, 1) := by decide +kernel
theorem dX8_setStiffness_2 : decode cX8_setStiffness 2 = .ok (.sipush 9999, 3) := by decide +kernel
theorem dX8_setStiffness_5 : decode cX8_setStiffness 5 = .ok (.invokestatic 61, 3) := by decide +kernel
theorem dX8_setStiffness_8 : decode cX8_setStiffness 8 = .ok (.ifCond .ne 6, 3) := by decide +kernel
theorem dX8_setStiffness_11 : decode cX8_setStiffness 11 = .ok (.ldc 65, 2) := by decide +kernel
theorem dX8_setStiffness_13 : decode cX8_setStiffness 13 = .ok (.ireturn, 1) := by decide +kernel
theorem dX8_setStiffness_14 : decode cX8_setStiffness 14 = .ok (.aload_n 0, 1) := by decide +kernel
theorem dX8_setStiffness_15 : decode cX8_setStiffness 15 = .ok (.getfield 30, 3) := by decide +kernel
theorem dX8_setStiffness_18 : decode cX8_setStiffness 18 = .ok (.aload_n 0, 1) := by decide +kernel
theorem dX8_setStiffness_19 : decode cX8_setStiffness 19 = .ok (.getfield 20, 3) := by decide +kernel
theorem dX8_setStiffness_22 : decode cX8_setStiffness 22 = .ok (.invokevirtual 78, 3) := by decide +kernel
theorem dX8_setStiffness_25 : decode cX8_setStiffness 25 = .ok (.aload_n 0, 1) := by decide +kernel
theorem dX8_setStiffness_26 : decode cX8_setStiffness 26 = .ok (.getfield 20, 3) := by decide +kernel
theorem dX8_setStiffness_29 : decode cX8_setStiffness 29 = .ok (.getfield 92, 3) := by decide +kernel
theorem dX8_setStiffness_32 : decode cX8_setStiffness 32 = .ok (.istore_n 2, 1) := by decide +kernel
theorem dX8_setStiffness_33 : decode cX8_setStiffness 33 = .ok (.aload_n 0, 1) := by decide +kernel
theorem dX8_setStiffness_34 : decode cX8_setStiffness 34 = .ok (.getfield 20, 3) := by decide +kernel
theorem dX8_setStiffness_37 : decode cX8_setStiffness 37 = .ok (.iload_n 1, 1) := by decide +kernel
theorem dX8_setStiffness_38 : decode cX8_setStiffness 38 = .ok (.putfield 92, 3) := by decide +kernel
theorem dX8_setStiffness_41 : decode cX8_setStiffness 41 = .ok (.iload_n 2, 1) := by decide +kernel
theorem dX8_setStiffness_42 : decode cX8_setStiffness 42 = .ok (.ireturn, 1) := by decide +kernel
theorem dX8_addLayer_0 : decode cX8_addLayer 0 = .ok (.iload_n 1, 1) := by decide +kernel
theorem dX8_addLayer_1 : decode cX8_addLayer 1 = .ok (.iconst 1, 1) := by decide +kernel
theorem dX8_addLayer_2 : decode cX8_addLayer 2 = .ok (.bipush 100, 2) := by decide +kernel
theorem dX8_addLayer_4 : decode cX8_addLayer 4 = .ok (.invokestatic 61, 3) := by decide +kernel
theorem dX8_addLayer_7 : decode cX8_addLayer 7 = .ok (.ifCond .eq 23, 3) := by decide +kernel
theorem dX8_addLayer_10 : decode cX8_addLayer 10 = .ok (.iload_n 2, 1) := by decide +kernel
theorem dX8_addLayer_11 : decode cX8_addLayer 11 = .ok (.iconst 0, 1) := by decide +kernel
theorem dX8_addLayer_12 : decode cX8_addLayer 12 = .ok (.bipush 50, 2) := by decide +kernel
theorem dX8_addLayer_14 : decode cX8_addLayer 14 = .ok (.invokestatic 61, 3) := by decide +kernel
theorem dX8_addLayer_17 : decode cX8_addLayer 17 = .ok (.ifCond .eq 13, 3) := by decide +kernel
theorem dX8_addLayer_20 : decode cX8_addLayer 20 = .ok (.iload_n 3, 1) := by decide +kernel
theorem dX8_addLayer_21 : decode cX8_addLayer 21 = .ok (.iconst 0, 1) := by decide +kernel
theorem dX8_addLayer_22 : decode cX8_addLayer 22 = .ok (.bipush 9, 2) := by decide +kernel
theorem dX8_addLayer_24 : decode cX8_addLayer 24 = .ok (.invokestatic 61, 3) := by decide +kernel
theorem dX8_addLayer_27 : decode cX8_addLayer 27 = .ok (.ifCond .ne 6, 3) := by decide +kernel
theorem dX8_addLayer_30 : decode cX8_addLayer 30 = .ok (.ldc 65, 2) := by decide +kernel
theorem dX8_addLayer_32 : decode cX8_addLayer 32 = .ok (.ireturn, 1) := by decide +kernel
theorem dX8_addLayer_33 : decode cX8_addLayer 33 = .ok (.aload_n 0, 1) := by decide +kernel
theorem dX8_addLayer_34 : decode cX8_addLayer 34 = .ok (.getfield 20, 3) := by decide +kernel
theorem dX8_addLayer_37 : decode cX8_addLayer 37 = .ok (.getfield 95, 3) := by decide +kernel
theorem dX8_addLayer_40 : decode cX8_addLayer 40 = .ok (.getfield 99, 3) := by decide +kernel
theorem dX8_addLayer_43 : decode cX8_addLayer 43 = .ok (.invokevirtual 104, 3) := by decide +kernel
theorem dX8_addLayer_46 : decode cX8_addLayer 46 = .ok (.ifCond .eq 6, 3) := by decide +kernel
theorem dX8_addLayer_49 : decode cX8_addLayer 49 = .ok (.ldc 69, 2) := by decide +kernel
theorem dX8_addLayer_51 : decode cX8_addLayer 51 = .ok (.ireturn, 1) := by decide +kernel
theorem dX8_addLayer_52 : decode cX8_addLayer 52 = .ok (.aload_n 0, 1) := by decide +kernel
theorem dX8_addLayer_53 : decode cX8_addLayer 53 = .ok (.getfield 30, 3) := by decide +kernel
theorem dX8_addLayer_56 : decode cX8_addLayer 56 = .ok (.aload_n 0, 1) := by decide +kernel
theorem dX8_addLayer_57 : decode cX8_addLayer 57 = .ok (.getfield 20, 3) := by decide +kernel
theorem dX8_addLayer_60 : decode cX8_addLayer 60 = .ok (.invokevirtual 78, 3) := by decide +kernel
theorem dX8_addLayer_63 : decode cX8_addLayer 63 = .ok (.aload_n 0, 1) := by decide +kernel
theorem dX8_addLayer_64 : decode cX8_addLayer 64 = .ok (.getfield 20, 3) := by decide +kernel
theorem dX8_addLayer_67 : decode cX8_addLayer 67 = .ok (.getfield 95, 3) := by decide +kernel
theorem dX8_addLayer_70 : decode cX8_addLayer 70 = .ok (.iload_n 1, 1) := by decide +kernel
theorem dX8_addLayer_71 : decode cX8_addLayer 71 = .ok (.iload_n 2, 1) := by decide +kernel
theorem dX8_addLayer_72 : decode cX8_addLayer 72 = .ok (.iload_n 3, 1) := by decide +kernel
theorem dX8_addLayer_73 : decode cX8_addLayer 73 = .ok (.invokevirtual 108, 3) := by decide +kernel
theorem dX8_addLayer_76 : decode cX8_addLayer 76 = .ok (.aload_n 0, 1) := by decide +kernel
theorem dX8_addLayer_77 : decode cX8_addLayer 77 = .ok (.getfield 20, 3) := by decide +kernel
theorem dX8_addLayer_80 : decode cX8_addLayer 80 = .ok (.getfield 95, 3) := by decide +kernel
theorem dX8_addLayer_83 : decode cX8_addLayer 83 = .ok (.getfield 99, 3) := by decide +kernel
theorem dX8_addLayer_86 : decode cX8_addLayer 86 = .ok (.getfield 112, 3) := by decide +kernel
theorem dX8_addLayer_89 : decode cX8_addLayer 89 = .ok (.ireturn, 1) := by decide +kernel
theorem dX8_addBoulder_0 : decode cX8_addBoulder 0 = .ok (.aload_n 0, 1) := by decide +kernel
theorem dX8_addBoulder_1 : decode cX8_addBoulder 1 = .ok (.getfield 20, 3) := by decide +kernel
theorem dX8_addBoulder_4 : decode cX8_addBoulder 4 = .ok (.iload_n 1, 1) := by decide +kernel
theorem dX8_addBoulder_5 : decode cX8_addBoulder 5 = .ok (.invokevirtual 115, 3) := by decide +kernel
theorem dX8_addBoulder_8 : decode cX8_addBoulder 8 = .ok (.ifCond .eq 24, 3) := by decide +kernel
theorem dX8_addBoulder_11 : decode cX8_addBoulder 11 = .ok (.iload_n 2, 1) := by decide +kernel
theorem dX8_addBoulder_12 : decode cX8_addBoulder 12 = .ok (.iconst 1, 1) := by decide +kernel
theorem dX8_addBoulder_13 : decode cX8_addBoulder 13 = .ok (.sipush 200, 3) := by decide +kernel
theorem dX8_addBoulder_16 : decode cX8_addBoulder 16 = .ok (.invokestatic 61, 3) := by decide +kernel
theorem dX8_addBoulder_19 : decode cX8_addBoulder 19 = .ok (.ifCond .eq 13, 3) := by decide +kernel
theorem dX8_addBoulder_22 : decode cX8_addBoulder 22 = .ok (.iload_n 3, 1) := by decide +kernel
theorem dX8_addBoulder_23 : decode cX8_addBoulder 23 = .ok (.iconst 1, 1) := by decide +kernel
theorem dX8_addBoulder_24 : decode cX8_addBoulder 24 = .ok (.bipush 50, 2) := by decide +kernel
theorem dX8_addBoulder_26 : decode cX8_addBoulder 26 = .ok (.invokestatic 61, 3) := by decide +kernel
theorem dX8_addBoulder_29 : decode cX8_addBoulder 29 = .ok (.ifCond .ne 6, 3) := by decide +kernel
theorem dX8_addBoulder_32 : decode cX8_addBoulder 32 = .ok (.ldc 65, 2) := by decide +kernel
theorem dX8_addBoulder_34 : decode cX8_addBoulder 34 = .ok (.ireturn, 1) := by decide +kernel
theorem dX8_addBoulder_35 : decode cX8_addBoulder 35 = .ok (.aload_n 0, 1) := by decide +kernel
theorem dX8_addBoulder_36 : decode cX8_addBoulder 36 = .ok (.getfield 20, 3) := by decide +kernel
theorem dX8_addBoulder_39 : decode cX8_addBoulder 39 = .ok (.getfield 119, 3) := by decide +kernel
theorem dX8_addBoulder_42 : decode cX8_addBoulder 42 = .ok (.iload_n 1, 1) := by decide +kernel
theorem dX8_addBoulder_43 : decode cX8_addBoulder 43 = .ok (.iload_n 2, 1) := by decide +kernel
theorem dX8_addBoulder_44 : decode cX8_addBoulder 44 = .ok (.invokevirtual 123, 3) := by decide +kernel
theorem dX8_addBoulder_47 : decode cX8_addBoulder 47 = .ok (.ifCond .eq 6, 3) := by decide +kernel
theorem dX8_addBoulder_50 : decode cX8_addBoulder 50 = .ok (.ldc 129, 2) := by decide +kernel
theorem dX8_addBoulder_52 : decode cX8_addBoulder 52 = .ok (.ireturn, 1) := by decide +kernel
theorem dX8_addBoulder_53 : decode cX8_addBoulder 53 = .ok (.aload_n 0, 1) := by decide +kernel
theorem dX8_addBoulder_54 : decode cX8_addBoulder 54 = .ok (.getfield 20, 3) := by decide +kernel
theorem dX8_addBoulder_57 : decode cX8_addBoulder 57 = .ok (.getfield 119, 3) := by decide +kernel
theorem dX8_addBoulder_60 : decode cX8_addBoulder 60 = .ok (.getfield 130, 3) := by decide +kernel
theorem dX8_addBoulder_63 : decode cX8_addBoulder 63 = .ok (.invokevirtual 104, 3) := by decide +kernel
theorem dX8_addBoulder_66 : decode cX8_addBoulder 66 = .ok (.ifCond .eq 6, 3) := by decide +kernel
theorem dX8_addBoulder_69 : decode cX8_addBoulder 69 = .ok (.ldc 69, 2) := by decide +kernel
theorem dX8_addBoulder_71 : decode cX8_addBoulder 71 = .ok (.ireturn, 1) := by decide +kernel
theorem dX8_addBoulder_72 : decode cX8_addBoulder 72 = .ok (.aload_n 0, 1) := by decide +kernel
theorem dX8_addBoulder_73 : decode cX8_addBoulder 73 = .ok (.getfield 30, 3) := by decide +kernel
theorem dX8_addBoulder_76 : decode cX8_addBoulder 76 = .ok (.aload_n 0, 1) := by decide +kernel
theorem dX8_addBoulder_77 : decode cX8_addBoulder 77 = .ok (.getfield 20, 3) := by decide +kernel
theorem dX8_addBoulder_80 : decode cX8_addBoulder 80 = .ok (.invokevirtual 78, 3) := by decide +kernel
theorem dX8_addBoulder_83 : decode cX8_addBoulder 83 = .ok (.aload_n 0, 1) := by decide +kernel
theorem dX8_addBoulder_84 : decode cX8_addBoulder 84 = .ok (.getfield 20, 3) := by decide +kernel
theorem dX8_addBoulder_87 : decode cX8_addBoulder 87 = .ok (.getfield 119, 3) := by decide +kernel
theorem dX8_addBoulder_90 : decode cX8_addBoulder 90 = .ok (.iload_n 1, 1) := by decide +kernel
theorem dX8_addBoulder_91 : decode cX8_addBoulder 91 = .ok (.iload_n 2, 1) := by decide +kernel
theorem dX8_addBoulder_92 : decode cX8_addBoulder 92 = .ok (.iload_n 3, 1) := by decide +kernel
theorem dX8_addBoulder_93 : decode cX8_addBoulder 93 = .ok (.invokevirtual 133, 3) := by decide +kernel
theorem dX8_addBoulder_96 : decode cX8_addBoulder 96 = .ok (.ireturn, 1) := by decide +kernel
theorem dX8_ground_0 : decode cX8_ground 0 = .ok (.iload_n 1, 1) := by decide +kernel
theorem dX8_ground_1 : decode cX8_ground 1 = .ok (.iconst 0, 1) := by decide +kernel
theorem dX8_ground_2 : decode cX8_ground 2 = .ok (.sipush 999, 3) := by decide +kernel
theorem dX8_ground_5 : decode cX8_ground 5 = .ok (.invokestatic 61, 3) := by decide +kernel
theorem dX8_ground_8 : decode cX8_ground 8 = .ok (.ifCond .eq 12, 3) := by decide +kernel
theorem dX8_ground_11 : decode cX8_ground 11 = .ok (.iload_n 2, 1) := by decide +kernel
theorem dX8_ground_12 : decode cX8_ground 12 = .ok (.iconst 0, 1) := by decide +kernel
theorem dX8_ground_13 : decode cX8_ground 13 = .ok (.iconst 1, 1) := by decide +kernel
theorem dX8_ground_14 : decode cX8_ground 14 = .ok (.invokestatic 61, 3) := by decide +kernel
theorem dX8_ground_17 : decode cX8_ground 17 = .ok (.ifCond .ne 6, 3) := by decide +kernel
theorem dX8_ground_20 : decode cX8_ground 20 = .ok (.ldc 65, 2) := by decide +kernel
theorem dX8_ground_22 : decode cX8_ground 22 = .ok (.ireturn, 1) := by decide +kernel
theorem dX8_ground_23 : decode cX8_ground 23 = .ok (.iload_n 2, 1) := by decide +kernel
theorem dX8_ground_24 : decode cX8_ground 24 = .ok (.ifCond .ne 17, 3) := by decide +kernel
theorem dX8_ground_27 : decode cX8_ground 27 = .ok (.aload_n 0, 1) := by decide +kernel
theorem dX8_ground_28 : decode cX8_ground 28 = .ok (.getfield 20, 3) := by decide +kernel
theorem dX8_ground_31 : decode cX8_ground 31 = .ok (.getfield 95, 3) := by decide +kernel
theorem dX8_ground_34 : decode cX8_ground 34 = .ok (.iload_n 1, 1) := by decide +kernel
theorem dX8_ground_35 : decode cX8_ground 35 = .ok (.invokevirtual 137, 3) := by decide +kernel
theorem dX8_ground_38 : decode cX8_ground 38 = .ok (.goto 14, 3) := by decide +kernel
theorem dX8_ground_41 : decode cX8_ground 41 = .ok (.aload_n 0, 1) := by decide +kernel
theorem dX8_ground_42 : decode cX8_ground 42 = .ok (.getfield 20, 3) := by decide +kernel
theorem dX8_ground_45 : decode cX8_ground 45 = .ok (.getfield 95, 3) := by decide +kernel
theorem dX8_ground_48 : decode cX8_ground 48 = .ok (.iload_n 1, 1) := by decide +kernel
theorem dX8_ground_49 : decode cX8_ground 49 = .ok (.invokevirtual 141, 3) := by decide +kernel
theorem dX8_ground_52 : decode cX8_ground 52 = .ok (.ireturn, 1) := by decide +kernel
theorem dX8_boulder_0 : decode cX8_boulder 0 = .ok (.aload_n 0, 1) := by decide +kernel
theorem dX8_boulder_1 : decode cX8_boulder 1 = .ok (.getfield 20, 3) := by decide +kernel
theorem dX8_boulder_4 : decode cX8_boulder 4 = .ok (.getfield 119, 3) := by decide +kernel
theorem dX8_boulder_7 : decode cX8_boulder 7 = .ok (.getfield 130, 3) := by decide +kernel
theorem dX8_boulder_10 : decode cX8_boulder 10 = .ok (.iload_n 1, 1) := by decide +kernel
theorem dX8_boulder_11 : decode cX8_boulder 11 = .ok (.invokevirtual 144, 3) := by decide +kernel
theorem dX8_boulder_14 : decode cX8_boulder 14 = .ok (.ifCond .eq 12, 3) := by decide +kernel
theorem dX8_boulder_17 : decode cX8_boulder 17 = .ok (.iload_n 2, 1) := by decide +kernel
theorem dX8_boulder_18 : decode cX8_boulder 18 = .ok (.iconst 0, 1) := by decide +kernel
theorem dX8_boulder_19 : decode cX8_boulder 19 = .ok (.iconst 2, 1) := by decide +kernel
theorem dX8_boulder_20 : decode cX8_boulder 20 = .ok (.invokestatic 61, 3) := by decide +kernel
theorem dX8_boulder_23 : decode cX8_boulder 23 = .ok (.ifCond .ne 6, 3) := by decide +kernel
theorem dX8_boulder_26 : decode cX8_boulder 26 = .ok (.ldc 65, 2) := by decide +kernel
theorem dX8_boulder_28 : decode cX8_boulder 28 = .ok (.ireturn, 1) := by decide +kernel
theorem dX8_boulder_29 : decode cX8_boulder 29 = .ok (.aload_n 0, 1) := by decide +kernel
theorem dX8_boulder_30 : decode cX8_boulder 30 = .ok (.getfield 20, 3) := by decide +kernel
theorem dX8_boulder_33 : decode cX8_boulder 33 = .ok (.getfield 119, 3) := by decide +kernel
theorem dX8_boulder_36 : decode cX8_boulder 36 = .ok (.getfield 130, 3) := by decide +kernel
theorem dX8_boulder_39 : decode cX8_boulder 39 = .ok (.iload_n 1, 1) := by decide +kernel
theorem dX8_boulder_40 : decode cX8_boulder 40 = .ok (.iload_n 2, 1) := by decide +kernel
theorem dX8_boulder_41 : decode cX8_boulder 41 = .ok (.invokevirtual 147, 3) := by decide +kernel
theorem dX8_boulder_44 : decode cX8_boulder 44 = .ok (.ireturn, 1) := by decide +kernel
theorem dX8_state_0 : decode cX8_state 0 = .ok (.iload_n 1, 1) := by decide +kernel
theorem dX8_state_1 : decode cX8_state 1 = .ok (.tableswitch 189 0 11 #[63, 71, 79, 87, 98, 112, 126, 134, 148, 162, 170, 178], 63) := by decide +kernel
theorem dX8_state_64 : decode cX8_state 64 = .ok (.aload_n 0, 1) := by decide +kernel
theorem dX8_state_65 : decode cX8_state 65 = .ok (.getfield 20, 3) := by decide +kernel
theorem dX8_state_68 : decode cX8_state 68 = .ok (.getfield 151, 3) := by decide +kernel
theorem dX8_state_71 : decode cX8_state 71 = .ok (.ireturn, 1) := by decide +kernel
theorem dX8_state_72 : decode cX8_state 72 = .ok (.aload_n 0, 1) := by decide +kernel
theorem dX8_state_73 : decode cX8_state 73 = .ok (.getfield 20, 3) := by decide +kernel
theorem dX8_state_76 : decode cX8_state 76 = .ok (.getfield 154, 3) := by decide +kernel
theorem dX8_state_79 : decode cX8_state 79 = .ok (.ireturn, 1) := by decide +kernel
theorem dX8_state_80 : decode cX8_state 80 = .ok (.aload_n 0, 1) := by decide +kernel
theorem dX8_state_81 : decode cX8_state 81 = .ok (.getfield 20, 3) := by decide +kernel
theorem dX8_state_84 : decode cX8_state 84 = .ok (.getfield 89, 3) := by decide +kernel
theorem dX8_state_87 : decode cX8_state 87 = .ok (.ireturn, 1) := by decide +kernel
theorem dX8_state_88 : decode cX8_state 88 = .ok (.aload_n 0, 1) := by decide +kernel
theorem dX8_state_89 : decode cX8_state 89 = .ok (.getfield 20, 3) := by decide +kernel
theorem dX8_state_92 : decode cX8_state 92 = .ok (.getfield 157, 3) := by decide +kernel
theorem dX8_state_95 : decode cX8_state 95 = .ok (.getfield 160, 3) := by decide +kernel
theorem dX8_state_98 : decode cX8_state 98 = .ok (.ireturn, 1) := by decide +kernel
theorem dX8_state_99 : decode cX8_state 99 = .ok (.aload_n 0, 1) := by decide +kernel
theorem dX8_state_100 : decode cX8_state 100 = .ok (.getfield 20, 3) := by decide +kernel
theorem dX8_state_103 : decode cX8_state 103 = .ok (.getfield 157, 3) := by decide +kernel
theorem dX8_state_106 : decode cX8_state 106 = .ok (.getfield 163, 3) := by decide +kernel
theorem dX8_state_109 : decode cX8_state 109 = .ok (.bipush 10, 2) := by decide +kernel
theorem dX8_state_111 : decode cX8_state 111 = .ok (.iadd, 1) := by decide +kernel
theorem dX8_state_112 : decode cX8_state 112 = .ok (.ireturn, 1) := by decide +kernel
theorem dX8_state_113 : decode cX8_state 113 = .ok (.aload_n 0, 1) := by decide +kernel
theorem dX8_state_114 : decode cX8_state 114 = .ok (.getfield 20, 3) := by decide +kernel
theorem dX8_state_117 : decode cX8_state 117 = .ok (.getfield 157, 3) := by decide +kernel
theorem dX8_state_120 : decode cX8_state 120 = .ok (.getfield 166, 3) := by decide +kernel
theorem dX8_state_123 : decode cX8_state 123 = .ok (.bipush 10, 2) := by decide +kernel
theorem dX8_state_125 : decode cX8_state 125 = .ok (.iadd, 1) := by decide +kernel
theorem dX8_state_126 : decode cX8_state 126 = .ok (.ireturn, 1) := by decide +kernel
theorem dX8_state_127 : decode cX8_state 127 = .ok (.aload_n 0, 1) := by decide +kernel
theorem dX8_state_128 : decode cX8_state 128 = .ok (.getfield 20, 3) := by decide +kernel
theorem dX8_state_131 : decode cX8_state 131 = .ok (.invokevirtual 169, 3) := by decide +kernel
theorem dX8_state_134 : decode cX8_state 134 = .ok (.ireturn, 1) := by decide +kernel
theorem dX8_state_135 : decode cX8_state 135 = .ok (.aload_n 0, 1) := by decide +kernel
theorem dX8_state_136 : decode cX8_state 136 = .ok (.getfield 20, 3) := by decide +kernel
theorem dX8_state_139 : decode cX8_state 139 = .ok (.getfield 119, 3) := by decide +kernel
theorem dX8_state_142 : decode cX8_state 142 = .ok (.getfield 130, 3) := by decide +kernel
theorem dX8_state_145 : decode cX8_state 145 = .ok (.getfield 112, 3) := by decide +kernel
theorem dX8_state_148 : decode cX8_state 148 = .ok (.ireturn, 1) := by decide +kernel
theorem dX8_state_149 : decode cX8_state 149 = .ok (.aload_n 0, 1) := by decide +kernel
theorem dX8_state_150 : decode cX8_state 150 = .ok (.getfield 20, 3) := by decide +kernel
theorem dX8_state_153 : decode cX8_state 153 = .ok (.getfield 95, 3) := by decide +kernel
theorem dX8_state_156 : decode cX8_state 156 = .ok (.getfield 99, 3) := by decide +kernel
theorem dX8_state_159 : decode cX8_state 159 = .ok (.getfield 112, 3) := by decide +kernel
theorem dX8_state_162 : decode cX8_state 162 = .ok (.ireturn, 1) := by decide +kernel
theorem dX8_state_163 : decode cX8_state 163 = .ok (.aload_n 0, 1) := by decide +kernel
theorem dX8_state_164 : decode cX8_state 164 = .ok (.getfield 20, 3) := by decide +kernel
theorem dX8_state_167 : decode cX8_state 167 = .ok (.getfield 173, 3) := by decide +kernel
theorem dX8_state_170 : decode cX8_state 170 = .ok (.ireturn, 1) := by decide +kernel
theorem dX8_state_171 : decode cX8_state 171 = .ok (.aload_n 0, 1) := by decide +kernel
theorem dX8_state_172 : decode cX8_state 172 = .ok (.getfield 20, 3) := by decide +kernel
theorem dX8_state_175 : decode cX8_state 175 = .ok (.getfield 92, 3) := by decide +kernel
theorem dX8_state_178 : decode cX8_state 178 = .ok (.ireturn, 1) := by decide +kernel
theorem dX8_state_179 : decode cX8_state 179 = .ok (.aload_n 0, 1) := by decide +kernel
theorem dX8_state_180 : decode cX8_state 180 = .ok (.getfield 20, 3) := by decide +kernel
theorem dX8_state_183 : decode cX8_state 183 = .ok (.getfield 176, 3) := by decide +kernel
theorem dX8_state_186 : decode cX8_state 186 = .ok (.getfield 112, 3) := by decide +kernel
theorem dX8_state_189 : decode cX8_state 189 = .ok (.ireturn, 1) := by decide +kernel
theorem dX8_state_190 : decode cX8_state 190 = .ok (.ldc 65, 2) := by decide +kernel
theorem dX8_state_192 : decode cX8_state 192 = .ok (.ireturn, 1) := by decide +kernel
theorem dX8_edge_0 : decode cX8_edge 0 = .ok (.aload_n 0, 1) := by decide +kernel
theorem dX8_edge_1 : decode cX8_edge 1 = .ok (.getfield 20, 3) := by decide +kernel
theorem dX8_edge_4 : decode cX8_edge 4 = .ok (.iload_n 1, 1) := by decide +kernel
theorem dX8_edge_5 : decode cX8_edge 5 = .ok (.invokevirtual 179, 3) := by decide +kernel
theorem dX8_edge_8 : decode cX8_edge 8 = .ok (.ifCond .ne 6, 3) := by decide +kernel
theorem dX8_edge_11 : decode cX8_edge 11 = .ok (.ldc 65, 2) := by decide +kernel
theorem dX8_edge_13 : decode cX8_edge 13 = .ok (.ireturn, 1) := by decide +kernel
theorem dX8_edge_14 : decode cX8_edge 14 = .ok (.aload_n 0, 1) := by decide +kernel
theorem dX8_edge_15 : decode cX8_edge 15 = .ok (.getfield 20, 3) := by decide +kernel
theorem dX8_edge_18 : decode cX8_edge 18 = .ok (.iload_n 1, 1) := by decide +kernel
theorem dX8_edge_19 : decode cX8_edge 19 = .ok (.invokevirtual 182, 3) := by decide +kernel
theorem dX8_edge_22 : decode cX8_edge 22 = .ok (.istore_n 3, 1) := by decide +kernel
theorem dX8_edge_23 : decode cX8_edge 23 = .ok (.aload_n 0, 1) := by decide +kernel
theorem dX8_edge_24 : decode cX8_edge 24 = .ok (.getfield 20, 3) := by decide +kernel
theorem dX8_edge_27 : decode cX8_edge 27 = .ok (.iload_n 1, 1) := by decide +kernel
theorem dX8_edge_28 : decode cX8_edge 28 = .ok (.invokevirtual 185, 3) := by decide +kernel
theorem dX8_edge_31 : decode cX8_edge 31 = .ok (.istore 4, 2) := by decide +kernel
theorem dX8_edge_33 : decode cX8_edge 33 = .ok (.aload_n 0, 1) := by decide +kernel
theorem dX8_edge_34 : decode cX8_edge 34 = .ok (.getfield 12, 3) := by decide +kernel
theorem dX8_edge_37 : decode cX8_edge 37 = .ok (.aload_n 0, 1) := by decide +kernel
theorem dX8_edge_38 : decode cX8_edge 38 = .ok (.getfield 20, 3) := by decide +kernel
theorem dX8_edge_41 : decode cX8_edge 41 = .ok (.getfield 157, 3) := by decide +kernel
theorem dX8_edge_44 : decode cX8_edge 44 = .ok (.iload_n 3, 1) := by decide +kernel
theorem dX8_edge_45 : decode cX8_edge 45 = .ok (.iload 4, 2) := by decide +kernel
theorem dX8_edge_47 : decode cX8_edge 47 = .ok (.invokevirtual 188, 3) := by decide +kernel
theorem dX8_edge_50 : decode cX8_edge 50 = .ok (.istore 5, 2) := by decide +kernel
theorem dX8_edge_52 : decode cX8_edge 52 = .ok (.iload_n 2, 1) := by decide +kernel
theorem dX8_edge_53 : decode cX8_edge 53 = .ok (.tableswitch 92 0 4 #[35, 38, 58, 71, 81], 35) := by decide +kernel
theorem dX8_edge_88 : decode cX8_edge 88 = .ok (.iload 5, 2) := by decide +kernel
theorem dX8_edge_90 : decode cX8_edge 90 = .ok (.ireturn, 1) := by decide +kernel
theorem dX8_edge_91 : decode cX8_edge 91 = .ok (.aload_n 0, 1) := by decide +kernel
theorem dX8_edge_92 : decode cX8_edge 92 = .ok (.getfield 12, 3) := by decide +kernel
theorem dX8_edge_95 : decode cX8_edge 95 = .ok (.aload_n 0, 1) := by decide +kernel
theorem dX8_edge_96 : decode cX8_edge 96 = .ok (.getfield 20, 3) := by decide +kernel
theorem dX8_edge_99 : decode cX8_edge 99 = .ok (.getfield 157, 3) := by decide +kernel
theorem dX8_edge_102 : decode cX8_edge 102 = .ok (.iload_n 3, 1) := by decide +kernel
theorem dX8_edge_103 : decode cX8_edge 103 = .ok (.iload 4, 2) := by decide +kernel
theorem dX8_edge_105 : decode cX8_edge 105 = .ok (.iload 5, 2) := by decide +kernel
theorem dX8_edge_107 : decode cX8_edge 107 = .ok (.invokevirtual 192, 3) := by decide +kernel
theorem dX8_edge_110 : decode cX8_edge 110 = .ok (.ireturn, 1) := by decide +kernel
theorem dX8_edge_111 : decode cX8_edge 111 = .ok (.aload_n 0, 1) := by decide +kernel
theorem dX8_edge_112 : decode cX8_edge 112 = .ok (.getfield 12, 3) := by decide +kernel
theorem dX8_edge_115 : decode cX8_edge 115 = .ok (.iload_n 3, 1) := by decide +kernel
theorem dX8_edge_116 : decode cX8_edge 116 = .ok (.iload 4, 2) := by decide +kernel
theorem dX8_edge_118 : decode cX8_edge 118 = .ok (.iload 5, 2) := by decide +kernel
theorem dX8_edge_120 : decode cX8_edge 120 = .ok (.invokevirtual 196, 3) := by decide +kernel
theorem dX8_edge_123 : decode cX8_edge 123 = .ok (.ireturn, 1) := by decide +kernel
theorem dX8_edge_124 : decode cX8_edge 124 = .ok (.aload_n 0, 1) := by decide +kernel
theorem dX8_edge_125 : decode cX8_edge 125 = .ok (.getfield 12, 3) := by decide +kernel
theorem dX8_edge_128 : decode cX8_edge 128 = .ok (.iload 5, 2) := by decide +kernel
theorem dX8_edge_130 : decode cX8_edge 130 = .ok (.invokevirtual 199, 3) := by decide +kernel
theorem dX8_edge_133 : decode cX8_edge 133 = .ok (.ireturn, 1) := by decide +kernel
theorem dX8_edge_134 : decode cX8_edge 134 = .ok (.aload_n 0, 1) := by decide +kernel
theorem dX8_edge_135 : decode cX8_edge 135 = .ok (.getfield 20, 3) := by decide +kernel
theorem dX8_edge_138 : decode cX8_edge 138 = .ok (.iload_n 3, 1) := by decide +kernel
theorem dX8_edge_139 : decode cX8_edge 139 = .ok (.iload 4, 2) := by decide +kernel
theorem dX8_edge_141 : decode cX8_edge 141 = .ok (.invokevirtual 202, 3) := by decide +kernel
theorem dX8_edge_144 : decode cX8_edge 144 = .ok (.ireturn, 1) := by decide +kernel
theorem dX8_edge_145 : decode cX8_edge 145 = .ok (.ldc 65, 2) := by decide +kernel
theorem dX8_edge_147 : decode cX8_edge 147 = .ok (.ireturn, 1) := by decide +kernel
theorem dX8_bottom_0 : decode cX8_bottom 0 = .ok (.aload_n 0, 1) := by decide +kernel
theorem dX8_bottom_1 : decode cX8_bottom 1 = .ok (.getfield 20, 3) := by decide +kernel
theorem dX8_bottom_4 : decode cX8_bottom 4 = .ok (.iload_n 1, 1) := by decide +kernel
theorem dX8_bottom_5 : decode cX8_bottom 5 = .ok (.invokevirtual 205, 3) := by decide +kernel
theorem dX8_bottom_8 : decode cX8_bottom 8 = .ok (.ifCond .eq 17, 3) := by decide +kernel
theorem dX8_bottom_11 : decode cX8_bottom 11 = .ok (.aload_n 0, 1) := by decide +kernel
theorem dX8_bottom_12 : decode cX8_bottom 12 = .ok (.getfield 20, 3) := by decide +kernel
theorem dX8_bottom_15 : decode cX8_bottom 15 = .ok (.getfield 157, 3) := by decide +kernel
theorem dX8_bottom_18 : decode cX8_bottom 18 = .ok (.iload_n 1, 1) := by decide +kernel
theorem dX8_bottom_19 : decode cX8_bottom 19 = .ok (.invokevirtual 208, 3) := by decide +kernel
theorem dX8_bottom_22 : decode cX8_bottom 22 = .ok (.goto 5, 3) := by decide +kernel
theorem dX8_bottom_25 : decode cX8_bottom 25 = .ok (.ldc 65, 2) := by decide +kernel
theorem dX8_bottom_27 : decode cX8_bottom 27 = .ok (.ireturn, 1) := by decide +kernel
theorem dX8_surplus_0 : decode cX8_surplus 0 = .ok (.aload_n 0, 1) := by decide +kernel
theorem dX8_surplus_1 : decode cX8_surplus 1 = .ok (.getfield 12, 3) := by decide +kernel
theorem dX8_surplus_4 : decode cX8_surplus 4 = .ok (.aload_n 0, 1) := by decide +kernel
theorem dX8_surplus_5 : decode cX8_surplus 5 = .ok (.getfield 20, 3) := by decide +kernel
theorem dX8_surplus_8 : decode cX8_surplus 8 = .ok (.getfield 157, 3) := by decide +kernel
theorem dX8_surplus_11 : decode cX8_surplus 11 = .ok (.invokevirtual 211, 3) := by decide +kernel
theorem dX8_surplus_14 : decode cX8_surplus 14 = .ok (.pop, 1) := by decide +kernel
theorem dX8_surplus_15 : decode cX8_surplus 15 = .ok (.aload_n 0, 1) := by decide +kernel
theorem dX8_surplus_16 : decode cX8_surplus 16 = .ok (.getfield 12, 3) := by decide +kernel
theorem dX8_surplus_19 : decode cX8_surplus 19 = .ok (.getfield 215, 3) := by decide +kernel
theorem dX8_surplus_22 : decode cX8_surplus 22 = .ok (.ireturn, 1) := by decide +kernel
theorem dX8_moment_0 : decode cX8_moment 0 = .ok (.iload_n 1, 1) := by decide +kernel
theorem dX8_moment_1 : decode cX8_moment 1 = .ok (.iconst 0, 1) := by decide +kernel
theorem dX8_moment_2 : decode cX8_moment 2 = .ok (.iconst 1, 1) := by decide +kernel
theorem dX8_moment_3 : decode cX8_moment 3 = .ok (.invokestatic 61, 3) := by decide +kernel
theorem dX8_moment_6 : decode cX8_moment 6 = .ok (.ifCond .ne 6, 3) := by decide +kernel
theorem dX8_moment_9 : decode cX8_moment 9 = .ok (.ldc 65, 2) := by decide +kernel
theorem dX8_moment_11 : decode cX8_moment 11 = .ok (.ireturn, 1) := by decide +kernel
theorem dX8_moment_12 : decode cX8_moment 12 = .ok (.aload_n 0, 1) := by decide +kernel
theorem dX8_moment_13 : decode cX8_moment 13 = .ok (.getfield 12, 3) := by decide +kernel
theorem dX8_moment_16 : decode cX8_moment 16 = .ok (.aload_n 0, 1) := by decide +kernel
theorem dX8_moment_17 : decode cX8_moment 17 = .ok (.getfield 20, 3) := by decide +kernel
theorem dX8_moment_20 : decode cX8_moment 20 = .ok (.getfield 157, 3) := by decide +kernel
theorem dX8_moment_23 : decode cX8_moment 23 = .ok (.invokevirtual 211, 3) := by decide +kernel
theorem dX8_moment_26 : decode cX8_moment 26 = .ok (.pop, 1) := by decide +kernel
theorem dX8_moment_27 : decode cX8_moment 27 = .ok (.iload_n 1, 1) := by decide +kernel
theorem dX8_moment_28 : decode cX8_moment 28 = .ok (.ifCond .ne 13, 3) := by decide +kernel
theorem dX8_moment_31 : decode cX8_moment 31 = .ok (.aload_n 0, 1) := by decide +kernel
theorem dX8_moment_32 : decode cX8_moment 32 = .ok (.getfield 12, 3) := by decide +kernel
theorem dX8_moment_35 : decode cX8_moment 35 = .ok (.getfield 218, 3) := by decide +kernel
theorem dX8_moment_38 : decode cX8_moment 38 = .ok (.goto 10, 3) := by decide +kernel
theorem dX8_moment_41 : decode cX8_moment 41 = .ok (.aload_n 0, 1) := by decide +kernel
theorem dX8_moment_42 : decode cX8_moment 42 = .ok (.getfield 12, 3) := by decide +kernel
theorem dX8_moment_45 : decode cX8_moment 45 = .ok (.getfield 221, 3) := by decide +kernel
theorem dX8_moment_48 : decode cX8_moment 48 = .ok (.ireturn, 1) := by decide +kernel
theorem dX8_nextStep_0 : decode cX8_nextStep 0 = .ok (.aload_n 0, 1) := by decide +kernel
theorem dX8_nextStep_1 : decode cX8_nextStep 1 = .ok (.getfield 12, 3) := by decide +kernel
theorem dX8_nextStep_4 : decode cX8_nextStep 4 = .ok (.aload_n 0, 1) := by decide +kernel
theorem dX8_nextStep_5 : decode cX8_nextStep 5 = .ok (.getfield 20, 3) := by decide +kernel
theorem dX8_nextStep_8 : decode cX8_nextStep 8 = .ok (.getfield 157, 3) := by decide +kernel
theorem dX8_nextStep_11 : decode cX8_nextStep 11 = .ok (.invokevirtual 211, 3) := by decide +kernel
theorem dX8_nextStep_14 : decode cX8_nextStep 14 = .ok (.ireturn, 1) := by decide +kernel
theorem dX8_sideResistance_0 : decode cX8_sideResistance 0 = .ok (.iload_n 1, 1) := by decide +kernel
theorem dX8_sideResistance_1 : decode cX8_sideResistance 1 = .ok (.iconst 0, 1) := by decide +kernel
theorem dX8_sideResistance_2 : decode cX8_sideResistance 2 = .ok (.iconst 3, 1) := by decide +kernel
theorem dX8_sideResistance_3 : decode cX8_sideResistance 3 = .ok (.invokestatic 61, 3) := by decide +kernel
theorem dX8_sideResistance_6 : decode cX8_sideResistance 6 = .ok (.ifCond .ne 6, 3) := by decide +kernel
theorem dX8_sideResistance_9 : decode cX8_sideResistance 9 = .ok (.ldc 65, 2) := by decide +kernel
theorem dX8_sideResistance_11 : decode cX8_sideResistance 11 = .ok (.ireturn, 1) := by decide +kernel
theorem dX8_sideResistance_12 : decode cX8_sideResistance 12 = .ok (.aload_n 0, 1) := by decide +kernel
theorem dX8_sideResistance_13 : decode cX8_sideResistance 13 = .ok (.getfield 12, 3) := by decide +kernel
theorem dX8_sideResistance_16 : decode cX8_sideResistance 16 = .ok (.iload_n 1, 1) := by decide +kernel
theorem dX8_sideResistance_17 : decode cX8_sideResistance 17 = .ok (.invokevirtual 224, 3) := by decide +kernel
theorem dX8_sideResistance_20 : decode cX8_sideResistance 20 = .ok (.ireturn, 1) := by decide +kernel
theorem dX8_stuckDepth_0 : decode cX8_stuckDepth 0 = .ok (.iconst 4, 1) := by decide +kernel
theorem dX8_stuckDepth_1 : decode cX8_stuckDepth 1 = .ok (.aload_n 0, 1) := by decide +kernel
theorem dX8_stuckDepth_2 : decode cX8_stuckDepth 2 = .ok (.getfield 20, 3) := by decide +kernel
theorem dX8_stuckDepth_5 : decode cX8_stuckDepth 5 = .ok (.getfield 89, 3) := by decide +kernel
theorem dX8_stuckDepth_8 : decode cX8_stuckDepth 8 = .ok (.aload_n 0, 1) := by decide +kernel
theorem dX8_stuckDepth_9 : decode cX8_stuckDepth 9 = .ok (.getfield 20, 3) := by decide +kernel
theorem dX8_stuckDepth_12 : decode cX8_stuckDepth 12 = .ok (.invokevirtual 169, 3) := by decide +kernel
theorem dX8_stuckDepth_15 : decode cX8_stuckDepth 15 = .ok (.iadd, 1) := by decide +kernel
theorem dX8_stuckDepth_16 : decode cX8_stuckDepth 16 = .ok (.imul, 1) := by decide +kernel
theorem dX8_stuckDepth_17 : decode cX8_stuckDepth 17 = .ok (.istore_n 1, 1) := by decide +kernel
theorem dX8_stuckDepth_18 : decode cX8_stuckDepth 18 = .ok (.aload_n 0, 1) := by decide +kernel
theorem dX8_stuckDepth_19 : decode cX8_stuckDepth 19 = .ok (.getfield 12, 3) := by decide +kernel
theorem dX8_stuckDepth_22 : decode cX8_stuckDepth 22 = .ok (.invokevirtual 227, 3) := by decide +kernel
theorem dX8_stuckDepth_25 : decode cX8_stuckDepth 25 = .ok (.istore_n 2, 1) := by decide +kernel
theorem dX8_stuckDepth_26 : decode cX8_stuckDepth 26 = .ok (.aload_n 0, 1) := by decide +kernel
theorem dX8_stuckDepth_27 : decode cX8_stuckDepth 27 = .ok (.getfield 20, 3) := by decide +kernel
theorem dX8_stuckDepth_30 : decode cX8_stuckDepth 30 = .ok (.invokevirtual 230, 3) := by decide +kernel
theorem dX8_stuckDepth_33 : decode cX8_stuckDepth 33 = .ok (.istore_n 3, 1) := by decide +kernel
theorem dX8_stuckDepth_34 : decode cX8_stuckDepth 34 = .ok (.aload_n 0, 1) := by decide +kernel
theorem dX8_stuckDepth_35 : decode cX8_stuckDepth 35 = .ok (.getfield 20, 3) := by decide +kernel
theorem dX8_stuckDepth_38 : decode cX8_stuckDepth 38 = .ok (.getfield 157, 3) := by decide +kernel
theorem dX8_stuckDepth_41 : decode cX8_stuckDepth 41 = .ok (.getfield 160, 3) := by decide +kernel
theorem dX8_stuckDepth_44 : decode cX8_stuckDepth 44 = .ok (.istore 4, 2) := by decide +kernel
theorem dX8_stuckDepth_46 : decode cX8_stuckDepth 46 = .ok (.iload 4, 2) := by decide +kernel
theorem dX8_stuckDepth_48 : decode cX8_stuckDepth 48 = .ok (.sipush 200, 3) := by decide +kernel
theorem dX8_stuckDepth_51 : decode cX8_stuckDepth 51 = .ok (.if_icmp .gt 46, 3) := by decide +kernel
theorem dX8_stuckDepth_54 : decode cX8_stuckDepth 54 = .ok (.iload_n 2, 1) := by decide +kernel
theorem dX8_stuckDepth_55 : decode cX8_stuckDepth 55 = .ok (.aload_n 0, 1) := by decide +kernel
theorem dX8_stuckDepth_56 : decode cX8_stuckDepth 56 = .ok (.getfield 20, 3) := by decide +kernel
theorem dX8_stuckDepth_59 : decode cX8_stuckDepth 59 = .ok (.getfield 95, 3) := by decide +kernel
theorem dX8_stuckDepth_62 : decode cX8_stuckDepth 62 = .ok (.iload 4, 2) := by decide +kernel
theorem dX8_stuckDepth_64 : decode cX8_stuckDepth 64 = .ok (.invokevirtual 233, 3) := by decide +kernel
theorem dX8_stuckDepth_67 : decode cX8_stuckDepth 67 = .ok (.imul, 1) := by decide +kernel
theorem dX8_stuckDepth_68 : decode cX8_stuckDepth 68 = .ok (.istore 5, 2) := by decide +kernel
theorem dX8_stuckDepth_70 : decode cX8_stuckDepth 70 = .ok (.iload_n 1, 1) := by decide +kernel
theorem dX8_stuckDepth_71 : decode cX8_stuckDepth 71 = .ok (.iload 5, 2) := by decide +kernel
theorem dX8_stuckDepth_73 : decode cX8_stuckDepth 73 = .ok (.iload_n 3, 1) := by decide +kernel
theorem dX8_stuckDepth_74 : decode cX8_stuckDepth 74 = .ok (.aload_n 0, 1) := by decide +kernel
theorem dX8_stuckDepth_75 : decode cX8_stuckDepth 75 = .ok (.getfield 12, 3) := by decide +kernel
theorem dX8_stuckDepth_78 : decode cX8_stuckDepth 78 = .ok (.iload 4, 2) := by decide +kernel
theorem dX8_stuckDepth_80 : decode cX8_stuckDepth 80 = .ok (.invokevirtual 199, 3) := by decide +kernel
theorem dX8_stuckDepth_83 : decode cX8_stuckDepth 83 = .ok (.imul, 1) := by decide +kernel
theorem dX8_stuckDepth_84 : decode cX8_stuckDepth 84 = .ok (.iadd, 1) := by decide +kernel
theorem dX8_stuckDepth_85 : decode cX8_stuckDepth 85 = .ok (.if_icmp .gt 6, 3) := by decide +kernel
theorem dX8_stuckDepth_88 : decode cX8_stuckDepth 88 = .ok (.iload 4, 2) := by decide +kernel
theorem dX8_stuckDepth_90 : decode cX8_stuckDepth 90 = .ok (.ireturn, 1) := by decide +kernel
theorem dX8_stuckDepth_91 : decode cX8_stuckDepth 91 = .ok (.iinc 4 1, 3) := by decide +kernel
theorem dX8_stuckDepth_94 : decode cX8_stuckDepth 94 = .ok (.goto (-48), 3) := by decide +kernel
theorem dX8_stuckDepth_97 : decode cX8_stuckDepth 97 = .ok (.ldc 236, 2) := by decide +kernel
theorem dX8_stuckDepth_99 : decode cX8_stuckDepth 99 = .ok (.ireturn, 1) := by decide +kernel
theorem dX8_ballastNeeded_0 : decode cX8_ballastNeeded 0 = .ok (.aload_n 0, 1) := by decide +kernel
theorem dX8_ballastNeeded_1 : decode cX8_ballastNeeded 1 = .ok (.getfield 12, 3) := by decide +kernel
theorem dX8_ballastNeeded_4 : decode cX8_ballastNeeded 4 = .ok (.aload_n 0, 1) := by decide +kernel
theorem dX8_ballastNeeded_5 : decode cX8_ballastNeeded 5 = .ok (.getfield 20, 3) := by decide +kernel
theorem dX8_ballastNeeded_8 : decode cX8_ballastNeeded 8 = .ok (.getfield 157, 3) := by decide +kernel
theorem dX8_ballastNeeded_11 : decode cX8_ballastNeeded 11 = .ok (.invokevirtual 211, 3) := by decide +kernel
theorem dX8_ballastNeeded_14 : decode cX8_ballastNeeded 14 = .ok (.pop, 1) := by decide +kernel
theorem dX8_ballastNeeded_15 : decode cX8_ballastNeeded 15 = .ok (.aload_n 0, 1) := by decide +kernel
theorem dX8_ballastNeeded_16 : decode cX8_ballastNeeded 16 = .ok (.getfield 12, 3) := by decide +kernel
theorem dX8_ballastNeeded_19 : decode cX8_ballastNeeded 19 = .ok (.getfield 215, 3) := by decide +kernel
theorem dX8_ballastNeeded_22 : decode cX8_ballastNeeded 22 = .ok (.ifCond .le 7, 3) := by decide +kernel
theorem dX8_ballastNeeded_25 : decode cX8_ballastNeeded 25 = .ok (.iconst 0, 1) := by decide +kernel
theorem dX8_ballastNeeded_26 : decode cX8_ballastNeeded 26 = .ok (.goto 15, 3) := by decide +kernel
theorem dX8_ballastNeeded_29 : decode cX8_ballastNeeded 29 = .ok (.aload_n 0, 1) := by decide +kernel
theorem dX8_ballastNeeded_30 : decode cX8_ballastNeeded 30 = .ok (.getfield 12, 3) := by decide +kernel
theorem dX8_ballastNeeded_33 : decode cX8_ballastNeeded 33 = .ok (.getfield 215, 3) := by decide +kernel
theorem dX8_ballastNeeded_36 : decode cX8_ballastNeeded 36 = .ok (.ineg, 1) := by decide +kernel
theorem dX8_ballastNeeded_37 : decode cX8_ballastNeeded 37 = .ok (.iconst 4, 1) := by decide +kernel
theorem dX8_ballastNeeded_38 : decode cX8_ballastNeeded 38 = .ok (.idiv, 1) := by decide +kernel
theorem dX8_ballastNeeded_39 : decode cX8_ballastNeeded 39 = .ok (.iconst 1, 1) := by decide +kernel
theorem dX8_ballastNeeded_40 : decode cX8_ballastNeeded 40 = .ok (.iadd, 1) := by decide +kernel
theorem dX8_ballastNeeded_41 : decode cX8_ballastNeeded 41 = .ok (.ireturn, 1) := by decide +kernel
theorem dX8_dig_0 : decode cX8_dig 0 = .ok (.aload_n 0, 1) := by decide +kernel
theorem dX8_dig_1 : decode cX8_dig 1 = .ok (.getfield 20, 3) := by decide +kernel
theorem dX8_dig_4 : decode cX8_dig 4 = .ok (.iload_n 1, 1) := by decide +kernel
theorem dX8_dig_5 : decode cX8_dig 5 = .ok (.invokevirtual 205, 3) := by decide +kernel
theorem dX8_dig_8 : decode cX8_dig 8 = .ok (.ifCond .eq 13, 3) := by decide +kernel
theorem dX8_dig_11 : decode cX8_dig 11 = .ok (.iload_n 2, 1) := by decide +kernel
theorem dX8_dig_12 : decode cX8_dig 12 = .ok (.iconst 1, 1) := by decide +kernel
theorem dX8_dig_13 : decode cX8_dig 13 = .ok (.bipush 10, 2) := by decide +kernel
theorem dX8_dig_15 : decode cX8_dig 15 = .ok (.invokestatic 61, 3) := by decide +kernel
theorem dX8_dig_18 : decode cX8_dig 18 = .ok (.ifCond .ne 6, 3) := by decide +kernel
theorem dX8_dig_21 : decode cX8_dig 21 = .ok (.ldc 65, 2) := by decide +kernel
theorem dX8_dig_23 : decode cX8_dig 23 = .ok (.ireturn, 1) := by decide +kernel
theorem dX8_dig_24 : decode cX8_dig 24 = .ok (.aload_n 0, 1) := by decide +kernel
theorem dX8_dig_25 : decode cX8_dig 25 = .ok (.getfield 20, 3) := by decide +kernel
theorem dX8_dig_28 : decode cX8_dig 28 = .ok (.getfield 157, 3) := by decide +kernel
theorem dX8_dig_31 : decode cX8_dig 31 = .ok (.iload_n 1, 1) := by decide +kernel
theorem dX8_dig_32 : decode cX8_dig 32 = .ok (.invokevirtual 208, 3) := by decide +kernel
theorem dX8_dig_35 : decode cX8_dig 35 = .ok (.istore_n 3, 1) := by decide +kernel
theorem dX8_dig_36 : decode cX8_dig 36 = .ok (.aload_n 0, 1) := by decide +kernel
theorem dX8_dig_37 : decode cX8_dig 37 = .ok (.getfield 20, 3) := by decide +kernel
theorem dX8_dig_40 : decode cX8_dig 40 = .ok (.aload_n 0, 1) := by decide +kernel
theorem dX8_dig_41 : decode cX8_dig 41 = .ok (.getfield 20, 3) := by decide +kernel
theorem dX8_dig_44 : decode cX8_dig 44 = .ok (.getfield 157, 3) := by decide +kernel
theorem dX8_dig_47 : decode cX8_dig 47 = .ok (.iload_n 1, 1) := by decide +kernel
theorem dX8_dig_48 : decode cX8_dig 48 = .ok (.iload_n 2, 1) := by decide +kernel
theorem dX8_dig_49 : decode cX8_dig 49 = .ok (.invokevirtual 237, 3) := by decide +kernel
theorem dX8_dig_52 : decode cX8_dig 52 = .ok (.istore 4, 2) := by decide +kernel
theorem dX8_dig_54 : decode cX8_dig 54 = .ok (.iload 4, 2) := by decide +kernel
theorem dX8_dig_56 : decode cX8_dig 56 = .ok (.iload_n 3, 1) := by decide +kernel
theorem dX8_dig_57 : decode cX8_dig 57 = .ok (.if_icmp .gt 6, 3) := by decide +kernel
theorem dX8_dig_60 : decode cX8_dig 60 = .ok (.ldc 129, 2) := by decide +kernel
theorem dX8_dig_62 : decode cX8_dig 62 = .ok (.ireturn, 1) := by decide +kernel
theorem dX8_dig_63 : decode cX8_dig 63 = .ok (.aload_n 0, 1) := by decide +kernel
theorem dX8_dig_64 : decode cX8_dig 64 = .ok (.getfield 30, 3) := by decide +kernel
theorem dX8_dig_67 : decode cX8_dig 67 = .ok (.aload_n 0, 1) := by decide +kernel
theorem dX8_dig_68 : decode cX8_dig 68 = .ok (.getfield 20, 3) := by decide +kernel
theorem dX8_dig_71 : decode cX8_dig 71 = .ok (.invokevirtual 78, 3) := by decide +kernel
theorem dX8_dig_74 : decode cX8_dig 74 = .ok (.aload_n 0, 1) := by decide +kernel
theorem dX8_dig_75 : decode cX8_dig 75 = .ok (.getfield 20, 3) := by decide +kernel
theorem dX8_dig_78 : decode cX8_dig 78 = .ok (.getfield 157, 3) := by decide +kernel
theorem dX8_dig_81 : decode cX8_dig 81 = .ok (.iload_n 1, 1) := by decide +kernel
theorem dX8_dig_82 : decode cX8_dig 82 = .ok (.iload 4, 2) := by decide +kernel
theorem dX8_dig_84 : decode cX8_dig 84 = .ok (.invokevirtual 240, 3) := by decide +kernel
theorem dX8_dig_87 : decode cX8_dig 87 = .ok (.aload_n 0, 1) := by decide +kernel
theorem dX8_dig_88 : decode cX8_dig 88 = .ok (.iconst 0, 1) := by decide +kernel
theorem dX8_dig_89 : decode cX8_dig 89 = .ok (.iload_n 1, 1) := by decide +kernel
theorem dX8_dig_90 : decode cX8_dig 90 = .ok (.invokevirtual 243, 3) := by decide +kernel
theorem dX8_dig_93 : decode cX8_dig 93 = .ok (.iload 4, 2) := by decide +kernel
theorem dX8_dig_95 : decode cX8_dig 95 = .ok (.iload_n 3, 1) := by decide +kernel
theorem dX8_dig_96 : decode cX8_dig 96 = .ok (.isub, 1) := by decide +kernel
theorem dX8_dig_97 : decode cX8_dig 97 = .ok (.ireturn, 1) := by decide +kernel
theorem dX8_settle_0 : decode cX8_settle 0 = .ok (.iload_n 1, 1) := by decide +kernel
theorem dX8_settle_1 : decode cX8_settle 1 = .ok (.iconst 1, 1) := by decide +kernel
theorem dX8_settle_2 : decode cX8_settle 2 = .ok (.bipush 50, 2) := by decide +kernel
theorem dX8_settle_4 : decode cX8_settle 4 = .ok (.invokestatic 61, 3) := by decide +kernel
theorem dX8_settle_7 : decode cX8_settle 7 = .ok (.ifCond .ne 6, 3) := by decide +kernel
theorem dX8_settle_10 : decode cX8_settle 10 = .ok (.ldc 65, 2) := by decide +kernel
theorem dX8_settle_12 : decode cX8_settle 12 = .ok (.ireturn, 1) := by decide +kernel
theorem dX8_settle_13 : decode cX8_settle 13 = .ok (.aload_n 0, 1) := by decide +kernel
theorem dX8_settle_14 : decode cX8_settle 14 = .ok (.getfield 12, 3) := by decide +kernel
theorem dX8_settle_17 : decode cX8_settle 17 = .ok (.aload_n 0, 1) := by decide +kernel
theorem dX8_settle_18 : decode cX8_settle 18 = .ok (.getfield 20, 3) := by decide +kernel
theorem dX8_settle_21 : decode cX8_settle 21 = .ok (.getfield 157, 3) := by decide +kernel
theorem dX8_settle_24 : decode cX8_settle 24 = .ok (.invokevirtual 211, 3) := by decide +kernel
theorem dX8_settle_27 : decode cX8_settle 27 = .ok (.ifCond .ne 6, 3) := by decide +kernel
theorem dX8_settle_30 : decode cX8_settle 30 = .ok (.ldc 129, 2) := by decide +kernel
theorem dX8_settle_32 : decode cX8_settle 32 = .ok (.ireturn, 1) := by decide +kernel
theorem dX8_settle_33 : decode cX8_settle 33 = .ok (.aload_n 0, 1) := by decide +kernel
theorem dX8_settle_34 : decode cX8_settle 34 = .ok (.getfield 30, 3) := by decide +kernel
theorem dX8_settle_37 : decode cX8_settle 37 = .ok (.aload_n 0, 1) := by decide +kernel
theorem dX8_settle_38 : decode cX8_settle 38 = .ok (.getfield 20, 3) := by decide +kernel
theorem dX8_settle_41 : decode cX8_settle 41 = .ok (.invokevirtual 78, 3) := by decide +kernel
theorem dX8_settle_44 : decode cX8_settle 44 = .ok (.aload_n 0, 1) := by decide +kernel
theorem dX8_settle_45 : decode cX8_settle 45 = .ok (.getfield 12, 3) := by decide +kernel
theorem dX8_settle_48 : decode cX8_settle 48 = .ok (.aload_n 0, 1) := by decide +kernel
theorem dX8_settle_49 : decode cX8_settle 49 = .ok (.getfield 20, 3) := by decide +kernel
theorem dX8_settle_52 : decode cX8_settle 52 = .ok (.getfield 157, 3) := by decide +kernel
theorem dX8_settle_55 : decode cX8_settle 55 = .ok (.iload_n 1, 1) := by decide +kernel
theorem dX8_settle_56 : decode cX8_settle 56 = .ok (.invokevirtual 246, 3) := by decide +kernel
theorem dX8_settle_59 : decode cX8_settle 59 = .ok (.istore_n 2, 1) := by decide +kernel
theorem dX8_settle_60 : decode cX8_settle 60 = .ok (.aload_n 0, 1) := by decide +kernel
theorem dX8_settle_61 : decode cX8_settle 61 = .ok (.iconst 1, 1) := by decide +kernel
theorem dX8_settle_62 : decode cX8_settle 62 = .ok (.iload_n 2, 1) := by decide +kernel
theorem dX8_settle_63 : decode cX8_settle 63 = .ok (.invokevirtual 243, 3) := by decide +kernel
theorem dX8_settle_66 : decode cX8_settle 66 = .ok (.iload_n 2, 1) := by decide +kernel
theorem dX8_settle_67 : decode cX8_settle 67 = .ok (.ireturn, 1) := by decide +kernel
theorem dX8_setBallast_0 : decode cX8_setBallast 0 = .ok (.aload_n 0, 1) := by decide +kernel
theorem dX8_setBallast_1 : decode cX8_setBallast 1 = .ok (.getfield 20, 3) := by decide +kernel
theorem dX8_setBallast_4 : decode cX8_setBallast 4 = .ok (.iload_n 1, 1) := by decide +kernel
theorem dX8_setBallast_5 : decode cX8_setBallast 5 = .ok (.invokevirtual 115, 3) := by decide +kernel
theorem dX8_setBallast_8 : decode cX8_setBallast 8 = .ok (.ifCond .eq 13, 3) := by decide +kernel
theorem dX8_setBallast_11 : decode cX8_setBallast 11 = .ok (.iload_n 2, 1) := by decide +kernel
theorem dX8_setBallast_12 : decode cX8_setBallast 12 = .ok (.iconst 0, 1) := by decide +kernel
theorem dX8_setBallast_13 : decode cX8_setBallast 13 = .ok (.bipush 99, 2) := by decide +kernel
theorem dX8_setBallast_15 : decode cX8_setBallast 15 = .ok (.invokestatic 61, 3) := by decide +kernel
theorem dX8_setBallast_18 : decode cX8_setBallast 18 = .ok (.ifCond .ne 6, 3) := by decide +kernel
theorem dX8_setBallast_21 : decode cX8_setBallast 21 = .ok (.ldc 65, 2) := by decide +kernel
theorem dX8_setBallast_23 : decode cX8_setBallast 23 = .ok (.ireturn, 1) := by decide +kernel
theorem dX8_setBallast_24 : decode cX8_setBallast 24 = .ok (.aload_n 0, 1) := by decide +kernel
theorem dX8_setBallast_25 : decode cX8_setBallast 25 = .ok (.getfield 20, 3) := by decide +kernel
theorem dX8_setBallast_28 : decode cX8_setBallast 28 = .ok (.iload_n 1, 1) := by decide +kernel
theorem dX8_setBallast_29 : decode cX8_setBallast 29 = .ok (.invokevirtual 250, 3) := by decide +kernel
theorem dX8_setBallast_32 : decode cX8_setBallast 32 = .ok (.istore_n 3, 1) := by decide +kernel
theorem dX8_setBallast_33 : decode cX8_setBallast 33 = .ok (.iload_n 3, 1) := by decide +kernel
theorem dX8_setBallast_34 : decode cX8_setBallast 34 = .ok (.iload_n 2, 1) := by decide +kernel
theorem dX8_setBallast_35 : decode cX8_setBallast 35 = .ok (.if_icmp .ne 6, 3) := by decide +kernel
theorem dX8_setBallast_38 : decode cX8_setBallast 38 = .ok (.ldc 129, 2) := by decide +kernel
theorem dX8_setBallast_40 : decode cX8_setBallast 40 = .ok (.ireturn, 1) := by decide +kernel
theorem dX8_setBallast_41 : decode cX8_setBallast 41 = .ok (.aload_n 0, 1) := by decide +kernel
theorem dX8_setBallast_42 : decode cX8_setBallast 42 = .ok (.getfield 30, 3) := by decide +kernel
theorem dX8_setBallast_45 : decode cX8_setBallast 45 = .ok (.aload_n 0, 1) := by decide +kernel
theorem dX8_setBallast_46 : decode cX8_setBallast 46 = .ok (.getfield 20, 3) := by decide +kernel
theorem dX8_setBallast_49 : decode cX8_setBallast 49 = .ok (.invokevirtual 78, 3) := by decide +kernel
theorem dX8_setBallast_52 : decode cX8_setBallast 52 = .ok (.aload_n 0, 1) := by decide +kernel
theorem dX8_setBallast_53 : decode cX8_setBallast 53 = .ok (.getfield 20, 3) := by decide +kernel
theorem dX8_setBallast_56 : decode cX8_setBallast 56 = .ok (.iload_n 1, 1) := by decide +kernel
theorem dX8_setBallast_57 : decode cX8_setBallast 57 = .ok (.iload_n 2, 1) := by decide +kernel
theorem dX8_setBallast_58 : decode cX8_setBallast 58 = .ok (.invokevirtual 253, 3) := by decide +kernel
theorem dX8_setBallast_61 : decode cX8_setBallast 61 = .ok (.aload_n 0, 1) := by decide +kernel
theorem dX8_setBallast_62 : decode cX8_setBallast 62 = .ok (.iconst 2, 1) := by decide +kernel
theorem dX8_setBallast_63 : decode cX8_setBallast 63 = .ok (.iload_n 1, 1) := by decide +kernel
theorem dX8_setBallast_64 : decode cX8_setBallast 64 = .ok (.invokevirtual 243, 3) := by decide +kernel
theorem dX8_setBallast_67 : decode cX8_setBallast 67 = .ok (.iload_n 3, 1) := by decide +kernel
theorem dX8_setBallast_68 : decode cX8_setBallast 68 = .ok (.ireturn, 1) := by decide +kernel
theorem dX8_lubricate_0 : decode cX8_lubricate 0 = .ok (.iload_n 1, 1) := by decide +kernel
theorem dX8_lubricate_1 : decode cX8_lubricate 1 = .ok (.iconst 0, 1) := by decide +kernel
theorem dX8_lubricate_2 : decode cX8_lubricate 2 = .ok (.iconst 3, 1) := by decide +kernel
theorem dX8_lubricate_3 : decode cX8_lubricate 3 = .ok (.invokestatic 61, 3) := by decide +kernel
theorem dX8_lubricate_6 : decode cX8_lubricate 6 = .ok (.ifCond .eq 12, 3) := by decide +kernel
theorem dX8_lubricate_9 : decode cX8_lubricate 9 = .ok (.iload_n 2, 1) := by decide +kernel
theorem dX8_lubricate_10 : decode cX8_lubricate 10 = .ok (.iconst 0, 1) := by decide +kernel
theorem dX8_lubricate_11 : decode cX8_lubricate 11 = .ok (.iconst 1, 1) := by decide +kernel
theorem dX8_lubricate_12 : decode cX8_lubricate 12 = .ok (.invokestatic 61, 3) := by decide +kernel
theorem dX8_lubricate_15 : decode cX8_lubricate 15 = .ok (.ifCond .ne 6, 3) := by decide +kernel
theorem dX8_lubricate_18 : decode cX8_lubricate 18 = .ok (.ldc 65, 2) := by decide +kernel
theorem dX8_lubricate_20 : decode cX8_lubricate 20 = .ok (.ireturn, 1) := by decide +kernel
theorem dX8_lubricate_21 : decode cX8_lubricate 21 = .ok (.aload_n 0, 1) := by decide +kernel
theorem dX8_lubricate_22 : decode cX8_lubricate 22 = .ok (.getfield 20, 3) := by decide +kernel
theorem dX8_lubricate_25 : decode cX8_lubricate 25 = .ok (.getfield 256, 3) := by decide +kernel
theorem dX8_lubricate_28 : decode cX8_lubricate 28 = .ok (.iload_n 1, 1) := by decide +kernel
theorem dX8_lubricate_29 : decode cX8_lubricate 29 = .ok (.iaload, 1) := by decide +kernel
theorem dX8_lubricate_30 : decode cX8_lubricate 30 = .ok (.iload_n 2, 1) := by decide +kernel
theorem dX8_lubricate_31 : decode cX8_lubricate 31 = .ok (.if_icmp .ne 6, 3) := by decide +kernel
theorem dX8_lubricate_34 : decode cX8_lubricate 34 = .ok (.ldc 129, 2) := by decide +kernel
theorem dX8_lubricate_36 : decode cX8_lubricate 36 = .ok (.ireturn, 1) := by decide +kernel
theorem dX8_lubricate_37 : decode cX8_lubricate 37 = .ok (.aload_n 0, 1) := by decide +kernel
theorem dX8_lubricate_38 : decode cX8_lubricate 38 = .ok (.getfield 30, 3) := by decide +kernel
theorem dX8_lubricate_41 : decode cX8_lubricate 41 = .ok (.aload_n 0, 1) := by decide +kernel
theorem dX8_lubricate_42 : decode cX8_lubricate 42 = .ok (.getfield 20, 3) := by decide +kernel
theorem dX8_lubricate_45 : decode cX8_lubricate 45 = .ok (.invokevirtual 78, 3) := by decide +kernel
theorem dX8_lubricate_48 : decode cX8_lubricate 48 = .ok (.aload_n 0, 1) := by decide +kernel
theorem dX8_lubricate_49 : decode cX8_lubricate 49 = .ok (.getfield 20, 3) := by decide +kernel
theorem dX8_lubricate_52 : decode cX8_lubricate 52 = .ok (.getfield 256, 3) := by decide +kernel
theorem dX8_lubricate_55 : decode cX8_lubricate 55 = .ok (.iload_n 1, 1) := by decide +kernel
theorem dX8_lubricate_56 : decode cX8_lubricate 56 = .ok (.iload_n 2, 1) := by decide +kernel
theorem dX8_lubricate_57 : decode cX8_lubricate 57 = .ok (.iastore, 1) := by decide +kernel
theorem dX8_lubricate_58 : decode cX8_lubricate 58 = .ok (.aload_n 0, 1) := by decide +kernel
theorem dX8_lubricate_59 : decode cX8_lubricate 59 = .ok (.iconst 3, 1) := by decide +kernel
theorem dX8_lubricate_60 : decode cX8_lubricate 60 = .ok (.iload_n 1, 1) := by decide +kernel
theorem dX8_lubricate_61 : decode cX8_lubricate 61 = .ok (.invokevirtual 243, 3) := by decide +kernel
theorem dX8_lubricate_64 : decode cX8_lubricate 64 = .ok (.aload_n 0, 1) := by decide +kernel
theorem dX8_lubricate_65 : decode cX8_lubricate 65 = .ok (.getfield 20, 3) := by decide +kernel
theorem dX8_lubricate_68 : decode cX8_lubricate 68 = .ok (.invokevirtual 260, 3) := by decide +kernel
theorem dX8_lubricate_71 : decode cX8_lubricate 71 = .ok (.ireturn, 1) := by decide +kernel
theorem dX8_blast_0 : decode cX8_blast 0 = .ok (.aload_n 0, 1) := by decide +kernel
theorem dX8_blast_1 : decode cX8_blast 1 = .ok (.getfield 20, 3) := by decide +kernel
theorem dX8_blast_4 : decode cX8_blast 4 = .ok (.iload_n 1, 1) := by decide +kernel
theorem dX8_blast_5 : decode cX8_blast 5 = .ok (.invokevirtual 115, 3) := by decide +kernel
theorem dX8_blast_8 : decode cX8_blast 8 = .ok (.ifCond .eq 13, 3) := by decide +kernel
theorem dX8_blast_11 : decode cX8_blast 11 = .ok (.iload_n 2, 1) := by decide +kernel
theorem dX8_blast_12 : decode cX8_blast 12 = .ok (.iconst 1, 1) := by decide +kernel
theorem dX8_blast_13 : decode cX8_blast 13 = .ok (.bipush 50, 2) := by decide +kernel
theorem dX8_blast_15 : decode cX8_blast 15 = .ok (.invokestatic 61, 3) := by decide +kernel
theorem dX8_blast_18 : decode cX8_blast 18 = .ok (.ifCond .ne 6, 3) := by decide +kernel
theorem dX8_blast_21 : decode cX8_blast 21 = .ok (.ldc 65, 2) := by decide +kernel
theorem dX8_blast_23 : decode cX8_blast 23 = .ok (.ireturn, 1) := by decide +kernel
theorem dX8_blast_24 : decode cX8_blast 24 = .ok (.aload_n 0, 1) := by decide +kernel
theorem dX8_blast_25 : decode cX8_blast 25 = .ok (.iload_n 1, 1) := by decide +kernel
theorem dX8_blast_26 : decode cX8_blast 26 = .ok (.invokevirtual 263, 3) := by decide +kernel
theorem dX8_blast_29 : decode cX8_blast 29 = .ok (.istore_n 3, 1) := by decide +kernel
theorem dX8_blast_30 : decode cX8_blast 30 = .ok (.iload_n 3, 1) := by decide +kernel
theorem dX8_blast_31 : decode cX8_blast 31 = .ok (.ldc 236, 2) := by decide +kernel
theorem dX8_blast_33 : decode cX8_blast 33 = .ok (.if_icmp .ne 6, 3) := by decide +kernel
theorem dX8_blast_36 : decode cX8_blast 36 = .ok (.ldc 129, 2) := by decide +kernel
theorem dX8_blast_38 : decode cX8_blast 38 = .ok (.ireturn, 1) := by decide +kernel
theorem dX8_blast_39 : decode cX8_blast 39 = .ok (.aload_n 0, 1) := by decide +kernel
theorem dX8_blast_40 : decode cX8_blast 40 = .ok (.getfield 30, 3) := by decide +kernel
theorem dX8_blast_43 : decode cX8_blast 43 = .ok (.aload_n 0, 1) := by decide +kernel
theorem dX8_blast_44 : decode cX8_blast 44 = .ok (.getfield 20, 3) := by decide +kernel
theorem dX8_blast_47 : decode cX8_blast 47 = .ok (.invokevirtual 78, 3) := by decide +kernel
theorem dX8_blast_50 : decode cX8_blast 50 = .ok (.aload_n 0, 1) := by decide +kernel
theorem dX8_blast_51 : decode cX8_blast 51 = .ok (.getfield 20, 3) := by decide +kernel
theorem dX8_blast_54 : decode cX8_blast 54 = .ok (.getfield 119, 3) := by decide +kernel
theorem dX8_blast_57 : decode cX8_blast 57 = .ok (.iload_n 3, 1) := by decide +kernel
theorem dX8_blast_58 : decode cX8_blast 58 = .ok (.iload_n 2, 1) := by decide +kernel
theorem dX8_blast_59 : decode cX8_blast 59 = .ok (.invokevirtual 266, 3) := by decide +kernel
theorem dX8_blast_62 : decode cX8_blast 62 = .ok (.istore 4, 2) := by decide +kernel
theorem dX8_blast_64 : decode cX8_blast 64 = .ok (.aload_n 0, 1) := by decide +kernel
theorem dX8_blast_65 : decode cX8_blast 65 = .ok (.iconst 4, 1) := by decide +kernel
theorem dX8_blast_66 : decode cX8_blast 66 = .ok (.iload_n 1, 1) := by decide +kernel
theorem dX8_blast_67 : decode cX8_blast 67 = .ok (.invokevirtual 243, 3) := by decide +kernel
theorem dX8_blast_70 : decode cX8_blast 70 = .ok (.iload 4, 2) := by decide +kernel
theorem dX8_blast_72 : decode cX8_blast 72 = .ok (.ireturn, 1) := by decide +kernel
theorem dX8_pump_0 : decode cX8_pump 0 = .ok (.iload_n 1, 1) := by decide +kernel
theorem dX8_pump_1 : decode cX8_pump 1 = .ok (.iconst 0, 1) := by decide +kernel
theorem dX8_pump_2 : decode cX8_pump 2 = .ok (.sipush 400, 3) := by decide +kernel
theorem dX8_pump_5 : decode cX8_pump 5 = .ok (.invokestatic 61, 3) := by decide +kernel
theorem dX8_pump_8 : decode cX8_pump 8 = .ok (.ifCond .ne 6, 3) := by decide +kernel
theorem dX8_pump_11 : decode cX8_pump 11 = .ok (.ldc 65, 2) := by decide +kernel
theorem dX8_pump_13 : decode cX8_pump 13 = .ok (.ireturn, 1) := by decide +kernel
theorem dX8_pump_14 : decode cX8_pump 14 = .ok (.aload_n 0, 1) := by decide +kernel
theorem dX8_pump_15 : decode cX8_pump 15 = .ok (.getfield 20, 3) := by decide +kernel
theorem dX8_pump_18 : decode cX8_pump 18 = .ok (.getfield 173, 3) := by decide +kernel
theorem dX8_pump_21 : decode cX8_pump 21 = .ok (.istore_n 2, 1) := by decide +kernel
theorem dX8_pump_22 : decode cX8_pump 22 = .ok (.iload_n 2, 1) := by decide +kernel
theorem dX8_pump_23 : decode cX8_pump 23 = .ok (.iload_n 1, 1) := by decide +kernel
theorem dX8_pump_24 : decode cX8_pump 24 = .ok (.if_icmp .ne 6, 3) := by decide +kernel
theorem dX8_pump_27 : decode cX8_pump 27 = .ok (.ldc 129, 2) := by decide +kernel
theorem dX8_pump_29 : decode cX8_pump 29 = .ok (.ireturn, 1) := by decide +kernel
theorem dX8_pump_30 : decode cX8_pump 30 = .ok (.aload_n 0, 1) := by decide +kernel
theorem dX8_pump_31 : decode cX8_pump 31 = .ok (.getfield 30, 3) := by decide +kernel
theorem dX8_pump_34 : decode cX8_pump 34 = .ok (.aload_n 0, 1) := by decide +kernel
theorem dX8_pump_35 : decode cX8_pump 35 = .ok (.getfield 20, 3) := by decide +kernel
theorem dX8_pump_38 : decode cX8_pump 38 = .ok (.invokevirtual 78, 3) := by decide +kernel
theorem dX8_pump_41 : decode cX8_pump 41 = .ok (.aload_n 0, 1) := by decide +kernel
theorem dX8_pump_42 : decode cX8_pump 42 = .ok (.getfield 20, 3) := by decide +kernel
theorem dX8_pump_45 : decode cX8_pump 45 = .ok (.iload_n 1, 1) := by decide +kernel
theorem dX8_pump_46 : decode cX8_pump 46 = .ok (.putfield 173, 3) := by decide +kernel
theorem dX8_pump_49 : decode cX8_pump 49 = .ok (.aload_n 0, 1) := by decide +kernel
theorem dX8_pump_50 : decode cX8_pump 50 = .ok (.iconst 5, 1) := by decide +kernel
theorem dX8_pump_51 : decode cX8_pump 51 = .ok (.iload_n 1, 1) := by decide +kernel
theorem dX8_pump_52 : decode cX8_pump 52 = .ok (.invokevirtual 243, 3) := by decide +kernel
theorem dX8_pump_55 : decode cX8_pump 55 = .ok (.iload_n 2, 1) := by decide +kernel
theorem dX8_pump_56 : decode cX8_pump 56 = .ok (.ireturn, 1) := by decide +kernel
theorem dX8_record_0 : decode cX8_record 0 = .ok (.aload_n 0, 1) := by decide +kernel
theorem dX8_record_1 : decode cX8_record 1 = .ok (.getfield 20, 3) := by decide +kernel
theorem dX8_record_4 : decode cX8_record 4 = .ok (.getfield 176, 3) := by decide +kernel
theorem dX8_record_7 : decode cX8_record 7 = .ok (.iload_n 1, 1) := by decide +kernel
theorem dX8_record_8 : decode cX8_record 8 = .ok (.iload_n 2, 1) := by decide +kernel
theorem dX8_record_9 : decode cX8_record 9 = .ok (.invokestatic 269, 3) := by decide +kernel
theorem dX8_record_12 : decode cX8_record 12 = .ok (.ireturn, 1) := by decide +kernel
theorem dX8_wouldSettle_0 : decode cX8_wouldSettle 0 = .ok (.iload_n 1, 1) := by decide +kernel
theorem dX8_wouldSettle_1 : decode cX8_wouldSettle 1 = .ok (.iconst 1, 1) := by decide +kernel
theorem dX8_wouldSettle_2 : decode cX8_wouldSettle 2 = .ok (.bipush 50, 2) := by decide +kernel
theorem dX8_wouldSettle_4 : decode cX8_wouldSettle 4 = .ok (.invokestatic 61, 3) := by decide +kernel
theorem dX8_wouldSettle_7 : decode cX8_wouldSettle 7 = .ok (.ifCond .eq 12, 3) := by decide +kernel
theorem dX8_wouldSettle_10 : decode cX8_wouldSettle 10 = .ok (.iload_n 2, 1) := by decide +kernel
theorem dX8_wouldSettle_11 : decode cX8_wouldSettle 11 = .ok (.iconst 0, 1) := by decide +kernel
theorem dX8_wouldSettle_12 : decode cX8_wouldSettle 12 = .ok (.iconst 3, 1) := by decide +kernel
theorem dX8_wouldSettle_13 : decode cX8_wouldSettle 13 = .ok (.invokestatic 61, 3) := by decide +kernel
theorem dX8_wouldSettle_16 : decode cX8_wouldSettle 16 = .ok (.ifCond .ne 6, 3) := by decide +kernel
theorem dX8_wouldSettle_19 : decode cX8_wouldSettle 19 = .ok (.ldc 65, 2) := by decide +kernel
theorem dX8_wouldSettle_21 : decode cX8_wouldSettle 21 = .ok (.ireturn, 1) := by decide +kernel
theorem dX8_wouldSettle_22 : decode cX8_wouldSettle 22 = .ok (.aload_n 0, 1) := by decide +kernel
theorem dX8_wouldSettle_23 : decode cX8_wouldSettle 23 = .ok (.getfield 53, 3) := by decide +kernel
theorem dX8_wouldSettle_26 : decode cX8_wouldSettle 26 = .ok (.aload_n 0, 1) := by decide +kernel
theorem dX8_wouldSettle_27 : decode cX8_wouldSettle 27 = .ok (.getfield 20, 3) := by decide +kernel
theorem dX8_wouldSettle_30 : decode cX8_wouldSettle 30 = .ok (.getfield 157, 3) := by decide +kernel
theorem dX8_wouldSettle_33 : decode cX8_wouldSettle 33 = .ok (.invokevirtual 273, 3) := by decide +kernel
theorem dX8_wouldSettle_36 : decode cX8_wouldSettle 36 = .ok (.aload_n 0, 1) := by decide +kernel
theorem dX8_wouldSettle_37 : decode cX8_wouldSettle 37 = .ok (.getfield 12, 3) := by decide +kernel
theorem dX8_wouldSettle_40 : decode cX8_wouldSettle 40 = .ok (.aload_n 0, 1) := by decide +kernel
theorem dX8_wouldSettle_41 : decode cX8_wouldSettle 41 = .ok (.getfield 53, 3) := by decide +kernel
theorem dX8_wouldSettle_44 : decode cX8_wouldSettle 44 = .ok (.iload_n 1, 1) := by decide +kernel
theorem dX8_wouldSettle_45 : decode cX8_wouldSettle 45 = .ok (.invokevirtual 246, 3) := by decide +kernel
theorem dX8_wouldSettle_48 : decode cX8_wouldSettle 48 = .ok (.istore_n 3, 1) := by decide +kernel
theorem dX8_wouldSettle_49 : decode cX8_wouldSettle 49 = .ok (.iload_n 2, 1) := by decide +kernel
theorem dX8_wouldSettle_50 : decode cX8_wouldSettle 50 = .ok (.tableswitch 50 0 2 #[26, 28, 39], 26) := by decide +kernel
theorem dX8_wouldSettle_76 : decode cX8_wouldSettle 76 = .ok (.iload_n 3, 1) := by decide +kernel
theorem dX8_wouldSettle_77 : decode cX8_wouldSettle 77 = .ok (.ireturn, 1) := by decide +kernel
theorem dX8_wouldSettle_78 : decode cX8_wouldSettle 78 = .ok (.aload_n 0, 1) := by decide +kernel
theorem dX8_wouldSettle_79 : decode cX8_wouldSettle 79 = .ok (.getfield 53, 3) := by decide +kernel
theorem dX8_wouldSettle_82 : decode cX8_wouldSettle 82 = .ok (.getfield 163, 3) := by decide +kernel
theorem dX8_wouldSettle_85 : decode cX8_wouldSettle 85 = .ok (.bipush 10, 2) := by decide +kernel
theorem dX8_wouldSettle_87 : decode cX8_wouldSettle 87 = .ok (.iadd, 1) := by decide +kernel
theorem dX8_wouldSettle_88 : decode cX8_wouldSettle 88 = .ok (.ireturn, 1) := by decide +kernel
theorem dX8_wouldSettle_89 : decode cX8_wouldSettle 89 = .ok (.aload_n 0, 1) := by decide +kernel
theorem dX8_wouldSettle_90 : decode cX8_wouldSettle 90 = .ok (.getfield 53, 3) := by decide +kernel
theorem dX8_wouldSettle_93 : decode cX8_wouldSettle 93 = .ok (.getfield 166, 3) := by decide +kernel
theorem dX8_wouldSettle_96 : decode cX8_wouldSettle 96 = .ok (.bipush 10, 2) := by decide +kernel
theorem dX8_wouldSettle_98 : decode cX8_wouldSettle 98 = .ok (.iadd, 1) := by decide +kernel
theorem dX8_wouldSettle_99 : decode cX8_wouldSettle 99 = .ok (.ireturn, 1) := by decide +kernel
theorem dX8_wouldSettle_100 : decode cX8_wouldSettle 100 = .ok (.aload_n 0, 1) := by decide +kernel
theorem dX8_wouldSettle_101 : decode cX8_wouldSettle 101 = .ok (.getfield 12, 3) := by decide +kernel
theorem dX8_wouldSettle_104 : decode cX8_wouldSettle 104 = .ok (.aload_n 0, 1) := by decide +kernel
theorem dX8_wouldSettle_105 : decode cX8_wouldSettle 105 = .ok (.getfield 53, 3) := by decide +kernel
theorem dX8_wouldSettle_108 : decode cX8_wouldSettle 108 = .ok (.invokevirtual 211, 3) := by decide +kernel
theorem dX8_wouldSettle_111 : decode cX8_wouldSettle 111 = .ok (.iconst 2, 1) := by decide +kernel
theorem dX8_wouldSettle_112 : decode cX8_wouldSettle 112 = .ok (.if_icmp .ne 7, 3) := by decide +kernel
theorem dX8_wouldSettle_115 : decode cX8_wouldSettle 115 = .ok (.iconst 1, 1) := by decide +kernel
theorem dX8_wouldSettle_116 : decode cX8_wouldSettle 116 = .ok (.goto 4, 3) := by decide +kernel
theorem dX8_wouldSettle_119 : decode cX8_wouldSettle 119 = .ok (.iconst 0, 1) := by decide +kernel
theorem dX8_wouldSettle_120 : decode cX8_wouldSettle 120 = .ok (.ireturn, 1) := by decide +kernel
theorem dX8_bestWell_0 : decode cX8_bestWell 0 = .ok (.iload_n 1, 1) := by decide +kernel
theorem dX8_bestWell_1 : decode cX8_bestWell 1 = .ok (.iconst 1, 1) := by decide +kernel
theorem dX8_bestWell_2 : decode cX8_bestWell 2 = .ok (.bipush 10, 2) := by decide +kernel
theorem dX8_bestWell_4 : decode cX8_bestWell 4 = .ok (.invokestatic 61, 3) := by decide +kernel
theorem dX8_bestWell_7 : decode cX8_bestWell 7 = .ok (.ifCond .ne 6, 3) := by decide +kernel
theorem dX8_bestWell_10 : decode cX8_bestWell 10 = .ok (.ldc 65, 2) := by decide +kernel
theorem dX8_bestWell_12 : decode cX8_bestWell 12 = .ok (.ireturn, 1) := by decide +kernel
theorem dX8_bestWell_13 : decode cX8_bestWell 13 = .ok (.aload_n 0, 1) := by decide +kernel
theorem dX8_bestWell_14 : decode cX8_bestWell 14 = .ok (.getfield 12, 3) := by decide +kernel
theorem dX8_bestWell_17 : decode cX8_bestWell 17 = .ok (.aload_n 0, 1) := by decide +kernel
theorem dX8_bestWell_18 : decode cX8_bestWell 18 = .ok (.getfield 20, 3) := by decide +kernel
theorem dX8_bestWell_21 : decode cX8_bestWell 21 = .ok (.getfield 157, 3) := by decide +kernel
theorem dX8_bestWell_24 : decode cX8_bestWell 24 = .ok (.iload_n 1, 1) := by decide +kernel
theorem dX8_bestWell_25 : decode cX8_bestWell 25 = .ok (.invokevirtual 276, 3) := by decide +kernel
theorem dX8_bestWell_28 : decode cX8_bestWell 28 = .ok (.ireturn, 1) := by decide +kernel
theorem dX8_makePlan_0 : decode cX8_makePlan 0 = .ok (.iload_n 1, 1) := by decide +kernel
theorem dX8_makePlan_1 : decode cX8_makePlan 1 = .ok (.iconst 1, 1) := by decide +kernel
theorem dX8_makePlan_2 : decode cX8_makePlan 2 = .ok (.sipush 200, 3) := by decide +kernel
theorem dX8_makePlan_5 : decode cX8_makePlan 5 = .ok (.invokestatic 61, 3) := by decide +kernel
theorem dX8_makePlan_8 : decode cX8_makePlan 8 = .ok (.ifCond .eq 13, 3) := by decide +kernel
theorem dX8_makePlan_11 : decode cX8_makePlan 11 = .ok (.iload_n 2, 1) := by decide +kernel
theorem dX8_makePlan_12 : decode cX8_makePlan 12 = .ok (.iconst 1, 1) := by decide +kernel
theorem dX8_makePlan_13 : decode cX8_makePlan 13 = .ok (.bipush 10, 2) := by decide +kernel
theorem dX8_makePlan_15 : decode cX8_makePlan 15 = .ok (.invokestatic 61, 3) := by decide +kernel
theorem dX8_makePlan_18 : decode cX8_makePlan 18 = .ok (.ifCond .ne 6, 3) := by decide +kernel
theorem dX8_makePlan_21 : decode cX8_makePlan 21 = .ok (.ldc 65, 2) := by decide +kernel
theorem dX8_makePlan_23 : decode cX8_makePlan 23 = .ok (.ireturn, 1) := by decide +kernel
theorem dX8_makePlan_24 : decode cX8_makePlan 24 = .ok (.aload_n 0, 1) := by decide +kernel
theorem dX8_makePlan_25 : decode cX8_makePlan 25 = .ok (.getfield 20, 3) := by decide +kernel
theorem dX8_makePlan_28 : decode cX8_makePlan 28 = .ok (.getfield 157, 3) := by decide +kernel
theorem dX8_makePlan_31 : decode cX8_makePlan 31 = .ok (.getfield 160, 3) := by decide +kernel
theorem dX8_makePlan_34 : decode cX8_makePlan 34 = .ok (.iload_n 1, 1) := by decide +kernel
theorem dX8_makePlan_35 : decode cX8_makePlan 35 = .ok (.if_icmp .lt 6, 3) := by decide +kernel
theorem dX8_makePlan_38 : decode cX8_makePlan 38 = .ok (.ldc 129, 2) := by decide +kernel
theorem dX8_makePlan_40 : decode cX8_makePlan 40 = .ok (.ireturn, 1) := by decide +kernel
theorem dX8_makePlan_41 : decode cX8_makePlan 41 = .ok (.aload_n 0, 1) := by decide +kernel
theorem dX8_makePlan_42 : decode cX8_makePlan 42 = .ok (.getfield 46, 3) := by decide +kernel
theorem dX8_makePlan_45 : decode cX8_makePlan 45 = .ok (.invokevirtual 279, 3) := by decide +kernel
theorem dX8_makePlan_48 : decode cX8_makePlan 48 = .ok (.aload_n 0, 1) := by decide +kernel
theorem dX8_makePlan_49 : decode cX8_makePlan 49 = .ok (.iload_n 2, 1) := by decide +kernel
theorem dX8_makePlan_50 : decode cX8_makePlan 50 = .ok (.putfield 57, 3) := by decide +kernel
theorem dX8_makePlan_53 : decode cX8_makePlan 53 = .ok (.aload_n 0, 1) := by decide +kernel
theorem dX8_makePlan_54 : decode cX8_makePlan 54 = .ok (.getfield 53, 3) := by decide +kernel
theorem dX8_makePlan_57 : decode cX8_makePlan 57 = .ok (.aload_n 0, 1) := by decide +kernel
theorem dX8_makePlan_58 : decode cX8_makePlan 58 = .ok (.getfield 20, 3) := by decide +kernel
theorem dX8_makePlan_61 : decode cX8_makePlan 61 = .ok (.getfield 157, 3) := by decide +kernel
theorem dX8_makePlan_64 : decode cX8_makePlan 64 = .ok (.invokevirtual 273, 3) := by decide +kernel
theorem dX8_makePlan_67 : decode cX8_makePlan 67 = .ok (.iconst 0, 1) := by decide +kernel
theorem dX8_makePlan_68 : decode cX8_makePlan 68 = .ok (.istore_n 3, 1) := by decide +kernel
theorem dX8_makePlan_69 : decode cX8_makePlan 69 = .ok (.iload_n 3, 1) := by decide +kernel
theorem dX8_makePlan_70 : decode cX8_makePlan 70 = .ok (.bipush 12, 2) := by decide +kernel
theorem dX8_makePlan_72 : decode cX8_makePlan 72 = .ok (.if_icmp .ge 82, 3) := by decide +kernel
theorem dX8_makePlan_75 : decode cX8_makePlan 75 = .ok (.aload_n 0, 1) := by decide +kernel
theorem dX8_makePlan_76 : decode cX8_makePlan 76 = .ok (.getfield 53, 3) := by decide +kernel
theorem dX8_makePlan_79 : decode cX8_makePlan 79 = .ok (.getfield 160, 3) := by decide +kernel
theorem dX8_makePlan_82 : decode cX8_makePlan 82 = .ok (.iload_n 1, 1) := by decide +kernel
theorem dX8_makePlan_83 : decode cX8_makePlan 83 = .ok (.if_icmp .ge 71, 3) := by decide +kernel
theorem dX8_makePlan_86 : decode cX8_makePlan 86 = .ok (.aload_n 0, 1) := by decide +kernel
theorem dX8_makePlan_87 : decode cX8_makePlan 87 = .ok (.getfield 12, 3) := by decide +kernel
theorem dX8_makePlan_90 : decode cX8_makePlan 90 = .ok (.aload_n 0, 1) := by decide +kernel
theorem dX8_makePlan_91 : decode cX8_makePlan 91 = .ok (.getfield 53, 3) := by decide +kernel
theorem dX8_makePlan_94 : decode cX8_makePlan 94 = .ok (.iload_n 2, 1) := by decide +kernel
theorem dX8_makePlan_95 : decode cX8_makePlan 95 = .ok (.invokevirtual 276, 3) := by decide +kernel
theorem dX8_makePlan_98 : decode cX8_makePlan 98 = .ok (.istore 4, 2) := by decide +kernel
theorem dX8_makePlan_100 : decode cX8_makePlan 100 = .ok (.iload 4, 2) := by decide +kernel
theorem dX8_makePlan_102 : decode cX8_makePlan 102 = .ok (.ldc 236, 2) := by decide +kernel
theorem dX8_makePlan_104 : decode cX8_makePlan 104 = .ok (.if_icmp .ne 6, 3) := by decide +kernel
theorem dX8_makePlan_107 : decode cX8_makePlan 107 = .ok (.goto 47, 3) := by decide +kernel
theorem dX8_makePlan_110 : decode cX8_makePlan 110 = .ok (.aload_n 0, 1) := by decide +kernel
theorem dX8_makePlan_111 : decode cX8_makePlan 111 = .ok (.getfield 53, 3) := by decide +kernel
theorem dX8_makePlan_114 : decode cX8_makePlan 114 = .ok (.aload_n 0, 1) := by decide +kernel
theorem dX8_makePlan_115 : decode cX8_makePlan 115 = .ok (.getfield 12, 3) := by decide +kernel
theorem dX8_makePlan_118 : decode cX8_makePlan 118 = .ok (.getfield 282, 3) := by decide +kernel
theorem dX8_makePlan_121 : decode cX8_makePlan 121 = .ok (.invokevirtual 273, 3) := by decide +kernel
theorem dX8_makePlan_124 : decode cX8_makePlan 124 = .ok (.aload_n 0, 1) := by decide +kernel
theorem dX8_makePlan_125 : decode cX8_makePlan 125 = .ok (.getfield 46, 3) := by decide +kernel
theorem dX8_makePlan_128 : decode cX8_makePlan 128 = .ok (.iload_n 3, 1) := by decide +kernel
theorem dX8_makePlan_129 : decode cX8_makePlan 129 = .ok (.iload 4, 2) := by decide +kernel
theorem dX8_makePlan_131 : decode cX8_makePlan 131 = .ok (.aload_n 0, 1) := by decide +kernel
theorem dX8_makePlan_132 : decode cX8_makePlan 132 = .ok (.getfield 53, 3) := by decide +kernel
theorem dX8_makePlan_135 : decode cX8_makePlan 135 = .ok (.getfield 160, 3) := by decide +kernel
theorem dX8_makePlan_138 : decode cX8_makePlan 138 = .ok (.aload_n 0, 1) := by decide +kernel
theorem dX8_makePlan_139 : decode cX8_makePlan 139 = .ok (.getfield 53, 3) := by decide +kernel
theorem dX8_makePlan_142 : decode cX8_makePlan 142 = .ok (.invokevirtual 285, 3) := by decide +kernel
theorem dX8_makePlan_145 : decode cX8_makePlan 145 = .ok (.invokevirtual 288, 3) := by decide +kernel
theorem dX8_makePlan_148 : decode cX8_makePlan 148 = .ok (.iinc 3 1, 3) := by decide +kernel
theorem dX8_makePlan_151 : decode cX8_makePlan 151 = .ok (.goto (-82), 3) := by decide +kernel
theorem dX8_makePlan_154 : decode cX8_makePlan 154 = .ok (.aload_n 0, 1) := by decide +kernel
theorem dX8_makePlan_155 : decode cX8_makePlan 155 = .ok (.getfield 46, 3) := by decide +kernel
theorem dX8_makePlan_158 : decode cX8_makePlan 158 = .ok (.getfield 112, 3) := by decide +kernel
theorem dX8_makePlan_161 : decode cX8_makePlan 161 = .ok (.ireturn, 1) := by decide +kernel
theorem dX8_plan_0 : decode cX8_plan 0 = .ok (.aload_n 0, 1) := by decide +kernel
theorem dX8_plan_1 : decode cX8_plan 1 = .ok (.getfield 46, 3) := by decide +kernel
theorem dX8_plan_4 : decode cX8_plan 4 = .ok (.iload_n 1, 1) := by decide +kernel
theorem dX8_plan_5 : decode cX8_plan 5 = .ok (.iload_n 2, 1) := by decide +kernel
theorem dX8_plan_6 : decode cX8_plan 6 = .ok (.invokestatic 269, 3) := by decide +kernel
theorem dX8_plan_9 : decode cX8_plan 9 = .ok (.ireturn, 1) := by decide +kernel
theorem dX8_carryOut_0 : decode cX8_carryOut 0 = .ok (.iload_n 1, 1) := by decide +kernel
theorem dX8_carryOut_1 : decode cX8_carryOut 1 = .ok (.iconst 1, 1) := by decide +kernel
theorem dX8_carryOut_2 : decode cX8_carryOut 2 = .ok (.aload_n 0, 1) := by decide +kernel
theorem dX8_carryOut_3 : decode cX8_carryOut 3 = .ok (.getfield 46, 3) := by decide +kernel
theorem dX8_carryOut_6 : decode cX8_carryOut 6 = .ok (.getfield 112, 3) := by decide +kernel
theorem dX8_carryOut_9 : decode cX8_carryOut 9 = .ok (.invokestatic 61, 3) := by decide +kernel
theorem dX8_carryOut_12 : decode cX8_carryOut 12 = .ok (.ifCond .ne 6, 3) := by decide +kernel
theorem dX8_carryOut_15 : decode cX8_carryOut 15 = .ok (.ldc 65, 2) := by decide +kernel
theorem dX8_carryOut_17 : decode cX8_carryOut 17 = .ok (.ireturn, 1) := by decide +kernel
theorem dX8_carryOut_18 : decode cX8_carryOut 18 = .ok (.aload_n 0, 1) := by decide +kernel
theorem dX8_carryOut_19 : decode cX8_carryOut 19 = .ok (.getfield 30, 3) := by decide +kernel
theorem dX8_carryOut_22 : decode cX8_carryOut 22 = .ok (.aload_n 0, 1) := by decide +kernel
theorem dX8_carryOut_23 : decode cX8_carryOut 23 = .ok (.getfield 20, 3) := by decide +kernel
theorem dX8_carryOut_26 : decode cX8_carryOut 26 = .ok (.invokevirtual 78, 3) := by decide +kernel
theorem dX8_carryOut_29 : decode cX8_carryOut 29 = .ok (.iconst 0, 1) := by decide +kernel
theorem dX8_carryOut_30 : decode cX8_carryOut 30 = .ok (.istore_n 2, 1) := by decide +kernel
theorem dX8_carryOut_31 : decode cX8_carryOut 31 = .ok (.iload_n 2, 1) := by decide +kernel
theorem dX8_carryOut_32 : decode cX8_carryOut 32 = .ok (.iload_n 1, 1) := by decide +kernel
theorem dX8_carryOut_33 : decode cX8_carryOut 33 = .ok (.if_icmp .ge 77, 3) := by decide +kernel
theorem dX8_carryOut_36 : decode cX8_carryOut 36 = .ok (.aload_n 0, 1) := by decide +kernel
theorem dX8_carryOut_37 : decode cX8_carryOut 37 = .ok (.getfield 46, 3) := by decide +kernel
theorem dX8_carryOut_40 : decode cX8_carryOut 40 = .ok (.iload_n 2, 1) := by decide +kernel
theorem dX8_carryOut_41 : decode cX8_carryOut 41 = .ok (.iconst 0, 1) := by decide +kernel
theorem dX8_carryOut_42 : decode cX8_carryOut 42 = .ok (.invokevirtual 147, 3) := by decide +kernel
theorem dX8_carryOut_45 : decode cX8_carryOut 45 = .ok (.istore_n 3, 1) := by decide +kernel
theorem dX8_carryOut_46 : decode cX8_carryOut 46 = .ok (.aload_n 0, 1) := by decide +kernel
theorem dX8_carryOut_47 : decode cX8_carryOut 47 = .ok (.getfield 20, 3) := by decide +kernel
theorem dX8_carryOut_50 : decode cX8_carryOut 50 = .ok (.iload_n 3, 1) := by decide +kernel
theorem dX8_carryOut_51 : decode cX8_carryOut 51 = .ok (.invokevirtual 205, 3) := by decide +kernel
theorem dX8_carryOut_54 : decode cX8_carryOut 54 = .ok (.ifCond .eq 33, 3) := by decide +kernel
theorem dX8_carryOut_57 : decode cX8_carryOut 57 = .ok (.aload_n 0, 1) := by decide +kernel
theorem dX8_carryOut_58 : decode cX8_carryOut 58 = .ok (.getfield 20, 3) := by decide +kernel
theorem dX8_carryOut_61 : decode cX8_carryOut 61 = .ok (.getfield 157, 3) := by decide +kernel
theorem dX8_carryOut_64 : decode cX8_carryOut 64 = .ok (.iload_n 3, 1) := by decide +kernel
theorem dX8_carryOut_65 : decode cX8_carryOut 65 = .ok (.aload_n 0, 1) := by decide +kernel
theorem dX8_carryOut_66 : decode cX8_carryOut 66 = .ok (.getfield 20, 3) := by decide +kernel
theorem dX8_carryOut_69 : decode cX8_carryOut 69 = .ok (.aload_n 0, 1) := by decide +kernel
theorem dX8_carryOut_70 : decode cX8_carryOut 70 = .ok (.getfield 20, 3) := by decide +kernel
theorem dX8_carryOut_73 : decode cX8_carryOut 73 = .ok (.getfield 157, 3) := by decide +kernel
theorem dX8_carryOut_76 : decode cX8_carryOut 76 = .ok (.iload_n 3, 1) := by decide +kernel
theorem dX8_carryOut_77 : decode cX8_carryOut 77 = .ok (.aload_n 0, 1) := by decide +kernel
theorem dX8_carryOut_78 : decode cX8_carryOut 78 = .ok (.getfield 57, 3) := by decide +kernel
theorem dX8_carryOut_81 : decode cX8_carryOut 81 = .ok (.invokevirtual 237, 3) := by decide +kernel
theorem dX8_carryOut_84 : decode cX8_carryOut 84 = .ok (.invokevirtual 240, 3) := by decide +kernel
theorem dX8_carryOut_87 : decode cX8_carryOut 87 = .ok (.aload_n 0, 1) := by decide +kernel
theorem dX8_carryOut_88 : decode cX8_carryOut 88 = .ok (.getfield 12, 3) := by decide +kernel
theorem dX8_carryOut_91 : decode cX8_carryOut 91 = .ok (.aload_n 0, 1) := by decide +kernel
theorem dX8_carryOut_92 : decode cX8_carryOut 92 = .ok (.getfield 20, 3) := by decide +kernel
theorem dX8_carryOut_95 : decode cX8_carryOut 95 = .ok (.getfield 157, 3) := by decide +kernel
theorem dX8_carryOut_98 : decode cX8_carryOut 98 = .ok (.bipush 20, 2) := by decide +kernel
theorem dX8_carryOut_100 : decode cX8_carryOut 100 = .ok (.invokevirtual 246, 3) := by decide +kernel
theorem dX8_carryOut_103 : decode cX8_carryOut 103 = .ok (.pop, 1) := by decide +kernel
theorem dX8_carryOut_104 : decode cX8_carryOut 104 = .ok (.iinc 2 1, 3) := by decide +kernel
theorem dX8_carryOut_107 : decode cX8_carryOut 107 = .ok (.goto (-76), 3) := by decide +kernel
theorem dX8_carryOut_110 : decode cX8_carryOut 110 = .ok (.aload_n 0, 1) := by decide +kernel
theorem dX8_carryOut_111 : decode cX8_carryOut 111 = .ok (.getfield 20, 3) := by decide +kernel
theorem dX8_carryOut_114 : decode cX8_carryOut 114 = .ok (.getfield 157, 3) := by decide +kernel
theorem dX8_carryOut_117 : decode cX8_carryOut 117 = .ok (.getfield 160, 3) := by decide +kernel
theorem dX8_carryOut_120 : decode cX8_carryOut 120 = .ok (.ireturn, 1) := by decide +kernel
theorem dX8_highSide_0 : decode cX8_highSide 0 = .ok (.aload_n 0, 1) := by decide +kernel
theorem dX8_highSide_1 : decode cX8_highSide 1 = .ok (.getfield 20, 3) := by decide +kernel
theorem dX8_highSide_4 : decode cX8_highSide 4 = .ok (.getfield 157, 3) := by decide +kernel
theorem dX8_highSide_7 : decode cX8_highSide 7 = .ok (.getfield 163, 3) := by decide +kernel
theorem dX8_highSide_10 : decode cX8_highSide 10 = .ok (.ifCond .ne 19, 3) := by decide +kernel
theorem dX8_highSide_13 : decode cX8_highSide 13 = .ok (.aload_n 0, 1) := by decide +kernel
theorem dX8_highSide_14 : decode cX8_highSide 14 = .ok (.getfield 20, 3) := by decide +kernel
theorem dX8_highSide_17 : decode cX8_highSide 17 = .ok (.getfield 157, 3) := by decide +kernel
theorem dX8_highSide_20 : decode cX8_highSide 20 = .ok (.getfield 166, 3) := by decide +kernel
theorem dX8_highSide_23 : decode cX8_highSide 23 = .ok (.ifCond .ne 6, 3) := by decide +kernel
theorem dX8_highSide_26 : decode cX8_highSide 26 = .ok (.ldc 236, 2) := by decide +kernel
theorem dX8_highSide_28 : decode cX8_highSide 28 = .ok (.ireturn, 1) := by decide +kernel
theorem dX8_highSide_29 : decode cX8_highSide 29 = .ok (.iconst 0, 1) := by decide +kernel
theorem dX8_highSide_30 : decode cX8_highSide 30 = .ok (.istore_n 1, 1) := by decide +kernel
theorem dX8_highSide_31 : decode cX8_highSide 31 = .ok (.aload_n 0, 1) := by decide +kernel
theorem dX8_highSide_32 : decode cX8_highSide 32 = .ok (.getfield 12, 3) := by decide +kernel
theorem dX8_highSide_35 : decode cX8_highSide 35 = .ok (.iconst 0, 1) := by decide +kernel
theorem dX8_highSide_36 : decode cX8_highSide 36 = .ok (.invokevirtual 292, 3) := by decide +kernel
theorem dX8_highSide_39 : decode cX8_highSide 39 = .ok (.istore_n 2, 1) := by decide +kernel
theorem dX8_highSide_40 : decode cX8_highSide 40 = .ok (.iconst 1, 1) := by decide +kernel
theorem dX8_highSide_41 : decode cX8_highSide 41 = .ok (.istore_n 3, 1) := by decide +kernel
theorem dX8_highSide_42 : decode cX8_highSide 42 = .ok (.iload_n 3, 1) := by decide +kernel
theorem dX8_highSide_43 : decode cX8_highSide 43 = .ok (.iconst 4, 1) := by decide +kernel
theorem dX8_highSide_44 : decode cX8_highSide 44 = .ok (.if_icmp .ge 48, 3) := by decide +kernel
theorem dX8_highSide_47 : decode cX8_highSide 47 = .ok (.aload_n 0, 1) := by decide +kernel
theorem dX8_highSide_48 : decode cX8_highSide 48 = .ok (.getfield 12, 3) := by decide +kernel
theorem dX8_highSide_51 : decode cX8_highSide 51 = .ok (.iload_n 3, 1) := by decide +kernel
theorem dX8_highSide_52 : decode cX8_highSide 52 = .ok (.invokevirtual 292, 3) := by decide +kernel
theorem dX8_highSide_55 : decode cX8_highSide 55 = .ok (.istore 4, 2) := by decide +kernel
theorem dX8_highSide_57 : decode cX8_highSide 57 = .ok (.iload 4, 2) := by decide +kernel
theorem dX8_highSide_59 : decode cX8_highSide 59 = .ok (.aload_n 0, 1) := by decide +kernel
theorem dX8_highSide_60 : decode cX8_highSide 60 = .ok (.getfield 20, 3) := by decide +kernel
theorem dX8_highSide_63 : decode cX8_highSide 63 = .ok (.iload_n 1, 1) := by decide +kernel
theorem dX8_highSide_64 : decode cX8_highSide 64 = .ok (.invokevirtual 295, 3) := by decide +kernel
theorem dX8_highSide_67 : decode cX8_highSide 67 = .ok (.imul, 1) := by decide +kernel
theorem dX8_highSide_68 : decode cX8_highSide 68 = .ok (.iload_n 2, 1) := by decide +kernel
theorem dX8_highSide_69 : decode cX8_highSide 69 = .ok (.aload_n 0, 1) := by decide +kernel
theorem dX8_highSide_70 : decode cX8_highSide 70 = .ok (.getfield 20, 3) := by decide +kernel
theorem dX8_highSide_73 : decode cX8_highSide 73 = .ok (.iload_n 3, 1) := by decide +kernel
theorem dX8_highSide_74 : decode cX8_highSide 74 = .ok (.invokevirtual 295, 3) := by decide +kernel
theorem dX8_highSide_77 : decode cX8_highSide 77 = .ok (.imul, 1) := by decide +kernel
theorem dX8_highSide_78 : decode cX8_highSide 78 = .ok (.if_icmp .ge 8, 3) := by decide +kernel
theorem dX8_highSide_81 : decode cX8_highSide 81 = .ok (.iload_n 3, 1) := by decide +kernel
theorem dX8_highSide_82 : decode cX8_highSide 82 = .ok (.istore_n 1, 1) := by decide +kernel
theorem dX8_highSide_83 : decode cX8_highSide 83 = .ok (.iload 4, 2) := by decide +kernel
theorem dX8_highSide_85 : decode cX8_highSide 85 = .ok (.istore_n 2, 1) := by decide +kernel
theorem dX8_highSide_86 : decode cX8_highSide 86 = .ok (.iinc 3 1, 3) := by decide +kernel
theorem dX8_highSide_89 : decode cX8_highSide 89 = .ok (.goto (-47), 3) := by decide +kernel
theorem dX8_highSide_92 : decode cX8_highSide 92 = .ok (.iload_n 1, 1) := by decide +kernel
theorem dX8_highSide_93 : decode cX8_highSide 93 = .ok (.ireturn, 1) := by decide +kernel
theorem dX8_undo_0 : decode cX8_undo 0 = .ok (.aload_n 0, 1) := by decide +kernel
theorem dX8_undo_1 : decode cX8_undo 1 = .ok (.getfield 30, 3) := by decide +kernel
theorem dX8_undo_4 : decode cX8_undo 4 = .ok (.getfield 298, 3) := by decide +kernel
theorem dX8_undo_7 : decode cX8_undo 7 = .ok (.ifCond .ne 6, 3) := by decide +kernel
theorem dX8_undo_10 : decode cX8_undo 10 = .ok (.ldc 129, 2) := by decide +kernel
theorem dX8_undo_12 : decode cX8_undo 12 = .ok (.ireturn, 1) := by decide +kernel
theorem dX8_undo_13 : decode cX8_undo 13 = .ok (.aload_n 0, 1) := by decide +kernel
theorem dX8_undo_14 : decode cX8_undo 14 = .ok (.getfield 30, 3) := by decide +kernel
theorem dX8_undo_17 : decode cX8_undo 17 = .ok (.aload_n 0, 1) := by decide +kernel
theorem dX8_undo_18 : decode cX8_undo 18 = .ok (.getfield 20, 3) := by decide +kernel
theorem dX8_undo_21 : decode cX8_undo 21 = .ok (.invokevirtual 299, 3) := by decide +kernel
theorem dX8_undo_24 : decode cX8_undo 24 = .ok (.aload_n 0, 1) := by decide +kernel
theorem dX8_undo_25 : decode cX8_undo 25 = .ok (.getfield 30, 3) := by decide +kernel
theorem dX8_undo_28 : decode cX8_undo 28 = .ok (.getfield 298, 3) := by decide +kernel
theorem dX8_undo_31 : decode cX8_undo 31 = .ok (.ireturn, 1) := by decide +kernel
theorem dX8_isWithin_0 : decode cX8_isWithin 0 = .ok (.iload_n 0, 1) := by decide +kernel
theorem dX8_isWithin_1 : decode cX8_isWithin 1 = .ok (.iload_n 1, 1) := by decide +kernel
theorem dX8_isWithin_2 : decode cX8_isWithin 2 = .ok (.if_icmp .lt 12, 3) := by decide +kernel
theorem dX8_isWithin_5 : decode cX8_isWithin 5 = .ok (.iload_n 0, 1) := by decide +kernel
theorem dX8_isWithin_6 : decode cX8_isWithin 6 = .ok (.iload_n 2, 1) := by decide +kernel
theorem dX8_isWithin_7 : decode cX8_isWithin 7 = .ok (.if_icmp .gt 7, 3) := by decide +kernel
theorem dX8_isWithin_10 : decode cX8_isWithin 10 = .ok (.iconst 1, 1) := by decide +kernel
theorem dX8_isWithin_11 : decode cX8_isWithin 11 = .ok (.goto 4, 3) := by decide +kernel
theorem dX8_isWithin_14 : decode cX8_isWithin 14 = .ok (.iconst 0, 1) := by decide +kernel
theorem dX8_isWithin_15 : decode cX8_isWithin 15 = .ok (.ireturn, 1) := by decide +kernel
theorem dX8_writeRecord_0 : decode cX8_writeRecord 0 = .ok (.aload_n 0, 1) := by decide +kernel
theorem dX8_writeRecord_1 : decode cX8_writeRecord 1 = .ok (.getfield 20, 3) := by decide +kernel
theorem dX8_writeRecord_4 : decode cX8_writeRecord 4 = .ok (.getfield 176, 3) := by decide +kernel
theorem dX8_writeRecord_7 : decode cX8_writeRecord 7 = .ok (.iconst 0, 1) := by decide +kernel
theorem dX8_writeRecord_8 : decode cX8_writeRecord 8 = .ok (.iload_n 1, 1) := by decide +kernel
theorem dX8_writeRecord_9 : decode cX8_writeRecord 9 = .ok (.iload_n 2, 1) := by decide +kernel
theorem dX8_writeRecord_10 : decode cX8_writeRecord 10 = .ok (.aload_n 0, 1) := by decide +kernel
theorem dX8_writeRecord_11 : decode cX8_writeRecord 11 = .ok (.getfield 20, 3) := by decide +kernel
theorem dX8_writeRecord_14 : decode cX8_writeRecord 14 = .ok (.getfield 157, 3) := by decide +kernel
theorem dX8_writeRecord_17 : decode cX8_writeRecord 17 = .ok (.getfield 160, 3) := by decide +kernel
theorem dX8_writeRecord_20 : decode cX8_writeRecord 20 = .ok (.invokevirtual 288, 3) := by decide +kernel
theorem dX8_writeRecord_23 : decode cX8_writeRecord 23 = .ok (.return_, 1) := by decide +kernel
theorem dX8_partOf_0 : decode cX8_partOf 0 = .ok (.iload_n 1, 1) := by decide +kernel
theorem dX8_partOf_1 : decode cX8_partOf 1 = .ok (.ifCond .lt 12, 3) := by decide +kernel
theorem dX8_partOf_4 : decode cX8_partOf 4 = .ok (.iload_n 2, 1) := by decide +kernel
theorem dX8_partOf_5 : decode cX8_partOf 5 = .ok (.iconst 0, 1) := by decide +kernel
theorem dX8_partOf_6 : decode cX8_partOf 6 = .ok (.iconst 2, 1) := by decide +kernel
theorem dX8_partOf_7 : decode cX8_partOf 7 = .ok (.invokestatic 61, 3) := by decide +kernel
theorem dX8_partOf_10 : decode cX8_partOf 10 = .ok (.ifCond .ne 6, 3) := by decide +kernel
theorem dX8_partOf_13 : decode cX8_partOf 13 = .ok (.ldc 65, 2) := by decide +kernel
theorem dX8_partOf_15 : decode cX8_partOf 15 = .ok (.ireturn, 1) := by decide +kernel
theorem dX8_partOf_16 : decode cX8_partOf 16 = .ok (.aload_n 0, 1) := by decide +kernel
theorem dX8_partOf_17 : decode cX8_partOf 17 = .ok (.iload_n 1, 1) := by decide +kernel
theorem dX8_partOf_18 : decode cX8_partOf 18 = .ok (.invokevirtual 144, 3) := by decide +kernel
theorem dX8_partOf_21 : decode cX8_partOf 21 = .ok (.ifCond .eq 12, 3) := by decide +kernel
theorem dX8_partOf_24 : decode cX8_partOf 24 = .ok (.aload_n 0, 1) := by decide +kernel
theorem dX8_partOf_25 : decode cX8_partOf 25 = .ok (.iload_n 1, 1) := by decide +kernel
theorem dX8_partOf_26 : decode cX8_partOf 26 = .ok (.iload_n 2, 1) := by decide +kernel
theorem dX8_partOf_27 : decode cX8_partOf 27 = .ok (.invokevirtual 147, 3) := by decide +kernel
theorem dX8_partOf_30 : decode cX8_partOf 30 = .ok (.goto 5, 3) := by decide +kernel
theorem dX8_partOf_33 : decode cX8_partOf 33 = .ok (.ldc 236, 2) := by decide +kernel
theorem dX8_partOf_35 : decode cX8_partOf 35 = .ok (.ireturn, 1) := by decide +kernel
theorem dX8_reachableBoulder_0 : decode cX8_reachableBoulder 0 = .ok (.aload_n 0, 1) := by decide +kernel
theorem dX8_reachableBoulder_1 : decode cX8_reachableBoulder 1 = .ok (.getfield 20, 3) := by decide +kernel
theorem dX8_reachableBoulder_4 : decode cX8_reachableBoulder 4 = .ok (.iload_n 1, 1) := by decide +kernel
theorem dX8_reachableBoulder_5 : decode cX8_reachableBoulder 5 = .ok (.invokevirtual 205, 3) := by decide +kernel
theorem dX8_reachableBoulder_8 : decode cX8_reachableBoulder 8 = .ok (.istore_n 2, 1) := by decide +kernel
theorem dX8_reachableBoulder_9 : decode cX8_reachableBoulder 9 = .ok (.iload_n 2, 1) := by decide +kernel
theorem dX8_reachableBoulder_10 : decode cX8_reachableBoulder 10 = .ok (.ifCond .eq 17, 3) := by decide +kernel
theorem dX8_reachableBoulder_13 : decode cX8_reachableBoulder 13 = .ok (.aload_n 0, 1) := by decide +kernel
theorem dX8_reachableBoulder_14 : decode cX8_reachableBoulder 14 = .ok (.getfield 20, 3) := by decide +kernel
theorem dX8_reachableBoulder_17 : decode cX8_reachableBoulder 17 = .ok (.getfield 157, 3) := by decide +kernel
theorem dX8_reachableBoulder_20 : decode cX8_reachableBoulder 20 = .ok (.iload_n 1, 1) := by decide +kernel
theorem dX8_reachableBoulder_21 : decode cX8_reachableBoulder 21 = .ok (.invokevirtual 208, 3) := by decide +kernel
theorem dX8_reachableBoulder_24 : decode cX8_reachableBoulder 24 = .ok (.goto 4, 3) := by decide +kernel
theorem dX8_reachableBoulder_27 : decode cX8_reachableBoulder 27 = .ok (.iconst 0, 1) := by decide +kernel
theorem dX8_reachableBoulder_28 : decode cX8_reachableBoulder 28 = .ok (.istore_n 3, 1) := by decide +kernel
theorem dX8_reachableBoulder_29 : decode cX8_reachableBoulder 29 = .ok (.iload_n 2, 1) := by decide +kernel
theorem dX8_reachableBoulder_30 : decode cX8_reachableBoulder 30 = .ok (.ifCond .eq 9, 3) := by decide +kernel
theorem dX8_reachableBoulder_33 : decode cX8_reachableBoulder 33 = .ok (.iload_n 3, 1) := by decide +kernel
theorem dX8_reachableBoulder_34 : decode cX8_reachableBoulder 34 = .ok (.iconst 1, 1) := by decide +kernel
theorem dX8_reachableBoulder_35 : decode cX8_reachableBoulder 35 = .ok (.iadd, 1) := by decide +kernel
theorem dX8_reachableBoulder_36 : decode cX8_reachableBoulder 36 = .ok (.goto 33, 3) := by decide +kernel
theorem dX8_reachableBoulder_39 : decode cX8_reachableBoulder 39 = .ok (.aload_n 0, 1) := by decide +kernel
theorem dX8_reachableBoulder_40 : decode cX8_reachableBoulder 40 = .ok (.getfield 12, 3) := by decide +kernel
theorem dX8_reachableBoulder_43 : decode cX8_reachableBoulder 43 = .ok (.aload_n 0, 1) := by decide +kernel
theorem dX8_reachableBoulder_44 : decode cX8_reachableBoulder 44 = .ok (.getfield 20, 3) := by decide +kernel
theorem dX8_reachableBoulder_47 : decode cX8_reachableBoulder 47 = .ok (.getfield 157, 3) := by decide +kernel
theorem dX8_reachableBoulder_50 : decode cX8_reachableBoulder 50 = .ok (.aload_n 0, 1) := by decide +kernel
theorem dX8_reachableBoulder_51 : decode cX8_reachableBoulder 51 = .ok (.getfield 20, 3) := by decide +kernel
theorem dX8_reachableBoulder_54 : decode cX8_reachableBoulder 54 = .ok (.iload_n 1, 1) := by decide +kernel
theorem dX8_reachableBoulder_55 : decode cX8_reachableBoulder 55 = .ok (.invokevirtual 182, 3) := by decide +kernel
theorem dX8_reachableBoulder_58 : decode cX8_reachableBoulder 58 = .ok (.aload_n 0, 1) := by decide +kernel
theorem dX8_reachableBoulder_59 : decode cX8_reachableBoulder 59 = .ok (.getfield 20, 3) := by decide +kernel
theorem dX8_reachableBoulder_62 : decode cX8_reachableBoulder 62 = .ok (.iload_n 1, 1) := by decide +kernel
theorem dX8_reachableBoulder_63 : decode cX8_reachableBoulder 63 = .ok (.invokevirtual 185, 3) := by decide +kernel
theorem dX8_reachableBoulder_66 : decode cX8_reachableBoulder 66 = .ok (.invokevirtual 188, 3) := by decide +kernel
theorem dX8_reachableBoulder_69 : decode cX8_reachableBoulder 69 = .ok (.istore 4, 2) := by decide +kernel
theorem dX8_reachableBoulder_71 : decode cX8_reachableBoulder 71 = .ok (.aload_n 0, 1) := by decide +kernel
theorem dX8_reachableBoulder_72 : decode cX8_reachableBoulder 72 = .ok (.getfield 20, 3) := by decide +kernel
theorem dX8_reachableBoulder_75 : decode cX8_reachableBoulder 75 = .ok (.getfield 119, 3) := by decide +kernel
theorem dX8_reachableBoulder_78 : decode cX8_reachableBoulder 78 = .ok (.iload_n 1, 1) := by decide +kernel
theorem dX8_reachableBoulder_79 : decode cX8_reachableBoulder 79 = .ok (.iload_n 3, 1) := by decide +kernel
theorem dX8_reachableBoulder_80 : decode cX8_reachableBoulder 80 = .ok (.invokevirtual 302, 3) := by decide +kernel
theorem dX8_reachableBoulder_83 : decode cX8_reachableBoulder 83 = .ok (.istore 5, 2) := by decide +kernel
theorem dX8_reachableBoulder_85 : decode cX8_reachableBoulder 85 = .ok (.iload 5, 2) := by decide +kernel
theorem dX8_reachableBoulder_87 : decode cX8_reachableBoulder 87 = .ok (.ldc 236, 2) := by decide +kernel
theorem dX8_reachableBoulder_89 : decode cX8_reachableBoulder 89 = .ok (.if_icmp .eq 20, 3) := by decide +kernel
theorem dX8_reachableBoulder_92 : decode cX8_reachableBoulder 92 = .ok (.aload_n 0, 1) := by decide +kernel
theorem dX8_reachableBoulder_93 : decode cX8_reachableBoulder 93 = .ok (.getfield 20, 3) := by decide +kernel
theorem dX8_reachableBoulder_96 : decode cX8_reachableBoulder 96 = .ok (.getfield 119, 3) := by decide +kernel
theorem dX8_reachableBoulder_99 : decode cX8_reachableBoulder 99 = .ok (.iload 5, 2) := by decide +kernel
theorem dX8_reachableBoulder_101 : decode cX8_reachableBoulder 101 = .ok (.invokevirtual 305, 3) := by decide +kernel
theorem dX8_reachableBoulder_104 : decode cX8_reachableBoulder 104 = .ok (.iload 4, 2) := by decide +kernel
theorem dX8_reachableBoulder_106 : decode cX8_reachableBoulder 106 = .ok (.if_icmp .le 6, 3) := by decide +kernel
theorem dX8_reachableBoulder_109 : decode cX8_reachableBoulder 109 = .ok (.ldc 236, 2) := by decide +kernel
theorem dX8_reachableBoulder_111 : decode cX8_reachableBoulder 111 = .ok (.ireturn, 1) := by decide +kernel
theorem dX8_reachableBoulder_112 : decode cX8_reachableBoulder 112 = .ok (.iload 5, 2) := by decide +kernel
theorem dX8_reachableBoulder_114 : decode cX8_reachableBoulder 114 = .ok (.ireturn, 1) := by decide +kernel
