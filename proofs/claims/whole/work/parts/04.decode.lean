theorem dX0_init_0 : decode cX0_init 0 = .ok (.aload_n 0, 1) := by decide +kernel
theorem dX0_init_1 : decode cX0_init 1 = .ok (.invokespecial 3, 3) := by decide +kernel
theorem dX0_init_4 : decode cX0_init 4 = .ok (.aload_n 0, 1) := by decide +kernel
theorem dX0_init_5 : decode cX0_init 5 = .ok (.new 9, 3) := by decide +kernel
theorem dX0_init_8 : decode cX0_init 8 = .ok (.dup, 1) := by decide +kernel
theorem dX0_init_9 : decode cX0_init 9 = .ok (.bipush 10, 2) := by decide +kernel
theorem dX0_init_11 : decode cX0_init 11 = .ok (.invokespecial 11, 3) := by decide +kernel
theorem dX0_init_14 : decode cX0_init 14 = .ok (.putfield 14, 3) := by decide +kernel
theorem dX0_init_17 : decode cX0_init 17 = .ok (.return_, 1) := by decide +kernel
theorem dX0_depthOf_0 : decode cX0_depthOf 0 = .ok (.aload_n 0, 1) := by decide +kernel
theorem dX0_depthOf_1 : decode cX0_depthOf 1 = .ok (.getfield 14, 3) := by decide +kernel
theorem dX0_depthOf_4 : decode cX0_depthOf 4 = .ok (.iload_n 1, 1) := by decide +kernel
theorem dX0_depthOf_5 : decode cX0_depthOf 5 = .ok (.iconst 1, 1) := by decide +kernel
theorem dX0_depthOf_6 : decode cX0_depthOf 6 = .ok (.invokevirtual 20, 3) := by decide +kernel
theorem dX0_depthOf_9 : decode cX0_depthOf 9 = .ok (.ireturn, 1) := by decide +kernel
theorem dX0_isTaken_0 : decode cX0_isTaken 0 = .ok (.iconst 0, 1) := by decide +kernel
theorem dX0_isTaken_1 : decode cX0_isTaken 1 = .ok (.istore_n 3, 1) := by decide +kernel
theorem dX0_isTaken_2 : decode cX0_isTaken 2 = .ok (.iload_n 3, 1) := by decide +kernel
theorem dX0_isTaken_3 : decode cX0_isTaken 3 = .ok (.aload_n 0, 1) := by decide +kernel
theorem dX0_isTaken_4 : decode cX0_isTaken 4 = .ok (.getfield 14, 3) := by decide +kernel
theorem dX0_isTaken_7 : decode cX0_isTaken 7 = .ok (.getfield 24, 3) := by decide +kernel
theorem dX0_isTaken_10 : decode cX0_isTaken 10 = .ok (.if_icmp .ge 37, 3) := by decide +kernel
theorem dX0_isTaken_13 : decode cX0_isTaken 13 = .ok (.aload_n 0, 1) := by decide +kernel
theorem dX0_isTaken_14 : decode cX0_isTaken 14 = .ok (.getfield 14, 3) := by decide +kernel
theorem dX0_isTaken_17 : decode cX0_isTaken 17 = .ok (.iload_n 3, 1) := by decide +kernel
theorem dX0_isTaken_18 : decode cX0_isTaken 18 = .ok (.iconst 0, 1) := by decide +kernel
theorem dX0_isTaken_19 : decode cX0_isTaken 19 = .ok (.invokevirtual 20, 3) := by decide +kernel
theorem dX0_isTaken_22 : decode cX0_isTaken 22 = .ok (.iload_n 1, 1) := by decide +kernel
theorem dX0_isTaken_23 : decode cX0_isTaken 23 = .ok (.if_icmp .ne 18, 3) := by decide +kernel
theorem dX0_isTaken_26 : decode cX0_isTaken 26 = .ok (.aload_n 0, 1) := by decide +kernel
theorem dX0_isTaken_27 : decode cX0_isTaken 27 = .ok (.getfield 14, 3) := by decide +kernel
theorem dX0_isTaken_30 : decode cX0_isTaken 30 = .ok (.iload_n 3, 1) := by decide +kernel
theorem dX0_isTaken_31 : decode cX0_isTaken 31 = .ok (.iconst 1, 1) := by decide +kernel
theorem dX0_isTaken_32 : decode cX0_isTaken 32 = .ok (.invokevirtual 20, 3) := by decide +kernel
theorem dX0_isTaken_35 : decode cX0_isTaken 35 = .ok (.iload_n 2, 1) := by decide +kernel
theorem dX0_isTaken_36 : decode cX0_isTaken 36 = .ok (.if_icmp .ne 5, 3) := by decide +kernel
theorem dX0_isTaken_39 : decode cX0_isTaken 39 = .ok (.iconst 1, 1) := by decide +kernel
theorem dX0_isTaken_40 : decode cX0_isTaken 40 = .ok (.ireturn, 1) := by decide +kernel
theorem dX0_isTaken_41 : decode cX0_isTaken 41 = .ok (.iinc 3 1, 3) := by decide +kernel
theorem dX0_isTaken_44 : decode cX0_isTaken 44 = .ok (.goto (-42), 3) := by decide +kernel
theorem dX0_isTaken_47 : decode cX0_isTaken 47 = .ok (.iconst 0, 1) := by decide +kernel
theorem dX0_isTaken_48 : decode cX0_isTaken 48 = .ok (.ireturn, 1) := by decide +kernel
theorem dX0_firstFrom_0 : decode cX0_firstFrom 0 = .ok (.aload_n 0, 1) := by decide +kernel
theorem dX0_firstFrom_1 : decode cX0_firstFrom 1 = .ok (.iload_n 1, 1) := by decide +kernel
theorem dX0_firstFrom_2 : decode cX0_firstFrom 2 = .ok (.iload_n 2, 1) := by decide +kernel
theorem dX0_firstFrom_3 : decode cX0_firstFrom 3 = .ok (.invokevirtual 28, 3) := by decide +kernel
theorem dX0_firstFrom_6 : decode cX0_firstFrom 6 = .ok (.istore_n 3, 1) := by decide +kernel
theorem dX0_firstFrom_7 : decode cX0_firstFrom 7 = .ok (.aload_n 0, 1) := by decide +kernel
theorem dX0_firstFrom_8 : decode cX0_firstFrom 8 = .ok (.getfield 14, 3) := by decide +kernel
theorem dX0_firstFrom_11 : decode cX0_firstFrom 11 = .ok (.iload_n 3, 1) := by decide +kernel
theorem dX0_firstFrom_12 : decode cX0_firstFrom 12 = .ok (.iconst 0, 1) := by decide +kernel
theorem dX0_firstFrom_13 : decode cX0_firstFrom 13 = .ok (.invokevirtual 20, 3) := by decide +kernel
theorem dX0_firstFrom_16 : decode cX0_firstFrom 16 = .ok (.iload_n 1, 1) := by decide +kernel
theorem dX0_firstFrom_17 : decode cX0_firstFrom 17 = .ok (.if_icmp .ne 7, 3) := by decide +kernel
theorem dX0_firstFrom_20 : decode cX0_firstFrom 20 = .ok (.iload_n 3, 1) := by decide +kernel
theorem dX0_firstFrom_21 : decode cX0_firstFrom 21 = .ok (.goto 5, 3) := by decide +kernel
theorem dX0_firstFrom_24 : decode cX0_firstFrom 24 = .ok (.ldc 31, 2) := by decide +kernel
theorem dX0_firstFrom_26 : decode cX0_firstFrom 26 = .ok (.ireturn, 1) := by decide +kernel
theorem dX0_place_0 : decode cX0_place 0 = .ok (.aload_n 0, 1) := by decide +kernel
theorem dX0_place_1 : decode cX0_place 1 = .ok (.iload_n 1, 1) := by decide +kernel
theorem dX0_place_2 : decode cX0_place 2 = .ok (.iload_n 2, 1) := by decide +kernel
theorem dX0_place_3 : decode cX0_place 3 = .ok (.invokevirtual 28, 3) := by decide +kernel
theorem dX0_place_6 : decode cX0_place 6 = .ok (.istore 4, 2) := by decide +kernel
theorem dX0_place_8 : decode cX0_place 8 = .ok (.aload_n 0, 1) := by decide +kernel
theorem dX0_place_9 : decode cX0_place 9 = .ok (.getfield 14, 3) := by decide +kernel
theorem dX0_place_12 : decode cX0_place 12 = .ok (.iload 4, 2) := by decide +kernel
theorem dX0_place_14 : decode cX0_place 14 = .ok (.iload_n 1, 1) := by decide +kernel
theorem dX0_place_15 : decode cX0_place 15 = .ok (.iload_n 2, 1) := by decide +kernel
theorem dX0_place_16 : decode cX0_place 16 = .ok (.iload_n 3, 1) := by decide +kernel
theorem dX0_place_17 : decode cX0_place 17 = .ok (.invokevirtual 32, 3) := by decide +kernel
theorem dX0_place_20 : decode cX0_place 20 = .ok (.iload 4, 2) := by decide +kernel
theorem dX0_place_22 : decode cX0_place 22 = .ok (.ireturn, 1) := by decide +kernel
theorem dX0_weaken_0 : decode cX0_weaken 0 = .ok (.aload_n 0, 1) := by decide +kernel
theorem dX0_weaken_1 : decode cX0_weaken 1 = .ok (.getfield 14, 3) := by decide +kernel
theorem dX0_weaken_4 : decode cX0_weaken 4 = .ok (.iload_n 1, 1) := by decide +kernel
theorem dX0_weaken_5 : decode cX0_weaken 5 = .ok (.iconst 2, 1) := by decide +kernel
theorem dX0_weaken_6 : decode cX0_weaken 6 = .ok (.invokevirtual 20, 3) := by decide +kernel
theorem dX0_weaken_9 : decode cX0_weaken 9 = .ok (.iload_n 2, 1) := by decide +kernel
theorem dX0_weaken_10 : decode cX0_weaken 10 = .ok (.isub, 1) := by decide +kernel
theorem dX0_weaken_11 : decode cX0_weaken 11 = .ok (.istore_n 3, 1) := by decide +kernel
theorem dX0_weaken_12 : decode cX0_weaken 12 = .ok (.iload_n 3, 1) := by decide +kernel
theorem dX0_weaken_13 : decode cX0_weaken 13 = .ok (.ifCond .gt 13, 3) := by decide +kernel
theorem dX0_weaken_16 : decode cX0_weaken 16 = .ok (.aload_n 0, 1) := by decide +kernel
theorem dX0_weaken_17 : decode cX0_weaken 17 = .ok (.getfield 14, 3) := by decide +kernel
theorem dX0_weaken_20 : decode cX0_weaken 20 = .ok (.iload_n 1, 1) := by decide +kernel
theorem dX0_weaken_21 : decode cX0_weaken 21 = .ok (.invokevirtual 36, 3) := by decide +kernel
theorem dX0_weaken_24 : decode cX0_weaken 24 = .ok (.iconst 0, 1) := by decide +kernel
theorem dX0_weaken_25 : decode cX0_weaken 25 = .ok (.ireturn, 1) := by decide +kernel
theorem dX0_weaken_26 : decode cX0_weaken 26 = .ok (.aload_n 0, 1) := by decide +kernel
theorem dX0_weaken_27 : decode cX0_weaken 27 = .ok (.getfield 14, 3) := by decide +kernel
theorem dX0_weaken_30 : decode cX0_weaken 30 = .ok (.iload_n 1, 1) := by decide +kernel
theorem dX0_weaken_31 : decode cX0_weaken 31 = .ok (.iconst 2, 1) := by decide +kernel
theorem dX0_weaken_32 : decode cX0_weaken 32 = .ok (.iload_n 3, 1) := by decide +kernel
theorem dX0_weaken_33 : decode cX0_weaken 33 = .ok (.invokevirtual 39, 3) := by decide +kernel
theorem dX0_weaken_36 : decode cX0_weaken 36 = .ok (.iload_n 3, 1) := by decide +kernel
theorem dX0_weaken_37 : decode cX0_weaken 37 = .ok (.ireturn, 1) := by decide +kernel
theorem dX0_hardnessDownTo_0 : decode cX0_hardnessDownTo 0 = .ok (.iconst 0, 1) := by decide +kernel
theorem dX0_hardnessDownTo_1 : decode cX0_hardnessDownTo 1 = .ok (.istore_n 3, 1) := by decide +kernel
theorem dX0_hardnessDownTo_2 : decode cX0_hardnessDownTo 2 = .ok (.iconst 0, 1) := by decide +kernel
theorem dX0_hardnessDownTo_3 : decode cX0_hardnessDownTo 3 = .ok (.istore 4, 2) := by decide +kernel
theorem dX0_hardnessDownTo_5 : decode cX0_hardnessDownTo 5 = .ok (.iload 4, 2) := by decide +kernel
theorem dX0_hardnessDownTo_7 : decode cX0_hardnessDownTo 7 = .ok (.aload_n 0, 1) := by decide +kernel
theorem dX0_hardnessDownTo_8 : decode cX0_hardnessDownTo 8 = .ok (.getfield 14, 3) := by decide +kernel
theorem dX0_hardnessDownTo_11 : decode cX0_hardnessDownTo 11 = .ok (.getfield 24, 3) := by decide +kernel
theorem dX0_hardnessDownTo_14 : decode cX0_hardnessDownTo 14 = .ok (.if_icmp .ge 60, 3) := by decide +kernel
theorem dX0_hardnessDownTo_17 : decode cX0_hardnessDownTo 17 = .ok (.aload_n 0, 1) := by decide +kernel
theorem dX0_hardnessDownTo_18 : decode cX0_hardnessDownTo 18 = .ok (.getfield 14, 3) := by decide +kernel
theorem dX0_hardnessDownTo_21 : decode cX0_hardnessDownTo 21 = .ok (.getfield 43, 3) := by decide +kernel
theorem dX0_hardnessDownTo_24 : decode cX0_hardnessDownTo 24 = .ok (.iload 4, 2) := by decide +kernel
theorem dX0_hardnessDownTo_26 : decode cX0_hardnessDownTo 26 = .ok (.iconst 3, 1) := by decide +kernel
theorem dX0_hardnessDownTo_27 : decode cX0_hardnessDownTo 27 = .ok (.imul, 1) := by decide +kernel
theorem dX0_hardnessDownTo_28 : decode cX0_hardnessDownTo 28 = .ok (.iaload, 1) := by decide +kernel
theorem dX0_hardnessDownTo_29 : decode cX0_hardnessDownTo 29 = .ok (.iload_n 1, 1) := by decide +kernel
theorem dX0_hardnessDownTo_30 : decode cX0_hardnessDownTo 30 = .ok (.if_icmp .ne 38, 3) := by decide +kernel
theorem dX0_hardnessDownTo_33 : decode cX0_hardnessDownTo 33 = .ok (.aload_n 0, 1) := by decide +kernel
theorem dX0_hardnessDownTo_34 : decode cX0_hardnessDownTo 34 = .ok (.getfield 14, 3) := by decide +kernel
theorem dX0_hardnessDownTo_37 : decode cX0_hardnessDownTo 37 = .ok (.getfield 43, 3) := by decide +kernel
theorem dX0_hardnessDownTo_40 : decode cX0_hardnessDownTo 40 = .ok (.iload 4, 2) := by decide +kernel
theorem dX0_hardnessDownTo_42 : decode cX0_hardnessDownTo 42 = .ok (.iconst 3, 1) := by decide +kernel
theorem dX0_hardnessDownTo_43 : decode cX0_hardnessDownTo 43 = .ok (.imul, 1) := by decide +kernel
theorem dX0_hardnessDownTo_44 : decode cX0_hardnessDownTo 44 = .ok (.iconst 1, 1) := by decide +kernel
theorem dX0_hardnessDownTo_45 : decode cX0_hardnessDownTo 45 = .ok (.iadd, 1) := by decide +kernel
theorem dX0_hardnessDownTo_46 : decode cX0_hardnessDownTo 46 = .ok (.iaload, 1) := by decide +kernel
theorem dX0_hardnessDownTo_47 : decode cX0_hardnessDownTo 47 = .ok (.iload_n 2, 1) := by decide +kernel
theorem dX0_hardnessDownTo_48 : decode cX0_hardnessDownTo 48 = .ok (.if_icmp .gt 20, 3) := by decide +kernel
theorem dX0_hardnessDownTo_51 : decode cX0_hardnessDownTo 51 = .ok (.iload_n 3, 1) := by decide +kernel
theorem dX0_hardnessDownTo_52 : decode cX0_hardnessDownTo 52 = .ok (.aload_n 0, 1) := by decide +kernel
theorem dX0_hardnessDownTo_53 : decode cX0_hardnessDownTo 53 = .ok (.getfield 14, 3) := by decide +kernel
theorem dX0_hardnessDownTo_56 : decode cX0_hardnessDownTo 56 = .ok (.getfield 43, 3) := by decide +kernel
theorem dX0_hardnessDownTo_59 : decode cX0_hardnessDownTo 59 = .ok (.iload 4, 2) := by decide +kernel
theorem dX0_hardnessDownTo_61 : decode cX0_hardnessDownTo 61 = .ok (.iconst 3, 1) := by decide +kernel
theorem dX0_hardnessDownTo_62 : decode cX0_hardnessDownTo 62 = .ok (.imul, 1) := by decide +kernel
theorem dX0_hardnessDownTo_63 : decode cX0_hardnessDownTo 63 = .ok (.iconst 2, 1) := by decide +kernel
theorem dX0_hardnessDownTo_64 : decode cX0_hardnessDownTo 64 = .ok (.iadd, 1) := by decide +kernel
theorem dX0_hardnessDownTo_65 : decode cX0_hardnessDownTo 65 = .ok (.iaload, 1) := by decide +kernel
theorem dX0_hardnessDownTo_66 : decode cX0_hardnessDownTo 66 = .ok (.iadd, 1) := by decide +kernel
theorem dX0_hardnessDownTo_67 : decode cX0_hardnessDownTo 67 = .ok (.istore_n 3, 1) := by decide +kernel
theorem dX0_hardnessDownTo_68 : decode cX0_hardnessDownTo 68 = .ok (.iinc 4 1, 3) := by decide +kernel
theorem dX0_hardnessDownTo_71 : decode cX0_hardnessDownTo 71 = .ok (.goto (-66), 3) := by decide +kernel
theorem dX0_hardnessDownTo_74 : decode cX0_hardnessDownTo 74 = .ok (.iload_n 3, 1) := by decide +kernel
theorem dX0_hardnessDownTo_75 : decode cX0_hardnessDownTo 75 = .ok (.ireturn, 1) := by decide +kernel
theorem dX0_rankOf_0 : decode cX0_rankOf 0 = .ok (.iconst 0, 1) := by decide +kernel
theorem dX0_rankOf_1 : decode cX0_rankOf 1 = .ok (.istore_n 3, 1) := by decide +kernel
theorem dX0_rankOf_2 : decode cX0_rankOf 2 = .ok (.iconst 0, 1) := by decide +kernel
theorem dX0_rankOf_3 : decode cX0_rankOf 3 = .ok (.istore 4, 2) := by decide +kernel
theorem dX0_rankOf_5 : decode cX0_rankOf 5 = .ok (.iload 4, 2) := by decide +kernel
theorem dX0_rankOf_7 : decode cX0_rankOf 7 = .ok (.aload_n 0, 1) := by decide +kernel
theorem dX0_rankOf_8 : decode cX0_rankOf 8 = .ok (.getfield 14, 3) := by decide +kernel
theorem dX0_rankOf_11 : decode cX0_rankOf 11 = .ok (.getfield 24, 3) := by decide +kernel
theorem dX0_rankOf_14 : decode cX0_rankOf 14 = .ok (.if_icmp .ge 50, 3) := by decide +kernel
theorem dX0_rankOf_17 : decode cX0_rankOf 17 = .ok (.aload_n 0, 1) := by decide +kernel
theorem dX0_rankOf_18 : decode cX0_rankOf 18 = .ok (.getfield 14, 3) := by decide +kernel
theorem dX0_rankOf_21 : decode cX0_rankOf 21 = .ok (.iload 4, 2) := by decide +kernel
theorem dX0_rankOf_23 : decode cX0_rankOf 23 = .ok (.iconst 0, 1) := by decide +kernel
theorem dX0_rankOf_24 : decode cX0_rankOf 24 = .ok (.invokevirtual 20, 3) := by decide +kernel
theorem dX0_rankOf_27 : decode cX0_rankOf 27 = .ok (.istore 5, 2) := by decide +kernel
theorem dX0_rankOf_29 : decode cX0_rankOf 29 = .ok (.iload 5, 2) := by decide +kernel
theorem dX0_rankOf_31 : decode cX0_rankOf 31 = .ok (.iload_n 1, 1) := by decide +kernel
theorem dX0_rankOf_32 : decode cX0_rankOf 32 = .ok (.if_icmp .lt 23, 3) := by decide +kernel
theorem dX0_rankOf_35 : decode cX0_rankOf 35 = .ok (.iload 5, 2) := by decide +kernel
theorem dX0_rankOf_37 : decode cX0_rankOf 37 = .ok (.iload_n 1, 1) := by decide +kernel
theorem dX0_rankOf_38 : decode cX0_rankOf 38 = .ok (.if_icmp .ne 20, 3) := by decide +kernel
theorem dX0_rankOf_41 : decode cX0_rankOf 41 = .ok (.aload_n 0, 1) := by decide +kernel
theorem dX0_rankOf_42 : decode cX0_rankOf 42 = .ok (.getfield 14, 3) := by decide +kernel
theorem dX0_rankOf_45 : decode cX0_rankOf 45 = .ok (.iload 4, 2) := by decide +kernel
theorem dX0_rankOf_47 : decode cX0_rankOf 47 = .ok (.iconst 1, 1) := by decide +kernel
theorem dX0_rankOf_48 : decode cX0_rankOf 48 = .ok (.invokevirtual 20, 3) := by decide +kernel
theorem dX0_rankOf_51 : decode cX0_rankOf 51 = .ok (.iload_n 2, 1) := by decide +kernel
theorem dX0_rankOf_52 : decode cX0_rankOf 52 = .ok (.if_icmp .ge 6, 3) := by decide +kernel
theorem dX0_rankOf_55 : decode cX0_rankOf 55 = .ok (.iinc 3 1, 3) := by decide +kernel
theorem dX0_rankOf_58 : decode cX0_rankOf 58 = .ok (.iinc 4 1, 3) := by decide +kernel
theorem dX0_rankOf_61 : decode cX0_rankOf 61 = .ok (.goto (-56), 3) := by decide +kernel
theorem dX0_rankOf_64 : decode cX0_rankOf 64 = .ok (.iload_n 3, 1) := by decide +kernel
theorem dX0_rankOf_65 : decode cX0_rankOf 65 = .ok (.ireturn, 1) := by decide +kernel
theorem dX1_init_0 : decode cX1_init 0 = .ok (.aload_n 0, 1) := by decide +kernel
theorem dX1_init_1 : decode cX1_init 1 = .ok (.invokespecial 3, 3) := by decide +kernel
theorem dX1_init_4 : decode cX1_init 4 = .ok (.aload_n 0, 1) := by decide +kernel
theorem dX1_init_5 : decode cX1_init 5 = .ok (.new 9, 3) := by decide +kernel
theorem dX1_init_8 : decode cX1_init 8 = .ok (.dup, 1) := by decide +kernel
theorem dX1_init_9 : decode cX1_init 9 = .ok (.invokespecial 11, 3) := by decide +kernel
theorem dX1_init_12 : decode cX1_init 12 = .ok (.putfield 12, 3) := by decide +kernel
theorem dX1_init_15 : decode cX1_init 15 = .ok (.aload_n 0, 1) := by decide +kernel
theorem dX1_init_16 : decode cX1_init 16 = .ok (.new 18, 3) := by decide +kernel
theorem dX1_init_19 : decode cX1_init 19 = .ok (.dup, 1) := by decide +kernel
theorem dX1_init_20 : decode cX1_init 20 = .ok (.invokespecial 20, 3) := by decide +kernel
theorem dX1_init_23 : decode cX1_init 23 = .ok (.putfield 21, 3) := by decide +kernel
theorem dX1_init_26 : decode cX1_init 26 = .ok (.aload_n 0, 1) := by decide +kernel
theorem dX1_init_27 : decode cX1_init 27 = .ok (.new 18, 3) := by decide +kernel
theorem dX1_init_30 : decode cX1_init 30 = .ok (.dup, 1) := by decide +kernel
theorem dX1_init_31 : decode cX1_init 31 = .ok (.invokespecial 20, 3) := by decide +kernel
theorem dX1_init_34 : decode cX1_init 34 = .ok (.putfield 25, 3) := by decide +kernel
theorem dX1_init_37 : decode cX1_init 37 = .ok (.return_, 1) := by decide +kernel
theorem dX1_edgeDepth_0 : decode cX1_edgeDepth 0 = .ok (.aload_n 1, 1) := by decide +kernel
theorem dX1_edgeDepth_1 : decode cX1_edgeDepth 1 = .ok (.getfield 28, 3) := by decide +kernel
theorem dX1_edgeDepth_4 : decode cX1_edgeDepth 4 = .ok (.iconst 2, 1) := by decide +kernel
theorem dX1_edgeDepth_5 : decode cX1_edgeDepth 5 = .ok (.iload_n 2, 1) := by decide +kernel
theorem dX1_edgeDepth_6 : decode cX1_edgeDepth 6 = .ok (.imul, 1) := by decide +kernel
theorem dX1_edgeDepth_7 : decode cX1_edgeDepth 7 = .ok (.aload_n 0, 1) := by decide +kernel
theorem dX1_edgeDepth_8 : decode cX1_edgeDepth 8 = .ok (.getfield 12, 3) := by decide +kernel
theorem dX1_edgeDepth_11 : decode cX1_edgeDepth 11 = .ok (.getfield 32, 3) := by decide +kernel
theorem dX1_edgeDepth_14 : decode cX1_edgeDepth 14 = .ok (.isub, 1) := by decide +kernel
theorem dX1_edgeDepth_15 : decode cX1_edgeDepth 15 = .ok (.iconst 1, 1) := by decide +kernel
theorem dX1_edgeDepth_16 : decode cX1_edgeDepth 16 = .ok (.iadd, 1) := by decide +kernel
theorem dX1_edgeDepth_17 : decode cX1_edgeDepth 17 = .ok (.imul, 1) := by decide +kernel
theorem dX1_edgeDepth_18 : decode cX1_edgeDepth 18 = .ok (.aload_n 1, 1) := by decide +kernel
theorem dX1_edgeDepth_19 : decode cX1_edgeDepth 19 = .ok (.getfield 35, 3) := by decide +kernel
theorem dX1_edgeDepth_22 : decode cX1_edgeDepth 22 = .ok (.iconst 2, 1) := by decide +kernel
theorem dX1_edgeDepth_23 : decode cX1_edgeDepth 23 = .ok (.iload_n 3, 1) := by decide +kernel
theorem dX1_edgeDepth_24 : decode cX1_edgeDepth 24 = .ok (.imul, 1) := by decide +kernel
theorem dX1_edgeDepth_25 : decode cX1_edgeDepth 25 = .ok (.aload_n 0, 1) := by decide +kernel
theorem dX1_edgeDepth_26 : decode cX1_edgeDepth 26 = .ok (.getfield 12, 3) := by decide +kernel
theorem dX1_edgeDepth_29 : decode cX1_edgeDepth 29 = .ok (.getfield 38, 3) := by decide +kernel
theorem dX1_edgeDepth_32 : decode cX1_edgeDepth 32 = .ok (.isub, 1) := by decide +kernel
theorem dX1_edgeDepth_33 : decode cX1_edgeDepth 33 = .ok (.iconst 1, 1) := by decide +kernel
theorem dX1_edgeDepth_34 : decode cX1_edgeDepth 34 = .ok (.iadd, 1) := by decide +kernel
theorem dX1_edgeDepth_35 : decode cX1_edgeDepth 35 = .ok (.imul, 1) := by decide +kernel
theorem dX1_edgeDepth_36 : decode cX1_edgeDepth 36 = .ok (.iadd, 1) := by decide +kernel
theorem dX1_edgeDepth_37 : decode cX1_edgeDepth 37 = .ok (.istore 4, 2) := by decide +kernel
theorem dX1_edgeDepth_39 : decode cX1_edgeDepth 39 = .ok (.iconst 0, 1) := by decide +kernel
theorem dX1_edgeDepth_40 : decode cX1_edgeDepth 40 = .ok (.aload_n 1, 1) := by decide +kernel
theorem dX1_edgeDepth_41 : decode cX1_edgeDepth 41 = .ok (.getfield 41, 3) := by decide +kernel
theorem dX1_edgeDepth_44 : decode cX1_edgeDepth 44 = .ok (.iload 4, 2) := by decide +kernel
theorem dX1_edgeDepth_46 : decode cX1_edgeDepth 46 = .ok (.iconst 2, 1) := by decide +kernel
theorem dX1_edgeDepth_47 : decode cX1_edgeDepth 47 = .ok (.invokestatic 44, 3) := by decide +kernel
theorem dX1_edgeDepth_50 : decode cX1_edgeDepth 50 = .ok (.iadd, 1) := by decide +kernel
theorem dX1_edgeDepth_51 : decode cX1_edgeDepth 51 = .ok (.invokestatic 50, 3) := by decide +kernel
theorem dX1_edgeDepth_54 : decode cX1_edgeDepth 54 = .ok (.ireturn, 1) := by decide +kernel
theorem dX1_support_0 : decode cX1_support 0 = .ok (.iload 4, 2) := by decide +kernel
theorem dX1_support_2 : decode cX1_support 2 = .ok (.aload_n 1, 1) := by decide +kernel
theorem dX1_support_3 : decode cX1_support 3 = .ok (.aload_n 0, 1) := by decide +kernel
theorem dX1_support_4 : decode cX1_support 4 = .ok (.getfield 12, 3) := by decide +kernel
theorem dX1_support_7 : decode cX1_support 7 = .ok (.iload_n 2, 1) := by decide +kernel
theorem dX1_support_8 : decode cX1_support 8 = .ok (.iload_n 3, 1) := by decide +kernel
theorem dX1_support_9 : decode cX1_support 9 = .ok (.invokevirtual 53, 3) := by decide +kernel
theorem dX1_support_12 : decode cX1_support 12 = .ok (.invokevirtual 56, 3) := by decide +kernel
theorem dX1_support_15 : decode cX1_support 15 = .ok (.isub, 1) := by decide +kernel
theorem dX1_support_16 : decode cX1_support 16 = .ok (.iconst 2, 1) := by decide +kernel
theorem dX1_support_17 : decode cX1_support 17 = .ok (.iadd, 1) := by decide +kernel
theorem dX1_support_18 : decode cX1_support 18 = .ok (.istore 5, 2) := by decide +kernel
theorem dX1_support_20 : decode cX1_support 20 = .ok (.iconst 0, 1) := by decide +kernel
theorem dX1_support_21 : decode cX1_support 21 = .ok (.iconst 4, 1) := by decide +kernel
theorem dX1_support_22 : decode cX1_support 22 = .ok (.iload 5, 2) := by decide +kernel
theorem dX1_support_24 : decode cX1_support 24 = .ok (.invokestatic 60, 3) := by decide +kernel
theorem dX1_support_27 : decode cX1_support 27 = .ok (.invokestatic 50, 3) := by decide +kernel
theorem dX1_support_30 : decode cX1_support 30 = .ok (.istore 5, 2) := by decide +kernel
theorem dX1_support_32 : decode cX1_support 32 = .ok (.iload_n 3, 1) := by decide +kernel
theorem dX1_support_33 : decode cX1_support 33 = .ok (.aload_n 0, 1) := by decide +kernel
theorem dX1_support_34 : decode cX1_support 34 = .ok (.getfield 12, 3) := by decide +kernel
theorem dX1_support_37 : decode cX1_support 37 = .ok (.getfield 32, 3) := by decide +kernel
theorem dX1_support_40 : decode cX1_support 40 = .ok (.imul, 1) := by decide +kernel
theorem dX1_support_41 : decode cX1_support 41 = .ok (.iload_n 2, 1) := by decide +kernel
theorem dX1_support_42 : decode cX1_support 42 = .ok (.iadd, 1) := by decide +kernel
theorem dX1_support_43 : decode cX1_support 43 = .ok (.istore 6, 2) := by decide +kernel
theorem dX1_support_45 : decode cX1_support 45 = .ok (.iload 5, 2) := by decide +kernel
theorem dX1_support_47 : decode cX1_support 47 = .ok (.aload_n 0, 1) := by decide +kernel
theorem dX1_support_48 : decode cX1_support 48 = .ok (.getfield 12, 3) := by decide +kernel
theorem dX1_support_51 : decode cX1_support 51 = .ok (.getfield 63, 3) := by decide +kernel
theorem dX1_support_54 : decode cX1_support 54 = .ok (.iload 4, 2) := by decide +kernel
theorem dX1_support_56 : decode cX1_support 56 = .ok (.invokevirtual 67, 3) := by decide +kernel
theorem dX1_support_59 : decode cX1_support 59 = .ok (.imul, 1) := by decide +kernel
theorem dX1_support_60 : decode cX1_support 60 = .ok (.iconst 4, 1) := by decide +kernel
theorem dX1_support_61 : decode cX1_support 61 = .ok (.aload_n 0, 1) := by decide +kernel
theorem dX1_support_62 : decode cX1_support 62 = .ok (.getfield 12, 3) := by decide +kernel
theorem dX1_support_65 : decode cX1_support 65 = .ok (.getfield 72, 3) := by decide +kernel
theorem dX1_support_68 : decode cX1_support 68 = .ok (.iload 6, 2) := by decide +kernel
theorem dX1_support_70 : decode cX1_support 70 = .ok (.iload 4, 2) := by decide +kernel
theorem dX1_support_72 : decode cX1_support 72 = .ok (.invokevirtual 76, 3) := by decide +kernel
theorem dX1_support_75 : decode cX1_support 75 = .ok (.imul, 1) := by decide +kernel
theorem dX1_support_76 : decode cX1_support 76 = .ok (.iadd, 1) := by decide +kernel
theorem dX1_support_77 : decode cX1_support 77 = .ok (.ireturn, 1) := by decide +kernel
theorem dX1_skinForce_0 : decode cX1_skinForce 0 = .ok (.aload_n 0, 1) := by decide +kernel
theorem dX1_skinForce_1 : decode cX1_skinForce 1 = .ok (.getfield 12, 3) := by decide +kernel
theorem dX1_skinForce_4 : decode cX1_skinForce 4 = .ok (.iload_n 1, 1) := by decide +kernel
theorem dX1_skinForce_5 : decode cX1_skinForce 5 = .ok (.iload_n 2, 1) := by decide +kernel
theorem dX1_skinForce_6 : decode cX1_skinForce 6 = .ok (.invokevirtual 81, 3) := by decide +kernel
theorem dX1_skinForce_9 : decode cX1_skinForce 9 = .ok (.aload_n 0, 1) := by decide +kernel
theorem dX1_skinForce_10 : decode cX1_skinForce 10 = .ok (.getfield 12, 3) := by decide +kernel
theorem dX1_skinForce_13 : decode cX1_skinForce 13 = .ok (.getfield 63, 3) := by decide +kernel
theorem dX1_skinForce_16 : decode cX1_skinForce 16 = .ok (.iload_n 3, 1) := by decide +kernel
theorem dX1_skinForce_17 : decode cX1_skinForce 17 = .ok (.invokevirtual 84, 3) := by decide +kernel
theorem dX1_skinForce_20 : decode cX1_skinForce 20 = .ok (.imul, 1) := by decide +kernel
theorem dX1_skinForce_21 : decode cX1_skinForce 21 = .ok (.ireturn, 1) := by decide +kernel
theorem dX1_buoyancy_0 : decode cX1_buoyancy 0 = .ok (.iconst 0, 1) := by decide +kernel
theorem dX1_buoyancy_1 : decode cX1_buoyancy 1 = .ok (.iload_n 1, 1) := by decide +kernel
theorem dX1_buoyancy_2 : decode cX1_buoyancy 2 = .ok (.aload_n 0, 1) := by decide +kernel
theorem dX1_buoyancy_3 : decode cX1_buoyancy 3 = .ok (.getfield 12, 3) := by decide +kernel
theorem dX1_buoyancy_6 : decode cX1_buoyancy 6 = .ok (.getfield 87, 3) := by decide +kernel
theorem dX1_buoyancy_9 : decode cX1_buoyancy 9 = .ok (.isub, 1) := by decide +kernel
theorem dX1_buoyancy_10 : decode cX1_buoyancy 10 = .ok (.invokestatic 50, 3) := by decide +kernel
theorem dX1_buoyancy_13 : decode cX1_buoyancy 13 = .ok (.ireturn, 1) := by decide +kernel
theorem dX1_resistance_0 : decode cX1_resistance 0 = .ok (.aload_n 0, 1) := by decide +kernel
theorem dX1_resistance_1 : decode cX1_resistance 1 = .ok (.aload_n 1, 1) := by decide +kernel
theorem dX1_resistance_2 : decode cX1_resistance 2 = .ok (.iload_n 2, 1) := by decide +kernel
theorem dX1_resistance_3 : decode cX1_resistance 3 = .ok (.iload_n 3, 1) := by decide +kernel
theorem dX1_resistance_4 : decode cX1_resistance 4 = .ok (.invokevirtual 90, 3) := by decide +kernel
theorem dX1_resistance_7 : decode cX1_resistance 7 = .ok (.istore 4, 2) := by decide +kernel
theorem dX1_resistance_9 : decode cX1_resistance 9 = .ok (.aload_n 0, 1) := by decide +kernel
theorem dX1_resistance_10 : decode cX1_resistance 10 = .ok (.aload_n 1, 1) := by decide +kernel
theorem dX1_resistance_11 : decode cX1_resistance 11 = .ok (.iload_n 2, 1) := by decide +kernel
theorem dX1_resistance_12 : decode cX1_resistance 12 = .ok (.iload_n 3, 1) := by decide +kernel
theorem dX1_resistance_13 : decode cX1_resistance 13 = .ok (.iload 4, 2) := by decide +kernel
theorem dX1_resistance_15 : decode cX1_resistance 15 = .ok (.invokevirtual 94, 3) := by decide +kernel
theorem dX1_resistance_18 : decode cX1_resistance 18 = .ok (.aload_n 0, 1) := by decide +kernel
theorem dX1_resistance_19 : decode cX1_resistance 19 = .ok (.iload_n 2, 1) := by decide +kernel
theorem dX1_resistance_20 : decode cX1_resistance 20 = .ok (.iload_n 3, 1) := by decide +kernel
theorem dX1_resistance_21 : decode cX1_resistance 21 = .ok (.iload 4, 2) := by decide +kernel
theorem dX1_resistance_23 : decode cX1_resistance 23 = .ok (.invokevirtual 98, 3) := by decide +kernel
theorem dX1_resistance_26 : decode cX1_resistance 26 = .ok (.iadd, 1) := by decide +kernel
theorem dX1_resistance_27 : decode cX1_resistance 27 = .ok (.aload_n 0, 1) := by decide +kernel
theorem dX1_resistance_28 : decode cX1_resistance 28 = .ok (.iload 4, 2) := by decide +kernel
theorem dX1_resistance_30 : decode cX1_resistance 30 = .ok (.invokevirtual 102, 3) := by decide +kernel
theorem dX1_resistance_33 : decode cX1_resistance 33 = .ok (.iadd, 1) := by decide +kernel
theorem dX1_resistance_34 : decode cX1_resistance 34 = .ok (.ireturn, 1) := by decide +kernel
theorem dX1_examine_0 : decode cX1_examine 0 = .ok (.aload_n 0, 1) := by decide +kernel
theorem dX1_examine_1 : decode cX1_examine 1 = .ok (.iconst 4, 1) := by decide +kernel
theorem dX1_examine_2 : decode cX1_examine 2 = .ok (.aload_n 0, 1) := by decide +kernel
theorem dX1_examine_3 : decode cX1_examine 3 = .ok (.getfield 12, 3) := by decide +kernel
theorem dX1_examine_6 : decode cX1_examine 6 = .ok (.getfield 105, 3) := by decide +kernel
theorem dX1_examine_9 : decode cX1_examine 9 = .ok (.imul, 1) := by decide +kernel
theorem dX1_examine_10 : decode cX1_examine 10 = .ok (.putfield 108, 3) := by decide +kernel
theorem dX1_examine_13 : decode cX1_examine 13 = .ok (.aload_n 0, 1) := by decide +kernel
theorem dX1_examine_14 : decode cX1_examine 14 = .ok (.iconst 0, 1) := by decide +kernel
theorem dX1_examine_15 : decode cX1_examine 15 = .ok (.putfield 111, 3) := by decide +kernel
theorem dX1_examine_18 : decode cX1_examine 18 = .ok (.aload_n 0, 1) := by decide +kernel
theorem dX1_examine_19 : decode cX1_examine 19 = .ok (.iconst 0, 1) := by decide +kernel
theorem dX1_examine_20 : decode cX1_examine 20 = .ok (.putfield 114, 3) := by decide +kernel
theorem dX1_examine_23 : decode cX1_examine 23 = .ok (.iconst 0, 1) := by decide +kernel
theorem dX1_examine_24 : decode cX1_examine 24 = .ok (.istore_n 2, 1) := by decide +kernel
theorem dX1_examine_25 : decode cX1_examine 25 = .ok (.iload_n 2, 1) := by decide +kernel
theorem dX1_examine_26 : decode cX1_examine 26 = .ok (.aload_n 0, 1) := by decide +kernel
theorem dX1_examine_27 : decode cX1_examine 27 = .ok (.getfield 12, 3) := by decide +kernel
theorem dX1_examine_30 : decode cX1_examine 30 = .ok (.getfield 38, 3) := by decide +kernel
theorem dX1_examine_33 : decode cX1_examine 33 = .ok (.if_icmp .ge 136, 3) := by decide +kernel
theorem dX1_examine_36 : decode cX1_examine 36 = .ok (.iconst 0, 1) := by decide +kernel
theorem dX1_examine_37 : decode cX1_examine 37 = .ok (.istore_n 3, 1) := by decide +kernel
theorem dX1_examine_38 : decode cX1_examine 38 = .ok (.iload_n 3, 1) := by decide +kernel
theorem dX1_examine_39 : decode cX1_examine 39 = .ok (.aload_n 0, 1) := by decide +kernel
theorem dX1_examine_40 : decode cX1_examine 40 = .ok (.getfield 12, 3) := by decide +kernel
theorem dX1_examine_43 : decode cX1_examine 43 = .ok (.getfield 32, 3) := by decide +kernel
theorem dX1_examine_46 : decode cX1_examine 46 = .ok (.if_icmp .ge 117, 3) := by decide +kernel
theorem dX1_examine_49 : decode cX1_examine 49 = .ok (.bipush (-4), 2) := by decide +kernel
theorem dX1_examine_51 : decode cX1_examine 51 = .ok (.aload_n 0, 1) := by decide +kernel
theorem dX1_examine_52 : decode cX1_examine 52 = .ok (.getfield 12, 3) := by decide +kernel
theorem dX1_examine_55 : decode cX1_examine 55 = .ok (.iload_n 2, 1) := by decide +kernel
theorem dX1_examine_56 : decode cX1_examine 56 = .ok (.aload_n 0, 1) := by decide +kernel
theorem dX1_examine_57 : decode cX1_examine 57 = .ok (.getfield 12, 3) := by decide +kernel
theorem dX1_examine_60 : decode cX1_examine 60 = .ok (.getfield 32, 3) := by decide +kernel
theorem dX1_examine_63 : decode cX1_examine 63 = .ok (.imul, 1) := by decide +kernel
theorem dX1_examine_64 : decode cX1_examine 64 = .ok (.iload_n 3, 1) := by decide +kernel
theorem dX1_examine_65 : decode cX1_examine 65 = .ok (.iadd, 1) := by decide +kernel
theorem dX1_examine_66 : decode cX1_examine 66 = .ok (.invokevirtual 117, 3) := by decide +kernel
theorem dX1_examine_69 : decode cX1_examine 69 = .ok (.imul, 1) := by decide +kernel
theorem dX1_examine_70 : decode cX1_examine 70 = .ok (.istore 4, 2) := by decide +kernel
theorem dX1_examine_72 : decode cX1_examine 72 = .ok (.aload_n 0, 1) := by decide +kernel
theorem dX1_examine_73 : decode cX1_examine 73 = .ok (.getfield 12, 3) := by decide +kernel
theorem dX1_examine_76 : decode cX1_examine 76 = .ok (.iload_n 3, 1) := by decide +kernel
theorem dX1_examine_77 : decode cX1_examine 77 = .ok (.iload_n 2, 1) := by decide +kernel
theorem dX1_examine_78 : decode cX1_examine 78 = .ok (.invokevirtual 120, 3) := by decide +kernel
theorem dX1_examine_81 : decode cX1_examine 81 = .ok (.ifCond .eq 15, 3) := by decide +kernel
theorem dX1_examine_84 : decode cX1_examine 84 = .ok (.iload 4, 2) := by decide +kernel
theorem dX1_examine_86 : decode cX1_examine 86 = .ok (.aload_n 0, 1) := by decide +kernel
theorem dX1_examine_87 : decode cX1_examine 87 = .ok (.aload_n 1, 1) := by decide +kernel
theorem dX1_examine_88 : decode cX1_examine 88 = .ok (.iload_n 3, 1) := by decide +kernel
theorem dX1_examine_89 : decode cX1_examine 89 = .ok (.iload_n 2, 1) := by decide +kernel
theorem dX1_examine_90 : decode cX1_examine 90 = .ok (.invokevirtual 124, 3) := by decide +kernel
theorem dX1_examine_93 : decode cX1_examine 93 = .ok (.iadd, 1) := by decide +kernel
theorem dX1_examine_94 : decode cX1_examine 94 = .ok (.istore 4, 2) := by decide +kernel
theorem dX1_examine_96 : decode cX1_examine 96 = .ok (.aload_n 0, 1) := by decide +kernel
theorem dX1_examine_97 : decode cX1_examine 97 = .ok (.dup, 1) := by decide +kernel
theorem dX1_examine_98 : decode cX1_examine 98 = .ok (.getfield 108, 3) := by decide +kernel
theorem dX1_examine_101 : decode cX1_examine 101 = .ok (.iload 4, 2) := by decide +kernel
theorem dX1_examine_103 : decode cX1_examine 103 = .ok (.isub, 1) := by decide +kernel
theorem dX1_examine_104 : decode cX1_examine 104 = .ok (.putfield 108, 3) := by decide +kernel
theorem dX1_examine_107 : decode cX1_examine 107 = .ok (.aload_n 0, 1) := by decide +kernel
theorem dX1_examine_108 : decode cX1_examine 108 = .ok (.dup, 1) := by decide +kernel
theorem dX1_examine_109 : decode cX1_examine 109 = .ok (.getfield 111, 3) := by decide +kernel
theorem dX1_examine_112 : decode cX1_examine 112 = .ok (.iconst 2, 1) := by decide +kernel
theorem dX1_examine_113 : decode cX1_examine 113 = .ok (.iload_n 3, 1) := by decide +kernel
theorem dX1_examine_114 : decode cX1_examine 114 = .ok (.imul, 1) := by decide +kernel
theorem dX1_examine_115 : decode cX1_examine 115 = .ok (.aload_n 0, 1) := by decide +kernel
theorem dX1_examine_116 : decode cX1_examine 116 = .ok (.getfield 12, 3) := by decide +kernel
theorem dX1_examine_119 : decode cX1_examine 119 = .ok (.getfield 32, 3) := by decide +kernel
theorem dX1_examine_122 : decode cX1_examine 122 = .ok (.isub, 1) := by decide +kernel
theorem dX1_examine_123 : decode cX1_examine 123 = .ok (.iconst 1, 1) := by decide +kernel
theorem dX1_examine_124 : decode cX1_examine 124 = .ok (.iadd, 1) := by decide +kernel
theorem dX1_examine_125 : decode cX1_examine 125 = .ok (.iload 4, 2) := by decide +kernel
theorem dX1_examine_127 : decode cX1_examine 127 = .ok (.imul, 1) := by decide +kernel
theorem dX1_examine_128 : decode cX1_examine 128 = .ok (.iadd, 1) := by decide +kernel
theorem dX1_examine_129 : decode cX1_examine 129 = .ok (.putfield 111, 3) := by decide +kernel
theorem dX1_examine_132 : decode cX1_examine 132 = .ok (.aload_n 0, 1) := by decide +kernel
theorem dX1_examine_133 : decode cX1_examine 133 = .ok (.dup, 1) := by decide +kernel
theorem dX1_examine_134 : decode cX1_examine 134 = .ok (.getfield 114, 3) := by decide +kernel
theorem dX1_examine_137 : decode cX1_examine 137 = .ok (.iconst 2, 1) := by decide +kernel
theorem dX1_examine_138 : decode cX1_examine 138 = .ok (.iload_n 2, 1) := by decide +kernel
theorem dX1_examine_139 : decode cX1_examine 139 = .ok (.imul, 1) := by decide +kernel
theorem dX1_examine_140 : decode cX1_examine 140 = .ok (.aload_n 0, 1) := by decide +kernel
theorem dX1_examine_141 : decode cX1_examine 141 = .ok (.getfield 12, 3) := by decide +kernel
theorem dX1_examine_144 : decode cX1_examine 144 = .ok (.getfield 38, 3) := by decide +kernel
theorem dX1_examine_147 : decode cX1_examine 147 = .ok (.isub, 1) := by decide +kernel
theorem dX1_examine_148 : decode cX1_examine 148 = .ok (.iconst 1, 1) := by decide +kernel
theorem dX1_examine_149 : decode cX1_examine 149 = .ok (.iadd, 1) := by decide +kernel
theorem dX1_examine_150 : decode cX1_examine 150 = .ok (.iload 4, 2) := by decide +kernel
theorem dX1_examine_152 : decode cX1_examine 152 = .ok (.imul, 1) := by decide +kernel
theorem dX1_examine_153 : decode cX1_examine 153 = .ok (.iadd, 1) := by decide +kernel
theorem dX1_examine_154 : decode cX1_examine 154 = .ok (.putfield 114, 3) := by decide +kernel
theorem dX1_examine_157 : decode cX1_examine 157 = .ok (.iinc 3 1, 3) := by decide +kernel
theorem dX1_examine_160 : decode cX1_examine 160 = .ok (.goto (-122), 3) := by decide +kernel
theorem dX1_examine_163 : decode cX1_examine 163 = .ok (.iinc 2 1, 3) := by decide +kernel
theorem dX1_examine_166 : decode cX1_examine 166 = .ok (.goto (-141), 3) := by decide +kernel
theorem dX1_examine_169 : decode cX1_examine 169 = .ok (.aload_n 0, 1) := by decide +kernel
theorem dX1_examine_170 : decode cX1_examine 170 = .ok (.getfield 108, 3) := by decide +kernel
theorem dX1_examine_173 : decode cX1_examine 173 = .ok (.ifCond .le 13, 3) := by decide +kernel
theorem dX1_examine_176 : decode cX1_examine 176 = .ok (.aload_n 1, 1) := by decide +kernel
theorem dX1_examine_177 : decode cX1_examine 177 = .ok (.getfield 41, 3) := by decide +kernel
theorem dX1_examine_180 : decode cX1_examine 180 = .ok (.sipush 200, 3) := by decide +kernel
theorem dX1_examine_183 : decode cX1_examine 183 = .ok (.if_icmp .lt 5, 3) := by decide +kernel
theorem dX1_examine_186 : decode cX1_examine 186 = .ok (.iconst 0, 1) := by decide +kernel
theorem dX1_examine_187 : decode cX1_examine 187 = .ok (.ireturn, 1) := by decide +kernel
theorem dX1_examine_188 : decode cX1_examine 188 = .ok (.aload_n 0, 1) := by decide +kernel
theorem dX1_examine_189 : decode cX1_examine 189 = .ok (.aload_n 1, 1) := by decide +kernel
theorem dX1_examine_190 : decode cX1_examine 190 = .ok (.getfield 28, 3) := by decide +kernel
theorem dX1_examine_193 : decode cX1_examine 193 = .ok (.aload_n 0, 1) := by decide +kernel
theorem dX1_examine_194 : decode cX1_examine 194 = .ok (.aload_n 0, 1) := by decide +kernel
theorem dX1_examine_195 : decode cX1_examine 195 = .ok (.getfield 111, 3) := by decide +kernel
theorem dX1_examine_198 : decode cX1_examine 198 = .ok (.invokevirtual 127, 3) := by decide +kernel
theorem dX1_examine_201 : decode cX1_examine 201 = .ok (.iadd, 1) := by decide +kernel
theorem dX1_examine_202 : decode cX1_examine 202 = .ok (.putfield 130, 3) := by decide +kernel
theorem dX1_examine_205 : decode cX1_examine 205 = .ok (.aload_n 0, 1) := by decide +kernel
theorem dX1_examine_206 : decode cX1_examine 206 = .ok (.aload_n 1, 1) := by decide +kernel
theorem dX1_examine_207 : decode cX1_examine 207 = .ok (.getfield 35, 3) := by decide +kernel
theorem dX1_examine_210 : decode cX1_examine 210 = .ok (.aload_n 0, 1) := by decide +kernel
theorem dX1_examine_211 : decode cX1_examine 211 = .ok (.aload_n 0, 1) := by decide +kernel
theorem dX1_examine_212 : decode cX1_examine 212 = .ok (.getfield 114, 3) := by decide +kernel
theorem dX1_examine_215 : decode cX1_examine 215 = .ok (.invokevirtual 127, 3) := by decide +kernel
theorem dX1_examine_218 : decode cX1_examine 218 = .ok (.iadd, 1) := by decide +kernel
theorem dX1_examine_219 : decode cX1_examine 219 = .ok (.putfield 133, 3) := by decide +kernel
theorem dX1_examine_222 : decode cX1_examine 222 = .ok (.aload_n 0, 1) := by decide +kernel
theorem dX1_examine_223 : decode cX1_examine 223 = .ok (.getfield 130, 3) := by decide +kernel
theorem dX1_examine_226 : decode cX1_examine 226 = .ok (.invokestatic 136, 3) := by decide +kernel
theorem dX1_examine_229 : decode cX1_examine 229 = .ok (.iconst 5, 1) := by decide +kernel
theorem dX1_examine_230 : decode cX1_examine 230 = .ok (.if_icmp .gt 14, 3) := by decide +kernel
theorem dX1_examine_233 : decode cX1_examine 233 = .ok (.aload_n 0, 1) := by decide +kernel
theorem dX1_examine_234 : decode cX1_examine 234 = .ok (.getfield 133, 3) := by decide +kernel
theorem dX1_examine_237 : decode cX1_examine 237 = .ok (.invokestatic 136, 3) := by decide +kernel
theorem dX1_examine_240 : decode cX1_examine 240 = .ok (.iconst 5, 1) := by decide +kernel
theorem dX1_examine_241 : decode cX1_examine 241 = .ok (.if_icmp .le 7, 3) := by decide +kernel
theorem dX1_examine_244 : decode cX1_examine 244 = .ok (.iconst 2, 1) := by decide +kernel
theorem dX1_examine_245 : decode cX1_examine 245 = .ok (.goto 4, 3) := by decide +kernel
theorem dX1_examine_248 : decode cX1_examine 248 = .ok (.iconst 1, 1) := by decide +kernel
theorem dX1_examine_249 : decode cX1_examine 249 = .ok (.ireturn, 1) := by decide +kernel
theorem dX1_turn_0 : decode cX1_turn 0 = .ok (.iload_n 1, 1) := by decide +kernel
theorem dX1_turn_1 : decode cX1_turn 1 = .ok (.aload_n 0, 1) := by decide +kernel
theorem dX1_turn_2 : decode cX1_turn 2 = .ok (.getfield 12, 3) := by decide +kernel
theorem dX1_turn_5 : decode cX1_turn 5 = .ok (.getfield 139, 3) := by decide +kernel
theorem dX1_turn_8 : decode cX1_turn 8 = .ok (.if_icmp .le 5, 3) := by decide +kernel
theorem dX1_turn_11 : decode cX1_turn 11 = .ok (.iconst (-1), 1) := by decide +kernel
theorem dX1_turn_12 : decode cX1_turn 12 = .ok (.ireturn, 1) := by decide +kernel
theorem dX1_turn_13 : decode cX1_turn 13 = .ok (.iload_n 1, 1) := by decide +kernel
theorem dX1_turn_14 : decode cX1_turn 14 = .ok (.aload_n 0, 1) := by decide +kernel
theorem dX1_turn_15 : decode cX1_turn 15 = .ok (.getfield 12, 3) := by decide +kernel
theorem dX1_turn_18 : decode cX1_turn 18 = .ok (.getfield 139, 3) := by decide +kernel
theorem dX1_turn_21 : decode cX1_turn 21 = .ok (.ineg, 1) := by decide +kernel
theorem dX1_turn_22 : decode cX1_turn 22 = .ok (.if_icmp .ge 7, 3) := by decide +kernel
theorem dX1_turn_25 : decode cX1_turn 25 = .ok (.iconst 1, 1) := by decide +kernel
theorem dX1_turn_26 : decode cX1_turn 26 = .ok (.goto 4, 3) := by decide +kernel
theorem dX1_turn_29 : decode cX1_turn 29 = .ok (.iconst 0, 1) := by decide +kernel
theorem dX1_turn_30 : decode cX1_turn 30 = .ok (.ireturn, 1) := by decide +kernel
theorem dX1_sink_0 : decode cX1_sink 0 = .ok (.aload_n 0, 1) := by decide +kernel
theorem dX1_sink_1 : decode cX1_sink 1 = .ok (.aload_n 1, 1) := by decide +kernel
theorem dX1_sink_2 : decode cX1_sink 2 = .ok (.invokevirtual 142, 3) := by decide +kernel
theorem dX1_sink_5 : decode cX1_sink 5 = .ok (.istore_n 3, 1) := by decide +kernel
theorem dX1_sink_6 : decode cX1_sink 6 = .ok (.iload_n 3, 1) := by decide +kernel
theorem dX1_sink_7 : decode cX1_sink 7 = .ok (.ifCond .ne 5, 3) := by decide +kernel
theorem dX1_sink_10 : decode cX1_sink 10 = .ok (.iconst 0, 1) := by decide +kernel
theorem dX1_sink_11 : decode cX1_sink 11 = .ok (.ireturn, 1) := by decide +kernel
theorem dX1_sink_12 : decode cX1_sink 12 = .ok (.iconst 0, 1) := by decide +kernel
theorem dX1_sink_13 : decode cX1_sink 13 = .ok (.istore 4, 2) := by decide +kernel
theorem dX1_sink_15 : decode cX1_sink 15 = .ok (.iload_n 3, 1) := by decide +kernel
theorem dX1_sink_16 : decode cX1_sink 16 = .ok (.iconst 1, 1) := by decide +kernel
theorem dX1_sink_17 : decode cX1_sink 17 = .ok (.if_icmp .ne 47, 3) := by decide +kernel
theorem dX1_sink_20 : decode cX1_sink 20 = .ok (.iload 4, 2) := by decide +kernel
theorem dX1_sink_22 : decode cX1_sink 22 = .ok (.iload_n 2, 1) := by decide +kernel
theorem dX1_sink_23 : decode cX1_sink 23 = .ok (.if_icmp .ge 41, 3) := by decide +kernel
theorem dX1_sink_26 : decode cX1_sink 26 = .ok (.aload_n 1, 1) := by decide +kernel
theorem dX1_sink_27 : decode cX1_sink 27 = .ok (.aload_n 0, 1) := by decide +kernel
theorem dX1_sink_28 : decode cX1_sink 28 = .ok (.getfield 130, 3) := by decide +kernel
theorem dX1_sink_31 : decode cX1_sink 31 = .ok (.putfield 28, 3) := by decide +kernel
theorem dX1_sink_34 : decode cX1_sink 34 = .ok (.aload_n 1, 1) := by decide +kernel
theorem dX1_sink_35 : decode cX1_sink 35 = .ok (.aload_n 0, 1) := by decide +kernel
theorem dX1_sink_36 : decode cX1_sink 36 = .ok (.getfield 133, 3) := by decide +kernel
theorem dX1_sink_39 : decode cX1_sink 39 = .ok (.putfield 35, 3) := by decide +kernel
theorem dX1_sink_42 : decode cX1_sink 42 = .ok (.aload_n 1, 1) := by decide +kernel
theorem dX1_sink_43 : decode cX1_sink 43 = .ok (.dup, 1) := by decide +kernel
theorem dX1_sink_44 : decode cX1_sink 44 = .ok (.getfield 41, 3) := by decide +kernel
theorem dX1_sink_47 : decode cX1_sink 47 = .ok (.iconst 1, 1) := by decide +kernel
theorem dX1_sink_48 : decode cX1_sink 48 = .ok (.iadd, 1) := by decide +kernel
theorem dX1_sink_49 : decode cX1_sink 49 = .ok (.putfield 41, 3) := by decide +kernel
theorem dX1_sink_52 : decode cX1_sink 52 = .ok (.iinc 4 1, 3) := by decide +kernel
theorem dX1_sink_55 : decode cX1_sink 55 = .ok (.aload_n 0, 1) := by decide +kernel
theorem dX1_sink_56 : decode cX1_sink 56 = .ok (.aload_n 1, 1) := by decide +kernel
theorem dX1_sink_57 : decode cX1_sink 57 = .ok (.invokevirtual 142, 3) := by decide +kernel
theorem dX1_sink_60 : decode cX1_sink 60 = .ok (.istore_n 3, 1) := by decide +kernel
theorem dX1_sink_61 : decode cX1_sink 61 = .ok (.goto (-46), 3) := by decide +kernel
theorem dX1_sink_64 : decode cX1_sink 64 = .ok (.aload_n 0, 1) := by decide +kernel
theorem dX1_sink_65 : decode cX1_sink 65 = .ok (.aload_n 1, 1) := by decide +kernel
theorem dX1_sink_66 : decode cX1_sink 66 = .ok (.invokevirtual 146, 3) := by decide +kernel
theorem dX1_sink_69 : decode cX1_sink 69 = .ok (.iload 4, 2) := by decide +kernel
theorem dX1_sink_71 : decode cX1_sink 71 = .ok (.ireturn, 1) := by decide +kernel
theorem dX1_heave_0 : decode cX1_heave 0 = .ok (.iconst 1, 1) := by decide +kernel
theorem dX1_heave_1 : decode cX1_heave 1 = .ok (.istore_n 2, 1) := by decide +kernel
theorem dX1_heave_2 : decode cX1_heave 2 = .ok (.iload_n 2, 1) := by decide +kernel
theorem dX1_heave_3 : decode cX1_heave 3 = .ok (.aload_n 0, 1) := by decide +kernel
theorem dX1_heave_4 : decode cX1_heave 4 = .ok (.getfield 12, 3) := by decide +kernel
theorem dX1_heave_7 : decode cX1_heave 7 = .ok (.getfield 38, 3) := by decide +kernel
theorem dX1_heave_10 : decode cX1_heave 10 = .ok (.iconst 1, 1) := by decide +kernel
theorem dX1_heave_11 : decode cX1_heave 11 = .ok (.isub, 1) := by decide +kernel
theorem dX1_heave_12 : decode cX1_heave 12 = .ok (.if_icmp .ge 91, 3) := by decide +kernel
theorem dX1_heave_15 : decode cX1_heave 15 = .ok (.iconst 1, 1) := by decide +kernel
theorem dX1_heave_16 : decode cX1_heave 16 = .ok (.istore_n 3, 1) := by decide +kernel
theorem dX1_heave_17 : decode cX1_heave 17 = .ok (.iload_n 3, 1) := by decide +kernel
theorem dX1_heave_18 : decode cX1_heave 18 = .ok (.aload_n 0, 1) := by decide +kernel
theorem dX1_heave_19 : decode cX1_heave 19 = .ok (.getfield 12, 3) := by decide +kernel
theorem dX1_heave_22 : decode cX1_heave 22 = .ok (.getfield 32, 3) := by decide +kernel
theorem dX1_heave_25 : decode cX1_heave 25 = .ok (.iconst 1, 1) := by decide +kernel
theorem dX1_heave_26 : decode cX1_heave 26 = .ok (.isub, 1) := by decide +kernel
theorem dX1_heave_27 : decode cX1_heave 27 = .ok (.if_icmp .ge 70, 3) := by decide +kernel
theorem dX1_heave_30 : decode cX1_heave 30 = .ok (.iload_n 2, 1) := by decide +kernel
theorem dX1_heave_31 : decode cX1_heave 31 = .ok (.aload_n 0, 1) := by decide +kernel
theorem dX1_heave_32 : decode cX1_heave 32 = .ok (.getfield 12, 3) := by decide +kernel
theorem dX1_heave_35 : decode cX1_heave 35 = .ok (.getfield 32, 3) := by decide +kernel
theorem dX1_heave_38 : decode cX1_heave 38 = .ok (.imul, 1) := by decide +kernel
theorem dX1_heave_39 : decode cX1_heave 39 = .ok (.iload_n 3, 1) := by decide +kernel
theorem dX1_heave_40 : decode cX1_heave 40 = .ok (.iadd, 1) := by decide +kernel
theorem dX1_heave_41 : decode cX1_heave 41 = .ok (.istore 4, 2) := by decide +kernel
theorem dX1_heave_43 : decode cX1_heave 43 = .ok (.aload_n 1, 1) := by decide +kernel
theorem dX1_heave_44 : decode cX1_heave 44 = .ok (.iload 4, 2) := by decide +kernel
theorem dX1_heave_46 : decode cX1_heave 46 = .ok (.invokevirtual 56, 3) := by decide +kernel
theorem dX1_heave_49 : decode cX1_heave 49 = .ok (.istore 5, 2) := by decide +kernel
theorem dX1_heave_51 : decode cX1_heave 51 = .ok (.iconst 4, 1) := by decide +kernel
theorem dX1_heave_52 : decode cX1_heave 52 = .ok (.aload_n 0, 1) := by decide +kernel
theorem dX1_heave_53 : decode cX1_heave 53 = .ok (.getfield 12, 3) := by decide +kernel
theorem dX1_heave_56 : decode cX1_heave 56 = .ok (.getfield 63, 3) := by decide +kernel
theorem dX1_heave_59 : decode cX1_heave 59 = .ok (.iload 5, 2) := by decide +kernel
theorem dX1_heave_61 : decode cX1_heave 61 = .ok (.invokevirtual 67, 3) := by decide +kernel
theorem dX1_heave_64 : decode cX1_heave 64 = .ok (.iconst 5, 1) := by decide +kernel
theorem dX1_heave_65 : decode cX1_heave 65 = .ok (.idiv, 1) := by decide +kernel
theorem dX1_heave_66 : decode cX1_heave 66 = .ok (.iadd, 1) := by decide +kernel
theorem dX1_heave_67 : decode cX1_heave 67 = .ok (.istore 6, 2) := by decide +kernel
theorem dX1_heave_69 : decode cX1_heave 69 = .ok (.iload 5, 2) := by decide +kernel
theorem dX1_heave_71 : decode cX1_heave 71 = .ok (.aload_n 1, 1) := by decide +kernel
theorem dX1_heave_72 : decode cX1_heave 72 = .ok (.getfield 41, 3) := by decide +kernel
theorem dX1_heave_75 : decode cX1_heave 75 = .ok (.isub, 1) := by decide +kernel
theorem dX1_heave_76 : decode cX1_heave 76 = .ok (.iload 6, 2) := by decide +kernel
theorem dX1_heave_78 : decode cX1_heave 78 = .ok (.if_icmp .le 13, 3) := by decide +kernel
theorem dX1_heave_81 : decode cX1_heave 81 = .ok (.aload_n 1, 1) := by decide +kernel
theorem dX1_heave_82 : decode cX1_heave 82 = .ok (.iload 4, 2) := by decide +kernel
theorem dX1_heave_84 : decode cX1_heave 84 = .ok (.aload_n 1, 1) := by decide +kernel
theorem dX1_heave_85 : decode cX1_heave 85 = .ok (.getfield 41, 3) := by decide +kernel
theorem dX1_heave_88 : decode cX1_heave 88 = .ok (.invokevirtual 150, 3) := by decide +kernel
theorem dX1_heave_91 : decode cX1_heave 91 = .ok (.iinc 3 1, 3) := by decide +kernel
theorem dX1_heave_94 : decode cX1_heave 94 = .ok (.goto (-77), 3) := by decide +kernel
theorem dX1_heave_97 : decode cX1_heave 97 = .ok (.iinc 2 1, 3) := by decide +kernel
theorem dX1_heave_100 : decode cX1_heave 100 = .ok (.goto (-98), 3) := by decide +kernel
theorem dX1_heave_103 : decode cX1_heave 103 = .ok (.return_, 1) := by decide +kernel
theorem dX1_chooseWell_0 : decode cX1_chooseWell 0 = .ok (.ldc 154, 2) := by decide +kernel
theorem dX1_chooseWell_2 : decode cX1_chooseWell 2 = .ok (.istore_n 3, 1) := by decide +kernel
theorem dX1_chooseWell_3 : decode cX1_chooseWell 3 = .ok (.aload_n 0, 1) := by decide +kernel
theorem dX1_chooseWell_4 : decode cX1_chooseWell 4 = .ok (.getfield 12, 3) := by decide +kernel
theorem dX1_chooseWell_7 : decode cX1_chooseWell 7 = .ok (.getfield 32, 3) := by decide +kernel
theorem dX1_chooseWell_10 : decode cX1_chooseWell 10 = .ok (.aload_n 0, 1) := by decide +kernel
theorem dX1_chooseWell_11 : decode cX1_chooseWell 11 = .ok (.getfield 12, 3) := by decide +kernel
theorem dX1_chooseWell_14 : decode cX1_chooseWell 14 = .ok (.getfield 38, 3) := by decide +kernel
theorem dX1_chooseWell_17 : decode cX1_chooseWell 17 = .ok (.imul, 1) := by decide +kernel
theorem dX1_chooseWell_18 : decode cX1_chooseWell 18 = .ok (.istore 4, 2) := by decide +kernel
theorem dX1_chooseWell_20 : decode cX1_chooseWell 20 = .ok (.iconst 0, 1) := by decide +kernel
theorem dX1_chooseWell_21 : decode cX1_chooseWell 21 = .ok (.istore 5, 2) := by decide +kernel
theorem dX1_chooseWell_23 : decode cX1_chooseWell 23 = .ok (.iload 5, 2) := by decide +kernel
theorem dX1_chooseWell_25 : decode cX1_chooseWell 25 = .ok (.iload 4, 2) := by decide +kernel
theorem dX1_chooseWell_27 : decode cX1_chooseWell 27 = .ok (.if_icmp .ge 112, 3) := by decide +kernel
theorem dX1_chooseWell_30 : decode cX1_chooseWell 30 = .ok (.aload_n 0, 1) := by decide +kernel
theorem dX1_chooseWell_31 : decode cX1_chooseWell 31 = .ok (.getfield 12, 3) := by decide +kernel
theorem dX1_chooseWell_34 : decode cX1_chooseWell 34 = .ok (.iload 5, 2) := by decide +kernel
theorem dX1_chooseWell_36 : decode cX1_chooseWell 36 = .ok (.invokevirtual 155, 3) := by decide +kernel
theorem dX1_chooseWell_39 : decode cX1_chooseWell 39 = .ok (.ifCond .ne 6, 3) := by decide +kernel
theorem dX1_chooseWell_42 : decode cX1_chooseWell 42 = .ok (.goto 91, 3) := by decide +kernel
theorem dX1_chooseWell_45 : decode cX1_chooseWell 45 = .ok (.aload_n 0, 1) := by decide +kernel
theorem dX1_chooseWell_46 : decode cX1_chooseWell 46 = .ok (.getfield 12, 3) := by decide +kernel
theorem dX1_chooseWell_49 : decode cX1_chooseWell 49 = .ok (.aload_n 1, 1) := by decide +kernel
theorem dX1_chooseWell_50 : decode cX1_chooseWell 50 = .ok (.iload 5, 2) := by decide +kernel
theorem dX1_chooseWell_52 : decode cX1_chooseWell 52 = .ok (.iload_n 2, 1) := by decide +kernel
theorem dX1_chooseWell_53 : decode cX1_chooseWell 53 = .ok (.invokevirtual 159, 3) := by decide +kernel
theorem dX1_chooseWell_56 : decode cX1_chooseWell 56 = .ok (.istore 6, 2) := by decide +kernel
theorem dX1_chooseWell_58 : decode cX1_chooseWell 58 = .ok (.iload 6, 2) := by decide +kernel
theorem dX1_chooseWell_60 : decode cX1_chooseWell 60 = .ok (.aload_n 1, 1) := by decide +kernel
theorem dX1_chooseWell_61 : decode cX1_chooseWell 61 = .ok (.iload 5, 2) := by decide +kernel
theorem dX1_chooseWell_63 : decode cX1_chooseWell 63 = .ok (.invokevirtual 56, 3) := by decide +kernel
theorem dX1_chooseWell_66 : decode cX1_chooseWell 66 = .ok (.if_icmp .gt 6, 3) := by decide +kernel
theorem dX1_chooseWell_69 : decode cX1_chooseWell 69 = .ok (.goto 64, 3) := by decide +kernel
theorem dX1_chooseWell_72 : decode cX1_chooseWell 72 = .ok (.aload_n 0, 1) := by decide +kernel
theorem dX1_chooseWell_73 : decode cX1_chooseWell 73 = .ok (.getfield 21, 3) := by decide +kernel
theorem dX1_chooseWell_76 : decode cX1_chooseWell 76 = .ok (.aload_n 1, 1) := by decide +kernel
theorem dX1_chooseWell_77 : decode cX1_chooseWell 77 = .ok (.invokevirtual 162, 3) := by decide +kernel
theorem dX1_chooseWell_80 : decode cX1_chooseWell 80 = .ok (.aload_n 0, 1) := by decide +kernel
theorem dX1_chooseWell_81 : decode cX1_chooseWell 81 = .ok (.getfield 21, 3) := by decide +kernel
theorem dX1_chooseWell_84 : decode cX1_chooseWell 84 = .ok (.iload 5, 2) := by decide +kernel
theorem dX1_chooseWell_86 : decode cX1_chooseWell 86 = .ok (.iload 6, 2) := by decide +kernel
theorem dX1_chooseWell_88 : decode cX1_chooseWell 88 = .ok (.invokevirtual 150, 3) := by decide +kernel
theorem dX1_chooseWell_91 : decode cX1_chooseWell 91 = .ok (.aload_n 0, 1) := by decide +kernel
theorem dX1_chooseWell_92 : decode cX1_chooseWell 92 = .ok (.aload_n 0, 1) := by decide +kernel
theorem dX1_chooseWell_93 : decode cX1_chooseWell 93 = .ok (.getfield 21, 3) := by decide +kernel
theorem dX1_chooseWell_96 : decode cX1_chooseWell 96 = .ok (.bipush 20, 2) := by decide +kernel
theorem dX1_chooseWell_98 : decode cX1_chooseWell 98 = .ok (.invokevirtual 165, 3) := by decide +kernel
theorem dX1_chooseWell_101 : decode cX1_chooseWell 101 = .ok (.pop, 1) := by decide +kernel
theorem dX1_chooseWell_102 : decode cX1_chooseWell 102 = .ok (.iload_n 3, 1) := by decide +kernel
theorem dX1_chooseWell_103 : decode cX1_chooseWell 103 = .ok (.ldc 154, 2) := by decide +kernel
theorem dX1_chooseWell_105 : decode cX1_chooseWell 105 = .ok (.if_icmp .eq 14, 3) := by decide +kernel
theorem dX1_chooseWell_108 : decode cX1_chooseWell 108 = .ok (.aload_n 0, 1) := by decide +kernel
theorem dX1_chooseWell_109 : decode cX1_chooseWell 109 = .ok (.aload_n 0, 1) := by decide +kernel
theorem dX1_chooseWell_110 : decode cX1_chooseWell 110 = .ok (.getfield 21, 3) := by decide +kernel
theorem dX1_chooseWell_113 : decode cX1_chooseWell 113 = .ok (.invokevirtual 169, 3) := by decide +kernel
theorem dX1_chooseWell_116 : decode cX1_chooseWell 116 = .ok (.ifCond .eq 17, 3) := by decide +kernel
theorem dX1_chooseWell_119 : decode cX1_chooseWell 119 = .ok (.iload 5, 2) := by decide +kernel
theorem dX1_chooseWell_121 : decode cX1_chooseWell 121 = .ok (.istore_n 3, 1) := by decide +kernel
theorem dX1_chooseWell_122 : decode cX1_chooseWell 122 = .ok (.aload_n 0, 1) := by decide +kernel
theorem dX1_chooseWell_123 : decode cX1_chooseWell 123 = .ok (.getfield 25, 3) := by decide +kernel
theorem dX1_chooseWell_126 : decode cX1_chooseWell 126 = .ok (.aload_n 0, 1) := by decide +kernel
theorem dX1_chooseWell_127 : decode cX1_chooseWell 127 = .ok (.getfield 21, 3) := by decide +kernel
theorem dX1_chooseWell_130 : decode cX1_chooseWell 130 = .ok (.invokevirtual 162, 3) := by decide +kernel
theorem dX1_chooseWell_133 : decode cX1_chooseWell 133 = .ok (.iinc 5 1, 3) := by decide +kernel
theorem dX1_chooseWell_136 : decode cX1_chooseWell 136 = .ok (.goto (-113), 3) := by decide +kernel
theorem dX1_chooseWell_139 : decode cX1_chooseWell 139 = .ok (.iload_n 3, 1) := by decide +kernel
theorem dX1_chooseWell_140 : decode cX1_chooseWell 140 = .ok (.ireturn, 1) := by decide +kernel
theorem dX1_isBetterThanChosen_0 : decode cX1_isBetterThanChosen 0 = .ok (.aload_n 1, 1) := by decide +kernel
theorem dX1_isBetterThanChosen_1 : decode cX1_isBetterThanChosen 1 = .ok (.invokevirtual 173, 3) := by decide +kernel
theorem dX1_isBetterThanChosen_4 : decode cX1_isBetterThanChosen 4 = .ok (.aload_n 0, 1) := by decide +kernel
theorem dX1_isBetterThanChosen_5 : decode cX1_isBetterThanChosen 5 = .ok (.getfield 25, 3) := by decide +kernel
theorem dX1_isBetterThanChosen_8 : decode cX1_isBetterThanChosen 8 = .ok (.invokevirtual 173, 3) := by decide +kernel
theorem dX1_isBetterThanChosen_11 : decode cX1_isBetterThanChosen 11 = .ok (.isub, 1) := by decide +kernel
theorem dX1_isBetterThanChosen_12 : decode cX1_isBetterThanChosen 12 = .ok (.istore_n 2, 1) := by decide +kernel
theorem dX1_isBetterThanChosen_13 : decode cX1_isBetterThanChosen 13 = .ok (.iload_n 2, 1) := by decide +kernel
theorem dX1_isBetterThanChosen_14 : decode cX1_isBetterThanChosen 14 = .ok (.ifCond .lt 21, 3) := by decide +kernel
theorem dX1_isBetterThanChosen_17 : decode cX1_isBetterThanChosen 17 = .ok (.iload_n 2, 1) := by decide +kernel
theorem dX1_isBetterThanChosen_18 : decode cX1_isBetterThanChosen 18 = .ok (.ifCond .ne 21, 3) := by decide +kernel
theorem dX1_isBetterThanChosen_21 : decode cX1_isBetterThanChosen 21 = .ok (.aload_n 1, 1) := by decide +kernel
theorem dX1_isBetterThanChosen_22 : decode cX1_isBetterThanChosen 22 = .ok (.getfield 41, 3) := by decide +kernel
theorem dX1_isBetterThanChosen_25 : decode cX1_isBetterThanChosen 25 = .ok (.aload_n 0, 1) := by decide +kernel
theorem dX1_isBetterThanChosen_26 : decode cX1_isBetterThanChosen 26 = .ok (.getfield 25, 3) := by decide +kernel
theorem dX1_isBetterThanChosen_29 : decode cX1_isBetterThanChosen 29 = .ok (.getfield 41, 3) := by decide +kernel
theorem dX1_isBetterThanChosen_32 : decode cX1_isBetterThanChosen 32 = .ok (.if_icmp .le 7, 3) := by decide +kernel
theorem dX1_isBetterThanChosen_35 : decode cX1_isBetterThanChosen 35 = .ok (.iconst 1, 1) := by decide +kernel
theorem dX1_isBetterThanChosen_36 : decode cX1_isBetterThanChosen 36 = .ok (.goto 4, 3) := by decide +kernel
theorem dX1_isBetterThanChosen_39 : decode cX1_isBetterThanChosen 39 = .ok (.iconst 0, 1) := by decide +kernel
theorem dX1_isBetterThanChosen_40 : decode cX1_isBetterThanChosen 40 = .ok (.ireturn, 1) := by decide +kernel
theorem dX1_resistanceOfSide_0 : decode cX1_resistanceOfSide 0 = .ok (.iconst 0, 1) := by decide +kernel
theorem dX1_resistanceOfSide_1 : decode cX1_resistanceOfSide 1 = .ok (.istore_n 2, 1) := by decide +kernel
theorem dX1_resistanceOfSide_2 : decode cX1_resistanceOfSide 2 = .ok (.iconst 0, 1) := by decide +kernel
theorem dX1_resistanceOfSide_3 : decode cX1_resistanceOfSide 3 = .ok (.istore_n 3, 1) := by decide +kernel
theorem dX1_resistanceOfSide_4 : decode cX1_resistanceOfSide 4 = .ok (.iload_n 3, 1) := by decide +kernel
theorem dX1_resistanceOfSide_5 : decode cX1_resistanceOfSide 5 = .ok (.aload_n 0, 1) := by decide +kernel
theorem dX1_resistanceOfSide_6 : decode cX1_resistanceOfSide 6 = .ok (.getfield 12, 3) := by decide +kernel
theorem dX1_resistanceOfSide_9 : decode cX1_resistanceOfSide 9 = .ok (.getfield 38, 3) := by decide +kernel
theorem dX1_resistanceOfSide_12 : decode cX1_resistanceOfSide 12 = .ok (.if_icmp .ge 61, 3) := by decide +kernel
theorem dX1_resistanceOfSide_15 : decode cX1_resistanceOfSide 15 = .ok (.iconst 0, 1) := by decide +kernel
theorem dX1_resistanceOfSide_16 : decode cX1_resistanceOfSide 16 = .ok (.istore 4, 2) := by decide +kernel
theorem dX1_resistanceOfSide_18 : decode cX1_resistanceOfSide 18 = .ok (.iload 4, 2) := by decide +kernel
theorem dX1_resistanceOfSide_20 : decode cX1_resistanceOfSide 20 = .ok (.aload_n 0, 1) := by decide +kernel
theorem dX1_resistanceOfSide_21 : decode cX1_resistanceOfSide 21 = .ok (.getfield 12, 3) := by decide +kernel
theorem dX1_resistanceOfSide_24 : decode cX1_resistanceOfSide 24 = .ok (.getfield 32, 3) := by decide +kernel
theorem dX1_resistanceOfSide_27 : decode cX1_resistanceOfSide 27 = .ok (.if_icmp .ge 40, 3) := by decide +kernel
theorem dX1_resistanceOfSide_30 : decode cX1_resistanceOfSide 30 = .ok (.aload_n 0, 1) := by decide +kernel
theorem dX1_resistanceOfSide_31 : decode cX1_resistanceOfSide 31 = .ok (.getfield 12, 3) := by decide +kernel
theorem dX1_resistanceOfSide_34 : decode cX1_resistanceOfSide 34 = .ok (.iload_n 1, 1) := by decide +kernel
theorem dX1_resistanceOfSide_35 : decode cX1_resistanceOfSide 35 = .ok (.iload 4, 2) := by decide +kernel
theorem dX1_resistanceOfSide_37 : decode cX1_resistanceOfSide 37 = .ok (.iload_n 3, 1) := by decide +kernel
theorem dX1_resistanceOfSide_38 : decode cX1_resistanceOfSide 38 = .ok (.invokevirtual 177, 3) := by decide +kernel
theorem dX1_resistanceOfSide_41 : decode cX1_resistanceOfSide 41 = .ok (.ifCond .eq 20, 3) := by decide +kernel
theorem dX1_resistanceOfSide_44 : decode cX1_resistanceOfSide 44 = .ok (.iload_n 2, 1) := by decide +kernel
theorem dX1_resistanceOfSide_45 : decode cX1_resistanceOfSide 45 = .ok (.aload_n 0, 1) := by decide +kernel
theorem dX1_resistanceOfSide_46 : decode cX1_resistanceOfSide 46 = .ok (.aload_n 0, 1) := by decide +kernel
theorem dX1_resistanceOfSide_47 : decode cX1_resistanceOfSide 47 = .ok (.getfield 12, 3) := by decide +kernel
theorem dX1_resistanceOfSide_50 : decode cX1_resistanceOfSide 50 = .ok (.getfield 181, 3) := by decide +kernel
theorem dX1_resistanceOfSide_53 : decode cX1_resistanceOfSide 53 = .ok (.iload 4, 2) := by decide +kernel
theorem dX1_resistanceOfSide_55 : decode cX1_resistanceOfSide 55 = .ok (.iload_n 3, 1) := by decide +kernel
theorem dX1_resistanceOfSide_56 : decode cX1_resistanceOfSide 56 = .ok (.invokevirtual 124, 3) := by decide +kernel
theorem dX1_resistanceOfSide_59 : decode cX1_resistanceOfSide 59 = .ok (.iadd, 1) := by decide +kernel
theorem dX1_resistanceOfSide_60 : decode cX1_resistanceOfSide 60 = .ok (.istore_n 2, 1) := by decide +kernel
theorem dX1_resistanceOfSide_61 : decode cX1_resistanceOfSide 61 = .ok (.iinc 4 1, 3) := by decide +kernel
theorem dX1_resistanceOfSide_64 : decode cX1_resistanceOfSide 64 = .ok (.goto (-46), 3) := by decide +kernel
theorem dX1_resistanceOfSide_67 : decode cX1_resistanceOfSide 67 = .ok (.iinc 3 1, 3) := by decide +kernel
theorem dX1_resistanceOfSide_70 : decode cX1_resistanceOfSide 70 = .ok (.goto (-66), 3) := by decide +kernel
theorem dX1_resistanceOfSide_73 : decode cX1_resistanceOfSide 73 = .ok (.iload_n 2, 1) := by decide +kernel
theorem dX1_resistanceOfSide_74 : decode cX1_resistanceOfSide 74 = .ok (.ireturn, 1) := by decide +kernel
theorem dX1_depthsOfSide_0 : decode cX1_depthsOfSide 0 = .ok (.iconst 0, 1) := by decide +kernel
theorem dX1_depthsOfSide_1 : decode cX1_depthsOfSide 1 = .ok (.istore_n 2, 1) := by decide +kernel
theorem dX1_depthsOfSide_2 : decode cX1_depthsOfSide 2 = .ok (.iconst 0, 1) := by decide +kernel
theorem dX1_depthsOfSide_3 : decode cX1_depthsOfSide 3 = .ok (.istore_n 3, 1) := by decide +kernel
theorem dX1_depthsOfSide_4 : decode cX1_depthsOfSide 4 = .ok (.iload_n 3, 1) := by decide +kernel
theorem dX1_depthsOfSide_5 : decode cX1_depthsOfSide 5 = .ok (.aload_n 0, 1) := by decide +kernel
theorem dX1_depthsOfSide_6 : decode cX1_depthsOfSide 6 = .ok (.getfield 12, 3) := by decide +kernel
theorem dX1_depthsOfSide_9 : decode cX1_depthsOfSide 9 = .ok (.getfield 38, 3) := by decide +kernel
theorem dX1_depthsOfSide_12 : decode cX1_depthsOfSide 12 = .ok (.if_icmp .ge 61, 3) := by decide +kernel
theorem dX1_depthsOfSide_15 : decode cX1_depthsOfSide 15 = .ok (.iconst 0, 1) := by decide +kernel
theorem dX1_depthsOfSide_16 : decode cX1_depthsOfSide 16 = .ok (.istore 4, 2) := by decide +kernel
theorem dX1_depthsOfSide_18 : decode cX1_depthsOfSide 18 = .ok (.iload 4, 2) := by decide +kernel
theorem dX1_depthsOfSide_20 : decode cX1_depthsOfSide 20 = .ok (.aload_n 0, 1) := by decide +kernel
theorem dX1_depthsOfSide_21 : decode cX1_depthsOfSide 21 = .ok (.getfield 12, 3) := by decide +kernel
theorem dX1_depthsOfSide_24 : decode cX1_depthsOfSide 24 = .ok (.getfield 32, 3) := by decide +kernel
theorem dX1_depthsOfSide_27 : decode cX1_depthsOfSide 27 = .ok (.if_icmp .ge 40, 3) := by decide +kernel
theorem dX1_depthsOfSide_30 : decode cX1_depthsOfSide 30 = .ok (.aload_n 0, 1) := by decide +kernel
theorem dX1_depthsOfSide_31 : decode cX1_depthsOfSide 31 = .ok (.getfield 12, 3) := by decide +kernel
theorem dX1_depthsOfSide_34 : decode cX1_depthsOfSide 34 = .ok (.iload_n 1, 1) := by decide +kernel
theorem dX1_depthsOfSide_35 : decode cX1_depthsOfSide 35 = .ok (.iload 4, 2) := by decide +kernel
theorem dX1_depthsOfSide_37 : decode cX1_depthsOfSide 37 = .ok (.iload_n 3, 1) := by decide +kernel
theorem dX1_depthsOfSide_38 : decode cX1_depthsOfSide 38 = .ok (.invokevirtual 177, 3) := by decide +kernel
theorem dX1_depthsOfSide_41 : decode cX1_depthsOfSide 41 = .ok (.ifCond .eq 20, 3) := by decide +kernel
theorem dX1_depthsOfSide_44 : decode cX1_depthsOfSide 44 = .ok (.iload_n 2, 1) := by decide +kernel
theorem dX1_depthsOfSide_45 : decode cX1_depthsOfSide 45 = .ok (.aload_n 0, 1) := by decide +kernel
theorem dX1_depthsOfSide_46 : decode cX1_depthsOfSide 46 = .ok (.aload_n 0, 1) := by decide +kernel
theorem dX1_depthsOfSide_47 : decode cX1_depthsOfSide 47 = .ok (.getfield 12, 3) := by decide +kernel
theorem dX1_depthsOfSide_50 : decode cX1_depthsOfSide 50 = .ok (.getfield 181, 3) := by decide +kernel
theorem dX1_depthsOfSide_53 : decode cX1_depthsOfSide 53 = .ok (.iload 4, 2) := by decide +kernel
theorem dX1_depthsOfSide_55 : decode cX1_depthsOfSide 55 = .ok (.iload_n 3, 1) := by decide +kernel
theorem dX1_depthsOfSide_56 : decode cX1_depthsOfSide 56 = .ok (.invokevirtual 90, 3) := by decide +kernel
theorem dX1_depthsOfSide_59 : decode cX1_depthsOfSide 59 = .ok (.iadd, 1) := by decide +kernel
theorem dX1_depthsOfSide_60 : decode cX1_depthsOfSide 60 = .ok (.istore_n 2, 1) := by decide +kernel
theorem dX1_depthsOfSide_61 : decode cX1_depthsOfSide 61 = .ok (.iinc 4 1, 3) := by decide +kernel
theorem dX1_depthsOfSide_64 : decode cX1_depthsOfSide 64 = .ok (.goto (-46), 3) := by decide +kernel
theorem dX1_depthsOfSide_67 : decode cX1_depthsOfSide 67 = .ok (.iinc 3 1, 3) := by decide +kernel
theorem dX1_depthsOfSide_70 : decode cX1_depthsOfSide 70 = .ok (.goto (-66), 3) := by decide +kernel
theorem dX1_depthsOfSide_73 : decode cX1_depthsOfSide 73 = .ok (.iload_n 2, 1) := by decide +kernel
theorem dX1_depthsOfSide_74 : decode cX1_depthsOfSide 74 = .ok (.ireturn, 1) := by decide +kernel
theorem dX1_sumOfSkinFactors_0 : decode cX1_sumOfSkinFactors 0 = .ok (.iconst 0, 1) := by decide +kernel
theorem dX1_sumOfSkinFactors_1 : decode cX1_sumOfSkinFactors 1 = .ok (.istore_n 1, 1) := by decide +kernel
theorem dX1_sumOfSkinFactors_2 : decode cX1_sumOfSkinFactors 2 = .ok (.iconst 0, 1) := by decide +kernel
theorem dX1_sumOfSkinFactors_3 : decode cX1_sumOfSkinFactors 3 = .ok (.istore_n 2, 1) := by decide +kernel
theorem dX1_sumOfSkinFactors_4 : decode cX1_sumOfSkinFactors 4 = .ok (.iload_n 2, 1) := by decide +kernel
theorem dX1_sumOfSkinFactors_5 : decode cX1_sumOfSkinFactors 5 = .ok (.aload_n 0, 1) := by decide +kernel
theorem dX1_sumOfSkinFactors_6 : decode cX1_sumOfSkinFactors 6 = .ok (.getfield 12, 3) := by decide +kernel
theorem dX1_sumOfSkinFactors_9 : decode cX1_sumOfSkinFactors 9 = .ok (.getfield 38, 3) := by decide +kernel
theorem dX1_sumOfSkinFactors_12 : decode cX1_sumOfSkinFactors 12 = .ok (.if_icmp .ge 52, 3) := by decide +kernel
theorem dX1_sumOfSkinFactors_15 : decode cX1_sumOfSkinFactors 15 = .ok (.iconst 0, 1) := by decide +kernel
theorem dX1_sumOfSkinFactors_16 : decode cX1_sumOfSkinFactors 16 = .ok (.istore_n 3, 1) := by decide +kernel
theorem dX1_sumOfSkinFactors_17 : decode cX1_sumOfSkinFactors 17 = .ok (.iload_n 3, 1) := by decide +kernel
theorem dX1_sumOfSkinFactors_18 : decode cX1_sumOfSkinFactors 18 = .ok (.aload_n 0, 1) := by decide +kernel
theorem dX1_sumOfSkinFactors_19 : decode cX1_sumOfSkinFactors 19 = .ok (.getfield 12, 3) := by decide +kernel
theorem dX1_sumOfSkinFactors_22 : decode cX1_sumOfSkinFactors 22 = .ok (.getfield 32, 3) := by decide +kernel
theorem dX1_sumOfSkinFactors_25 : decode cX1_sumOfSkinFactors 25 = .ok (.if_icmp .ge 33, 3) := by decide +kernel
theorem dX1_sumOfSkinFactors_28 : decode cX1_sumOfSkinFactors 28 = .ok (.aload_n 0, 1) := by decide +kernel
theorem dX1_sumOfSkinFactors_29 : decode cX1_sumOfSkinFactors 29 = .ok (.getfield 12, 3) := by decide +kernel
theorem dX1_sumOfSkinFactors_32 : decode cX1_sumOfSkinFactors 32 = .ok (.iload_n 3, 1) := by decide +kernel
theorem dX1_sumOfSkinFactors_33 : decode cX1_sumOfSkinFactors 33 = .ok (.iload_n 2, 1) := by decide +kernel
theorem dX1_sumOfSkinFactors_34 : decode cX1_sumOfSkinFactors 34 = .ok (.invokevirtual 120, 3) := by decide +kernel
theorem dX1_sumOfSkinFactors_37 : decode cX1_sumOfSkinFactors 37 = .ok (.ifCond .eq 15, 3) := by decide +kernel
theorem dX1_sumOfSkinFactors_40 : decode cX1_sumOfSkinFactors 40 = .ok (.iload_n 1, 1) := by decide +kernel
theorem dX1_sumOfSkinFactors_41 : decode cX1_sumOfSkinFactors 41 = .ok (.aload_n 0, 1) := by decide +kernel
theorem dX1_sumOfSkinFactors_42 : decode cX1_sumOfSkinFactors 42 = .ok (.getfield 12, 3) := by decide +kernel
theorem dX1_sumOfSkinFactors_45 : decode cX1_sumOfSkinFactors 45 = .ok (.iload_n 3, 1) := by decide +kernel
theorem dX1_sumOfSkinFactors_46 : decode cX1_sumOfSkinFactors 46 = .ok (.iload_n 2, 1) := by decide +kernel
theorem dX1_sumOfSkinFactors_47 : decode cX1_sumOfSkinFactors 47 = .ok (.invokevirtual 81, 3) := by decide +kernel
theorem dX1_sumOfSkinFactors_50 : decode cX1_sumOfSkinFactors 50 = .ok (.iadd, 1) := by decide +kernel
theorem dX1_sumOfSkinFactors_51 : decode cX1_sumOfSkinFactors 51 = .ok (.istore_n 1, 1) := by decide +kernel
theorem dX1_sumOfSkinFactors_52 : decode cX1_sumOfSkinFactors 52 = .ok (.iinc 3 1, 3) := by decide +kernel
theorem dX1_sumOfSkinFactors_55 : decode cX1_sumOfSkinFactors 55 = .ok (.goto (-38), 3) := by decide +kernel
theorem dX1_sumOfSkinFactors_58 : decode cX1_sumOfSkinFactors 58 = .ok (.iinc 2 1, 3) := by decide +kernel
theorem dX1_sumOfSkinFactors_61 : decode cX1_sumOfSkinFactors 61 = .ok (.goto (-57), 3) := by decide +kernel
theorem dX1_sumOfSkinFactors_64 : decode cX1_sumOfSkinFactors 64 = .ok (.iload_n 1, 1) := by decide +kernel
theorem dX1_sumOfSkinFactors_65 : decode cX1_sumOfSkinFactors 65 = .ok (.ireturn, 1) := by decide +kernel
theorem dX2_init_0 : decode cX2_init 0 = .ok (.aload_n 0, 1) := by decide +kernel
theorem dX2_init_1 : decode cX2_init 1 = .ok (.invokespecial 3, 3) := by decide +kernel
theorem dX2_init_4 : decode cX2_init 4 = .ok (.aload_n 0, 1) := by decide +kernel
theorem dX2_init_5 : decode cX2_init 5 = .ok (.new 9, 3) := by decide +kernel
theorem dX2_init_8 : decode cX2_init 8 = .ok (.dup, 1) := by decide +kernel
theorem dX2_init_9 : decode cX2_init 9 = .ok (.bipush 8, 2) := by decide +kernel
theorem dX2_init_11 : decode cX2_init 11 = .ok (.invokespecial 11, 3) := by decide +kernel
theorem dX2_init_14 : decode cX2_init 14 = .ok (.putfield 14, 3) := by decide +kernel
theorem dX2_init_17 : decode cX2_init 17 = .ok (.return_, 1) := by decide +kernel
theorem dX2_addBelow_0 : decode cX2_addBelow 0 = .ok (.aload_n 0, 1) := by decide +kernel
theorem dX2_addBelow_1 : decode cX2_addBelow 1 = .ok (.getfield 14, 3) := by decide +kernel
theorem dX2_addBelow_4 : decode cX2_addBelow 4 = .ok (.getfield 20, 3) := by decide +kernel
theorem dX2_addBelow_7 : decode cX2_addBelow 7 = .ok (.ifCond .ne 7, 3) := by decide +kernel
theorem dX2_addBelow_10 : decode cX2_addBelow 10 = .ok (.iconst 0, 1) := by decide +kernel
theorem dX2_addBelow_11 : decode cX2_addBelow 11 = .ok (.goto 20, 3) := by decide +kernel
theorem dX2_addBelow_14 : decode cX2_addBelow 14 = .ok (.aload_n 0, 1) := by decide +kernel
theorem dX2_addBelow_15 : decode cX2_addBelow 15 = .ok (.getfield 14, 3) := by decide +kernel
theorem dX2_addBelow_18 : decode cX2_addBelow 18 = .ok (.aload_n 0, 1) := by decide +kernel
theorem dX2_addBelow_19 : decode cX2_addBelow 19 = .ok (.getfield 14, 3) := by decide +kernel
theorem dX2_addBelow_22 : decode cX2_addBelow 22 = .ok (.getfield 20, 3) := by decide +kernel
theorem dX2_addBelow_25 : decode cX2_addBelow 25 = .ok (.iconst 1, 1) := by decide +kernel
theorem dX2_addBelow_26 : decode cX2_addBelow 26 = .ok (.isub, 1) := by decide +kernel
theorem dX2_addBelow_27 : decode cX2_addBelow 27 = .ok (.iconst 0, 1) := by decide +kernel
theorem dX2_addBelow_28 : decode cX2_addBelow 28 = .ok (.invokevirtual 24, 3) := by decide +kernel
theorem dX2_addBelow_31 : decode cX2_addBelow 31 = .ok (.istore 4, 2) := by decide +kernel
theorem dX2_addBelow_33 : decode cX2_addBelow 33 = .ok (.aload_n 0, 1) := by decide +kernel
theorem dX2_addBelow_34 : decode cX2_addBelow 34 = .ok (.getfield 14, 3) := by decide +kernel
theorem dX2_addBelow_37 : decode cX2_addBelow 37 = .ok (.aload_n 0, 1) := by decide +kernel
theorem dX2_addBelow_38 : decode cX2_addBelow 38 = .ok (.getfield 14, 3) := by decide +kernel
theorem dX2_addBelow_41 : decode cX2_addBelow 41 = .ok (.getfield 20, 3) := by decide +kernel
theorem dX2_addBelow_44 : decode cX2_addBelow 44 = .ok (.iload 4, 2) := by decide +kernel
theorem dX2_addBelow_46 : decode cX2_addBelow 46 = .ok (.iload_n 1, 1) := by decide +kernel
theorem dX2_addBelow_47 : decode cX2_addBelow 47 = .ok (.iadd, 1) := by decide +kernel
theorem dX2_addBelow_48 : decode cX2_addBelow 48 = .ok (.iload_n 2, 1) := by decide +kernel
theorem dX2_addBelow_49 : decode cX2_addBelow 49 = .ok (.iload_n 3, 1) := by decide +kernel
theorem dX2_addBelow_50 : decode cX2_addBelow 50 = .ok (.invokevirtual 28, 3) := by decide +kernel
theorem dX2_addBelow_53 : decode cX2_addBelow 53 = .ok (.return_, 1) := by decide +kernel
theorem dX2_strengthAt_0 : decode cX2_strengthAt 0 = .ok (.aload_n 0, 1) := by decide +kernel
theorem dX2_strengthAt_1 : decode cX2_strengthAt 1 = .ok (.iload_n 1, 1) := by decide +kernel
theorem dX2_strengthAt_2 : decode cX2_strengthAt 2 = .ok (.invokevirtual 32, 3) := by decide +kernel
theorem dX2_strengthAt_5 : decode cX2_strengthAt 5 = .ok (.istore_n 2, 1) := by decide +kernel
theorem dX2_strengthAt_6 : decode cX2_strengthAt 6 = .ok (.iload_n 2, 1) := by decide +kernel
theorem dX2_strengthAt_7 : decode cX2_strengthAt 7 = .ok (.ldc 36, 2) := by decide +kernel
theorem dX2_strengthAt_9 : decode cX2_strengthAt 9 = .ok (.if_icmp .ne 8, 3) := by decide +kernel
theorem dX2_strengthAt_12 : decode cX2_strengthAt 12 = .ok (.bipush 60, 2) := by decide +kernel
theorem dX2_strengthAt_14 : decode cX2_strengthAt 14 = .ok (.goto 12, 3) := by decide +kernel
theorem dX2_strengthAt_17 : decode cX2_strengthAt 17 = .ok (.aload_n 0, 1) := by decide +kernel
theorem dX2_strengthAt_18 : decode cX2_strengthAt 18 = .ok (.getfield 14, 3) := by decide +kernel
theorem dX2_strengthAt_21 : decode cX2_strengthAt 21 = .ok (.iload_n 2, 1) := by decide +kernel
theorem dX2_strengthAt_22 : decode cX2_strengthAt 22 = .ok (.iconst 1, 1) := by decide +kernel
theorem dX2_strengthAt_23 : decode cX2_strengthAt 23 = .ok (.invokevirtual 24, 3) := by decide +kernel
theorem dX2_strengthAt_26 : decode cX2_strengthAt 26 = .ok (.ireturn, 1) := by decide +kernel
theorem dX2_frictionAt_0 : decode cX2_frictionAt 0 = .ok (.aload_n 0, 1) := by decide +kernel
theorem dX2_frictionAt_1 : decode cX2_frictionAt 1 = .ok (.iload_n 1, 1) := by decide +kernel
theorem dX2_frictionAt_2 : decode cX2_frictionAt 2 = .ok (.invokevirtual 32, 3) := by decide +kernel
theorem dX2_frictionAt_5 : decode cX2_frictionAt 5 = .ok (.istore_n 2, 1) := by decide +kernel
theorem dX2_frictionAt_6 : decode cX2_frictionAt 6 = .ok (.iload_n 2, 1) := by decide +kernel
theorem dX2_frictionAt_7 : decode cX2_frictionAt 7 = .ok (.ldc 36, 2) := by decide +kernel
theorem dX2_frictionAt_9 : decode cX2_frictionAt 9 = .ok (.if_icmp .ne 8, 3) := by decide +kernel
theorem dX2_frictionAt_12 : decode cX2_frictionAt 12 = .ok (.bipush 9, 2) := by decide +kernel
theorem dX2_frictionAt_14 : decode cX2_frictionAt 14 = .ok (.goto 12, 3) := by decide +kernel
theorem dX2_frictionAt_17 : decode cX2_frictionAt 17 = .ok (.aload_n 0, 1) := by decide +kernel
theorem dX2_frictionAt_18 : decode cX2_frictionAt 18 = .ok (.getfield 14, 3) := by decide +kernel
theorem dX2_frictionAt_21 : decode cX2_frictionAt 21 = .ok (.iload_n 2, 1) := by decide +kernel
theorem dX2_frictionAt_22 : decode cX2_frictionAt 22 = .ok (.iconst 2, 1) := by decide +kernel
theorem dX2_frictionAt_23 : decode cX2_frictionAt 23 = .ok (.invokevirtual 24, 3) := by decide +kernel
theorem dX2_frictionAt_26 : decode cX2_frictionAt 26 = .ok (.ireturn, 1) := by decide +kernel
theorem dX2_layerAt_0 : decode cX2_layerAt 0 = .ok (.iconst 0, 1) := by decide +kernel
theorem dX2_layerAt_1 : decode cX2_layerAt 1 = .ok (.istore_n 2, 1) := by decide +kernel
theorem dX2_layerAt_2 : decode cX2_layerAt 2 = .ok (.iload_n 2, 1) := by decide +kernel
theorem dX2_layerAt_3 : decode cX2_layerAt 3 = .ok (.aload_n 0, 1) := by decide +kernel
theorem dX2_layerAt_4 : decode cX2_layerAt 4 = .ok (.getfield 14, 3) := by decide +kernel
theorem dX2_layerAt_7 : decode cX2_layerAt 7 = .ok (.getfield 20, 3) := by decide +kernel
theorem dX2_layerAt_10 : decode cX2_layerAt 10 = .ok (.if_icmp .ge 26, 3) := by decide +kernel
theorem dX2_layerAt_13 : decode cX2_layerAt 13 = .ok (.iload_n 1, 1) := by decide +kernel
theorem dX2_layerAt_14 : decode cX2_layerAt 14 = .ok (.aload_n 0, 1) := by decide +kernel
theorem dX2_layerAt_15 : decode cX2_layerAt 15 = .ok (.getfield 14, 3) := by decide +kernel
theorem dX2_layerAt_18 : decode cX2_layerAt 18 = .ok (.getfield 37, 3) := by decide +kernel
theorem dX2_layerAt_21 : decode cX2_layerAt 21 = .ok (.iload_n 2, 1) := by decide +kernel
theorem dX2_layerAt_22 : decode cX2_layerAt 22 = .ok (.iconst 3, 1) := by decide +kernel
theorem dX2_layerAt_23 : decode cX2_layerAt 23 = .ok (.imul, 1) := by decide +kernel
theorem dX2_layerAt_24 : decode cX2_layerAt 24 = .ok (.iaload, 1) := by decide +kernel
theorem dX2_layerAt_25 : decode cX2_layerAt 25 = .ok (.if_icmp .ge 5, 3) := by decide +kernel
theorem dX2_layerAt_28 : decode cX2_layerAt 28 = .ok (.iload_n 2, 1) := by decide +kernel
theorem dX2_layerAt_29 : decode cX2_layerAt 29 = .ok (.ireturn, 1) := by decide +kernel
theorem dX2_layerAt_30 : decode cX2_layerAt 30 = .ok (.iinc 2 1, 3) := by decide +kernel
theorem dX2_layerAt_33 : decode cX2_layerAt 33 = .ok (.goto (-31), 3) := by decide +kernel
theorem dX2_layerAt_36 : decode cX2_layerAt 36 = .ok (.ldc 36, 2) := by decide +kernel
theorem dX2_layerAt_38 : decode cX2_layerAt 38 = .ok (.ireturn, 1) := by decide +kernel
theorem dX2_frictionAbove_0 : decode cX2_frictionAbove 0 = .ok (.iconst 0, 1) := by decide +kernel
theorem dX2_frictionAbove_1 : decode cX2_frictionAbove 1 = .ok (.istore_n 2, 1) := by decide +kernel
theorem dX2_frictionAbove_2 : decode cX2_frictionAbove 2 = .ok (.iconst 0, 1) := by decide +kernel
theorem dX2_frictionAbove_3 : decode cX2_frictionAbove 3 = .ok (.istore_n 3, 1) := by decide +kernel
theorem dX2_frictionAbove_4 : decode cX2_frictionAbove 4 = .ok (.iconst 0, 1) := by decide +kernel
theorem dX2_frictionAbove_5 : decode cX2_frictionAbove 5 = .ok (.istore 4, 2) := by decide +kernel
theorem dX2_frictionAbove_7 : decode cX2_frictionAbove 7 = .ok (.iload 4, 2) := by decide +kernel
theorem dX2_frictionAbove_9 : decode cX2_frictionAbove 9 = .ok (.aload_n 0, 1) := by decide +kernel
theorem dX2_frictionAbove_10 : decode cX2_frictionAbove 10 = .ok (.getfield 14, 3) := by decide +kernel
theorem dX2_frictionAbove_13 : decode cX2_frictionAbove 13 = .ok (.getfield 20, 3) := by decide +kernel
theorem dX2_frictionAbove_16 : decode cX2_frictionAbove 16 = .ok (.if_icmp .ge 67, 3) := by decide +kernel
theorem dX2_frictionAbove_19 : decode cX2_frictionAbove 19 = .ok (.aload_n 0, 1) := by decide +kernel
theorem dX2_frictionAbove_20 : decode cX2_frictionAbove 20 = .ok (.getfield 14, 3) := by decide +kernel
theorem dX2_frictionAbove_23 : decode cX2_frictionAbove 23 = .ok (.getfield 37, 3) := by decide +kernel
theorem dX2_frictionAbove_26 : decode cX2_frictionAbove 26 = .ok (.iload 4, 2) := by decide +kernel
theorem dX2_frictionAbove_28 : decode cX2_frictionAbove 28 = .ok (.iconst 3, 1) := by decide +kernel
theorem dX2_frictionAbove_29 : decode cX2_frictionAbove 29 = .ok (.imul, 1) := by decide +kernel
theorem dX2_frictionAbove_30 : decode cX2_frictionAbove 30 = .ok (.iaload, 1) := by decide +kernel
theorem dX2_frictionAbove_31 : decode cX2_frictionAbove 31 = .ok (.istore 5, 2) := by decide +kernel
theorem dX2_frictionAbove_33 : decode cX2_frictionAbove 33 = .ok (.aload_n 0, 1) := by decide +kernel
theorem dX2_frictionAbove_34 : decode cX2_frictionAbove 34 = .ok (.getfield 14, 3) := by decide +kernel
theorem dX2_frictionAbove_37 : decode cX2_frictionAbove 37 = .ok (.getfield 37, 3) := by decide +kernel
theorem dX2_frictionAbove_40 : decode cX2_frictionAbove 40 = .ok (.iload 4, 2) := by decide +kernel
theorem dX2_frictionAbove_42 : decode cX2_frictionAbove 42 = .ok (.iconst 3, 1) := by decide +kernel
theorem dX2_frictionAbove_43 : decode cX2_frictionAbove 43 = .ok (.imul, 1) := by decide +kernel
theorem dX2_frictionAbove_44 : decode cX2_frictionAbove 44 = .ok (.iconst 2, 1) := by decide +kernel
theorem dX2_frictionAbove_45 : decode cX2_frictionAbove 45 = .ok (.iadd, 1) := by decide +kernel
theorem dX2_frictionAbove_46 : decode cX2_frictionAbove 46 = .ok (.iaload, 1) := by decide +kernel
theorem dX2_frictionAbove_47 : decode cX2_frictionAbove 47 = .ok (.istore 6, 2) := by decide +kernel
theorem dX2_frictionAbove_49 : decode cX2_frictionAbove 49 = .ok (.iload_n 1, 1) := by decide +kernel
theorem dX2_frictionAbove_50 : decode cX2_frictionAbove 50 = .ok (.iload 5, 2) := by decide +kernel
theorem dX2_frictionAbove_52 : decode cX2_frictionAbove 52 = .ok (.if_icmp .gt 12, 3) := by decide +kernel
theorem dX2_frictionAbove_55 : decode cX2_frictionAbove 55 = .ok (.iload_n 2, 1) := by decide +kernel
theorem dX2_frictionAbove_56 : decode cX2_frictionAbove 56 = .ok (.iload_n 1, 1) := by decide +kernel
theorem dX2_frictionAbove_57 : decode cX2_frictionAbove 57 = .ok (.iload_n 3, 1) := by decide +kernel
theorem dX2_frictionAbove_58 : decode cX2_frictionAbove 58 = .ok (.isub, 1) := by decide +kernel
theorem dX2_frictionAbove_59 : decode cX2_frictionAbove 59 = .ok (.iload 6, 2) := by decide +kernel
theorem dX2_frictionAbove_61 : decode cX2_frictionAbove 61 = .ok (.imul, 1) := by decide +kernel
theorem dX2_frictionAbove_62 : decode cX2_frictionAbove 62 = .ok (.iadd, 1) := by decide +kernel
theorem dX2_frictionAbove_63 : decode cX2_frictionAbove 63 = .ok (.ireturn, 1) := by decide +kernel
theorem dX2_frictionAbove_64 : decode cX2_frictionAbove 64 = .ok (.iload_n 2, 1) := by decide +kernel
theorem dX2_frictionAbove_65 : decode cX2_frictionAbove 65 = .ok (.iload 5, 2) := by decide +kernel
theorem dX2_frictionAbove_67 : decode cX2_frictionAbove 67 = .ok (.iload_n 3, 1) := by decide +kernel
theorem dX2_frictionAbove_68 : decode cX2_frictionAbove 68 = .ok (.isub, 1) := by decide +kernel
theorem dX2_frictionAbove_69 : decode cX2_frictionAbove 69 = .ok (.iload 6, 2) := by decide +kernel
theorem dX2_frictionAbove_71 : decode cX2_frictionAbove 71 = .ok (.imul, 1) := by decide +kernel
theorem dX2_frictionAbove_72 : decode cX2_frictionAbove 72 = .ok (.iadd, 1) := by decide +kernel
theorem dX2_frictionAbove_73 : decode cX2_frictionAbove 73 = .ok (.istore_n 2, 1) := by decide +kernel
theorem dX2_frictionAbove_74 : decode cX2_frictionAbove 74 = .ok (.iload 5, 2) := by decide +kernel
theorem dX2_frictionAbove_76 : decode cX2_frictionAbove 76 = .ok (.istore_n 3, 1) := by decide +kernel
theorem dX2_frictionAbove_77 : decode cX2_frictionAbove 77 = .ok (.iinc 4 1, 3) := by decide +kernel
theorem dX2_frictionAbove_80 : decode cX2_frictionAbove 80 = .ok (.goto (-73), 3) := by decide +kernel
theorem dX2_frictionAbove_83 : decode cX2_frictionAbove 83 = .ok (.iload_n 2, 1) := by decide +kernel
theorem dX2_frictionAbove_84 : decode cX2_frictionAbove 84 = .ok (.iload_n 1, 1) := by decide +kernel
theorem dX2_frictionAbove_85 : decode cX2_frictionAbove 85 = .ok (.iload_n 3, 1) := by decide +kernel
theorem dX2_frictionAbove_86 : decode cX2_frictionAbove 86 = .ok (.isub, 1) := by decide +kernel
theorem dX2_frictionAbove_87 : decode cX2_frictionAbove 87 = .ok (.bipush 9, 2) := by decide +kernel
theorem dX2_frictionAbove_89 : decode cX2_frictionAbove 89 = .ok (.imul, 1) := by decide +kernel
theorem dX2_frictionAbove_90 : decode cX2_frictionAbove 90 = .ok (.iadd, 1) := by decide +kernel
theorem dX2_frictionAbove_91 : decode cX2_frictionAbove 91 = .ok (.ireturn, 1) := by decide +kernel
theorem dX3_init_0 : decode cX3_init 0 = .ok (.aload_n 0, 1) := by decide +kernel
theorem dX3_init_1 : decode cX3_init 1 = .ok (.invokespecial 3, 3) := by decide +kernel
theorem dX3_init_4 : decode cX3_init 4 = .ok (.aload_n 0, 1) := by decide +kernel
theorem dX3_init_5 : decode cX3_init 5 = .ok (.bipush 6, 2) := by decide +kernel
theorem dX3_init_7 : decode cX3_init 7 = .ok (.anewarray 9, 3) := by decide +kernel
theorem dX3_init_10 : decode cX3_init 10 = .ok (.putfield 11, 3) := by decide +kernel
theorem dX3_init_13 : decode cX3_init 13 = .ok (.iconst 0, 1) := by decide +kernel
theorem dX3_init_14 : decode cX3_init 14 = .ok (.istore_n 1, 1) := by decide +kernel
theorem dX3_init_15 : decode cX3_init 15 = .ok (.iload_n 1, 1) := by decide +kernel
theorem dX3_init_16 : decode cX3_init 16 = .ok (.bipush 6, 2) := by decide +kernel
theorem dX3_init_18 : decode cX3_init 18 = .ok (.if_icmp .ge 22, 3) := by decide +kernel
theorem dX3_init_21 : decode cX3_init 21 = .ok (.aload_n 0, 1) := by decide +kernel
theorem dX3_init_22 : decode cX3_init 22 = .ok (.getfield 11, 3) := by decide +kernel
theorem dX3_init_25 : decode cX3_init 25 = .ok (.iload_n 1, 1) := by decide +kernel
theorem dX3_init_26 : decode cX3_init 26 = .ok (.new 9, 3) := by decide +kernel
theorem dX3_init_29 : decode cX3_init 29 = .ok (.dup, 1) := by decide +kernel
theorem dX3_init_30 : decode cX3_init 30 = .ok (.invokespecial 17, 3) := by decide +kernel
theorem dX3_init_33 : decode cX3_init 33 = .ok (.aastore, 1) := by decide +kernel
theorem dX3_init_34 : decode cX3_init 34 = .ok (.iinc 1 1, 3) := by decide +kernel
theorem dX3_init_37 : decode cX3_init 37 = .ok (.goto (-22), 3) := by decide +kernel
theorem dX3_init_40 : decode cX3_init 40 = .ok (.aload_n 0, 1) := by decide +kernel
theorem dX3_init_41 : decode cX3_init 41 = .ok (.iconst 0, 1) := by decide +kernel
theorem dX3_init_42 : decode cX3_init 42 = .ok (.putfield 18, 3) := by decide +kernel
theorem dX3_init_45 : decode cX3_init 45 = .ok (.aload_n 0, 1) := by decide +kernel
theorem dX3_init_46 : decode cX3_init 46 = .ok (.iconst 0, 1) := by decide +kernel
theorem dX3_init_47 : decode cX3_init 47 = .ok (.putfield 22, 3) := by decide +kernel
theorem dX3_init_50 : decode cX3_init 50 = .ok (.return_, 1) := by decide +kernel
theorem dX3_save_0 : decode cX3_save 0 = .ok (.aload_n 0, 1) := by decide +kernel
theorem dX3_save_1 : decode cX3_save 1 = .ok (.getfield 11, 3) := by decide +kernel
theorem dX3_save_4 : decode cX3_save 4 = .ok (.aload_n 0, 1) := by decide +kernel
theorem dX3_save_5 : decode cX3_save 5 = .ok (.getfield 18, 3) := by decide +kernel
theorem dX3_save_8 : decode cX3_save 8 = .ok (.bipush 6, 2) := by decide +kernel
theorem dX3_save_10 : decode cX3_save 10 = .ok (.invokestatic 25, 3) := by decide +kernel
theorem dX3_save_13 : decode cX3_save 13 = .ok (.aaload, 1) := by decide +kernel
theorem dX3_save_14 : decode cX3_save 14 = .ok (.aload_n 1, 1) := by decide +kernel
theorem dX3_save_15 : decode cX3_save 15 = .ok (.invokevirtual 31, 3) := by decide +kernel
theorem dX3_save_18 : decode cX3_save 18 = .ok (.aload_n 0, 1) := by decide +kernel
theorem dX3_save_19 : decode cX3_save 19 = .ok (.aload_n 0, 1) := by decide +kernel
theorem dX3_save_20 : decode cX3_save 20 = .ok (.getfield 18, 3) := by decide +kernel
theorem dX3_save_23 : decode cX3_save 23 = .ok (.iconst 1, 1) := by decide +kernel
theorem dX3_save_24 : decode cX3_save 24 = .ok (.iadd, 1) := by decide +kernel
theorem dX3_save_25 : decode cX3_save 25 = .ok (.bipush 6, 2) := by decide +kernel
theorem dX3_save_27 : decode cX3_save 27 = .ok (.invokestatic 25, 3) := by decide +kernel
theorem dX3_save_30 : decode cX3_save 30 = .ok (.putfield 18, 3) := by decide +kernel
theorem dX3_save_33 : decode cX3_save 33 = .ok (.aload_n 0, 1) := by decide +kernel
theorem dX3_save_34 : decode cX3_save 34 = .ok (.aload_n 0, 1) := by decide +kernel
theorem dX3_save_35 : decode cX3_save 35 = .ok (.getfield 22, 3) := by decide +kernel
theorem dX3_save_38 : decode cX3_save 38 = .ok (.iconst 1, 1) := by decide +kernel
theorem dX3_save_39 : decode cX3_save 39 = .ok (.iadd, 1) := by decide +kernel
theorem dX3_save_40 : decode cX3_save 40 = .ok (.bipush 6, 2) := by decide +kernel
theorem dX3_save_42 : decode cX3_save 42 = .ok (.invokestatic 35, 3) := by decide +kernel
theorem dX3_save_45 : decode cX3_save 45 = .ok (.putfield 22, 3) := by decide +kernel
theorem dX3_save_48 : decode cX3_save 48 = .ok (.return_, 1) := by decide +kernel
theorem dX3_restore_0 : decode cX3_restore 0 = .ok (.aload_n 0, 1) := by decide +kernel
theorem dX3_restore_1 : decode cX3_restore 1 = .ok (.getfield 22, 3) := by decide +kernel
theorem dX3_restore_4 : decode cX3_restore 4 = .ok (.ifCond .le 41, 3) := by decide +kernel
theorem dX3_restore_7 : decode cX3_restore 7 = .ok (.aload_n 0, 1) := by decide +kernel
theorem dX3_restore_8 : decode cX3_restore 8 = .ok (.aload_n 0, 1) := by decide +kernel
theorem dX3_restore_9 : decode cX3_restore 9 = .ok (.getfield 18, 3) := by decide +kernel
theorem dX3_restore_12 : decode cX3_restore 12 = .ok (.iconst 1, 1) := by decide +kernel
theorem dX3_restore_13 : decode cX3_restore 13 = .ok (.isub, 1) := by decide +kernel
theorem dX3_restore_14 : decode cX3_restore 14 = .ok (.bipush 6, 2) := by decide +kernel
theorem dX3_restore_16 : decode cX3_restore 16 = .ok (.invokestatic 25, 3) := by decide +kernel
theorem dX3_restore_19 : decode cX3_restore 19 = .ok (.putfield 18, 3) := by decide +kernel
theorem dX3_restore_22 : decode cX3_restore 22 = .ok (.aload_n 1, 1) := by decide +kernel
theorem dX3_restore_23 : decode cX3_restore 23 = .ok (.aload_n 0, 1) := by decide +kernel
theorem dX3_restore_24 : decode cX3_restore 24 = .ok (.getfield 11, 3) := by decide +kernel
theorem dX3_restore_27 : decode cX3_restore 27 = .ok (.aload_n 0, 1) := by decide +kernel
theorem dX3_restore_28 : decode cX3_restore 28 = .ok (.getfield 18, 3) := by decide +kernel
theorem dX3_restore_31 : decode cX3_restore 31 = .ok (.aaload, 1) := by decide +kernel
theorem dX3_restore_32 : decode cX3_restore 32 = .ok (.invokevirtual 31, 3) := by decide +kernel
theorem dX3_restore_35 : decode cX3_restore 35 = .ok (.aload_n 0, 1) := by decide +kernel
theorem dX3_restore_36 : decode cX3_restore 36 = .ok (.dup, 1) := by decide +kernel
theorem dX3_restore_37 : decode cX3_restore 37 = .ok (.getfield 22, 3) := by decide +kernel
theorem dX3_restore_40 : decode cX3_restore 40 = .ok (.iconst 1, 1) := by decide +kernel
theorem dX3_restore_41 : decode cX3_restore 41 = .ok (.isub, 1) := by decide +kernel
theorem dX3_restore_42 : decode cX3_restore 42 = .ok (.putfield 22, 3) := by decide +kernel
theorem dX3_restore_45 : decode cX3_restore 45 = .ok (.return_, 1) := by decide +kernel
theorem dX4_init_0 : decode cX4_init 0 = .ok (.aload_n 0, 1) := by decide +kernel
theorem dX4_init_1 : decode cX4_init 1 = .ok (.invokespecial 3, 3) := by decide +kernel
theorem dX4_init_4 : decode cX4_init 4 = .ok (.aload_n 0, 1) := by decide +kernel
theorem dX4_init_5 : decode cX4_init 5 = .ok (.bipush 49, 2) := by decide +kernel
theorem dX4_init_7 : decode cX4_init 7 = .ok (.newarray .int, 2) := by decide +kernel
theorem dX4_init_9 : decode cX4_init 9 = .ok (.putfield 9, 3) := by decide +kernel
theorem dX4_init_12 : decode cX4_init 12 = .ok (.return_, 1) := by decide +kernel
theorem dX4_clear_0 : decode cX4_clear 0 = .ok (.aload_n 0, 1) := by decide +kernel
theorem dX4_clear_1 : decode cX4_clear 1 = .ok (.iconst 0, 1) := by decide +kernel
theorem dX4_clear_2 : decode cX4_clear 2 = .ok (.putfield 15, 3) := by decide +kernel
theorem dX4_clear_5 : decode cX4_clear 5 = .ok (.aload_n 0, 1) := by decide +kernel
theorem dX4_clear_6 : decode cX4_clear 6 = .ok (.iconst 0, 1) := by decide +kernel
theorem dX4_clear_7 : decode cX4_clear 7 = .ok (.putfield 19, 3) := by decide +kernel
theorem dX4_clear_10 : decode cX4_clear 10 = .ok (.aload_n 0, 1) := by decide +kernel
theorem dX4_clear_11 : decode cX4_clear 11 = .ok (.iconst 0, 1) := by decide +kernel
theorem dX4_clear_12 : decode cX4_clear 12 = .ok (.putfield 22, 3) := by decide +kernel
theorem dX4_clear_15 : decode cX4_clear 15 = .ok (.iconst 0, 1) := by decide +kernel
theorem dX4_clear_16 : decode cX4_clear 16 = .ok (.istore_n 1, 1) := by decide +kernel
theorem dX4_clear_17 : decode cX4_clear 17 = .ok (.iload_n 1, 1) := by decide +kernel
theorem dX4_clear_18 : decode cX4_clear 18 = .ok (.aload_n 0, 1) := by decide +kernel
theorem dX4_clear_19 : decode cX4_clear 19 = .ok (.getfield 9, 3) := by decide +kernel
theorem dX4_clear_22 : decode cX4_clear 22 = .ok (.arraylength, 1) := by decide +kernel
theorem dX4_clear_23 : decode cX4_clear 23 = .ok (.if_icmp .ge 16, 3) := by decide +kernel
theorem dX4_clear_26 : decode cX4_clear 26 = .ok (.aload_n 0, 1) := by decide +kernel
theorem dX4_clear_27 : decode cX4_clear 27 = .ok (.getfield 9, 3) := by decide +kernel
theorem dX4_clear_30 : decode cX4_clear 30 = .ok (.iload_n 1, 1) := by decide +kernel
theorem dX4_clear_31 : decode cX4_clear 31 = .ok (.iconst 0, 1) := by decide +kernel
theorem dX4_clear_32 : decode cX4_clear 32 = .ok (.iastore, 1) := by decide +kernel
theorem dX4_clear_33 : decode cX4_clear 33 = .ok (.iinc 1 1, 3) := by decide +kernel
theorem dX4_clear_36 : decode cX4_clear 36 = .ok (.goto (-19), 3) := by decide +kernel
theorem dX4_clear_39 : decode cX4_clear 39 = .ok (.return_, 1) := by decide +kernel
theorem dX4_bottomOf_0 : decode cX4_bottomOf 0 = .ok (.iload_n 1, 1) := by decide +kernel
theorem dX4_bottomOf_1 : decode cX4_bottomOf 1 = .ok (.ifCond .lt 21, 3) := by decide +kernel
theorem dX4_bottomOf_4 : decode cX4_bottomOf 4 = .ok (.iload_n 1, 1) := by decide +kernel
theorem dX4_bottomOf_5 : decode cX4_bottomOf 5 = .ok (.aload_n 0, 1) := by decide +kernel
theorem dX4_bottomOf_6 : decode cX4_bottomOf 6 = .ok (.getfield 9, 3) := by decide +kernel
theorem dX4_bottomOf_9 : decode cX4_bottomOf 9 = .ok (.arraylength, 1) := by decide +kernel
theorem dX4_bottomOf_10 : decode cX4_bottomOf 10 = .ok (.if_icmp .ge 12, 3) := by decide +kernel
theorem dX4_bottomOf_13 : decode cX4_bottomOf 13 = .ok (.aload_n 0, 1) := by decide +kernel
theorem dX4_bottomOf_14 : decode cX4_bottomOf 14 = .ok (.getfield 9, 3) := by decide +kernel
theorem dX4_bottomOf_17 : decode cX4_bottomOf 17 = .ok (.iload_n 1, 1) := by decide +kernel
theorem dX4_bottomOf_18 : decode cX4_bottomOf 18 = .ok (.iaload, 1) := by decide +kernel
theorem dX4_bottomOf_19 : decode cX4_bottomOf 19 = .ok (.goto 4, 3) := by decide +kernel
theorem dX4_bottomOf_22 : decode cX4_bottomOf 22 = .ok (.iconst 0, 1) := by decide +kernel
theorem dX4_bottomOf_23 : decode cX4_bottomOf 23 = .ok (.ireturn, 1) := by decide +kernel
theorem dX4_putBottom_0 : decode cX4_putBottom 0 = .ok (.iload_n 1, 1) := by decide +kernel
theorem dX4_putBottom_1 : decode cX4_putBottom 1 = .ok (.ifCond .lt 19, 3) := by decide +kernel
theorem dX4_putBottom_4 : decode cX4_putBottom 4 = .ok (.iload_n 1, 1) := by decide +kernel
theorem dX4_putBottom_5 : decode cX4_putBottom 5 = .ok (.aload_n 0, 1) := by decide +kernel
theorem dX4_putBottom_6 : decode cX4_putBottom 6 = .ok (.getfield 9, 3) := by decide +kernel
theorem dX4_putBottom_9 : decode cX4_putBottom 9 = .ok (.arraylength, 1) := by decide +kernel
theorem dX4_putBottom_10 : decode cX4_putBottom 10 = .ok (.if_icmp .ge 10, 3) := by decide +kernel
theorem dX4_putBottom_13 : decode cX4_putBottom 13 = .ok (.aload_n 0, 1) := by decide +kernel
theorem dX4_putBottom_14 : decode cX4_putBottom 14 = .ok (.getfield 9, 3) := by decide +kernel
theorem dX4_putBottom_17 : decode cX4_putBottom 17 = .ok (.iload_n 1, 1) := by decide +kernel
theorem dX4_putBottom_18 : decode cX4_putBottom 18 = .ok (.iload_n 2, 1) := by decide +kernel
theorem dX4_putBottom_19 : decode cX4_putBottom 19 = .ok (.iastore, 1) := by decide +kernel
theorem dX4_putBottom_20 : decode cX4_putBottom 20 = .ok (.return_, 1) := by decide +kernel
theorem dX4_tiltSum_0 : decode cX4_tiltSum 0 = .ok (.aload_n 0, 1) := by decide +kernel
theorem dX4_tiltSum_1 : decode cX4_tiltSum 1 = .ok (.getfield 19, 3) := by decide +kernel
theorem dX4_tiltSum_4 : decode cX4_tiltSum 4 = .ok (.invokestatic 25, 3) := by decide +kernel
theorem dX4_tiltSum_7 : decode cX4_tiltSum 7 = .ok (.aload_n 0, 1) := by decide +kernel
theorem dX4_tiltSum_8 : decode cX4_tiltSum 8 = .ok (.getfield 22, 3) := by decide +kernel
theorem dX4_tiltSum_11 : decode cX4_tiltSum 11 = .ok (.invokestatic 25, 3) := by decide +kernel
theorem dX4_tiltSum_14 : decode cX4_tiltSum 14 = .ok (.iadd, 1) := by decide +kernel
theorem dX4_tiltSum_15 : decode cX4_tiltSum 15 = .ok (.ireturn, 1) := by decide +kernel
theorem dX4_copyFrom_0 : decode cX4_copyFrom 0 = .ok (.aload_n 0, 1) := by decide +kernel
theorem dX4_copyFrom_1 : decode cX4_copyFrom 1 = .ok (.aload_n 1, 1) := by decide +kernel
theorem dX4_copyFrom_2 : decode cX4_copyFrom 2 = .ok (.getfield 15, 3) := by decide +kernel
theorem dX4_copyFrom_5 : decode cX4_copyFrom 5 = .ok (.putfield 15, 3) := by decide +kernel
theorem dX4_copyFrom_8 : decode cX4_copyFrom 8 = .ok (.aload_n 0, 1) := by decide +kernel
theorem dX4_copyFrom_9 : decode cX4_copyFrom 9 = .ok (.aload_n 1, 1) := by decide +kernel
theorem dX4_copyFrom_10 : decode cX4_copyFrom 10 = .ok (.getfield 19, 3) := by decide +kernel
theorem dX4_copyFrom_13 : decode cX4_copyFrom 13 = .ok (.putfield 19, 3) := by decide +kernel
theorem dX4_copyFrom_16 : decode cX4_copyFrom 16 = .ok (.aload_n 0, 1) := by decide +kernel
theorem dX4_copyFrom_17 : decode cX4_copyFrom 17 = .ok (.aload_n 1, 1) := by decide +kernel
theorem dX4_copyFrom_18 : decode cX4_copyFrom 18 = .ok (.getfield 22, 3) := by decide +kernel
theorem dX4_copyFrom_21 : decode cX4_copyFrom 21 = .ok (.putfield 22, 3) := by decide +kernel
theorem dX4_copyFrom_24 : decode cX4_copyFrom 24 = .ok (.aload_n 1, 1) := by decide +kernel
theorem dX4_copyFrom_25 : decode cX4_copyFrom 25 = .ok (.getfield 9, 3) := by decide +kernel
theorem dX4_copyFrom_28 : decode cX4_copyFrom 28 = .ok (.iconst 0, 1) := by decide +kernel
theorem dX4_copyFrom_29 : decode cX4_copyFrom 29 = .ok (.aload_n 0, 1) := by decide +kernel
theorem dX4_copyFrom_30 : decode cX4_copyFrom 30 = .ok (.getfield 9, 3) := by decide +kernel
theorem dX4_copyFrom_33 : decode cX4_copyFrom 33 = .ok (.iconst 0, 1) := by decide +kernel
theorem dX4_copyFrom_34 : decode cX4_copyFrom 34 = .ok (.aload_n 0, 1) := by decide +kernel
theorem dX4_copyFrom_35 : decode cX4_copyFrom 35 = .ok (.getfield 9, 3) := by decide +kernel
theorem dX4_copyFrom_38 : decode cX4_copyFrom 38 = .ok (.arraylength, 1) := by decide +kernel
theorem dX4_copyFrom_39 : decode cX4_copyFrom 39 = .ok (.invokestatic 31, 3) := by decide +kernel
theorem dX4_copyFrom_42 : decode cX4_copyFrom 42 = .ok (.return_, 1) := by decide +kernel
theorem dX5_init_0 : decode cX5_init 0 = .ok (.aload_n 0, 1) := by decide +kernel
theorem dX5_init_1 : decode cX5_init 1 = .ok (.invokespecial 3, 3) := by decide +kernel
theorem dX5_init_4 : decode cX5_init 4 = .ok (.aload_n 0, 1) := by decide +kernel
theorem dX5_init_5 : decode cX5_init 5 = .ok (.bipush 49, 2) := by decide +kernel
theorem dX5_init_7 : decode cX5_init 7 = .ok (.newarray .int, 2) := by decide +kernel
theorem dX5_init_9 : decode cX5_init 9 = .ok (.putfield 9, 3) := by decide +kernel
theorem dX5_init_12 : decode cX5_init 12 = .ok (.aload_n 0, 1) := by decide +kernel
theorem dX5_init_13 : decode cX5_init 13 = .ok (.iconst 4, 1) := by decide +kernel
theorem dX5_init_14 : decode cX5_init 14 = .ok (.newarray .int, 2) := by decide +kernel
theorem dX5_init_16 : decode cX5_init 16 = .ok (.putfield 15, 3) := by decide +kernel
theorem dX5_init_19 : decode cX5_init 19 = .ok (.aload_n 0, 1) := by decide +kernel
theorem dX5_init_20 : decode cX5_init 20 = .ok (.new 18, 3) := by decide +kernel
theorem dX5_init_23 : decode cX5_init 23 = .ok (.dup, 1) := by decide +kernel
theorem dX5_init_24 : decode cX5_init 24 = .ok (.invokespecial 20, 3) := by decide +kernel
theorem dX5_init_27 : decode cX5_init 27 = .ok (.putfield 21, 3) := by decide +kernel
theorem dX5_init_30 : decode cX5_init 30 = .ok (.aload_n 0, 1) := by decide +kernel
theorem dX5_init_31 : decode cX5_init 31 = .ok (.new 25, 3) := by decide +kernel
theorem dX5_init_34 : decode cX5_init 34 = .ok (.dup, 1) := by decide +kernel
theorem dX5_init_35 : decode cX5_init 35 = .ok (.invokespecial 27, 3) := by decide +kernel
theorem dX5_init_38 : decode cX5_init 38 = .ok (.putfield 28, 3) := by decide +kernel
theorem dX5_init_41 : decode cX5_init 41 = .ok (.aload_n 0, 1) := by decide +kernel
theorem dX5_init_42 : decode cX5_init 42 = .ok (.new 32, 3) := by decide +kernel
theorem dX5_init_45 : decode cX5_init 45 = .ok (.dup, 1) := by decide +kernel
theorem dX5_init_46 : decode cX5_init 46 = .ok (.invokespecial 34, 3) := by decide +kernel
theorem dX5_init_49 : decode cX5_init 49 = .ok (.putfield 35, 3) := by decide +kernel
theorem dX5_init_52 : decode cX5_init 52 = .ok (.aload_n 0, 1) := by decide +kernel
theorem dX5_init_53 : decode cX5_init 53 = .ok (.new 39, 3) := by decide +kernel
theorem dX5_init_56 : decode cX5_init 56 = .ok (.dup, 1) := by decide +kernel
theorem dX5_init_57 : decode cX5_init 57 = .ok (.bipush 20, 2) := by decide +kernel
theorem dX5_init_59 : decode cX5_init 59 = .ok (.invokespecial 41, 3) := by decide +kernel
theorem dX5_init_62 : decode cX5_init 62 = .ok (.putfield 44, 3) := by decide +kernel
theorem dX5_init_65 : decode cX5_init 65 = .ok (.aload_n 0, 1) := by decide +kernel
theorem dX5_init_66 : decode cX5_init 66 = .ok (.invokevirtual 48, 3) := by decide +kernel
theorem dX5_init_69 : decode cX5_init 69 = .ok (.return_, 1) := by decide +kernel
theorem dX5_beginAnew_0 : decode cX5_beginAnew 0 = .ok (.aload_n 0, 1) := by decide +kernel
theorem dX5_beginAnew_1 : decode cX5_beginAnew 1 = .ok (.sipush 600, 3) := by decide +kernel
theorem dX5_beginAnew_4 : decode cX5_beginAnew 4 = .ok (.putfield 51, 3) := by decide +kernel
theorem dX5_beginAnew_7 : decode cX5_beginAnew 7 = .ok (.aload_n 0, 1) := by decide +kernel
theorem dX5_beginAnew_8 : decode cX5_beginAnew 8 = .ok (.sipush 400, 3) := by decide +kernel
theorem dX5_beginAnew_11 : decode cX5_beginAnew 11 = .ok (.putfield 55, 3) := by decide +kernel
theorem dX5_beginAnew_14 : decode cX5_beginAnew 14 = .ok (.aload_n 0, 1) := by decide +kernel
theorem dX5_beginAnew_15 : decode cX5_beginAnew 15 = .ok (.sipush 400, 3) := by decide +kernel
theorem dX5_beginAnew_18 : decode cX5_beginAnew 18 = .ok (.putfield 58, 3) := by decide +kernel
theorem dX5_beginAnew_21 : decode cX5_beginAnew 21 = .ok (.aload_n 0, 1) := by decide +kernel
theorem dX5_beginAnew_22 : decode cX5_beginAnew 22 = .ok (.getfield 28, 3) := by decide +kernel
theorem dX5_beginAnew_25 : decode cX5_beginAnew 25 = .ok (.getfield 61, 3) := by decide +kernel
theorem dX5_beginAnew_28 : decode cX5_beginAnew 28 = .ok (.invokevirtual 64, 3) := by decide +kernel
theorem dX5_beginAnew_31 : decode cX5_beginAnew 31 = .ok (.aload_n 0, 1) := by decide +kernel
theorem dX5_beginAnew_32 : decode cX5_beginAnew 32 = .ok (.getfield 44, 3) := by decide +kernel
theorem dX5_beginAnew_35 : decode cX5_beginAnew 35 = .ok (.invokevirtual 64, 3) := by decide +kernel
theorem dX5_beginAnew_38 : decode cX5_beginAnew 38 = .ok (.aload_n 0, 1) := by decide +kernel
theorem dX5_beginAnew_39 : decode cX5_beginAnew 39 = .ok (.iconst 5, 1) := by decide +kernel
theorem dX5_beginAnew_40 : decode cX5_beginAnew 40 = .ok (.iconst 4, 1) := by decide +kernel
theorem dX5_beginAnew_41 : decode cX5_beginAnew 41 = .ok (.invokevirtual 67, 3) := by decide +kernel
theorem dX5_beginAnew_44 : decode cX5_beginAnew 44 = .ok (.return_, 1) := by decide +kernel
theorem dX5_replaceCaisson_0 : decode cX5_replaceCaisson 0 = .ok (.aload_n 0, 1) := by decide +kernel
theorem dX5_replaceCaisson_1 : decode cX5_replaceCaisson 1 = .ok (.iload_n 1, 1) := by decide +kernel
theorem dX5_replaceCaisson_2 : decode cX5_replaceCaisson 2 = .ok (.putfield 71, 3) := by decide +kernel
theorem dX5_replaceCaisson_5 : decode cX5_replaceCaisson 5 = .ok (.aload_n 0, 1) := by decide +kernel
theorem dX5_replaceCaisson_6 : decode cX5_replaceCaisson 6 = .ok (.iload_n 2, 1) := by decide +kernel
theorem dX5_replaceCaisson_7 : decode cX5_replaceCaisson 7 = .ok (.putfield 74, 3) := by decide +kernel
theorem dX5_replaceCaisson_10 : decode cX5_replaceCaisson 10 = .ok (.aload_n 0, 1) := by decide +kernel
theorem dX5_replaceCaisson_11 : decode cX5_replaceCaisson 11 = .ok (.getfield 21, 3) := by decide +kernel
theorem dX5_replaceCaisson_14 : decode cX5_replaceCaisson 14 = .ok (.invokevirtual 77, 3) := by decide +kernel
theorem dX5_replaceCaisson_17 : decode cX5_replaceCaisson 17 = .ok (.aload_n 0, 1) := by decide +kernel
theorem dX5_replaceCaisson_18 : decode cX5_replaceCaisson 18 = .ok (.getfield 35, 3) := by decide +kernel
theorem dX5_replaceCaisson_21 : decode cX5_replaceCaisson 21 = .ok (.getfield 78, 3) := by decide +kernel
theorem dX5_replaceCaisson_24 : decode cX5_replaceCaisson 24 = .ok (.invokevirtual 64, 3) := by decide +kernel
theorem dX5_replaceCaisson_27 : decode cX5_replaceCaisson 27 = .ok (.iconst 0, 1) := by decide +kernel
theorem dX5_replaceCaisson_28 : decode cX5_replaceCaisson 28 = .ok (.istore_n 3, 1) := by decide +kernel
theorem dX5_replaceCaisson_29 : decode cX5_replaceCaisson 29 = .ok (.iload_n 3, 1) := by decide +kernel
theorem dX5_replaceCaisson_30 : decode cX5_replaceCaisson 30 = .ok (.aload_n 0, 1) := by decide +kernel
theorem dX5_replaceCaisson_31 : decode cX5_replaceCaisson 31 = .ok (.getfield 9, 3) := by decide +kernel
theorem dX5_replaceCaisson_34 : decode cX5_replaceCaisson 34 = .ok (.arraylength, 1) := by decide +kernel
theorem dX5_replaceCaisson_35 : decode cX5_replaceCaisson 35 = .ok (.if_icmp .ge 16, 3) := by decide +kernel
theorem dX5_replaceCaisson_38 : decode cX5_replaceCaisson 38 = .ok (.aload_n 0, 1) := by decide +kernel
theorem dX5_replaceCaisson_39 : decode cX5_replaceCaisson 39 = .ok (.getfield 9, 3) := by decide +kernel
theorem dX5_replaceCaisson_42 : decode cX5_replaceCaisson 42 = .ok (.iload_n 3, 1) := by decide +kernel
theorem dX5_replaceCaisson_43 : decode cX5_replaceCaisson 43 = .ok (.iconst 0, 1) := by decide +kernel
theorem dX5_replaceCaisson_44 : decode cX5_replaceCaisson 44 = .ok (.iastore, 1) := by decide +kernel
theorem dX5_replaceCaisson_45 : decode cX5_replaceCaisson 45 = .ok (.iinc 3 1, 3) := by decide +kernel
theorem dX5_replaceCaisson_48 : decode cX5_replaceCaisson 48 = .ok (.goto (-19), 3) := by decide +kernel
theorem dX5_replaceCaisson_51 : decode cX5_replaceCaisson 51 = .ok (.iconst 0, 1) := by decide +kernel
theorem dX5_replaceCaisson_52 : decode cX5_replaceCaisson 52 = .ok (.istore_n 3, 1) := by decide +kernel
theorem dX5_replaceCaisson_53 : decode cX5_replaceCaisson 53 = .ok (.iload_n 3, 1) := by decide +kernel
theorem dX5_replaceCaisson_54 : decode cX5_replaceCaisson 54 = .ok (.aload_n 0, 1) := by decide +kernel
theorem dX5_replaceCaisson_55 : decode cX5_replaceCaisson 55 = .ok (.getfield 15, 3) := by decide +kernel
theorem dX5_replaceCaisson_58 : decode cX5_replaceCaisson 58 = .ok (.arraylength, 1) := by decide +kernel
theorem dX5_replaceCaisson_59 : decode cX5_replaceCaisson 59 = .ok (.if_icmp .ge 16, 3) := by decide +kernel
theorem dX5_replaceCaisson_62 : decode cX5_replaceCaisson 62 = .ok (.aload_n 0, 1) := by decide +kernel
theorem dX5_replaceCaisson_63 : decode cX5_replaceCaisson 63 = .ok (.getfield 15, 3) := by decide +kernel
theorem dX5_replaceCaisson_66 : decode cX5_replaceCaisson 66 = .ok (.iload_n 3, 1) := by decide +kernel
theorem dX5_replaceCaisson_67 : decode cX5_replaceCaisson 67 = .ok (.iconst 0, 1) := by decide +kernel
theorem dX5_replaceCaisson_68 : decode cX5_replaceCaisson 68 = .ok (.iastore, 1) := by decide +kernel
theorem dX5_replaceCaisson_69 : decode cX5_replaceCaisson 69 = .ok (.iinc 3 1, 3) := by decide +kernel
theorem dX5_replaceCaisson_72 : decode cX5_replaceCaisson 72 = .ok (.goto (-19), 3) := by decide +kernel
theorem dX5_replaceCaisson_75 : decode cX5_replaceCaisson 75 = .ok (.return_, 1) := by decide +kernel
theorem dX5_copyFrom_0 : decode cX5_copyFrom 0 = .ok (.aload_n 0, 1) := by decide +kernel
theorem dX5_copyFrom_1 : decode cX5_copyFrom 1 = .ok (.aload_n 1, 1) := by decide +kernel
theorem dX5_copyFrom_2 : decode cX5_copyFrom 2 = .ok (.getfield 71, 3) := by decide +kernel
theorem dX5_copyFrom_5 : decode cX5_copyFrom 5 = .ok (.putfield 71, 3) := by decide +kernel
theorem dX5_copyFrom_8 : decode cX5_copyFrom 8 = .ok (.aload_n 0, 1) := by decide +kernel
theorem dX5_copyFrom_9 : decode cX5_copyFrom 9 = .ok (.aload_n 1, 1) := by decide +kernel
theorem dX5_copyFrom_10 : decode cX5_copyFrom 10 = .ok (.getfield 74, 3) := by decide +kernel
theorem dX5_copyFrom_13 : decode cX5_copyFrom 13 = .ok (.putfield 74, 3) := by decide +kernel
theorem dX5_copyFrom_16 : decode cX5_copyFrom 16 = .ok (.aload_n 0, 1) := by decide +kernel
theorem dX5_copyFrom_17 : decode cX5_copyFrom 17 = .ok (.aload_n 1, 1) := by decide +kernel
theorem dX5_copyFrom_18 : decode cX5_copyFrom 18 = .ok (.getfield 51, 3) := by decide +kernel
theorem dX5_copyFrom_21 : decode cX5_copyFrom 21 = .ok (.putfield 51, 3) := by decide +kernel
theorem dX5_copyFrom_24 : decode cX5_copyFrom 24 = .ok (.aload_n 0, 1) := by decide +kernel
theorem dX5_copyFrom_25 : decode cX5_copyFrom 25 = .ok (.aload_n 1, 1) := by decide +kernel
theorem dX5_copyFrom_26 : decode cX5_copyFrom 26 = .ok (.getfield 55, 3) := by decide +kernel
theorem dX5_copyFrom_29 : decode cX5_copyFrom 29 = .ok (.putfield 55, 3) := by decide +kernel
theorem dX5_copyFrom_32 : decode cX5_copyFrom 32 = .ok (.aload_n 0, 1) := by decide +kernel
theorem dX5_copyFrom_33 : decode cX5_copyFrom 33 = .ok (.aload_n 1, 1) := by decide +kernel
theorem dX5_copyFrom_34 : decode cX5_copyFrom 34 = .ok (.getfield 58, 3) := by decide +kernel
theorem dX5_copyFrom_37 : decode cX5_copyFrom 37 = .ok (.putfield 58, 3) := by decide +kernel
theorem dX5_copyFrom_40 : decode cX5_copyFrom 40 = .ok (.aload_n 1, 1) := by decide +kernel
theorem dX5_copyFrom_41 : decode cX5_copyFrom 41 = .ok (.getfield 9, 3) := by decide +kernel
theorem dX5_copyFrom_44 : decode cX5_copyFrom 44 = .ok (.iconst 0, 1) := by decide +kernel
theorem dX5_copyFrom_45 : decode cX5_copyFrom 45 = .ok (.aload_n 0, 1) := by decide +kernel
theorem dX5_copyFrom_46 : decode cX5_copyFrom 46 = .ok (.getfield 9, 3) := by decide +kernel
theorem dX5_copyFrom_49 : decode cX5_copyFrom 49 = .ok (.iconst 0, 1) := by decide +kernel
theorem dX5_copyFrom_50 : decode cX5_copyFrom 50 = .ok (.aload_n 0, 1) := by decide +kernel
theorem dX5_copyFrom_51 : decode cX5_copyFrom 51 = .ok (.getfield 9, 3) := by decide +kernel
theorem dX5_copyFrom_54 : decode cX5_copyFrom 54 = .ok (.arraylength, 1) := by decide +kernel
theorem dX5_copyFrom_55 : decode cX5_copyFrom 55 = .ok (.invokestatic 81, 3) := by decide +kernel
theorem dX5_copyFrom_58 : decode cX5_copyFrom 58 = .ok (.aload_n 1, 1) := by decide +kernel
theorem dX5_copyFrom_59 : decode cX5_copyFrom 59 = .ok (.getfield 15, 3) := by decide +kernel
theorem dX5_copyFrom_62 : decode cX5_copyFrom 62 = .ok (.iconst 0, 1) := by decide +kernel
theorem dX5_copyFrom_63 : decode cX5_copyFrom 63 = .ok (.aload_n 0, 1) := by decide +kernel
theorem dX5_copyFrom_64 : decode cX5_copyFrom 64 = .ok (.getfield 15, 3) := by decide +kernel
theorem dX5_copyFrom_67 : decode cX5_copyFrom 67 = .ok (.iconst 0, 1) := by decide +kernel
theorem dX5_copyFrom_68 : decode cX5_copyFrom 68 = .ok (.aload_n 0, 1) := by decide +kernel
theorem dX5_copyFrom_69 : decode cX5_copyFrom 69 = .ok (.getfield 15, 3) := by decide +kernel
theorem dX5_copyFrom_72 : decode cX5_copyFrom 72 = .ok (.arraylength, 1) := by decide +kernel
theorem dX5_copyFrom_73 : decode cX5_copyFrom 73 = .ok (.invokestatic 81, 3) := by decide +kernel
theorem dX5_copyFrom_76 : decode cX5_copyFrom 76 = .ok (.aload_n 0, 1) := by decide +kernel
theorem dX5_copyFrom_77 : decode cX5_copyFrom 77 = .ok (.getfield 21, 3) := by decide +kernel
theorem dX5_copyFrom_80 : decode cX5_copyFrom 80 = .ok (.aload_n 1, 1) := by decide +kernel
theorem dX5_copyFrom_81 : decode cX5_copyFrom 81 = .ok (.getfield 21, 3) := by decide +kernel
theorem dX5_copyFrom_84 : decode cX5_copyFrom 84 = .ok (.invokevirtual 87, 3) := by decide +kernel
theorem dX5_copyFrom_87 : decode cX5_copyFrom 87 = .ok (.aload_n 0, 1) := by decide +kernel
theorem dX5_copyFrom_88 : decode cX5_copyFrom 88 = .ok (.getfield 28, 3) := by decide +kernel
theorem dX5_copyFrom_91 : decode cX5_copyFrom 91 = .ok (.getfield 61, 3) := by decide +kernel
theorem dX5_copyFrom_94 : decode cX5_copyFrom 94 = .ok (.aload_n 1, 1) := by decide +kernel
theorem dX5_copyFrom_95 : decode cX5_copyFrom 95 = .ok (.getfield 28, 3) := by decide +kernel
theorem dX5_copyFrom_98 : decode cX5_copyFrom 98 = .ok (.getfield 61, 3) := by decide +kernel
theorem dX5_copyFrom_101 : decode cX5_copyFrom 101 = .ok (.invokevirtual 91, 3) := by decide +kernel
theorem dX5_copyFrom_104 : decode cX5_copyFrom 104 = .ok (.aload_n 0, 1) := by decide +kernel
theorem dX5_copyFrom_105 : decode cX5_copyFrom 105 = .ok (.getfield 35, 3) := by decide +kernel
theorem dX5_copyFrom_108 : decode cX5_copyFrom 108 = .ok (.getfield 78, 3) := by decide +kernel
theorem dX5_copyFrom_111 : decode cX5_copyFrom 111 = .ok (.aload_n 1, 1) := by decide +kernel
theorem dX5_copyFrom_112 : decode cX5_copyFrom 112 = .ok (.getfield 35, 3) := by decide +kernel
theorem dX5_copyFrom_115 : decode cX5_copyFrom 115 = .ok (.getfield 78, 3) := by decide +kernel
theorem dX5_copyFrom_118 : decode cX5_copyFrom 118 = .ok (.invokevirtual 91, 3) := by decide +kernel
theorem dX5_copyFrom_121 : decode cX5_copyFrom 121 = .ok (.aload_n 0, 1) := by decide +kernel
theorem dX5_copyFrom_122 : decode cX5_copyFrom 122 = .ok (.getfield 44, 3) := by decide +kernel
theorem dX5_copyFrom_125 : decode cX5_copyFrom 125 = .ok (.aload_n 1, 1) := by decide +kernel
theorem dX5_copyFrom_126 : decode cX5_copyFrom 126 = .ok (.getfield 44, 3) := by decide +kernel
theorem dX5_copyFrom_129 : decode cX5_copyFrom 129 = .ok (.invokevirtual 91, 3) := by decide +kernel
theorem dX5_copyFrom_132 : decode cX5_copyFrom 132 = .ok (.return_, 1) := by decide +kernel
theorem dX5_isCell_0 : decode cX5_isCell 0 = .ok (.iload_n 1, 1) := by decide +kernel
theorem dX5_isCell_1 : decode cX5_isCell 1 = .ok (.ifCond .lt 20, 3) := by decide +kernel
theorem dX5_isCell_4 : decode cX5_isCell 4 = .ok (.iload_n 1, 1) := by decide +kernel
theorem dX5_isCell_5 : decode cX5_isCell 5 = .ok (.aload_n 0, 1) := by decide +kernel
theorem dX5_isCell_6 : decode cX5_isCell 6 = .ok (.getfield 71, 3) := by decide +kernel
theorem dX5_isCell_9 : decode cX5_isCell 9 = .ok (.aload_n 0, 1) := by decide +kernel
theorem dX5_isCell_10 : decode cX5_isCell 10 = .ok (.getfield 74, 3) := by decide +kernel
theorem dX5_isCell_13 : decode cX5_isCell 13 = .ok (.imul, 1) := by decide +kernel
theorem dX5_isCell_14 : decode cX5_isCell 14 = .ok (.if_icmp .ge 7, 3) := by decide +kernel
theorem dX5_isCell_17 : decode cX5_isCell 17 = .ok (.iconst 1, 1) := by decide +kernel
theorem dX5_isCell_18 : decode cX5_isCell 18 = .ok (.goto 4, 3) := by decide +kernel
theorem dX5_isCell_21 : decode cX5_isCell 21 = .ok (.iconst 0, 1) := by decide +kernel
theorem dX5_isCell_22 : decode cX5_isCell 22 = .ok (.ireturn, 1) := by decide +kernel
theorem dX5_isEdge_0 : decode cX5_isEdge 0 = .ok (.aload_n 0, 1) := by decide +kernel
theorem dX5_isEdge_1 : decode cX5_isEdge 1 = .ok (.iload_n 1, 1) := by decide +kernel
theorem dX5_isEdge_2 : decode cX5_isEdge 2 = .ok (.invokevirtual 94, 3) := by decide +kernel
theorem dX5_isEdge_5 : decode cX5_isEdge 5 = .ok (.ifCond .eq 24, 3) := by decide +kernel
theorem dX5_isEdge_8 : decode cX5_isEdge 8 = .ok (.aload_n 0, 1) := by decide +kernel
theorem dX5_isEdge_9 : decode cX5_isEdge 9 = .ok (.aload_n 0, 1) := by decide +kernel
theorem dX5_isEdge_10 : decode cX5_isEdge 10 = .ok (.iload_n 1, 1) := by decide +kernel
theorem dX5_isEdge_11 : decode cX5_isEdge 11 = .ok (.invokevirtual 98, 3) := by decide +kernel
theorem dX5_isEdge_14 : decode cX5_isEdge 14 = .ok (.aload_n 0, 1) := by decide +kernel
theorem dX5_isEdge_15 : decode cX5_isEdge 15 = .ok (.iload_n 1, 1) := by decide +kernel
theorem dX5_isEdge_16 : decode cX5_isEdge 16 = .ok (.invokevirtual 102, 3) := by decide +kernel
theorem dX5_isEdge_19 : decode cX5_isEdge 19 = .ok (.invokevirtual 105, 3) := by decide +kernel
theorem dX5_isEdge_22 : decode cX5_isEdge 22 = .ok (.ifCond .eq 7, 3) := by decide +kernel
theorem dX5_isEdge_25 : decode cX5_isEdge 25 = .ok (.iconst 1, 1) := by decide +kernel
theorem dX5_isEdge_26 : decode cX5_isEdge 26 = .ok (.goto 4, 3) := by decide +kernel
theorem dX5_isEdge_29 : decode cX5_isEdge 29 = .ok (.iconst 0, 1) := by decide +kernel
theorem dX5_isEdge_30 : decode cX5_isEdge 30 = .ok (.ireturn, 1) := by decide +kernel
theorem dX5_isWell_0 : decode cX5_isWell 0 = .ok (.aload_n 0, 1) := by decide +kernel
theorem dX5_isWell_1 : decode cX5_isWell 1 = .ok (.iload_n 1, 1) := by decide +kernel
theorem dX5_isWell_2 : decode cX5_isWell 2 = .ok (.invokevirtual 94, 3) := by decide +kernel
theorem dX5_isWell_5 : decode cX5_isWell 5 = .ok (.ifCond .eq 24, 3) := by decide +kernel
theorem dX5_isWell_8 : decode cX5_isWell 8 = .ok (.aload_n 0, 1) := by decide +kernel
theorem dX5_isWell_9 : decode cX5_isWell 9 = .ok (.aload_n 0, 1) := by decide +kernel
theorem dX5_isWell_10 : decode cX5_isWell 10 = .ok (.iload_n 1, 1) := by decide +kernel
theorem dX5_isWell_11 : decode cX5_isWell 11 = .ok (.invokevirtual 98, 3) := by decide +kernel
theorem dX5_isWell_14 : decode cX5_isWell 14 = .ok (.aload_n 0, 1) := by decide +kernel
theorem dX5_isWell_15 : decode cX5_isWell 15 = .ok (.iload_n 1, 1) := by decide +kernel
theorem dX5_isWell_16 : decode cX5_isWell 16 = .ok (.invokevirtual 102, 3) := by decide +kernel
theorem dX5_isWell_19 : decode cX5_isWell 19 = .ok (.invokevirtual 105, 3) := by decide +kernel
theorem dX5_isWell_22 : decode cX5_isWell 22 = .ok (.ifCond .ne 7, 3) := by decide +kernel
theorem dX5_isWell_25 : decode cX5_isWell 25 = .ok (.iconst 1, 1) := by decide +kernel
theorem dX5_isWell_26 : decode cX5_isWell 26 = .ok (.goto 4, 3) := by decide +kernel
theorem dX5_isWell_29 : decode cX5_isWell 29 = .ok (.iconst 0, 1) := by decide +kernel
theorem dX5_isWell_30 : decode cX5_isWell 30 = .ok (.ireturn, 1) := by decide +kernel
theorem dX5_isEdgeAt_0 : decode cX5_isEdgeAt 0 = .ok (.iload_n 1, 1) := by decide +kernel
theorem dX5_isEdgeAt_1 : decode cX5_isEdgeAt 1 = .ok (.ifCond .eq 27, 3) := by decide +kernel
theorem dX5_isEdgeAt_4 : decode cX5_isEdgeAt 4 = .ok (.iload_n 1, 1) := by decide +kernel
theorem dX5_isEdgeAt_5 : decode cX5_isEdgeAt 5 = .ok (.aload_n 0, 1) := by decide +kernel
theorem dX5_isEdgeAt_6 : decode cX5_isEdgeAt 6 = .ok (.getfield 71, 3) := by decide +kernel
theorem dX5_isEdgeAt_9 : decode cX5_isEdgeAt 9 = .ok (.iconst 1, 1) := by decide +kernel
theorem dX5_isEdgeAt_10 : decode cX5_isEdgeAt 10 = .ok (.isub, 1) := by decide +kernel
theorem dX5_isEdgeAt_11 : decode cX5_isEdgeAt 11 = .ok (.if_icmp .eq 17, 3) := by decide +kernel
theorem dX5_isEdgeAt_14 : decode cX5_isEdgeAt 14 = .ok (.iload_n 2, 1) := by decide +kernel
theorem dX5_isEdgeAt_15 : decode cX5_isEdgeAt 15 = .ok (.ifCond .eq 13, 3) := by decide +kernel
theorem dX5_isEdgeAt_18 : decode cX5_isEdgeAt 18 = .ok (.iload_n 2, 1) := by decide +kernel
theorem dX5_isEdgeAt_19 : decode cX5_isEdgeAt 19 = .ok (.aload_n 0, 1) := by decide +kernel
theorem dX5_isEdgeAt_20 : decode cX5_isEdgeAt 20 = .ok (.getfield 74, 3) := by decide +kernel
theorem dX5_isEdgeAt_23 : decode cX5_isEdgeAt 23 = .ok (.iconst 1, 1) := by decide +kernel
theorem dX5_isEdgeAt_24 : decode cX5_isEdgeAt 24 = .ok (.isub, 1) := by decide +kernel
theorem dX5_isEdgeAt_25 : decode cX5_isEdgeAt 25 = .ok (.if_icmp .ne 7, 3) := by decide +kernel
theorem dX5_isEdgeAt_28 : decode cX5_isEdgeAt 28 = .ok (.iconst 1, 1) := by decide +kernel
theorem dX5_isEdgeAt_29 : decode cX5_isEdgeAt 29 = .ok (.goto 4, 3) := by decide +kernel
theorem dX5_isEdgeAt_32 : decode cX5_isEdgeAt 32 = .ok (.iconst 0, 1) := by decide +kernel
theorem dX5_isEdgeAt_33 : decode cX5_isEdgeAt 33 = .ok (.ireturn, 1) := by decide +kernel
theorem dX5_isOnSide_0 : decode cX5_isOnSide 0 = .ok (.iload_n 1, 1) := by decide +kernel
theorem dX5_isOnSide_1 : decode cX5_isOnSide 1 = .ok (.tableswitch 83 0 3 #[31, 41, 57, 67], 31) := by decide +kernel
theorem dX5_isOnSide_32 : decode cX5_isOnSide 32 = .ok (.iload_n 2, 1) := by decide +kernel
theorem dX5_isOnSide_33 : decode cX5_isOnSide 33 = .ok (.ifCond .ne 7, 3) := by decide +kernel
theorem dX5_isOnSide_36 : decode cX5_isOnSide 36 = .ok (.iconst 1, 1) := by decide +kernel
theorem dX5_isOnSide_37 : decode cX5_isOnSide 37 = .ok (.goto 4, 3) := by decide +kernel
theorem dX5_isOnSide_40 : decode cX5_isOnSide 40 = .ok (.iconst 0, 1) := by decide +kernel
theorem dX5_isOnSide_41 : decode cX5_isOnSide 41 = .ok (.ireturn, 1) := by decide +kernel
theorem dX5_isOnSide_42 : decode cX5_isOnSide 42 = .ok (.iload_n 2, 1) := by decide +kernel
theorem dX5_isOnSide_43 : decode cX5_isOnSide 43 = .ok (.aload_n 0, 1) := by decide +kernel
theorem dX5_isOnSide_44 : decode cX5_isOnSide 44 = .ok (.getfield 71, 3) := by decide +kernel
theorem dX5_isOnSide_47 : decode cX5_isOnSide 47 = .ok (.iconst 1, 1) := by decide +kernel
theorem dX5_isOnSide_48 : decode cX5_isOnSide 48 = .ok (.isub, 1) := by decide +kernel
theorem dX5_isOnSide_49 : decode cX5_isOnSide 49 = .ok (.if_icmp .ne 7, 3) := by decide +kernel
theorem dX5_isOnSide_52 : decode cX5_isOnSide 52 = .ok (.iconst 1, 1) := by decide +kernel
theorem dX5_isOnSide_53 : decode cX5_isOnSide 53 = .ok (.goto 4, 3) := by decide +kernel
theorem dX5_isOnSide_56 : decode cX5_isOnSide 56 = .ok (.iconst 0, 1) := by decide +kernel
theorem dX5_isOnSide_57 : decode cX5_isOnSide 57 = .ok (.ireturn, 1) := by decide +kernel
theorem dX5_isOnSide_58 : decode cX5_isOnSide 58 = .ok (.iload_n 3, 1) := by decide +kernel
theorem dX5_isOnSide_59 : decode cX5_isOnSide 59 = .ok (.ifCond .ne 7, 3) := by decide +kernel
theorem dX5_isOnSide_62 : decode cX5_isOnSide 62 = .ok (.iconst 1, 1) := by decide +kernel
theorem dX5_isOnSide_63 : decode cX5_isOnSide 63 = .ok (.goto 4, 3) := by decide +kernel
theorem dX5_isOnSide_66 : decode cX5_isOnSide 66 = .ok (.iconst 0, 1) := by decide +kernel
theorem dX5_isOnSide_67 : decode cX5_isOnSide 67 = .ok (.ireturn, 1) := by decide +kernel
theorem dX5_isOnSide_68 : decode cX5_isOnSide 68 = .ok (.iload_n 3, 1) := by decide +kernel
theorem dX5_isOnSide_69 : decode cX5_isOnSide 69 = .ok (.aload_n 0, 1) := by decide +kernel
theorem dX5_isOnSide_70 : decode cX5_isOnSide 70 = .ok (.getfield 74, 3) := by decide +kernel
theorem dX5_isOnSide_73 : decode cX5_isOnSide 73 = .ok (.iconst 1, 1) := by decide +kernel
theorem dX5_isOnSide_74 : decode cX5_isOnSide 74 = .ok (.isub, 1) := by decide +kernel
theorem dX5_isOnSide_75 : decode cX5_isOnSide 75 = .ok (.if_icmp .ne 7, 3) := by decide +kernel
theorem dX5_isOnSide_78 : decode cX5_isOnSide 78 = .ok (.iconst 1, 1) := by decide +kernel
theorem dX5_isOnSide_79 : decode cX5_isOnSide 79 = .ok (.goto 4, 3) := by decide +kernel
theorem dX5_isOnSide_82 : decode cX5_isOnSide 82 = .ok (.iconst 0, 1) := by decide +kernel
theorem dX5_isOnSide_83 : decode cX5_isOnSide 83 = .ok (.ireturn, 1) := by decide +kernel
theorem dX5_isOnSide_84 : decode cX5_isOnSide 84 = .ok (.iconst 0, 1) := by decide +kernel
theorem dX5_isOnSide_85 : decode cX5_isOnSide 85 = .ok (.ireturn, 1) := by decide +kernel
theorem dX5_lengthOfSide_0 : decode cX5_lengthOfSide 0 = .ok (.iload_n 1, 1) := by decide +kernel
theorem dX5_lengthOfSide_1 : decode cX5_lengthOfSide 1 = .ok (.ifCond .eq 8, 3) := by decide +kernel
theorem dX5_lengthOfSide_4 : decode cX5_lengthOfSide 4 = .ok (.iload_n 1, 1) := by decide +kernel
theorem dX5_lengthOfSide_5 : decode cX5_lengthOfSide 5 = .ok (.iconst 1, 1) := by decide +kernel
theorem dX5_lengthOfSide_6 : decode cX5_lengthOfSide 6 = .ok (.if_icmp .ne 10, 3) := by decide +kernel
theorem dX5_lengthOfSide_9 : decode cX5_lengthOfSide 9 = .ok (.aload_n 0, 1) := by decide +kernel
theorem dX5_lengthOfSide_10 : decode cX5_lengthOfSide 10 = .ok (.getfield 74, 3) := by decide +kernel
theorem dX5_lengthOfSide_13 : decode cX5_lengthOfSide 13 = .ok (.goto 7, 3) := by decide +kernel
theorem dX5_lengthOfSide_16 : decode cX5_lengthOfSide 16 = .ok (.aload_n 0, 1) := by decide +kernel
theorem dX5_lengthOfSide_17 : decode cX5_lengthOfSide 17 = .ok (.getfield 71, 3) := by decide +kernel
theorem dX5_lengthOfSide_20 : decode cX5_lengthOfSide 20 = .ok (.ireturn, 1) := by decide +kernel
theorem dX5_edgeCount_0 : decode cX5_edgeCount 0 = .ok (.iconst 2, 1) := by decide +kernel
theorem dX5_edgeCount_1 : decode cX5_edgeCount 1 = .ok (.aload_n 0, 1) := by decide +kernel
theorem dX5_edgeCount_2 : decode cX5_edgeCount 2 = .ok (.getfield 71, 3) := by decide +kernel
theorem dX5_edgeCount_5 : decode cX5_edgeCount 5 = .ok (.aload_n 0, 1) := by decide +kernel
theorem dX5_edgeCount_6 : decode cX5_edgeCount 6 = .ok (.getfield 74, 3) := by decide +kernel
theorem dX5_edgeCount_9 : decode cX5_edgeCount 9 = .ok (.iadd, 1) := by decide +kernel
theorem dX5_edgeCount_10 : decode cX5_edgeCount 10 = .ok (.imul, 1) := by decide +kernel
theorem dX5_edgeCount_11 : decode cX5_edgeCount 11 = .ok (.iconst 4, 1) := by decide +kernel
theorem dX5_edgeCount_12 : decode cX5_edgeCount 12 = .ok (.isub, 1) := by decide +kernel
theorem dX5_edgeCount_13 : decode cX5_edgeCount 13 = .ok (.ireturn, 1) := by decide +kernel
theorem dX5_columnOf_0 : decode cX5_columnOf 0 = .ok (.aload_n 0, 1) := by decide +kernel
theorem dX5_columnOf_1 : decode cX5_columnOf 1 = .ok (.getfield 71, 3) := by decide +kernel
theorem dX5_columnOf_4 : decode cX5_columnOf 4 = .ok (.ifCond .le 12, 3) := by decide +kernel
theorem dX5_columnOf_7 : decode cX5_columnOf 7 = .ok (.iload_n 1, 1) := by decide +kernel
theorem dX5_columnOf_8 : decode cX5_columnOf 8 = .ok (.aload_n 0, 1) := by decide +kernel
theorem dX5_columnOf_9 : decode cX5_columnOf 9 = .ok (.getfield 71, 3) := by decide +kernel
theorem dX5_columnOf_12 : decode cX5_columnOf 12 = .ok (.irem, 1) := by decide +kernel
theorem dX5_columnOf_13 : decode cX5_columnOf 13 = .ok (.goto 4, 3) := by decide +kernel
theorem dX5_columnOf_16 : decode cX5_columnOf 16 = .ok (.iconst 0, 1) := by decide +kernel
theorem dX5_columnOf_17 : decode cX5_columnOf 17 = .ok (.ireturn, 1) := by decide +kernel
theorem dX5_rowOf_0 : decode cX5_rowOf 0 = .ok (.aload_n 0, 1) := by decide +kernel
theorem dX5_rowOf_1 : decode cX5_rowOf 1 = .ok (.getfield 71, 3) := by decide +kernel
theorem dX5_rowOf_4 : decode cX5_rowOf 4 = .ok (.ifCond .le 12, 3) := by decide +kernel
theorem dX5_rowOf_7 : decode cX5_rowOf 7 = .ok (.iload_n 1, 1) := by decide +kernel
theorem dX5_rowOf_8 : decode cX5_rowOf 8 = .ok (.aload_n 0, 1) := by decide +kernel
theorem dX5_rowOf_9 : decode cX5_rowOf 9 = .ok (.getfield 71, 3) := by decide +kernel
theorem dX5_rowOf_12 : decode cX5_rowOf 12 = .ok (.idiv, 1) := by decide +kernel
theorem dX5_rowOf_13 : decode cX5_rowOf 13 = .ok (.goto 4, 3) := by decide +kernel
theorem dX5_rowOf_16 : decode cX5_rowOf 16 = .ok (.iconst 0, 1) := by decide +kernel
theorem dX5_rowOf_17 : decode cX5_rowOf 17 = .ok (.ireturn, 1) := by decide +kernel
theorem dX5_wellBeside_0 : decode cX5_wellBeside 0 = .ok (.iload_n 1, 1) := by decide +kernel
theorem dX5_wellBeside_1 : decode cX5_wellBeside 1 = .ok (.ifCond .ne 7, 3) := by decide +kernel
theorem dX5_wellBeside_4 : decode cX5_wellBeside 4 = .ok (.iconst 1, 1) := by decide +kernel
theorem dX5_wellBeside_5 : decode cX5_wellBeside 5 = .ok (.goto 23, 3) := by decide +kernel
theorem dX5_wellBeside_8 : decode cX5_wellBeside 8 = .ok (.iload_n 1, 1) := by decide +kernel
theorem dX5_wellBeside_9 : decode cX5_wellBeside 9 = .ok (.aload_n 0, 1) := by decide +kernel
theorem dX5_wellBeside_10 : decode cX5_wellBeside 10 = .ok (.getfield 71, 3) := by decide +kernel
theorem dX5_wellBeside_13 : decode cX5_wellBeside 13 = .ok (.iconst 1, 1) := by decide +kernel
theorem dX5_wellBeside_14 : decode cX5_wellBeside 14 = .ok (.isub, 1) := by decide +kernel
theorem dX5_wellBeside_15 : decode cX5_wellBeside 15 = .ok (.if_icmp .ne 12, 3) := by decide +kernel
theorem dX5_wellBeside_18 : decode cX5_wellBeside 18 = .ok (.aload_n 0, 1) := by decide +kernel
theorem dX5_wellBeside_19 : decode cX5_wellBeside 19 = .ok (.getfield 71, 3) := by decide +kernel
theorem dX5_wellBeside_22 : decode cX5_wellBeside 22 = .ok (.iconst 2, 1) := by decide +kernel
theorem dX5_wellBeside_23 : decode cX5_wellBeside 23 = .ok (.isub, 1) := by decide +kernel
theorem dX5_wellBeside_24 : decode cX5_wellBeside 24 = .ok (.goto 4, 3) := by decide +kernel
theorem dX5_wellBeside_27 : decode cX5_wellBeside 27 = .ok (.iload_n 1, 1) := by decide +kernel
theorem dX5_wellBeside_28 : decode cX5_wellBeside 28 = .ok (.istore_n 3, 1) := by decide +kernel
theorem dX5_wellBeside_29 : decode cX5_wellBeside 29 = .ok (.iload_n 2, 1) := by decide +kernel
theorem dX5_wellBeside_30 : decode cX5_wellBeside 30 = .ok (.ifCond .ne 7, 3) := by decide +kernel
theorem dX5_wellBeside_33 : decode cX5_wellBeside 33 = .ok (.iconst 1, 1) := by decide +kernel
theorem dX5_wellBeside_34 : decode cX5_wellBeside 34 = .ok (.goto 23, 3) := by decide +kernel
theorem dX5_wellBeside_37 : decode cX5_wellBeside 37 = .ok (.iload_n 2, 1) := by decide +kernel
theorem dX5_wellBeside_38 : decode cX5_wellBeside 38 = .ok (.aload_n 0, 1) := by decide +kernel
theorem dX5_wellBeside_39 : decode cX5_wellBeside 39 = .ok (.getfield 74, 3) := by decide +kernel
theorem dX5_wellBeside_42 : decode cX5_wellBeside 42 = .ok (.iconst 1, 1) := by decide +kernel
theorem dX5_wellBeside_43 : decode cX5_wellBeside 43 = .ok (.isub, 1) := by decide +kernel
theorem dX5_wellBeside_44 : decode cX5_wellBeside 44 = .ok (.if_icmp .ne 12, 3) := by decide +kernel
theorem dX5_wellBeside_47 : decode cX5_wellBeside 47 = .ok (.aload_n 0, 1) := by decide +kernel
theorem dX5_wellBeside_48 : decode cX5_wellBeside 48 = .ok (.getfield 74, 3) := by decide +kernel
theorem dX5_wellBeside_51 : decode cX5_wellBeside 51 = .ok (.iconst 2, 1) := by decide +kernel
theorem dX5_wellBeside_52 : decode cX5_wellBeside 52 = .ok (.isub, 1) := by decide +kernel
theorem dX5_wellBeside_53 : decode cX5_wellBeside 53 = .ok (.goto 4, 3) := by decide +kernel
theorem dX5_wellBeside_56 : decode cX5_wellBeside 56 = .ok (.iload_n 2, 1) := by decide +kernel
theorem dX5_wellBeside_57 : decode cX5_wellBeside 57 = .ok (.istore 4, 2) := by decide +kernel
theorem dX5_wellBeside_59 : decode cX5_wellBeside 59 = .ok (.iload 4, 2) := by decide +kernel
theorem dX5_wellBeside_61 : decode cX5_wellBeside 61 = .ok (.aload_n 0, 1) := by decide +kernel
theorem dX5_wellBeside_62 : decode cX5_wellBeside 62 = .ok (.getfield 71, 3) := by decide +kernel
theorem dX5_wellBeside_65 : decode cX5_wellBeside 65 = .ok (.imul, 1) := by decide +kernel
theorem dX5_wellBeside_66 : decode cX5_wellBeside 66 = .ok (.iload_n 3, 1) := by decide +kernel
theorem dX5_wellBeside_67 : decode cX5_wellBeside 67 = .ok (.iadd, 1) := by decide +kernel
theorem dX5_wellBeside_68 : decode cX5_wellBeside 68 = .ok (.ireturn, 1) := by decide +kernel
theorem dX5_ballastOf_0 : decode cX5_ballastOf 0 = .ok (.iload_n 1, 1) := by decide +kernel
theorem dX5_ballastOf_1 : decode cX5_ballastOf 1 = .ok (.ifCond .lt 21, 3) := by decide +kernel
theorem dX5_ballastOf_4 : decode cX5_ballastOf 4 = .ok (.iload_n 1, 1) := by decide +kernel
theorem dX5_ballastOf_5 : decode cX5_ballastOf 5 = .ok (.aload_n 0, 1) := by decide +kernel
theorem dX5_ballastOf_6 : decode cX5_ballastOf 6 = .ok (.getfield 9, 3) := by decide +kernel
theorem dX5_ballastOf_9 : decode cX5_ballastOf 9 = .ok (.arraylength, 1) := by decide +kernel
theorem dX5_ballastOf_10 : decode cX5_ballastOf 10 = .ok (.if_icmp .ge 12, 3) := by decide +kernel
theorem dX5_ballastOf_13 : decode cX5_ballastOf 13 = .ok (.aload_n 0, 1) := by decide +kernel
theorem dX5_ballastOf_14 : decode cX5_ballastOf 14 = .ok (.getfield 9, 3) := by decide +kernel
theorem dX5_ballastOf_17 : decode cX5_ballastOf 17 = .ok (.iload_n 1, 1) := by decide +kernel
theorem dX5_ballastOf_18 : decode cX5_ballastOf 18 = .ok (.iaload, 1) := by decide +kernel
theorem dX5_ballastOf_19 : decode cX5_ballastOf 19 = .ok (.goto 4, 3) := by decide +kernel
theorem dX5_ballastOf_22 : decode cX5_ballastOf 22 = .ok (.iconst 0, 1) := by decide +kernel
theorem dX5_ballastOf_23 : decode cX5_ballastOf 23 = .ok (.ireturn, 1) := by decide +kernel
theorem dX5_putBallast_0 : decode cX5_putBallast 0 = .ok (.iload_n 1, 1) := by decide +kernel
theorem dX5_putBallast_1 : decode cX5_putBallast 1 = .ok (.ifCond .lt 19, 3) := by decide +kernel
theorem dX5_putBallast_4 : decode cX5_putBallast 4 = .ok (.iload_n 1, 1) := by decide +kernel
theorem dX5_putBallast_5 : decode cX5_putBallast 5 = .ok (.aload_n 0, 1) := by decide +kernel
theorem dX5_putBallast_6 : decode cX5_putBallast 6 = .ok (.getfield 9, 3) := by decide +kernel
theorem dX5_putBallast_9 : decode cX5_putBallast 9 = .ok (.arraylength, 1) := by decide +kernel
theorem dX5_putBallast_10 : decode cX5_putBallast 10 = .ok (.if_icmp .ge 10, 3) := by decide +kernel
theorem dX5_putBallast_13 : decode cX5_putBallast 13 = .ok (.aload_n 0, 1) := by decide +kernel
theorem dX5_putBallast_14 : decode cX5_putBallast 14 = .ok (.getfield 9, 3) := by decide +kernel
theorem dX5_putBallast_17 : decode cX5_putBallast 17 = .ok (.iload_n 1, 1) := by decide +kernel
theorem dX5_putBallast_18 : decode cX5_putBallast 18 = .ok (.iload_n 2, 1) := by decide +kernel
theorem dX5_putBallast_19 : decode cX5_putBallast 19 = .ok (.iastore, 1) := by decide +kernel
theorem dX5_putBallast_20 : decode cX5_putBallast 20 = .ok (.return_, 1) := by decide +kernel
theorem dX5_totalBallast_0 : decode cX5_totalBallast 0 = .ok (.iconst 0, 1) := by decide +kernel
theorem dX5_totalBallast_1 : decode cX5_totalBallast 1 = .ok (.istore_n 1, 1) := by decide +kernel
theorem dX5_totalBallast_2 : decode cX5_totalBallast 2 = .ok (.iconst 0, 1) := by decide +kernel
theorem dX5_totalBallast_3 : decode cX5_totalBallast 3 = .ok (.istore_n 2, 1) := by decide +kernel
theorem dX5_totalBallast_4 : decode cX5_totalBallast 4 = .ok (.iload_n 2, 1) := by decide +kernel
theorem dX5_totalBallast_5 : decode cX5_totalBallast 5 = .ok (.aload_n 0, 1) := by decide +kernel
theorem dX5_totalBallast_6 : decode cX5_totalBallast 6 = .ok (.getfield 9, 3) := by decide +kernel
theorem dX5_totalBallast_9 : decode cX5_totalBallast 9 = .ok (.arraylength, 1) := by decide +kernel
theorem dX5_totalBallast_10 : decode cX5_totalBallast 10 = .ok (.if_icmp .ge 18, 3) := by decide +kernel
theorem dX5_totalBallast_13 : decode cX5_totalBallast 13 = .ok (.iload_n 1, 1) := by decide +kernel
theorem dX5_totalBallast_14 : decode cX5_totalBallast 14 = .ok (.aload_n 0, 1) := by decide +kernel
theorem dX5_totalBallast_15 : decode cX5_totalBallast 15 = .ok (.getfield 9, 3) := by decide +kernel
theorem dX5_totalBallast_18 : decode cX5_totalBallast 18 = .ok (.iload_n 2, 1) := by decide +kernel
theorem dX5_totalBallast_19 : decode cX5_totalBallast 19 = .ok (.iaload, 1) := by decide +kernel
theorem dX5_totalBallast_20 : decode cX5_totalBallast 20 = .ok (.iadd, 1) := by decide +kernel
theorem dX5_totalBallast_21 : decode cX5_totalBallast 21 = .ok (.istore_n 1, 1) := by decide +kernel
theorem dX5_totalBallast_22 : decode cX5_totalBallast 22 = .ok (.iinc 2 1, 3) := by decide +kernel
theorem dX5_totalBallast_25 : decode cX5_totalBallast 25 = .ok (.goto (-21), 3) := by decide +kernel
theorem dX5_totalBallast_28 : decode cX5_totalBallast 28 = .ok (.iload_n 1, 1) := by decide +kernel
theorem dX5_totalBallast_29 : decode cX5_totalBallast 29 = .ok (.ireturn, 1) := by decide +kernel
theorem dX5_lubricatedSides_0 : decode cX5_lubricatedSides 0 = .ok (.iconst 0, 1) := by decide +kernel
theorem dX5_lubricatedSides_1 : decode cX5_lubricatedSides 1 = .ok (.istore_n 1, 1) := by decide +kernel
theorem dX5_lubricatedSides_2 : decode cX5_lubricatedSides 2 = .ok (.iconst 0, 1) := by decide +kernel
theorem dX5_lubricatedSides_3 : decode cX5_lubricatedSides 3 = .ok (.istore_n 2, 1) := by decide +kernel
theorem dX5_lubricatedSides_4 : decode cX5_lubricatedSides 4 = .ok (.iload_n 2, 1) := by decide +kernel
theorem dX5_lubricatedSides_5 : decode cX5_lubricatedSides 5 = .ok (.aload_n 0, 1) := by decide +kernel
theorem dX5_lubricatedSides_6 : decode cX5_lubricatedSides 6 = .ok (.getfield 15, 3) := by decide +kernel
theorem dX5_lubricatedSides_9 : decode cX5_lubricatedSides 9 = .ok (.arraylength, 1) := by decide +kernel
theorem dX5_lubricatedSides_10 : decode cX5_lubricatedSides 10 = .ok (.if_icmp .ge 18, 3) := by decide +kernel
theorem dX5_lubricatedSides_13 : decode cX5_lubricatedSides 13 = .ok (.iload_n 1, 1) := by decide +kernel
theorem dX5_lubricatedSides_14 : decode cX5_lubricatedSides 14 = .ok (.aload_n 0, 1) := by decide +kernel
theorem dX5_lubricatedSides_15 : decode cX5_lubricatedSides 15 = .ok (.getfield 15, 3) := by decide +kernel
theorem dX5_lubricatedSides_18 : decode cX5_lubricatedSides 18 = .ok (.iload_n 2, 1) := by decide +kernel
theorem dX5_lubricatedSides_19 : decode cX5_lubricatedSides 19 = .ok (.iaload, 1) := by decide +kernel
theorem dX5_lubricatedSides_20 : decode cX5_lubricatedSides 20 = .ok (.iadd, 1) := by decide +kernel
theorem dX5_lubricatedSides_21 : decode cX5_lubricatedSides 21 = .ok (.istore_n 1, 1) := by decide +kernel
theorem dX5_lubricatedSides_22 : decode cX5_lubricatedSides 22 = .ok (.iinc 2 1, 3) := by decide +kernel
theorem dX5_lubricatedSides_25 : decode cX5_lubricatedSides 25 = .ok (.goto (-21), 3) := by decide +kernel
theorem dX5_lubricatedSides_28 : decode cX5_lubricatedSides 28 = .ok (.iload_n 1, 1) := by decide +kernel
theorem dX5_lubricatedSides_29 : decode cX5_lubricatedSides 29 = .ok (.ireturn, 1) := by decide +kernel
theorem dX5_skinFactor_0 : decode cX5_skinFactor 0 = .ok (.iload_n 1, 1) := by decide +kernel
theorem dX5_skinFactor_1 : decode cX5_skinFactor 1 = .ok (.ifCond .ne 13, 3) := by decide +kernel
theorem dX5_skinFactor_4 : decode cX5_skinFactor 4 = .ok (.aload_n 0, 1) := by decide +kernel
theorem dX5_skinFactor_5 : decode cX5_skinFactor 5 = .ok (.getfield 15, 3) := by decide +kernel
theorem dX5_skinFactor_8 : decode cX5_skinFactor 8 = .ok (.iconst 0, 1) := by decide +kernel
theorem dX5_skinFactor_9 : decode cX5_skinFactor 9 = .ok (.iaload, 1) := by decide +kernel
theorem dX5_skinFactor_10 : decode cX5_skinFactor 10 = .ok (.iconst 1, 1) := by decide +kernel
theorem dX5_skinFactor_11 : decode cX5_skinFactor 11 = .ok (.if_icmp .eq 57, 3) := by decide +kernel
theorem dX5_skinFactor_14 : decode cX5_skinFactor 14 = .ok (.iload_n 1, 1) := by decide +kernel
theorem dX5_skinFactor_15 : decode cX5_skinFactor 15 = .ok (.aload_n 0, 1) := by decide +kernel
theorem dX5_skinFactor_16 : decode cX5_skinFactor 16 = .ok (.getfield 71, 3) := by decide +kernel
theorem dX5_skinFactor_19 : decode cX5_skinFactor 19 = .ok (.iconst 1, 1) := by decide +kernel
theorem dX5_skinFactor_20 : decode cX5_skinFactor 20 = .ok (.isub, 1) := by decide +kernel
theorem dX5_skinFactor_21 : decode cX5_skinFactor 21 = .ok (.if_icmp .ne 13, 3) := by decide +kernel
theorem dX5_skinFactor_24 : decode cX5_skinFactor 24 = .ok (.aload_n 0, 1) := by decide +kernel
theorem dX5_skinFactor_25 : decode cX5_skinFactor 25 = .ok (.getfield 15, 3) := by decide +kernel
theorem dX5_skinFactor_28 : decode cX5_skinFactor 28 = .ok (.iconst 1, 1) := by decide +kernel
theorem dX5_skinFactor_29 : decode cX5_skinFactor 29 = .ok (.iaload, 1) := by decide +kernel
theorem dX5_skinFactor_30 : decode cX5_skinFactor 30 = .ok (.iconst 1, 1) := by decide +kernel
theorem dX5_skinFactor_31 : decode cX5_skinFactor 31 = .ok (.if_icmp .eq 37, 3) := by decide +kernel
theorem dX5_skinFactor_34 : decode cX5_skinFactor 34 = .ok (.iload_n 2, 1) := by decide +kernel
theorem dX5_skinFactor_35 : decode cX5_skinFactor 35 = .ok (.ifCond .ne 13, 3) := by decide +kernel
theorem dX5_skinFactor_38 : decode cX5_skinFactor 38 = .ok (.aload_n 0, 1) := by decide +kernel
theorem dX5_skinFactor_39 : decode cX5_skinFactor 39 = .ok (.getfield 15, 3) := by decide +kernel
theorem dX5_skinFactor_42 : decode cX5_skinFactor 42 = .ok (.iconst 2, 1) := by decide +kernel
theorem dX5_skinFactor_43 : decode cX5_skinFactor 43 = .ok (.iaload, 1) := by decide +kernel
theorem dX5_skinFactor_44 : decode cX5_skinFactor 44 = .ok (.iconst 1, 1) := by decide +kernel
theorem dX5_skinFactor_45 : decode cX5_skinFactor 45 = .ok (.if_icmp .eq 23, 3) := by decide +kernel
theorem dX5_skinFactor_48 : decode cX5_skinFactor 48 = .ok (.iload_n 2, 1) := by decide +kernel
theorem dX5_skinFactor_49 : decode cX5_skinFactor 49 = .ok (.aload_n 0, 1) := by decide +kernel
theorem dX5_skinFactor_50 : decode cX5_skinFactor 50 = .ok (.getfield 74, 3) := by decide +kernel
theorem dX5_skinFactor_53 : decode cX5_skinFactor 53 = .ok (.iconst 1, 1) := by decide +kernel
theorem dX5_skinFactor_54 : decode cX5_skinFactor 54 = .ok (.isub, 1) := by decide +kernel
theorem dX5_skinFactor_55 : decode cX5_skinFactor 55 = .ok (.if_icmp .ne 17, 3) := by decide +kernel
theorem dX5_skinFactor_58 : decode cX5_skinFactor 58 = .ok (.aload_n 0, 1) := by decide +kernel
theorem dX5_skinFactor_59 : decode cX5_skinFactor 59 = .ok (.getfield 15, 3) := by decide +kernel
theorem dX5_skinFactor_62 : decode cX5_skinFactor 62 = .ok (.iconst 3, 1) := by decide +kernel
theorem dX5_skinFactor_63 : decode cX5_skinFactor 63 = .ok (.iaload, 1) := by decide +kernel
theorem dX5_skinFactor_64 : decode cX5_skinFactor 64 = .ok (.iconst 1, 1) := by decide +kernel
theorem dX5_skinFactor_65 : decode cX5_skinFactor 65 = .ok (.if_icmp .ne 7, 3) := by decide +kernel
theorem dX5_skinFactor_68 : decode cX5_skinFactor 68 = .ok (.iconst 1, 1) := by decide +kernel
theorem dX5_skinFactor_69 : decode cX5_skinFactor 69 = .ok (.goto 4, 3) := by decide +kernel
theorem dX5_skinFactor_72 : decode cX5_skinFactor 72 = .ok (.iconst 0, 1) := by decide +kernel
theorem dX5_skinFactor_73 : decode cX5_skinFactor 73 = .ok (.istore_n 3, 1) := by decide +kernel
theorem dX5_skinFactor_74 : decode cX5_skinFactor 74 = .ok (.iload_n 3, 1) := by decide +kernel
theorem dX5_skinFactor_75 : decode cX5_skinFactor 75 = .ok (.ifCond .eq 7, 3) := by decide +kernel
theorem dX5_skinFactor_78 : decode cX5_skinFactor 78 = .ok (.iconst 1, 1) := by decide +kernel
theorem dX5_skinFactor_79 : decode cX5_skinFactor 79 = .ok (.goto 4, 3) := by decide +kernel
theorem dX5_skinFactor_82 : decode cX5_skinFactor 82 = .ok (.iconst 4, 1) := by decide +kernel
theorem dX5_skinFactor_83 : decode cX5_skinFactor 83 = .ok (.ireturn, 1) := by decide +kernel
theorem dX5_bottomAfterDigging_0 : decode cX5_bottomAfterDigging 0 = .ok (.aload_n 1, 1) := by decide +kernel
theorem dX5_bottomAfterDigging_1 : decode cX5_bottomAfterDigging 1 = .ok (.iload_n 2, 1) := by decide +kernel
theorem dX5_bottomAfterDigging_2 : decode cX5_bottomAfterDigging 2 = .ok (.invokevirtual 109, 3) := by decide +kernel
theorem dX5_bottomAfterDigging_5 : decode cX5_bottomAfterDigging 5 = .ok (.istore 4, 2) := by decide +kernel
theorem dX5_bottomAfterDigging_7 : decode cX5_bottomAfterDigging 7 = .ok (.aload_n 1, 1) := by decide +kernel
theorem dX5_bottomAfterDigging_8 : decode cX5_bottomAfterDigging 8 = .ok (.getfield 112, 3) := by decide +kernel
theorem dX5_bottomAfterDigging_11 : decode cX5_bottomAfterDigging 11 = .ok (.bipush 12, 2) := by decide +kernel
theorem dX5_bottomAfterDigging_13 : decode cX5_bottomAfterDigging 13 = .ok (.iadd, 1) := by decide +kernel
theorem dX5_bottomAfterDigging_14 : decode cX5_bottomAfterDigging 14 = .ok (.sipush 220, 3) := by decide +kernel
theorem dX5_bottomAfterDigging_17 : decode cX5_bottomAfterDigging 17 = .ok (.invokestatic 115, 3) := by decide +kernel
theorem dX5_bottomAfterDigging_20 : decode cX5_bottomAfterDigging 20 = .ok (.istore 5, 2) := by decide +kernel
theorem dX5_bottomAfterDigging_22 : decode cX5_bottomAfterDigging 22 = .ok (.aload_n 0, 1) := by decide +kernel
theorem dX5_bottomAfterDigging_23 : decode cX5_bottomAfterDigging 23 = .ok (.getfield 35, 3) := by decide +kernel
theorem dX5_bottomAfterDigging_26 : decode cX5_bottomAfterDigging 26 = .ok (.iload_n 2, 1) := by decide +kernel
theorem dX5_bottomAfterDigging_27 : decode cX5_bottomAfterDigging 27 = .ok (.iload 4, 2) := by decide +kernel
theorem dX5_bottomAfterDigging_29 : decode cX5_bottomAfterDigging 29 = .ok (.invokevirtual 121, 3) := by decide +kernel
theorem dX5_bottomAfterDigging_32 : decode cX5_bottomAfterDigging 32 = .ok (.istore 6, 2) := by decide +kernel
theorem dX5_bottomAfterDigging_34 : decode cX5_bottomAfterDigging 34 = .ok (.iload 6, 2) := by decide +kernel
theorem dX5_bottomAfterDigging_36 : decode cX5_bottomAfterDigging 36 = .ok (.ldc 124, 2) := by decide +kernel
theorem dX5_bottomAfterDigging_38 : decode cX5_bottomAfterDigging 38 = .ok (.if_icmp .eq 19, 3) := by decide +kernel
theorem dX5_bottomAfterDigging_41 : decode cX5_bottomAfterDigging 41 = .ok (.iload 5, 2) := by decide +kernel
theorem dX5_bottomAfterDigging_43 : decode cX5_bottomAfterDigging 43 = .ok (.aload_n 0, 1) := by decide +kernel
theorem dX5_bottomAfterDigging_44 : decode cX5_bottomAfterDigging 44 = .ok (.getfield 35, 3) := by decide +kernel
theorem dX5_bottomAfterDigging_47 : decode cX5_bottomAfterDigging 47 = .ok (.iload 6, 2) := by decide +kernel
theorem dX5_bottomAfterDigging_49 : decode cX5_bottomAfterDigging 49 = .ok (.invokevirtual 125, 3) := by decide +kernel
theorem dX5_bottomAfterDigging_52 : decode cX5_bottomAfterDigging 52 = .ok (.invokestatic 115, 3) := by decide +kernel
theorem dX5_bottomAfterDigging_55 : decode cX5_bottomAfterDigging 55 = .ok (.istore 5, 2) := by decide +kernel
theorem dX5_bottomAfterDigging_57 : decode cX5_bottomAfterDigging 57 = .ok (.iload 4, 2) := by decide +kernel
theorem dX5_bottomAfterDigging_59 : decode cX5_bottomAfterDigging 59 = .ok (.iload 4, 2) := by decide +kernel
theorem dX5_bottomAfterDigging_61 : decode cX5_bottomAfterDigging 61 = .ok (.iload_n 3, 1) := by decide +kernel
theorem dX5_bottomAfterDigging_62 : decode cX5_bottomAfterDigging 62 = .ok (.iadd, 1) := by decide +kernel
theorem dX5_bottomAfterDigging_63 : decode cX5_bottomAfterDigging 63 = .ok (.iload 5, 2) := by decide +kernel
theorem dX5_bottomAfterDigging_65 : decode cX5_bottomAfterDigging 65 = .ok (.invokestatic 115, 3) := by decide +kernel
theorem dX5_bottomAfterDigging_68 : decode cX5_bottomAfterDigging 68 = .ok (.invokestatic 128, 3) := by decide +kernel
theorem dX5_bottomAfterDigging_71 : decode cX5_bottomAfterDigging 71 = .ok (.ireturn, 1) := by decide +kernel
theorem dX7_init_0 : decode cX7_init 0 = .ok (.aload_n 0, 1) := by decide +kernel
theorem dX7_init_1 : decode cX7_init 1 = .ok (.invokespecial 3, 3) := by decide +kernel
theorem dX7_init_4 : decode cX7_init 4 = .ok (.aload_n 0, 1) := by decide +kernel
theorem dX7_init_5 : decode cX7_init 5 = .ok (.iload_n 1, 1) := by decide +kernel
theorem dX7_init_6 : decode cX7_init 6 = .ok (.iconst 1, 1) := by decide +kernel
theorem dX7_init_7 : decode cX7_init 7 = .ok (.invokestatic 9, 3) := by decide +kernel
theorem dX7_init_10 : decode cX7_init 10 = .ok (.putfield 15, 3) := by decide +kernel
theorem dX7_init_13 : decode cX7_init 13 = .ok (.aload_n 0, 1) := by decide +kernel
theorem dX7_init_14 : decode cX7_init 14 = .ok (.aload_n 0, 1) := by decide +kernel
theorem dX7_init_15 : decode cX7_init 15 = .ok (.getfield 15, 3) := by decide +kernel
theorem dX7_init_18 : decode cX7_init 18 = .ok (.iconst 3, 1) := by decide +kernel
theorem dX7_init_19 : decode cX7_init 19 = .ok (.imul, 1) := by decide +kernel
theorem dX7_init_20 : decode cX7_init 20 = .ok (.newarray .int, 2) := by decide +kernel
theorem dX7_init_22 : decode cX7_init 22 = .ok (.putfield 21, 3) := by decide +kernel
theorem dX7_init_25 : decode cX7_init 25 = .ok (.aload_n 0, 1) := by decide +kernel
theorem dX7_init_26 : decode cX7_init 26 = .ok (.iconst 0, 1) := by decide +kernel
theorem dX7_init_27 : decode cX7_init 27 = .ok (.putfield 25, 3) := by decide +kernel
theorem dX7_init_30 : decode cX7_init 30 = .ok (.return_, 1) := by decide +kernel
theorem dX7_clear_0 : decode cX7_clear 0 = .ok (.aload_n 0, 1) := by decide +kernel
theorem dX7_clear_1 : decode cX7_clear 1 = .ok (.iconst 0, 1) := by decide +kernel
theorem dX7_clear_2 : decode cX7_clear 2 = .ok (.putfield 25, 3) := by decide +kernel
theorem dX7_clear_5 : decode cX7_clear 5 = .ok (.return_, 1) := by decide +kernel
theorem dX7_isFull_0 : decode cX7_isFull 0 = .ok (.aload_n 0, 1) := by decide +kernel
theorem dX7_isFull_1 : decode cX7_isFull 1 = .ok (.getfield 25, 3) := by decide +kernel
theorem dX7_isFull_4 : decode cX7_isFull 4 = .ok (.aload_n 0, 1) := by decide +kernel
theorem dX7_isFull_5 : decode cX7_isFull 5 = .ok (.getfield 15, 3) := by decide +kernel
theorem dX7_isFull_8 : decode cX7_isFull 8 = .ok (.if_icmp .lt 7, 3) := by decide +kernel
theorem dX7_isFull_11 : decode cX7_isFull 11 = .ok (.iconst 1, 1) := by decide +kernel
theorem dX7_isFull_12 : decode cX7_isFull 12 = .ok (.goto 4, 3) := by decide +kernel
theorem dX7_isFull_15 : decode cX7_isFull 15 = .ok (.iconst 0, 1) := by decide +kernel
theorem dX7_isFull_16 : decode cX7_isFull 16 = .ok (.ireturn, 1) := by decide +kernel
theorem dX7_has_0 : decode cX7_has 0 = .ok (.iload_n 1, 1) := by decide +kernel
theorem dX7_has_1 : decode cX7_has 1 = .ok (.ifCond .lt 15, 3) := by decide +kernel
theorem dX7_has_4 : decode cX7_has 4 = .ok (.iload_n 1, 1) := by decide +kernel
theorem dX7_has_5 : decode cX7_has 5 = .ok (.aload_n 0, 1) := by decide +kernel
theorem dX7_has_6 : decode cX7_has 6 = .ok (.getfield 25, 3) := by decide +kernel
theorem dX7_has_9 : decode cX7_has 9 = .ok (.if_icmp .ge 7, 3) := by decide +kernel
theorem dX7_has_12 : decode cX7_has 12 = .ok (.iconst 1, 1) := by decide +kernel
theorem dX7_has_13 : decode cX7_has 13 = .ok (.goto 4, 3) := by decide +kernel
theorem dX7_has_16 : decode cX7_has 16 = .ok (.iconst 0, 1) := by decide +kernel
theorem dX7_has_17 : decode cX7_has 17 = .ok (.ireturn, 1) := by decide +kernel
theorem dX7_get_0 : decode cX7_get 0 = .ok (.iload_n 1, 1) := by decide +kernel
theorem dX7_get_1 : decode cX7_get 1 = .ok (.ifCond .lt 20, 3) := by decide +kernel
theorem dX7_get_4 : decode cX7_get 4 = .ok (.iload_n 1, 1) := by decide +kernel
theorem dX7_get_5 : decode cX7_get 5 = .ok (.aload_n 0, 1) := by decide +kernel
theorem dX7_get_6 : decode cX7_get 6 = .ok (.getfield 25, 3) := by decide +kernel
theorem dX7_get_9 : decode cX7_get 9 = .ok (.if_icmp .ge 12, 3) := by decide +kernel
theorem dX7_get_12 : decode cX7_get 12 = .ok (.iload_n 2, 1) := by decide +kernel
theorem dX7_get_13 : decode cX7_get 13 = .ok (.ifCond .lt 8, 3) := by decide +kernel
theorem dX7_get_16 : decode cX7_get 16 = .ok (.iload_n 2, 1) := by decide +kernel
theorem dX7_get_17 : decode cX7_get 17 = .ok (.iconst 3, 1) := by decide +kernel
theorem dX7_get_18 : decode cX7_get 18 = .ok (.if_icmp .lt 6, 3) := by decide +kernel
theorem dX7_get_21 : decode cX7_get 21 = .ok (.ldc 28, 2) := by decide +kernel
theorem dX7_get_23 : decode cX7_get 23 = .ok (.ireturn, 1) := by decide +kernel
theorem dX7_get_24 : decode cX7_get 24 = .ok (.aload_n 0, 1) := by decide +kernel
theorem dX7_get_25 : decode cX7_get 25 = .ok (.getfield 21, 3) := by decide +kernel
theorem dX7_get_28 : decode cX7_get 28 = .ok (.iload_n 1, 1) := by decide +kernel
theorem dX7_get_29 : decode cX7_get 29 = .ok (.iconst 3, 1) := by decide +kernel
theorem dX7_get_30 : decode cX7_get 30 = .ok (.imul, 1) := by decide +kernel
theorem dX7_get_31 : decode cX7_get 31 = .ok (.iload_n 2, 1) := by decide +kernel
theorem dX7_get_32 : decode cX7_get 32 = .ok (.iadd, 1) := by decide +kernel
theorem dX7_get_33 : decode cX7_get 33 = .ok (.iaload, 1) := by decide +kernel
theorem dX7_get_34 : decode cX7_get 34 = .ok (.ireturn, 1) := by decide +kernel
theorem dX7_set_0 : decode cX7_set 0 = .ok (.iload_n 1, 1) := by decide +kernel
theorem dX7_set_1 : decode cX7_set 1 = .ok (.ifCond .lt 31, 3) := by decide +kernel
theorem dX7_set_4 : decode cX7_set 4 = .ok (.iload_n 1, 1) := by decide +kernel
theorem dX7_set_5 : decode cX7_set 5 = .ok (.aload_n 0, 1) := by decide +kernel
theorem dX7_set_6 : decode cX7_set 6 = .ok (.getfield 25, 3) := by decide +kernel
theorem dX7_set_9 : decode cX7_set 9 = .ok (.if_icmp .ge 23, 3) := by decide +kernel
theorem dX7_set_12 : decode cX7_set 12 = .ok (.iload_n 2, 1) := by decide +kernel
theorem dX7_set_13 : decode cX7_set 13 = .ok (.ifCond .lt 19, 3) := by decide +kernel
theorem dX7_set_16 : decode cX7_set 16 = .ok (.iload_n 2, 1) := by decide +kernel
theorem dX7_set_17 : decode cX7_set 17 = .ok (.iconst 3, 1) := by decide +kernel
theorem dX7_set_18 : decode cX7_set 18 = .ok (.if_icmp .ge 14, 3) := by decide +kernel
theorem dX7_set_21 : decode cX7_set 21 = .ok (.aload_n 0, 1) := by decide +kernel
theorem dX7_set_22 : decode cX7_set 22 = .ok (.getfield 21, 3) := by decide +kernel
theorem dX7_set_25 : decode cX7_set 25 = .ok (.iload_n 1, 1) := by decide +kernel
theorem dX7_set_26 : decode cX7_set 26 = .ok (.iconst 3, 1) := by decide +kernel
theorem dX7_set_27 : decode cX7_set 27 = .ok (.imul, 1) := by decide +kernel
theorem dX7_set_28 : decode cX7_set 28 = .ok (.iload_n 2, 1) := by decide +kernel
theorem dX7_set_29 : decode cX7_set 29 = .ok (.iadd, 1) := by decide +kernel
theorem dX7_set_30 : decode cX7_set 30 = .ok (.iload_n 3, 1) := by decide +kernel
theorem dX7_set_31 : decode cX7_set 31 = .ok (.iastore, 1) := by decide +kernel
theorem dX7_set_32 : decode cX7_set 32 = .ok (.return_, 1) := by decide +kernel
theorem dX7_insert_0 : decode cX7_insert 0 = .ok (.aload_n 0, 1) := by decide +kernel
theorem dX7_insert_1 : decode cX7_insert 1 = .ok (.getfield 25, 3) := by decide +kernel
theorem dX7_insert_4 : decode cX7_insert 4 = .ok (.aload_n 0, 1) := by decide +kernel
theorem dX7_insert_5 : decode cX7_insert 5 = .ok (.getfield 15, 3) := by decide +kernel
theorem dX7_insert_8 : decode cX7_insert 8 = .ok (.iconst 1, 1) := by decide +kernel
theorem dX7_insert_9 : decode cX7_insert 9 = .ok (.isub, 1) := by decide +kernel
theorem dX7_insert_10 : decode cX7_insert 10 = .ok (.invokestatic 29, 3) := by decide +kernel
theorem dX7_insert_13 : decode cX7_insert 13 = .ok (.istore 5, 2) := by decide +kernel
theorem dX7_insert_15 : decode cX7_insert 15 = .ok (.iload_n 1, 1) := by decide +kernel
theorem dX7_insert_16 : decode cX7_insert 16 = .ok (.ifCond .lt 9, 3) := by decide +kernel
theorem dX7_insert_19 : decode cX7_insert 19 = .ok (.iload_n 1, 1) := by decide +kernel
theorem dX7_insert_20 : decode cX7_insert 20 = .ok (.iload 5, 2) := by decide +kernel
theorem dX7_insert_22 : decode cX7_insert 22 = .ok (.if_icmp .le 4, 3) := by decide +kernel
theorem dX7_insert_25 : decode cX7_insert 25 = .ok (.return_, 1) := by decide +kernel
theorem dX7_insert_26 : decode cX7_insert 26 = .ok (.iload_n 1, 1) := by decide +kernel
theorem dX7_insert_27 : decode cX7_insert 27 = .ok (.iconst 3, 1) := by decide +kernel
theorem dX7_insert_28 : decode cX7_insert 28 = .ok (.imul, 1) := by decide +kernel
theorem dX7_insert_29 : decode cX7_insert 29 = .ok (.istore 6, 2) := by decide +kernel
theorem dX7_insert_31 : decode cX7_insert 31 = .ok (.aload_n 0, 1) := by decide +kernel
theorem dX7_insert_32 : decode cX7_insert 32 = .ok (.getfield 21, 3) := by decide +kernel
theorem dX7_insert_35 : decode cX7_insert 35 = .ok (.iload 6, 2) := by decide +kernel
theorem dX7_insert_37 : decode cX7_insert 37 = .ok (.aload_n 0, 1) := by decide +kernel
theorem dX7_insert_38 : decode cX7_insert 38 = .ok (.getfield 21, 3) := by decide +kernel
theorem dX7_insert_41 : decode cX7_insert 41 = .ok (.iload 6, 2) := by decide +kernel
theorem dX7_insert_43 : decode cX7_insert 43 = .ok (.iconst 3, 1) := by decide +kernel
theorem dX7_insert_44 : decode cX7_insert 44 = .ok (.iadd, 1) := by decide +kernel
theorem dX7_insert_45 : decode cX7_insert 45 = .ok (.iload 5, 2) := by decide +kernel
theorem dX7_insert_47 : decode cX7_insert 47 = .ok (.iload_n 1, 1) := by decide +kernel
theorem dX7_insert_48 : decode cX7_insert 48 = .ok (.isub, 1) := by decide +kernel
theorem dX7_insert_49 : decode cX7_insert 49 = .ok (.iconst 3, 1) := by decide +kernel
theorem dX7_insert_50 : decode cX7_insert 50 = .ok (.imul, 1) := by decide +kernel
theorem dX7_insert_51 : decode cX7_insert 51 = .ok (.invokestatic 32, 3) := by decide +kernel
theorem dX7_insert_54 : decode cX7_insert 54 = .ok (.aload_n 0, 1) := by decide +kernel
theorem dX7_insert_55 : decode cX7_insert 55 = .ok (.getfield 21, 3) := by decide +kernel
theorem dX7_insert_58 : decode cX7_insert 58 = .ok (.iload 6, 2) := by decide +kernel
theorem dX7_insert_60 : decode cX7_insert 60 = .ok (.iload_n 2, 1) := by decide +kernel
theorem dX7_insert_61 : decode cX7_insert 61 = .ok (.iastore, 1) := by decide +kernel
theorem dX7_insert_62 : decode cX7_insert 62 = .ok (.aload_n 0, 1) := by decide +kernel
theorem dX7_insert_63 : decode cX7_insert 63 = .ok (.getfield 21, 3) := by decide +kernel
theorem dX7_insert_66 : decode cX7_insert 66 = .ok (.iload 6, 2) := by decide +kernel
theorem dX7_insert_68 : decode cX7_insert 68 = .ok (.iconst 1, 1) := by decide +kernel
theorem dX7_insert_69 : decode cX7_insert 69 = .ok (.iadd, 1) := by decide +kernel
theorem dX7_insert_70 : decode cX7_insert 70 = .ok (.iload_n 3, 1) := by decide +kernel
theorem dX7_insert_71 : decode cX7_insert 71 = .ok (.iastore, 1) := by decide +kernel
theorem dX7_insert_72 : decode cX7_insert 72 = .ok (.aload_n 0, 1) := by decide +kernel
theorem dX7_insert_73 : decode cX7_insert 73 = .ok (.getfield 21, 3) := by decide +kernel
theorem dX7_insert_76 : decode cX7_insert 76 = .ok (.iload 6, 2) := by decide +kernel
theorem dX7_insert_78 : decode cX7_insert 78 = .ok (.iconst 2, 1) := by decide +kernel
theorem dX7_insert_79 : decode cX7_insert 79 = .ok (.iadd, 1) := by decide +kernel
theorem dX7_insert_80 : decode cX7_insert 80 = .ok (.iload 4, 2) := by decide +kernel
theorem dX7_insert_82 : decode cX7_insert 82 = .ok (.iastore, 1) := by decide +kernel
theorem dX7_insert_83 : decode cX7_insert 83 = .ok (.aload_n 0, 1) := by decide +kernel
theorem dX7_insert_84 : decode cX7_insert 84 = .ok (.iload 5, 2) := by decide +kernel
theorem dX7_insert_86 : decode cX7_insert 86 = .ok (.iconst 1, 1) := by decide +kernel
theorem dX7_insert_87 : decode cX7_insert 87 = .ok (.iadd, 1) := by decide +kernel
theorem dX7_insert_88 : decode cX7_insert 88 = .ok (.putfield 25, 3) := by decide +kernel
theorem dX7_insert_91 : decode cX7_insert 91 = .ok (.return_, 1) := by decide +kernel
theorem dX7_remove_0 : decode cX7_remove 0 = .ok (.aload_n 0, 1) := by decide +kernel
theorem dX7_remove_1 : decode cX7_remove 1 = .ok (.iload_n 1, 1) := by decide +kernel
theorem dX7_remove_2 : decode cX7_remove 2 = .ok (.invokevirtual 38, 3) := by decide +kernel
theorem dX7_remove_5 : decode cX7_remove 5 = .ok (.ifCond .ne 4, 3) := by decide +kernel
theorem dX7_remove_8 : decode cX7_remove 8 = .ok (.return_, 1) := by decide +kernel
theorem dX7_remove_9 : decode cX7_remove 9 = .ok (.iload_n 1, 1) := by decide +kernel
theorem dX7_remove_10 : decode cX7_remove 10 = .ok (.iconst 3, 1) := by decide +kernel
theorem dX7_remove_11 : decode cX7_remove 11 = .ok (.imul, 1) := by decide +kernel
theorem dX7_remove_12 : decode cX7_remove 12 = .ok (.istore_n 2, 1) := by decide +kernel
theorem dX7_remove_13 : decode cX7_remove 13 = .ok (.aload_n 0, 1) := by decide +kernel
theorem dX7_remove_14 : decode cX7_remove 14 = .ok (.getfield 21, 3) := by decide +kernel
theorem dX7_remove_17 : decode cX7_remove 17 = .ok (.iload_n 2, 1) := by decide +kernel
theorem dX7_remove_18 : decode cX7_remove 18 = .ok (.iconst 3, 1) := by decide +kernel
theorem dX7_remove_19 : decode cX7_remove 19 = .ok (.iadd, 1) := by decide +kernel
theorem dX7_remove_20 : decode cX7_remove 20 = .ok (.aload_n 0, 1) := by decide +kernel
theorem dX7_remove_21 : decode cX7_remove 21 = .ok (.getfield 21, 3) := by decide +kernel
theorem dX7_remove_24 : decode cX7_remove 24 = .ok (.iload_n 2, 1) := by decide +kernel
theorem dX7_remove_25 : decode cX7_remove 25 = .ok (.aload_n 0, 1) := by decide +kernel
theorem dX7_remove_26 : decode cX7_remove 26 = .ok (.getfield 25, 3) := by decide +kernel
theorem dX7_remove_29 : decode cX7_remove 29 = .ok (.iconst 1, 1) := by decide +kernel
theorem dX7_remove_30 : decode cX7_remove 30 = .ok (.isub, 1) := by decide +kernel
theorem dX7_remove_31 : decode cX7_remove 31 = .ok (.iload_n 1, 1) := by decide +kernel
theorem dX7_remove_32 : decode cX7_remove 32 = .ok (.isub, 1) := by decide +kernel
theorem dX7_remove_33 : decode cX7_remove 33 = .ok (.iconst 3, 1) := by decide +kernel
theorem dX7_remove_34 : decode cX7_remove 34 = .ok (.imul, 1) := by decide +kernel
theorem dX7_remove_35 : decode cX7_remove 35 = .ok (.invokestatic 32, 3) := by decide +kernel
theorem dX7_remove_38 : decode cX7_remove 38 = .ok (.aload_n 0, 1) := by decide +kernel
theorem dX7_remove_39 : decode cX7_remove 39 = .ok (.dup, 1) := by decide +kernel
theorem dX7_remove_40 : decode cX7_remove 40 = .ok (.getfield 25, 3) := by decide +kernel
theorem dX7_remove_43 : decode cX7_remove 43 = .ok (.iconst 1, 1) := by decide +kernel
theorem dX7_remove_44 : decode cX7_remove 44 = .ok (.isub, 1) := by decide +kernel
theorem dX7_remove_45 : decode cX7_remove 45 = .ok (.putfield 25, 3) := by decide +kernel
theorem dX7_remove_48 : decode cX7_remove 48 = .ok (.return_, 1) := by decide +kernel
theorem dX7_copyFrom_0 : decode cX7_copyFrom 0 = .ok (.aload_n 1, 1) := by decide +kernel
theorem dX7_copyFrom_1 : decode cX7_copyFrom 1 = .ok (.getfield 25, 3) := by decide +kernel
theorem dX7_copyFrom_4 : decode cX7_copyFrom 4 = .ok (.aload_n 0, 1) := by decide +kernel
theorem dX7_copyFrom_5 : decode cX7_copyFrom 5 = .ok (.getfield 15, 3) := by decide +kernel
theorem dX7_copyFrom_8 : decode cX7_copyFrom 8 = .ok (.invokestatic 29, 3) := by decide +kernel
theorem dX7_copyFrom_11 : decode cX7_copyFrom 11 = .ok (.istore_n 2, 1) := by decide +kernel
theorem dX7_copyFrom_12 : decode cX7_copyFrom 12 = .ok (.aload_n 1, 1) := by decide +kernel
theorem dX7_copyFrom_13 : decode cX7_copyFrom 13 = .ok (.getfield 21, 3) := by decide +kernel
theorem dX7_copyFrom_16 : decode cX7_copyFrom 16 = .ok (.iconst 0, 1) := by decide +kernel
theorem dX7_copyFrom_17 : decode cX7_copyFrom 17 = .ok (.aload_n 0, 1) := by decide +kernel
theorem dX7_copyFrom_18 : decode cX7_copyFrom 18 = .ok (.getfield 21, 3) := by decide +kernel
theorem dX7_copyFrom_21 : decode cX7_copyFrom 21 = .ok (.iconst 0, 1) := by decide +kernel
theorem dX7_copyFrom_22 : decode cX7_copyFrom 22 = .ok (.iload_n 2, 1) := by decide +kernel
theorem dX7_copyFrom_23 : decode cX7_copyFrom 23 = .ok (.iconst 3, 1) := by decide +kernel
theorem dX7_copyFrom_24 : decode cX7_copyFrom 24 = .ok (.imul, 1) := by decide +kernel
theorem dX7_copyFrom_25 : decode cX7_copyFrom 25 = .ok (.invokestatic 32, 3) := by decide +kernel
theorem dX7_copyFrom_28 : decode cX7_copyFrom 28 = .ok (.aload_n 0, 1) := by decide +kernel
theorem dX7_copyFrom_29 : decode cX7_copyFrom 29 = .ok (.iload_n 2, 1) := by decide +kernel
theorem dX7_copyFrom_30 : decode cX7_copyFrom 30 = .ok (.putfield 25, 3) := by decide +kernel
theorem dX7_copyFrom_33 : decode cX7_copyFrom 33 = .ok (.return_, 1) := by decide +kernel
theorem dJ9_floorDiv_7cf53_0 : decode cJ9_floorDiv_7cf53 0 = .ok (.iload_n 0, 1) := by decide +kernel
theorem dJ9_floorDiv_7cf53_1 : decode cJ9_floorDiv_7cf53 1 = .ok (.iload_n 1, 1) := by decide +kernel
theorem dJ9_floorDiv_7cf53_2 : decode cJ9_floorDiv_7cf53 2 = .ok (.idiv, 1) := by decide +kernel
theorem dJ9_floorDiv_7cf53_3 : decode cJ9_floorDiv_7cf53 3 = .ok (.istore_n 2, 1) := by decide +kernel
theorem dJ9_floorDiv_7cf53_4 : decode cJ9_floorDiv_7cf53 4 = .ok (.iload_n 0, 1) := by decide +kernel
theorem dJ9_floorDiv_7cf53_5 : decode cJ9_floorDiv_7cf53 5 = .ok (.iload_n 1, 1) := by decide +kernel
theorem dJ9_floorDiv_7cf53_6 : decode cJ9_floorDiv_7cf53 6 = .ok (.ixor, 1) := by decide +kernel
theorem dJ9_floorDiv_7cf53_7 : decode cJ9_floorDiv_7cf53 7 = .ok (.ifCond .ge 14, 3) := by decide +kernel
theorem dJ9_floorDiv_7cf53_10 : decode cJ9_floorDiv_7cf53 10 = .ok (.iload_n 2, 1) := by decide +kernel
theorem dJ9_floorDiv_7cf53_11 : decode cJ9_floorDiv_7cf53 11 = .ok (.iload_n 1, 1) := by decide +kernel
theorem dJ9_floorDiv_7cf53_12 : decode cJ9_floorDiv_7cf53 12 = .ok (.imul, 1) := by decide +kernel
theorem dJ9_floorDiv_7cf53_13 : decode cJ9_floorDiv_7cf53 13 = .ok (.iload_n 0, 1) := by decide +kernel
theorem dJ9_floorDiv_7cf53_14 : decode cJ9_floorDiv_7cf53 14 = .ok (.if_icmp .eq 7, 3) := by decide +kernel
theorem dJ9_floorDiv_7cf53_17 : decode cJ9_floorDiv_7cf53 17 = .ok (.iload_n 2, 1) := by decide +kernel
theorem dJ9_floorDiv_7cf53_18 : decode cJ9_floorDiv_7cf53 18 = .ok (.iconst 1, 1) := by decide +kernel
theorem dJ9_floorDiv_7cf53_19 : decode cJ9_floorDiv_7cf53 19 = .ok (.isub, 1) := by decide +kernel
theorem dJ9_floorDiv_7cf53_20 : decode cJ9_floorDiv_7cf53 20 = .ok (.ireturn, 1) := by decide +kernel
theorem dJ9_floorDiv_7cf53_21 : decode cJ9_floorDiv_7cf53 21 = .ok (.iload_n 2, 1) := by decide +kernel
theorem dJ9_floorDiv_7cf53_22 : decode cJ9_floorDiv_7cf53 22 = .ok (.ireturn, 1) := by decide +kernel
theorem dJ9_floorMod_7cf53_0 : decode cJ9_floorMod_7cf53 0 = .ok (.iload_n 0, 1) := by decide +kernel
theorem dJ9_floorMod_7cf53_1 : decode cJ9_floorMod_7cf53 1 = .ok (.iload_n 1, 1) := by decide +kernel
theorem dJ9_floorMod_7cf53_2 : decode cJ9_floorMod_7cf53 2 = .ok (.irem, 1) := by decide +kernel
theorem dJ9_floorMod_7cf53_3 : decode cJ9_floorMod_7cf53 3 = .ok (.istore_n 2, 1) := by decide +kernel
theorem dJ9_floorMod_7cf53_4 : decode cJ9_floorMod_7cf53 4 = .ok (.iload_n 0, 1) := by decide +kernel
theorem dJ9_floorMod_7cf53_5 : decode cJ9_floorMod_7cf53 5 = .ok (.iload_n 1, 1) := by decide +kernel
theorem dJ9_floorMod_7cf53_6 : decode cJ9_floorMod_7cf53 6 = .ok (.ixor, 1) := by decide +kernel
theorem dJ9_floorMod_7cf53_7 : decode cJ9_floorMod_7cf53 7 = .ok (.ifCond .ge 11, 3) := by decide +kernel
theorem dJ9_floorMod_7cf53_10 : decode cJ9_floorMod_7cf53 10 = .ok (.iload_n 2, 1) := by decide +kernel
theorem dJ9_floorMod_7cf53_11 : decode cJ9_floorMod_7cf53 11 = .ok (.ifCond .eq 7, 3) := by decide +kernel
theorem dJ9_floorMod_7cf53_14 : decode cJ9_floorMod_7cf53 14 = .ok (.iload_n 2, 1) := by decide +kernel
theorem dJ9_floorMod_7cf53_15 : decode cJ9_floorMod_7cf53 15 = .ok (.iload_n 1, 1) := by decide +kernel
theorem dJ9_floorMod_7cf53_16 : decode cJ9_floorMod_7cf53 16 = .ok (.iadd, 1) := by decide +kernel
theorem dJ9_floorMod_7cf53_17 : decode cJ9_floorMod_7cf53 17 = .ok (.ireturn, 1) := by decide +kernel
theorem dJ9_floorMod_7cf53_18 : decode cJ9_floorMod_7cf53 18 = .ok (.iload_n 2, 1) := by decide +kernel
theorem dJ9_floorMod_7cf53_19 : decode cJ9_floorMod_7cf53 19 = .ok (.ireturn, 1) := by decide +kernel
theorem dJ9_abs_0f7a4_0 : decode cJ9_abs_0f7a4 0 = .ok (.iload_n 0, 1) := by decide +kernel
theorem dJ9_abs_0f7a4_1 : decode cJ9_abs_0f7a4 1 = .ok (.ifCond .ge 8, 3) := by decide +kernel
theorem dJ9_abs_0f7a4_4 : decode cJ9_abs_0f7a4 4 = .ok (.iload_n 0, 1) := by decide +kernel
theorem dJ9_abs_0f7a4_5 : decode cJ9_abs_0f7a4 5 = .ok (.ineg, 1) := by decide +kernel
theorem dJ9_abs_0f7a4_6 : decode cJ9_abs_0f7a4 6 = .ok (.goto 4, 3) := by decide +kernel
theorem dJ9_abs_0f7a4_9 : decode cJ9_abs_0f7a4 9 = .ok (.iload_n 0, 1) := by decide +kernel
theorem dJ9_abs_0f7a4_10 : decode cJ9_abs_0f7a4 10 = .ok (.ireturn, 1) := by decide +kernel
theorem dJ9_max_7cf53_0 : decode cJ9_max_7cf53 0 = .ok (.iload_n 0, 1) := by decide +kernel
theorem dJ9_max_7cf53_1 : decode cJ9_max_7cf53 1 = .ok (.iload_n 1, 1) := by decide +kernel
theorem dJ9_max_7cf53_2 : decode cJ9_max_7cf53 2 = .ok (.if_icmp .lt 7, 3) := by decide +kernel
theorem dJ9_max_7cf53_5 : decode cJ9_max_7cf53 5 = .ok (.iload_n 0, 1) := by decide +kernel
theorem dJ9_max_7cf53_6 : decode cJ9_max_7cf53 6 = .ok (.goto 4, 3) := by decide +kernel
theorem dJ9_max_7cf53_9 : decode cJ9_max_7cf53 9 = .ok (.iload_n 1, 1) := by decide +kernel
theorem dJ9_max_7cf53_10 : decode cJ9_max_7cf53 10 = .ok (.ireturn, 1) := by decide +kernel
theorem dJ9_min_7cf53_0 : decode cJ9_min_7cf53 0 = .ok (.iload_n 0, 1) := by decide +kernel
theorem dJ9_min_7cf53_1 : decode cJ9_min_7cf53 1 = .ok (.iload_n 1, 1) := by decide +kernel
theorem dJ9_min_7cf53_2 : decode cJ9_min_7cf53 2 = .ok (.if_icmp .gt 7, 3) := by decide +kernel
theorem dJ9_min_7cf53_5 : decode cJ9_min_7cf53 5 = .ok (.iload_n 0, 1) := by decide +kernel
theorem dJ9_min_7cf53_6 : decode cJ9_min_7cf53 6 = .ok (.goto 4, 3) := by decide +kernel
theorem dJ9_min_7cf53_9 : decode cJ9_min_7cf53 9 = .ok (.iload_n 1, 1) := by decide +kernel
theorem dJ9_min_7cf53_10 : decode cJ9_min_7cf53 10 = .ok (.ireturn, 1) := by decide +kernel
theorem dJ0_length_8abf5_0 : decode cJ0_length_8abf5 0 = .ok (.aload_n 0, 1) := by decide +kernel
theorem dJ0_length_8abf5_1 : decode cJ0_length_8abf5 1 = .ok (.getfield 9, 3) := by decide +kernel
theorem dJ0_length_8abf5_4 : decode cJ0_length_8abf5 4 = .ok (.arraylength, 1) := by decide +kernel
theorem dJ0_length_8abf5_5 : decode cJ0_length_8abf5 5 = .ok (.aload_n 0, 1) := by decide +kernel
theorem dJ0_length_8abf5_6 : decode cJ0_length_8abf5 6 = .ok (.invokevirtual 335, 3) := by decide +kernel
theorem dJ0_length_8abf5_9 : decode cJ0_length_8abf5 9 = .ok (.ishr, 1) := by decide +kernel
theorem dJ0_length_8abf5_10 : decode cJ0_length_8abf5 10 = .ok (.ireturn, 1) := by decide +kernel
theorem dJ0_charAt_5068e_0 : decode cJ0_charAt_5068e 0 = .ok (.aload_n 0, 1) := by decide +kernel
theorem dJ0_charAt_5068e_1 : decode cJ0_charAt_5068e 1 = .ok (.invokevirtual 492, 3) := by decide +kernel
theorem dJ0_charAt_5068e_4 : decode cJ0_charAt_5068e 4 = .ok (.ifCond .eq 12, 3) := by decide +kernel
theorem dJ0_charAt_5068e_7 : decode cJ0_charAt_5068e 7 = .ok (.aload_n 0, 1) := by decide +kernel
theorem dJ0_charAt_5068e_8 : decode cJ0_charAt_5068e 8 = .ok (.getfield 9, 3) := by decide +kernel
theorem dJ0_charAt_5068e_11 : decode cJ0_charAt_5068e 11 = .ok (.iload_n 1, 1) := by decide +kernel
theorem dJ0_charAt_5068e_12 : decode cJ0_charAt_5068e 12 = .ok (.invokestatic 495, 3) := by decide +kernel
theorem dJ0_charAt_5068e_15 : decode cJ0_charAt_5068e 15 = .ok (.ireturn, 1) := by decide +kernel
theorem dJ0_charAt_5068e_16 : decode cJ0_charAt_5068e 16 = .ok (.aload_n 0, 1) := by decide +kernel
theorem dJ0_charAt_5068e_17 : decode cJ0_charAt_5068e 17 = .ok (.getfield 9, 3) := by decide +kernel
theorem dJ0_charAt_5068e_20 : decode cJ0_charAt_5068e 20 = .ok (.iload_n 1, 1) := by decide +kernel
theorem dJ0_charAt_5068e_21 : decode cJ0_charAt_5068e 21 = .ok (.invokestatic 498, 3) := by decide +kernel
theorem dJ0_charAt_5068e_24 : decode cJ0_charAt_5068e 24 = .ok (.ireturn, 1) := by decide +kernel
theorem dJ0_coder_7d493_0 : decode cJ0_coder_7d493 0 = .ok (.getstatic 38, 3) := by decide +kernel
theorem dJ0_coder_7d493_3 : decode cJ0_coder_7d493 3 = .ok (.ifCond .eq 10, 3) := by decide +kernel
theorem dJ0_coder_7d493_6 : decode cJ0_coder_7d493 6 = .ok (.aload_n 0, 1) := by decide +kernel
theorem dJ0_coder_7d493_7 : decode cJ0_coder_7d493 7 = .ok (.getfield 15, 3) := by decide +kernel
theorem dJ0_coder_7d493_10 : decode cJ0_coder_7d493 10 = .ok (.goto 4, 3) := by decide +kernel
theorem dJ0_coder_7d493_13 : decode cJ0_coder_7d493 13 = .ok (.iconst 1, 1) := by decide +kernel
theorem dJ0_coder_7d493_14 : decode cJ0_coder_7d493 14 = .ok (.ireturn, 1) := by decide +kernel
theorem dJ0_isLatin1_aae02_0 : decode cJ0_isLatin1_aae02 0 = .ok (.getstatic 38, 3) := by decide +kernel
theorem dJ0_isLatin1_aae02_3 : decode cJ0_isLatin1_aae02 3 = .ok (.ifCond .eq 14, 3) := by decide +kernel
theorem dJ0_isLatin1_aae02_6 : decode cJ0_isLatin1_aae02 6 = .ok (.aload_n 0, 1) := by decide +kernel
theorem dJ0_isLatin1_aae02_7 : decode cJ0_isLatin1_aae02 7 = .ok (.getfield 15, 3) := by decide +kernel
theorem dJ0_isLatin1_aae02_10 : decode cJ0_isLatin1_aae02 10 = .ok (.ifCond .ne 7, 3) := by decide +kernel
theorem dJ0_isLatin1_aae02_13 : decode cJ0_isLatin1_aae02 13 = .ok (.iconst 1, 1) := by decide +kernel
theorem dJ0_isLatin1_aae02_14 : decode cJ0_isLatin1_aae02 14 = .ok (.goto 4, 3) := by decide +kernel
theorem dJ0_isLatin1_aae02_17 : decode cJ0_isLatin1_aae02 17 = .ok (.iconst 0, 1) := by decide +kernel
theorem dJ0_isLatin1_aae02_18 : decode cJ0_isLatin1_aae02 18 = .ok (.ireturn, 1) := by decide +kernel
theorem dJ0_checkIndex_df160_0 : decode cJ0_checkIndex_df160 0 = .ok (.iload_n 0, 1) := by decide +kernel
theorem dJ0_checkIndex_df160_1 : decode cJ0_checkIndex_df160 1 = .ok (.iload_n 1, 1) := by decide +kernel
theorem dJ0_checkIndex_df160_2 : decode cJ0_checkIndex_df160 2 = .ok (.getstatic 1053, 3) := by decide +kernel
theorem dJ0_checkIndex_df160_5 : decode cJ0_checkIndex_df160 5 = .ok (.invokestatic 1059, 3) := by decide +kernel
theorem dJ0_checkIndex_df160_8 : decode cJ0_checkIndex_df160 8 = .ok (.pop, 1) := by decide +kernel
theorem dJ0_checkIndex_df160_9 : decode cJ0_checkIndex_df160 9 = .ok (.return_, 1) := by decide +kernel
theorem dJ1_charAt_3b067_0 : decode cJ1_charAt_3b067 0 = .ok (.iload_n 1, 1) := by decide +kernel
theorem dJ1_charAt_3b067_1 : decode cJ1_charAt_3b067 1 = .ok (.aload_n 0, 1) := by decide +kernel
theorem dJ1_charAt_3b067_2 : decode cJ1_charAt_3b067 2 = .ok (.arraylength, 1) := by decide +kernel
theorem dJ1_charAt_3b067_3 : decode cJ1_charAt_3b067 3 = .ok (.invokestatic 9, 3) := by decide +kernel
theorem dJ1_charAt_3b067_6 : decode cJ1_charAt_3b067 6 = .ok (.aload_n 0, 1) := by decide +kernel
theorem dJ1_charAt_3b067_7 : decode cJ1_charAt_3b067 7 = .ok (.iload_n 1, 1) := by decide +kernel
theorem dJ1_charAt_3b067_8 : decode cJ1_charAt_3b067 8 = .ok (.baload, 1) := by decide +kernel
theorem dJ1_charAt_3b067_9 : decode cJ1_charAt_3b067 9 = .ok (.sipush 255, 3) := by decide +kernel
theorem dJ1_charAt_3b067_12 : decode cJ1_charAt_3b067 12 = .ok (.iand, 1) := by decide +kernel
theorem dJ1_charAt_3b067_13 : decode cJ1_charAt_3b067 13 = .ok (.i2c, 1) := by decide +kernel
theorem dJ1_charAt_3b067_14 : decode cJ1_charAt_3b067 14 = .ok (.ireturn, 1) := by decide +kernel
theorem dJ3_checkIndex_8e157_0 : decode cJ3_checkIndex_8e157 0 = .ok (.iload_n 0, 1) := by decide +kernel
theorem dJ3_checkIndex_8e157_1 : decode cJ3_checkIndex_8e157 1 = .ok (.ifCond .lt 8, 3) := by decide +kernel
theorem dJ3_checkIndex_8e157_4 : decode cJ3_checkIndex_8e157 4 = .ok (.iload_n 0, 1) := by decide +kernel
theorem dJ3_checkIndex_8e157_5 : decode cJ3_checkIndex_8e157 5 = .ok (.iload_n 1, 1) := by decide +kernel
theorem dJ3_checkIndex_8e157_6 : decode cJ3_checkIndex_8e157 6 = .ok (.if_icmp .lt 10, 3) := by decide +kernel
theorem dJ3_checkIndex_8e157_9 : decode cJ3_checkIndex_8e157 9 = .ok (.aload_n 2, 1) := by decide +kernel
theorem dJ3_checkIndex_8e157_10 : decode cJ3_checkIndex_8e157 10 = .ok (.iload_n 0, 1) := by decide +kernel
theorem dJ3_checkIndex_8e157_11 : decode cJ3_checkIndex_8e157 11 = .ok (.iload_n 1, 1) := by decide +kernel
theorem dJ3_checkIndex_8e157_12 : decode cJ3_checkIndex_8e157 12 = .ok (.invokestatic 95, 3) := by decide +kernel
theorem dJ3_checkIndex_8e157_15 : decode cJ3_checkIndex_8e157 15 = .ok (.athrow, 1) := by decide +kernel
theorem dJ3_checkIndex_8e157_16 : decode cJ3_checkIndex_8e157 16 = .ok (.iload_n 0, 1) := by decide +kernel
theorem dJ3_checkIndex_8e157_17 : decode cJ3_checkIndex_8e157 17 = .ok (.ireturn, 1) := by decide +kernel
