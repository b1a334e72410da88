theorem dX0_init_0 : decode cX0_init 0 = .ok (.aload_n 0, 1) := by decide +kernel
theorem dX0_init_1 : decode cX0_init 1 = .ok (.invokespecial 3, 3) := by decide +kernel
theorem dX0_init_4 : decode cX0_init 4 = .ok (.aload_n 0, 1) := by decide +kernel
theorem dX0_init_5 : decode cX0_init 5 = .ok (.bipush 12, 2) := by decide +kernel
theorem dX0_init_7 : decode cX0_init 7 = .ok (.bipush 6, 2) := by decide +kernel
theorem dX0_init_9 : decode cX0_init 9 = .ok (.multianewarray 9 2, 4) := by decide +kernel
theorem dX0_init_13 : decode cX0_init 13 = .ok (.putfield 11, 3) := by decide +kernel
theorem dX0_init_16 : decode cX0_init 16 = .ok (.aload_n 0, 1) := by decide +kernel
theorem dX0_init_17 : decode cX0_init 17 = .ok (.bipush 12, 2) := by decide +kernel
theorem dX0_init_19 : decode cX0_init 19 = .ok (.bipush 12, 2) := by decide +kernel
theorem dX0_init_21 : decode cX0_init 21 = .ok (.multianewarray 9 2, 4) := by decide +kernel
theorem dX0_init_25 : decode cX0_init 25 = .ok (.putfield 16, 3) := by decide +kernel
theorem dX0_init_28 : decode cX0_init 28 = .ok (.aload_n 0, 1) := by decide +kernel
theorem dX0_init_29 : decode cX0_init 29 = .ok (.bipush 6, 2) := by decide +kernel
theorem dX0_init_31 : decode cX0_init 31 = .ok (.newarray .long, 2) := by decide +kernel
theorem dX0_init_33 : decode cX0_init 33 = .ok (.putfield 19, 3) := by decide +kernel
theorem dX0_init_36 : decode cX0_init 36 = .ok (.aload_n 0, 1) := by decide +kernel
theorem dX0_init_37 : decode cX0_init 37 = .ok (.aload_n 1, 1) := by decide +kernel
theorem dX0_init_38 : decode cX0_init 38 = .ok (.putfield 23, 3) := by decide +kernel
theorem dX0_init_41 : decode cX0_init 41 = .ok (.iconst 0, 1) := by decide +kernel
theorem dX0_init_42 : decode cX0_init 42 = .ok (.istore_n 2, 1) := by decide +kernel
theorem dX0_init_43 : decode cX0_init 43 = .ok (.iload_n 2, 1) := by decide +kernel
theorem dX0_init_44 : decode cX0_init 44 = .ok (.bipush 12, 2) := by decide +kernel
theorem dX0_init_46 : decode cX0_init 46 = .ok (.if_icmp .ge 34, 3) := by decide +kernel
theorem dX0_init_49 : decode cX0_init 49 = .ok (.iconst 0, 1) := by decide +kernel
theorem dX0_init_50 : decode cX0_init 50 = .ok (.istore_n 3, 1) := by decide +kernel
theorem dX0_init_51 : decode cX0_init 51 = .ok (.iload_n 3, 1) := by decide +kernel
theorem dX0_init_52 : decode cX0_init 52 = .ok (.bipush 12, 2) := by decide +kernel
theorem dX0_init_54 : decode cX0_init 54 = .ok (.if_icmp .ge 20, 3) := by decide +kernel
theorem dX0_init_57 : decode cX0_init 57 = .ok (.aload_n 0, 1) := by decide +kernel
theorem dX0_init_58 : decode cX0_init 58 = .ok (.getfield 16, 3) := by decide +kernel
theorem dX0_init_61 : decode cX0_init 61 = .ok (.iload_n 2, 1) := by decide +kernel
theorem dX0_init_62 : decode cX0_init 62 = .ok (.aaload, 1) := by decide +kernel
theorem dX0_init_63 : decode cX0_init 63 = .ok (.iload_n 3, 1) := by decide +kernel
theorem dX0_init_64 : decode cX0_init 64 = .ok (.sipush 1000, 3) := by decide +kernel
theorem dX0_init_67 : decode cX0_init 67 = .ok (.iastore, 1) := by decide +kernel
theorem dX0_init_68 : decode cX0_init 68 = .ok (.iinc 3 1, 3) := by decide +kernel
theorem dX0_init_71 : decode cX0_init 71 = .ok (.goto (-20), 3) := by decide +kernel
theorem dX0_init_74 : decode cX0_init 74 = .ok (.iinc 2 1, 3) := by decide +kernel
theorem dX0_init_77 : decode cX0_init 77 = .ok (.goto (-34), 3) := by decide +kernel
theorem dX0_init_80 : decode cX0_init 80 = .ok (.return_, 1) := by decide +kernel
theorem dX0_hasProject_0 : decode cX0_hasProject 0 = .ok (.iload_n 1, 1) := by decide +kernel
theorem dX0_hasProject_1 : decode cX0_hasProject 1 = .ok (.ifCond .lt 15, 3) := by decide +kernel
theorem dX0_hasProject_4 : decode cX0_hasProject 4 = .ok (.iload_n 1, 1) := by decide +kernel
theorem dX0_hasProject_5 : decode cX0_hasProject 5 = .ok (.aload_n 0, 1) := by decide +kernel
theorem dX0_hasProject_6 : decode cX0_hasProject 6 = .ok (.getfield 27, 3) := by decide +kernel
theorem dX0_hasProject_9 : decode cX0_hasProject 9 = .ok (.if_icmp .ge 7, 3) := by decide +kernel
theorem dX0_hasProject_12 : decode cX0_hasProject 12 = .ok (.iconst 1, 1) := by decide +kernel
theorem dX0_hasProject_13 : decode cX0_hasProject 13 = .ok (.goto 4, 3) := by decide +kernel
theorem dX0_hasProject_16 : decode cX0_hasProject 16 = .ok (.iconst 0, 1) := by decide +kernel
theorem dX0_hasProject_17 : decode cX0_hasProject 17 = .ok (.ireturn, 1) := by decide +kernel
theorem dX0_matchedLow_0 : decode cX0_matchedLow 0 = .ok (.lconst 0, 1) := by decide +kernel
theorem dX0_matchedLow_1 : decode cX0_matchedLow 1 = .ok (.lstore_n 2, 1) := by decide +kernel
theorem dX0_matchedLow_2 : decode cX0_matchedLow 2 = .ok (.iconst 0, 1) := by decide +kernel
theorem dX0_matchedLow_3 : decode cX0_matchedLow 3 = .ok (.istore 4, 2) := by decide +kernel
theorem dX0_matchedLow_5 : decode cX0_matchedLow 5 = .ok (.iload 4, 2) := by decide +kernel
theorem dX0_matchedLow_7 : decode cX0_matchedLow 7 = .ok (.aload_n 0, 1) := by decide +kernel
theorem dX0_matchedLow_8 : decode cX0_matchedLow 8 = .ok (.getfield 23, 3) := by decide +kernel
theorem dX0_matchedLow_11 : decode cX0_matchedLow 11 = .ok (.getfield 31, 3) := by decide +kernel
theorem dX0_matchedLow_14 : decode cX0_matchedLow 14 = .ok (.if_icmp .ge 52, 3) := by decide +kernel
theorem dX0_matchedLow_17 : decode cX0_matchedLow 17 = .ok (.iconst 0, 1) := by decide +kernel
theorem dX0_matchedLow_18 : decode cX0_matchedLow 18 = .ok (.istore 5, 2) := by decide +kernel
theorem dX0_matchedLow_20 : decode cX0_matchedLow 20 = .ok (.iload 5, 2) := by decide +kernel
theorem dX0_matchedLow_22 : decode cX0_matchedLow 22 = .ok (.iload 4, 2) := by decide +kernel
theorem dX0_matchedLow_24 : decode cX0_matchedLow 24 = .ok (.if_icmp .ge 36, 3) := by decide +kernel
theorem dX0_matchedLow_27 : decode cX0_matchedLow 27 = .ok (.lload_n 2, 1) := by decide +kernel
theorem dX0_matchedLow_28 : decode cX0_matchedLow 28 = .ok (.aload_n 0, 1) := by decide +kernel
theorem dX0_matchedLow_29 : decode cX0_matchedLow 29 = .ok (.getfield 16, 3) := by decide +kernel
theorem dX0_matchedLow_32 : decode cX0_matchedLow 32 = .ok (.iload 4, 2) := by decide +kernel
theorem dX0_matchedLow_34 : decode cX0_matchedLow 34 = .ok (.aaload, 1) := by decide +kernel
theorem dX0_matchedLow_35 : decode cX0_matchedLow 35 = .ok (.iload 5, 2) := by decide +kernel
theorem dX0_matchedLow_37 : decode cX0_matchedLow 37 = .ok (.iaload, 1) := by decide +kernel
theorem dX0_matchedLow_38 : decode cX0_matchedLow 38 = .ok (.i2l, 1) := by decide +kernel
theorem dX0_matchedLow_39 : decode cX0_matchedLow 39 = .ok (.aload_n 0, 1) := by decide +kernel
theorem dX0_matchedLow_40 : decode cX0_matchedLow 40 = .ok (.iload 4, 2) := by decide +kernel
theorem dX0_matchedLow_42 : decode cX0_matchedLow 42 = .ok (.iload 5, 2) := by decide +kernel
theorem dX0_matchedLow_44 : decode cX0_matchedLow 44 = .ok (.iload_n 1, 1) := by decide +kernel
theorem dX0_matchedLow_45 : decode cX0_matchedLow 45 = .ok (.invokevirtual 36, 3) := by decide +kernel
theorem dX0_matchedLow_48 : decode cX0_matchedLow 48 = .ok (.invokestatic 40, 3) := by decide +kernel
theorem dX0_matchedLow_51 : decode cX0_matchedLow 51 = .ok (.lmul, 1) := by decide +kernel
theorem dX0_matchedLow_52 : decode cX0_matchedLow 52 = .ok (.ladd, 1) := by decide +kernel
theorem dX0_matchedLow_53 : decode cX0_matchedLow 53 = .ok (.lstore_n 2, 1) := by decide +kernel
theorem dX0_matchedLow_54 : decode cX0_matchedLow 54 = .ok (.iinc 5 1, 3) := by decide +kernel
theorem dX0_matchedLow_57 : decode cX0_matchedLow 57 = .ok (.goto (-37), 3) := by decide +kernel
theorem dX0_matchedLow_60 : decode cX0_matchedLow 60 = .ok (.iinc 4 1, 3) := by decide +kernel
theorem dX0_matchedLow_63 : decode cX0_matchedLow 63 = .ok (.goto (-58), 3) := by decide +kernel
theorem dX0_matchedLow_66 : decode cX0_matchedLow 66 = .ok (.ldc2_w 44, 3) := by decide +kernel
theorem dX0_matchedLow_69 : decode cX0_matchedLow 69 = .ok (.lload_n 2, 1) := by decide +kernel
theorem dX0_matchedLow_70 : decode cX0_matchedLow 70 = .ok (.lmul, 1) := by decide +kernel
theorem dX0_matchedLow_71 : decode cX0_matchedLow 71 = .ok (.ldc2_w 46, 3) := by decide +kernel
theorem dX0_matchedLow_74 : decode cX0_matchedLow 74 = .ok (.ldiv, 1) := by decide +kernel
theorem dX0_matchedLow_75 : decode cX0_matchedLow 75 = .ok (.lreturn, 1) := by decide +kernel
theorem dX0_matchedUndamped_0 : decode cX0_matchedUndamped 0 = .ok (.lconst 0, 1) := by decide +kernel
theorem dX0_matchedUndamped_1 : decode cX0_matchedUndamped 1 = .ok (.lstore_n 2, 1) := by decide +kernel
theorem dX0_matchedUndamped_2 : decode cX0_matchedUndamped 2 = .ok (.iconst 0, 1) := by decide +kernel
theorem dX0_matchedUndamped_3 : decode cX0_matchedUndamped 3 = .ok (.istore 4, 2) := by decide +kernel
theorem dX0_matchedUndamped_5 : decode cX0_matchedUndamped 5 = .ok (.iload 4, 2) := by decide +kernel
theorem dX0_matchedUndamped_7 : decode cX0_matchedUndamped 7 = .ok (.aload_n 0, 1) := by decide +kernel
theorem dX0_matchedUndamped_8 : decode cX0_matchedUndamped 8 = .ok (.getfield 23, 3) := by decide +kernel
theorem dX0_matchedUndamped_11 : decode cX0_matchedUndamped 11 = .ok (.getfield 31, 3) := by decide +kernel
theorem dX0_matchedUndamped_14 : decode cX0_matchedUndamped 14 = .ok (.if_icmp .ge 44, 3) := by decide +kernel
theorem dX0_matchedUndamped_17 : decode cX0_matchedUndamped 17 = .ok (.iconst 0, 1) := by decide +kernel
theorem dX0_matchedUndamped_18 : decode cX0_matchedUndamped 18 = .ok (.istore 5, 2) := by decide +kernel
theorem dX0_matchedUndamped_20 : decode cX0_matchedUndamped 20 = .ok (.iload 5, 2) := by decide +kernel
theorem dX0_matchedUndamped_22 : decode cX0_matchedUndamped 22 = .ok (.iload 4, 2) := by decide +kernel
theorem dX0_matchedUndamped_24 : decode cX0_matchedUndamped 24 = .ok (.if_icmp .ge 28, 3) := by decide +kernel
theorem dX0_matchedUndamped_27 : decode cX0_matchedUndamped 27 = .ok (.lload_n 2, 1) := by decide +kernel
theorem dX0_matchedUndamped_28 : decode cX0_matchedUndamped 28 = .ok (.ldc2_w 48, 3) := by decide +kernel
theorem dX0_matchedUndamped_31 : decode cX0_matchedUndamped 31 = .ok (.aload_n 0, 1) := by decide +kernel
theorem dX0_matchedUndamped_32 : decode cX0_matchedUndamped 32 = .ok (.iload 4, 2) := by decide +kernel
theorem dX0_matchedUndamped_34 : decode cX0_matchedUndamped 34 = .ok (.iload 5, 2) := by decide +kernel
theorem dX0_matchedUndamped_36 : decode cX0_matchedUndamped 36 = .ok (.iload_n 1, 1) := by decide +kernel
theorem dX0_matchedUndamped_37 : decode cX0_matchedUndamped 37 = .ok (.invokevirtual 36, 3) := by decide +kernel
theorem dX0_matchedUndamped_40 : decode cX0_matchedUndamped 40 = .ok (.invokestatic 40, 3) := by decide +kernel
theorem dX0_matchedUndamped_43 : decode cX0_matchedUndamped 43 = .ok (.lmul, 1) := by decide +kernel
theorem dX0_matchedUndamped_44 : decode cX0_matchedUndamped 44 = .ok (.ladd, 1) := by decide +kernel
theorem dX0_matchedUndamped_45 : decode cX0_matchedUndamped 45 = .ok (.lstore_n 2, 1) := by decide +kernel
theorem dX0_matchedUndamped_46 : decode cX0_matchedUndamped 46 = .ok (.iinc 5 1, 3) := by decide +kernel
theorem dX0_matchedUndamped_49 : decode cX0_matchedUndamped 49 = .ok (.goto (-29), 3) := by decide +kernel
theorem dX0_matchedUndamped_52 : decode cX0_matchedUndamped 52 = .ok (.iinc 4 1, 3) := by decide +kernel
theorem dX0_matchedUndamped_55 : decode cX0_matchedUndamped 55 = .ok (.goto (-50), 3) := by decide +kernel
theorem dX0_matchedUndamped_58 : decode cX0_matchedUndamped 58 = .ok (.ldc2_w 44, 3) := by decide +kernel
theorem dX0_matchedUndamped_61 : decode cX0_matchedUndamped 61 = .ok (.lload_n 2, 1) := by decide +kernel
theorem dX0_matchedUndamped_62 : decode cX0_matchedUndamped 62 = .ok (.lmul, 1) := by decide +kernel
theorem dX0_matchedUndamped_63 : decode cX0_matchedUndamped 63 = .ok (.ldc2_w 46, 3) := by decide +kernel
theorem dX0_matchedUndamped_66 : decode cX0_matchedUndamped 66 = .ok (.ldiv, 1) := by decide +kernel
theorem dX0_matchedUndamped_67 : decode cX0_matchedUndamped 67 = .ok (.lreturn, 1) := by decide +kernel
theorem dX0_matchedHigh_0 : decode cX0_matchedHigh 0 = .ok (.lconst 0, 1) := by decide +kernel
theorem dX0_matchedHigh_1 : decode cX0_matchedHigh 1 = .ok (.lstore_n 2, 1) := by decide +kernel
theorem dX0_matchedHigh_2 : decode cX0_matchedHigh 2 = .ok (.iconst 0, 1) := by decide +kernel
theorem dX0_matchedHigh_3 : decode cX0_matchedHigh 3 = .ok (.istore 4, 2) := by decide +kernel
theorem dX0_matchedHigh_5 : decode cX0_matchedHigh 5 = .ok (.iload 4, 2) := by decide +kernel
theorem dX0_matchedHigh_7 : decode cX0_matchedHigh 7 = .ok (.aload_n 0, 1) := by decide +kernel
theorem dX0_matchedHigh_8 : decode cX0_matchedHigh 8 = .ok (.getfield 23, 3) := by decide +kernel
theorem dX0_matchedHigh_11 : decode cX0_matchedHigh 11 = .ok (.getfield 31, 3) := by decide +kernel
theorem dX0_matchedHigh_14 : decode cX0_matchedHigh 14 = .ok (.if_icmp .ge 52, 3) := by decide +kernel
theorem dX0_matchedHigh_17 : decode cX0_matchedHigh 17 = .ok (.iconst 0, 1) := by decide +kernel
theorem dX0_matchedHigh_18 : decode cX0_matchedHigh 18 = .ok (.istore 5, 2) := by decide +kernel
theorem dX0_matchedHigh_20 : decode cX0_matchedHigh 20 = .ok (.iload 5, 2) := by decide +kernel
theorem dX0_matchedHigh_22 : decode cX0_matchedHigh 22 = .ok (.iload 4, 2) := by decide +kernel
theorem dX0_matchedHigh_24 : decode cX0_matchedHigh 24 = .ok (.if_icmp .ge 36, 3) := by decide +kernel
theorem dX0_matchedHigh_27 : decode cX0_matchedHigh 27 = .ok (.lload_n 2, 1) := by decide +kernel
theorem dX0_matchedHigh_28 : decode cX0_matchedHigh 28 = .ok (.aload_n 0, 1) := by decide +kernel
theorem dX0_matchedHigh_29 : decode cX0_matchedHigh 29 = .ok (.getfield 16, 3) := by decide +kernel
theorem dX0_matchedHigh_32 : decode cX0_matchedHigh 32 = .ok (.iload 4, 2) := by decide +kernel
theorem dX0_matchedHigh_34 : decode cX0_matchedHigh 34 = .ok (.aaload, 1) := by decide +kernel
theorem dX0_matchedHigh_35 : decode cX0_matchedHigh 35 = .ok (.iload 5, 2) := by decide +kernel
theorem dX0_matchedHigh_37 : decode cX0_matchedHigh 37 = .ok (.iaload, 1) := by decide +kernel
theorem dX0_matchedHigh_38 : decode cX0_matchedHigh 38 = .ok (.i2l, 1) := by decide +kernel
theorem dX0_matchedHigh_39 : decode cX0_matchedHigh 39 = .ok (.aload_n 0, 1) := by decide +kernel
theorem dX0_matchedHigh_40 : decode cX0_matchedHigh 40 = .ok (.iload 4, 2) := by decide +kernel
theorem dX0_matchedHigh_42 : decode cX0_matchedHigh 42 = .ok (.iload 5, 2) := by decide +kernel
theorem dX0_matchedHigh_44 : decode cX0_matchedHigh 44 = .ok (.iload_n 1, 1) := by decide +kernel
theorem dX0_matchedHigh_45 : decode cX0_matchedHigh 45 = .ok (.invokevirtual 36, 3) := by decide +kernel
theorem dX0_matchedHigh_48 : decode cX0_matchedHigh 48 = .ok (.invokestatic 50, 3) := by decide +kernel
theorem dX0_matchedHigh_51 : decode cX0_matchedHigh 51 = .ok (.lmul, 1) := by decide +kernel
theorem dX0_matchedHigh_52 : decode cX0_matchedHigh 52 = .ok (.ladd, 1) := by decide +kernel
theorem dX0_matchedHigh_53 : decode cX0_matchedHigh 53 = .ok (.lstore_n 2, 1) := by decide +kernel
theorem dX0_matchedHigh_54 : decode cX0_matchedHigh 54 = .ok (.iinc 5 1, 3) := by decide +kernel
theorem dX0_matchedHigh_57 : decode cX0_matchedHigh 57 = .ok (.goto (-37), 3) := by decide +kernel
theorem dX0_matchedHigh_60 : decode cX0_matchedHigh 60 = .ok (.iinc 4 1, 3) := by decide +kernel
theorem dX0_matchedHigh_63 : decode cX0_matchedHigh 63 = .ok (.goto (-58), 3) := by decide +kernel
theorem dX0_matchedHigh_66 : decode cX0_matchedHigh 66 = .ok (.ldc2_w 44, 3) := by decide +kernel
theorem dX0_matchedHigh_69 : decode cX0_matchedHigh 69 = .ok (.lload_n 2, 1) := by decide +kernel
theorem dX0_matchedHigh_70 : decode cX0_matchedHigh 70 = .ok (.lmul, 1) := by decide +kernel
theorem dX0_matchedHigh_71 : decode cX0_matchedHigh 71 = .ok (.ldc2_w 46, 3) := by decide +kernel
theorem dX0_matchedHigh_74 : decode cX0_matchedHigh 74 = .ok (.ladd, 1) := by decide +kernel
theorem dX0_matchedHigh_75 : decode cX0_matchedHigh 75 = .ok (.lconst 1, 1) := by decide +kernel
theorem dX0_matchedHigh_76 : decode cX0_matchedHigh 76 = .ok (.lsub, 1) := by decide +kernel
theorem dX0_matchedHigh_77 : decode cX0_matchedHigh 77 = .ok (.ldc2_w 46, 3) := by decide +kernel
theorem dX0_matchedHigh_80 : decode cX0_matchedHigh 80 = .ok (.ldiv, 1) := by decide +kernel
theorem dX0_matchedHigh_81 : decode cX0_matchedHigh 81 = .ok (.lreturn, 1) := by decide +kernel
theorem dX0_fineProduct_0 : decode cX0_fineProduct 0 = .ok (.ldc2_w 53, 3) := by decide +kernel
theorem dX0_fineProduct_3 : decode cX0_fineProduct 3 = .ok (.aload_n 0, 1) := by decide +kernel
theorem dX0_fineProduct_4 : decode cX0_fineProduct 4 = .ok (.getfield 11, 3) := by decide +kernel
theorem dX0_fineProduct_7 : decode cX0_fineProduct 7 = .ok (.iload_n 1, 1) := by decide +kernel
theorem dX0_fineProduct_8 : decode cX0_fineProduct 8 = .ok (.aaload, 1) := by decide +kernel
theorem dX0_fineProduct_9 : decode cX0_fineProduct 9 = .ok (.iload_n 3, 1) := by decide +kernel
theorem dX0_fineProduct_10 : decode cX0_fineProduct 10 = .ok (.iaload, 1) := by decide +kernel
theorem dX0_fineProduct_11 : decode cX0_fineProduct 11 = .ok (.i2l, 1) := by decide +kernel
theorem dX0_fineProduct_12 : decode cX0_fineProduct 12 = .ok (.lmul, 1) := by decide +kernel
theorem dX0_fineProduct_13 : decode cX0_fineProduct 13 = .ok (.aload_n 0, 1) := by decide +kernel
theorem dX0_fineProduct_14 : decode cX0_fineProduct 14 = .ok (.getfield 11, 3) := by decide +kernel
theorem dX0_fineProduct_17 : decode cX0_fineProduct 17 = .ok (.iload_n 2, 1) := by decide +kernel
theorem dX0_fineProduct_18 : decode cX0_fineProduct 18 = .ok (.aaload, 1) := by decide +kernel
theorem dX0_fineProduct_19 : decode cX0_fineProduct 19 = .ok (.iload_n 3, 1) := by decide +kernel
theorem dX0_fineProduct_20 : decode cX0_fineProduct 20 = .ok (.iaload, 1) := by decide +kernel
theorem dX0_fineProduct_21 : decode cX0_fineProduct 21 = .ok (.i2l, 1) := by decide +kernel
theorem dX0_fineProduct_22 : decode cX0_fineProduct 22 = .ok (.lmul, 1) := by decide +kernel
theorem dX0_fineProduct_23 : decode cX0_fineProduct 23 = .ok (.lreturn, 1) := by decide +kernel
theorem dX0_root_0 : decode cX0_root 0 = .ok (.lconst 0, 1) := by decide +kernel
theorem dX0_root_1 : decode cX0_root 1 = .ok (.lstore_n 2, 1) := by decide +kernel
theorem dX0_root_2 : decode cX0_root 2 = .ok (.ldc2_w 55, 3) := by decide +kernel
theorem dX0_root_5 : decode cX0_root 5 = .ok (.lstore 4, 2) := by decide +kernel
theorem dX0_root_7 : decode cX0_root 7 = .ok (.lload 4, 2) := by decide +kernel
theorem dX0_root_9 : decode cX0_root 9 = .ok (.lconst 0, 1) := by decide +kernel
theorem dX0_root_10 : decode cX0_root 10 = .ok (.lcmp, 1) := by decide +kernel
theorem dX0_root_11 : decode cX0_root 11 = .ok (.ifCond .le 31, 3) := by decide +kernel
theorem dX0_root_14 : decode cX0_root 14 = .ok (.lload_n 2, 1) := by decide +kernel
theorem dX0_root_15 : decode cX0_root 15 = .ok (.lload 4, 2) := by decide +kernel
theorem dX0_root_17 : decode cX0_root 17 = .ok (.ladd, 1) := by decide +kernel
theorem dX0_root_18 : decode cX0_root 18 = .ok (.lload_n 2, 1) := by decide +kernel
theorem dX0_root_19 : decode cX0_root 19 = .ok (.lload 4, 2) := by decide +kernel
theorem dX0_root_21 : decode cX0_root 21 = .ok (.ladd, 1) := by decide +kernel
theorem dX0_root_22 : decode cX0_root 22 = .ok (.lmul, 1) := by decide +kernel
theorem dX0_root_23 : decode cX0_root 23 = .ok (.lload_n 0, 1) := by decide +kernel
theorem dX0_root_24 : decode cX0_root 24 = .ok (.lcmp, 1) := by decide +kernel
theorem dX0_root_25 : decode cX0_root 25 = .ok (.ifCond .gt 8, 3) := by decide +kernel
theorem dX0_root_28 : decode cX0_root 28 = .ok (.lload_n 2, 1) := by decide +kernel
theorem dX0_root_29 : decode cX0_root 29 = .ok (.lload 4, 2) := by decide +kernel
theorem dX0_root_31 : decode cX0_root 31 = .ok (.ladd, 1) := by decide +kernel
theorem dX0_root_32 : decode cX0_root 32 = .ok (.lstore_n 2, 1) := by decide +kernel
theorem dX0_root_33 : decode cX0_root 33 = .ok (.lload 4, 2) := by decide +kernel
theorem dX0_root_35 : decode cX0_root 35 = .ok (.iconst 1, 1) := by decide +kernel
theorem dX0_root_36 : decode cX0_root 36 = .ok (.lshr, 1) := by decide +kernel
theorem dX0_root_37 : decode cX0_root 37 = .ok (.lstore 4, 2) := by decide +kernel
theorem dX0_root_39 : decode cX0_root 39 = .ok (.goto (-32), 3) := by decide +kernel
theorem dX0_root_42 : decode cX0_root 42 = .ok (.lload_n 2, 1) := by decide +kernel
theorem dX0_root_43 : decode cX0_root 43 = .ok (.lreturn, 1) := by decide +kernel
theorem dX0_rootAbove_0 : decode cX0_rootAbove 0 = .ok (.lload_n 0, 1) := by decide +kernel
theorem dX0_rootAbove_1 : decode cX0_rootAbove 1 = .ok (.invokestatic 40, 3) := by decide +kernel
theorem dX0_rootAbove_4 : decode cX0_rootAbove 4 = .ok (.lstore_n 2, 1) := by decide +kernel
theorem dX0_rootAbove_5 : decode cX0_rootAbove 5 = .ok (.lload_n 2, 1) := by decide +kernel
theorem dX0_rootAbove_6 : decode cX0_rootAbove 6 = .ok (.lload_n 2, 1) := by decide +kernel
theorem dX0_rootAbove_7 : decode cX0_rootAbove 7 = .ok (.lmul, 1) := by decide +kernel
theorem dX0_rootAbove_8 : decode cX0_rootAbove 8 = .ok (.lload_n 0, 1) := by decide +kernel
theorem dX0_rootAbove_9 : decode cX0_rootAbove 9 = .ok (.lcmp, 1) := by decide +kernel
theorem dX0_rootAbove_10 : decode cX0_rootAbove 10 = .ok (.ifCond .ne 7, 3) := by decide +kernel
theorem dX0_rootAbove_13 : decode cX0_rootAbove 13 = .ok (.lload_n 2, 1) := by decide +kernel
theorem dX0_rootAbove_14 : decode cX0_rootAbove 14 = .ok (.goto 6, 3) := by decide +kernel
theorem dX0_rootAbove_17 : decode cX0_rootAbove 17 = .ok (.lload_n 2, 1) := by decide +kernel
theorem dX0_rootAbove_18 : decode cX0_rootAbove 18 = .ok (.lconst 1, 1) := by decide +kernel
theorem dX0_rootAbove_19 : decode cX0_rootAbove 19 = .ok (.ladd, 1) := by decide +kernel
theorem dX0_rootAbove_20 : decode cX0_rootAbove 20 = .ok (.lreturn, 1) := by decide +kernel
theorem dX0_shareOf_0 : decode cX0_shareOf 0 = .ok (.lconst 0, 1) := by decide +kernel
theorem dX0_shareOf_1 : decode cX0_shareOf 1 = .ok (.lstore 4, 2) := by decide +kernel
theorem dX0_shareOf_3 : decode cX0_shareOf 3 = .ok (.iconst 0, 1) := by decide +kernel
theorem dX0_shareOf_4 : decode cX0_shareOf 4 = .ok (.istore 6, 2) := by decide +kernel
theorem dX0_shareOf_6 : decode cX0_shareOf 6 = .ok (.iload 6, 2) := by decide +kernel
theorem dX0_shareOf_8 : decode cX0_shareOf 8 = .ok (.aload_n 0, 1) := by decide +kernel
theorem dX0_shareOf_9 : decode cX0_shareOf 9 = .ok (.getfield 27, 3) := by decide +kernel
theorem dX0_shareOf_12 : decode cX0_shareOf 12 = .ok (.if_icmp .ge 34, 3) := by decide +kernel
theorem dX0_shareOf_15 : decode cX0_shareOf 15 = .ok (.aload_n 0, 1) := by decide +kernel
theorem dX0_shareOf_16 : decode cX0_shareOf 16 = .ok (.getfield 19, 3) := by decide +kernel
theorem dX0_shareOf_19 : decode cX0_shareOf 19 = .ok (.iload 6, 2) := by decide +kernel
theorem dX0_shareOf_21 : decode cX0_shareOf 21 = .ok (.aload_n 0, 1) := by decide +kernel
theorem dX0_shareOf_22 : decode cX0_shareOf 22 = .ok (.iload 6, 2) := by decide +kernel
theorem dX0_shareOf_24 : decode cX0_shareOf 24 = .ok (.invokevirtual 57, 3) := by decide +kernel
theorem dX0_shareOf_27 : decode cX0_shareOf 27 = .ok (.lastore, 1) := by decide +kernel
theorem dX0_shareOf_28 : decode cX0_shareOf 28 = .ok (.lload 4, 2) := by decide +kernel
theorem dX0_shareOf_30 : decode cX0_shareOf 30 = .ok (.aload_n 0, 1) := by decide +kernel
theorem dX0_shareOf_31 : decode cX0_shareOf 31 = .ok (.getfield 19, 3) := by decide +kernel
theorem dX0_shareOf_34 : decode cX0_shareOf 34 = .ok (.iload 6, 2) := by decide +kernel
theorem dX0_shareOf_36 : decode cX0_shareOf 36 = .ok (.laload, 1) := by decide +kernel
theorem dX0_shareOf_37 : decode cX0_shareOf 37 = .ok (.ladd, 1) := by decide +kernel
theorem dX0_shareOf_38 : decode cX0_shareOf 38 = .ok (.lstore 4, 2) := by decide +kernel
theorem dX0_shareOf_40 : decode cX0_shareOf 40 = .ok (.iinc 6 1, 3) := by decide +kernel
theorem dX0_shareOf_43 : decode cX0_shareOf 43 = .ok (.goto (-37), 3) := by decide +kernel
theorem dX0_shareOf_46 : decode cX0_shareOf 46 = .ok (.lload 4, 2) := by decide +kernel
theorem dX0_shareOf_48 : decode cX0_shareOf 48 = .ok (.lconst 0, 1) := by decide +kernel
theorem dX0_shareOf_49 : decode cX0_shareOf 49 = .ok (.lcmp, 1) := by decide +kernel
theorem dX0_shareOf_50 : decode cX0_shareOf 50 = .ok (.ifCond .gt 5, 3) := by decide +kernel
theorem dX0_shareOf_53 : decode cX0_shareOf 53 = .ok (.lconst 0, 1) := by decide +kernel
theorem dX0_shareOf_54 : decode cX0_shareOf 54 = .ok (.lreturn, 1) := by decide +kernel
theorem dX0_shareOf_55 : decode cX0_shareOf 55 = .ok (.lload_n 2, 1) := by decide +kernel
theorem dX0_shareOf_56 : decode cX0_shareOf 56 = .ok (.aload_n 0, 1) := by decide +kernel
theorem dX0_shareOf_57 : decode cX0_shareOf 57 = .ok (.getfield 19, 3) := by decide +kernel
theorem dX0_shareOf_60 : decode cX0_shareOf 60 = .ok (.iload_n 1, 1) := by decide +kernel
theorem dX0_shareOf_61 : decode cX0_shareOf 61 = .ok (.laload, 1) := by decide +kernel
theorem dX0_shareOf_62 : decode cX0_shareOf 62 = .ok (.lmul, 1) := by decide +kernel
theorem dX0_shareOf_63 : decode cX0_shareOf 63 = .ok (.lload 4, 2) := by decide +kernel
theorem dX0_shareOf_65 : decode cX0_shareOf 65 = .ok (.lrem, 1) := by decide +kernel
theorem dX0_shareOf_66 : decode cX0_shareOf 66 = .ok (.lstore 6, 2) := by decide +kernel
theorem dX0_shareOf_68 : decode cX0_shareOf 68 = .ok (.lload_n 2, 1) := by decide +kernel
theorem dX0_shareOf_69 : decode cX0_shareOf 69 = .ok (.lstore 8, 2) := by decide +kernel
theorem dX0_shareOf_71 : decode cX0_shareOf 71 = .ok (.iconst 0, 1) := by decide +kernel
theorem dX0_shareOf_72 : decode cX0_shareOf 72 = .ok (.istore 10, 2) := by decide +kernel
theorem dX0_shareOf_74 : decode cX0_shareOf 74 = .ok (.iconst 0, 1) := by decide +kernel
theorem dX0_shareOf_75 : decode cX0_shareOf 75 = .ok (.istore 11, 2) := by decide +kernel
theorem dX0_shareOf_77 : decode cX0_shareOf 77 = .ok (.iload 11, 2) := by decide +kernel
theorem dX0_shareOf_79 : decode cX0_shareOf 79 = .ok (.aload_n 0, 1) := by decide +kernel
theorem dX0_shareOf_80 : decode cX0_shareOf 80 = .ok (.getfield 27, 3) := by decide +kernel
theorem dX0_shareOf_83 : decode cX0_shareOf 83 = .ok (.if_icmp .ge 65, 3) := by decide +kernel
theorem dX0_shareOf_86 : decode cX0_shareOf 86 = .ok (.lload 8, 2) := by decide +kernel
theorem dX0_shareOf_88 : decode cX0_shareOf 88 = .ok (.lload_n 2, 1) := by decide +kernel
theorem dX0_shareOf_89 : decode cX0_shareOf 89 = .ok (.aload_n 0, 1) := by decide +kernel
theorem dX0_shareOf_90 : decode cX0_shareOf 90 = .ok (.getfield 19, 3) := by decide +kernel
theorem dX0_shareOf_93 : decode cX0_shareOf 93 = .ok (.iload 11, 2) := by decide +kernel
theorem dX0_shareOf_95 : decode cX0_shareOf 95 = .ok (.laload, 1) := by decide +kernel
theorem dX0_shareOf_96 : decode cX0_shareOf 96 = .ok (.lmul, 1) := by decide +kernel
theorem dX0_shareOf_97 : decode cX0_shareOf 97 = .ok (.lload 4, 2) := by decide +kernel
theorem dX0_shareOf_99 : decode cX0_shareOf 99 = .ok (.ldiv, 1) := by decide +kernel
theorem dX0_shareOf_100 : decode cX0_shareOf 100 = .ok (.lsub, 1) := by decide +kernel
theorem dX0_shareOf_101 : decode cX0_shareOf 101 = .ok (.lstore 8, 2) := by decide +kernel
theorem dX0_shareOf_103 : decode cX0_shareOf 103 = .ok (.lload_n 2, 1) := by decide +kernel
theorem dX0_shareOf_104 : decode cX0_shareOf 104 = .ok (.aload_n 0, 1) := by decide +kernel
theorem dX0_shareOf_105 : decode cX0_shareOf 105 = .ok (.getfield 19, 3) := by decide +kernel
theorem dX0_shareOf_108 : decode cX0_shareOf 108 = .ok (.iload 11, 2) := by decide +kernel
theorem dX0_shareOf_110 : decode cX0_shareOf 110 = .ok (.laload, 1) := by decide +kernel
theorem dX0_shareOf_111 : decode cX0_shareOf 111 = .ok (.lmul, 1) := by decide +kernel
theorem dX0_shareOf_112 : decode cX0_shareOf 112 = .ok (.lload 4, 2) := by decide +kernel
theorem dX0_shareOf_114 : decode cX0_shareOf 114 = .ok (.lrem, 1) := by decide +kernel
theorem dX0_shareOf_115 : decode cX0_shareOf 115 = .ok (.lstore 12, 2) := by decide +kernel
theorem dX0_shareOf_117 : decode cX0_shareOf 117 = .ok (.lload 12, 2) := by decide +kernel
theorem dX0_shareOf_119 : decode cX0_shareOf 119 = .ok (.lload 6, 2) := by decide +kernel
theorem dX0_shareOf_121 : decode cX0_shareOf 121 = .ok (.lcmp, 1) := by decide +kernel
theorem dX0_shareOf_122 : decode cX0_shareOf 122 = .ok (.ifCond .gt 17, 3) := by decide +kernel
theorem dX0_shareOf_125 : decode cX0_shareOf 125 = .ok (.lload 12, 2) := by decide +kernel
theorem dX0_shareOf_127 : decode cX0_shareOf 127 = .ok (.lload 6, 2) := by decide +kernel
theorem dX0_shareOf_129 : decode cX0_shareOf 129 = .ok (.lcmp, 1) := by decide +kernel
theorem dX0_shareOf_130 : decode cX0_shareOf 130 = .ok (.ifCond .ne 12, 3) := by decide +kernel
theorem dX0_shareOf_133 : decode cX0_shareOf 133 = .ok (.iload 11, 2) := by decide +kernel
theorem dX0_shareOf_135 : decode cX0_shareOf 135 = .ok (.iload_n 1, 1) := by decide +kernel
theorem dX0_shareOf_136 : decode cX0_shareOf 136 = .ok (.if_icmp .ge 6, 3) := by decide +kernel
theorem dX0_shareOf_139 : decode cX0_shareOf 139 = .ok (.iinc 10 1, 3) := by decide +kernel
theorem dX0_shareOf_142 : decode cX0_shareOf 142 = .ok (.iinc 11 1, 3) := by decide +kernel
theorem dX0_shareOf_145 : decode cX0_shareOf 145 = .ok (.goto (-68), 3) := by decide +kernel
theorem dX0_shareOf_148 : decode cX0_shareOf 148 = .ok (.lload_n 2, 1) := by decide +kernel
theorem dX0_shareOf_149 : decode cX0_shareOf 149 = .ok (.aload_n 0, 1) := by decide +kernel
theorem dX0_shareOf_150 : decode cX0_shareOf 150 = .ok (.getfield 19, 3) := by decide +kernel
theorem dX0_shareOf_153 : decode cX0_shareOf 153 = .ok (.iload_n 1, 1) := by decide +kernel
theorem dX0_shareOf_154 : decode cX0_shareOf 154 = .ok (.laload, 1) := by decide +kernel
theorem dX0_shareOf_155 : decode cX0_shareOf 155 = .ok (.lmul, 1) := by decide +kernel
theorem dX0_shareOf_156 : decode cX0_shareOf 156 = .ok (.lload 4, 2) := by decide +kernel
theorem dX0_shareOf_158 : decode cX0_shareOf 158 = .ok (.ldiv, 1) := by decide +kernel
theorem dX0_shareOf_159 : decode cX0_shareOf 159 = .ok (.lstore 11, 2) := by decide +kernel
theorem dX0_shareOf_161 : decode cX0_shareOf 161 = .ok (.iload 10, 2) := by decide +kernel
theorem dX0_shareOf_163 : decode cX0_shareOf 163 = .ok (.i2l, 1) := by decide +kernel
theorem dX0_shareOf_164 : decode cX0_shareOf 164 = .ok (.lload 8, 2) := by decide +kernel
theorem dX0_shareOf_166 : decode cX0_shareOf 166 = .ok (.lcmp, 1) := by decide +kernel
theorem dX0_shareOf_167 : decode cX0_shareOf 167 = .ok (.ifCond .ge 10, 3) := by decide +kernel
theorem dX0_shareOf_170 : decode cX0_shareOf 170 = .ok (.lload 11, 2) := by decide +kernel
theorem dX0_shareOf_172 : decode cX0_shareOf 172 = .ok (.lconst 1, 1) := by decide +kernel
theorem dX0_shareOf_173 : decode cX0_shareOf 173 = .ok (.ladd, 1) := by decide +kernel
theorem dX0_shareOf_174 : decode cX0_shareOf 174 = .ok (.goto 5, 3) := by decide +kernel
theorem dX0_shareOf_177 : decode cX0_shareOf 177 = .ok (.lload 11, 2) := by decide +kernel
theorem dX0_shareOf_179 : decode cX0_shareOf 179 = .ok (.lreturn, 1) := by decide +kernel
theorem dX0_digestPerson_0 : decode cX0_digestPerson 0 = .ok (.lload_n 1, 1) := by decide +kernel
theorem dX0_digestPerson_1 : decode cX0_digestPerson 1 = .ok (.lstore 4, 2) := by decide +kernel
theorem dX0_digestPerson_3 : decode cX0_digestPerson 3 = .ok (.iconst 0, 1) := by decide +kernel
theorem dX0_digestPerson_4 : decode cX0_digestPerson 4 = .ok (.istore 6, 2) := by decide +kernel
theorem dX0_digestPerson_6 : decode cX0_digestPerson 6 = .ok (.iload 6, 2) := by decide +kernel
theorem dX0_digestPerson_8 : decode cX0_digestPerson 8 = .ok (.aload_n 0, 1) := by decide +kernel
theorem dX0_digestPerson_9 : decode cX0_digestPerson 9 = .ok (.getfield 27, 3) := by decide +kernel
theorem dX0_digestPerson_12 : decode cX0_digestPerson 12 = .ok (.if_icmp .ge 28, 3) := by decide +kernel
theorem dX0_digestPerson_15 : decode cX0_digestPerson 15 = .ok (.ldc2_w 61, 3) := by decide +kernel
theorem dX0_digestPerson_18 : decode cX0_digestPerson 18 = .ok (.lload 4, 2) := by decide +kernel
theorem dX0_digestPerson_20 : decode cX0_digestPerson 20 = .ok (.lmul, 1) := by decide +kernel
theorem dX0_digestPerson_21 : decode cX0_digestPerson 21 = .ok (.aload_n 0, 1) := by decide +kernel
theorem dX0_digestPerson_22 : decode cX0_digestPerson 22 = .ok (.getfield 11, 3) := by decide +kernel
theorem dX0_digestPerson_25 : decode cX0_digestPerson 25 = .ok (.iload_n 3, 1) := by decide +kernel
theorem dX0_digestPerson_26 : decode cX0_digestPerson 26 = .ok (.aaload, 1) := by decide +kernel
theorem dX0_digestPerson_27 : decode cX0_digestPerson 27 = .ok (.iload 6, 2) := by decide +kernel
theorem dX0_digestPerson_29 : decode cX0_digestPerson 29 = .ok (.iaload, 1) := by decide +kernel
theorem dX0_digestPerson_30 : decode cX0_digestPerson 30 = .ok (.i2l, 1) := by decide +kernel
theorem dX0_digestPerson_31 : decode cX0_digestPerson 31 = .ok (.ladd, 1) := by decide +kernel
theorem dX0_digestPerson_32 : decode cX0_digestPerson 32 = .ok (.lstore 4, 2) := by decide +kernel
theorem dX0_digestPerson_34 : decode cX0_digestPerson 34 = .ok (.iinc 6 1, 3) := by decide +kernel
theorem dX0_digestPerson_37 : decode cX0_digestPerson 37 = .ok (.goto (-31), 3) := by decide +kernel
theorem dX0_digestPerson_40 : decode cX0_digestPerson 40 = .ok (.iconst 0, 1) := by decide +kernel
theorem dX0_digestPerson_41 : decode cX0_digestPerson 41 = .ok (.istore 6, 2) := by decide +kernel
theorem dX0_digestPerson_43 : decode cX0_digestPerson 43 = .ok (.iload 6, 2) := by decide +kernel
theorem dX0_digestPerson_45 : decode cX0_digestPerson 45 = .ok (.iload_n 3, 1) := by decide +kernel
theorem dX0_digestPerson_46 : decode cX0_digestPerson 46 = .ok (.if_icmp .ge 28, 3) := by decide +kernel
theorem dX0_digestPerson_49 : decode cX0_digestPerson 49 = .ok (.ldc2_w 61, 3) := by decide +kernel
theorem dX0_digestPerson_52 : decode cX0_digestPerson 52 = .ok (.lload 4, 2) := by decide +kernel
theorem dX0_digestPerson_54 : decode cX0_digestPerson 54 = .ok (.lmul, 1) := by decide +kernel
theorem dX0_digestPerson_55 : decode cX0_digestPerson 55 = .ok (.aload_n 0, 1) := by decide +kernel
theorem dX0_digestPerson_56 : decode cX0_digestPerson 56 = .ok (.getfield 16, 3) := by decide +kernel
theorem dX0_digestPerson_59 : decode cX0_digestPerson 59 = .ok (.iload_n 3, 1) := by decide +kernel
theorem dX0_digestPerson_60 : decode cX0_digestPerson 60 = .ok (.aaload, 1) := by decide +kernel
theorem dX0_digestPerson_61 : decode cX0_digestPerson 61 = .ok (.iload 6, 2) := by decide +kernel
theorem dX0_digestPerson_63 : decode cX0_digestPerson 63 = .ok (.iaload, 1) := by decide +kernel
theorem dX0_digestPerson_64 : decode cX0_digestPerson 64 = .ok (.i2l, 1) := by decide +kernel
theorem dX0_digestPerson_65 : decode cX0_digestPerson 65 = .ok (.ladd, 1) := by decide +kernel
theorem dX0_digestPerson_66 : decode cX0_digestPerson 66 = .ok (.lstore 4, 2) := by decide +kernel
theorem dX0_digestPerson_68 : decode cX0_digestPerson 68 = .ok (.iinc 6 1, 3) := by decide +kernel
theorem dX0_digestPerson_71 : decode cX0_digestPerson 71 = .ok (.goto (-28), 3) := by decide +kernel
theorem dX0_digestPerson_74 : decode cX0_digestPerson 74 = .ok (.lload 4, 2) := by decide +kernel
theorem dX0_digestPerson_76 : decode cX0_digestPerson 76 = .ok (.lreturn, 1) := by decide +kernel
theorem dX1_init_0 : decode cX1_init 0 = .ok (.aload_n 0, 1) := by decide +kernel
theorem dX1_init_1 : decode cX1_init 1 = .ok (.invokespecial 3, 3) := by decide +kernel
theorem dX1_init_4 : decode cX1_init 4 = .ok (.aload_n 0, 1) := by decide +kernel
theorem dX1_init_5 : decode cX1_init 5 = .ok (.bipush 12, 2) := by decide +kernel
theorem dX1_init_7 : decode cX1_init 7 = .ok (.newarray .int, 2) := by decide +kernel
theorem dX1_init_9 : decode cX1_init 9 = .ok (.putfield 9, 3) := by decide +kernel
theorem dX1_init_12 : decode cX1_init 12 = .ok (.aload_n 0, 1) := by decide +kernel
theorem dX1_init_13 : decode cX1_init 13 = .ok (.bipush 12, 2) := by decide +kernel
theorem dX1_init_15 : decode cX1_init 15 = .ok (.newarray .boolean, 2) := by decide +kernel
theorem dX1_init_17 : decode cX1_init 17 = .ok (.putfield 15, 3) := by decide +kernel
theorem dX1_init_20 : decode cX1_init 20 = .ok (.aload_n 0, 1) := by decide +kernel
theorem dX1_init_21 : decode cX1_init 21 = .ok (.bipush 12, 2) := by decide +kernel
theorem dX1_init_23 : decode cX1_init 23 = .ok (.bipush 6, 2) := by decide +kernel
theorem dX1_init_25 : decode cX1_init 25 = .ok (.multianewarray 19 2, 4) := by decide +kernel
theorem dX1_init_29 : decode cX1_init 29 = .ok (.putfield 21, 3) := by decide +kernel
theorem dX1_init_32 : decode cX1_init 32 = .ok (.aload_n 0, 1) := by decide +kernel
theorem dX1_init_33 : decode cX1_init 33 = .ok (.bipush 12, 2) := by decide +kernel
theorem dX1_init_35 : decode cX1_init 35 = .ok (.bipush 6, 2) := by decide +kernel
theorem dX1_init_37 : decode cX1_init 37 = .ok (.multianewarray 19 2, 4) := by decide +kernel
theorem dX1_init_41 : decode cX1_init 41 = .ok (.putfield 24, 3) := by decide +kernel
theorem dX1_init_44 : decode cX1_init 44 = .ok (.return_, 1) := by decide +kernel
theorem dX1_hasPerson_0 : decode cX1_hasPerson 0 = .ok (.iload_n 1, 1) := by decide +kernel
theorem dX1_hasPerson_1 : decode cX1_hasPerson 1 = .ok (.ifCond .lt 15, 3) := by decide +kernel
theorem dX1_hasPerson_4 : decode cX1_hasPerson 4 = .ok (.iload_n 1, 1) := by decide +kernel
theorem dX1_hasPerson_5 : decode cX1_hasPerson 5 = .ok (.aload_n 0, 1) := by decide +kernel
theorem dX1_hasPerson_6 : decode cX1_hasPerson 6 = .ok (.getfield 27, 3) := by decide +kernel
theorem dX1_hasPerson_9 : decode cX1_hasPerson 9 = .ok (.if_icmp .ge 7, 3) := by decide +kernel
theorem dX1_hasPerson_12 : decode cX1_hasPerson 12 = .ok (.iconst 1, 1) := by decide +kernel
theorem dX1_hasPerson_13 : decode cX1_hasPerson 13 = .ok (.goto 4, 3) := by decide +kernel
theorem dX1_hasPerson_16 : decode cX1_hasPerson 16 = .ok (.iconst 0, 1) := by decide +kernel
theorem dX1_hasPerson_17 : decode cX1_hasPerson 17 = .ok (.ireturn, 1) := by decide +kernel
theorem dX1_hasQuestion_0 : decode cX1_hasQuestion 0 = .ok (.iload_n 1, 1) := by decide +kernel
theorem dX1_hasQuestion_1 : decode cX1_hasQuestion 1 = .ok (.ifCond .lt 15, 3) := by decide +kernel
theorem dX1_hasQuestion_4 : decode cX1_hasQuestion 4 = .ok (.iload_n 1, 1) := by decide +kernel
theorem dX1_hasQuestion_5 : decode cX1_hasQuestion 5 = .ok (.aload_n 0, 1) := by decide +kernel
theorem dX1_hasQuestion_6 : decode cX1_hasQuestion 6 = .ok (.getfield 31, 3) := by decide +kernel
theorem dX1_hasQuestion_9 : decode cX1_hasQuestion 9 = .ok (.if_icmp .ge 7, 3) := by decide +kernel
theorem dX1_hasQuestion_12 : decode cX1_hasQuestion 12 = .ok (.iconst 1, 1) := by decide +kernel
theorem dX1_hasQuestion_13 : decode cX1_hasQuestion 13 = .ok (.goto 4, 3) := by decide +kernel
theorem dX1_hasQuestion_16 : decode cX1_hasQuestion 16 = .ok (.iconst 0, 1) := by decide +kernel
theorem dX1_hasQuestion_17 : decode cX1_hasQuestion 17 = .ok (.ireturn, 1) := by decide +kernel
theorem dX1_addPerson_0 : decode cX1_addPerson 0 = .ok (.aload_n 0, 1) := by decide +kernel
theorem dX1_addPerson_1 : decode cX1_addPerson 1 = .ok (.getfield 9, 3) := by decide +kernel
theorem dX1_addPerson_4 : decode cX1_addPerson 4 = .ok (.aload_n 0, 1) := by decide +kernel
theorem dX1_addPerson_5 : decode cX1_addPerson 5 = .ok (.getfield 27, 3) := by decide +kernel
theorem dX1_addPerson_8 : decode cX1_addPerson 8 = .ok (.iload_n 1, 1) := by decide +kernel
theorem dX1_addPerson_9 : decode cX1_addPerson 9 = .ok (.iastore, 1) := by decide +kernel
theorem dX1_addPerson_10 : decode cX1_addPerson 10 = .ok (.aload_n 0, 1) := by decide +kernel
theorem dX1_addPerson_11 : decode cX1_addPerson 11 = .ok (.getfield 15, 3) := by decide +kernel
theorem dX1_addPerson_14 : decode cX1_addPerson 14 = .ok (.aload_n 0, 1) := by decide +kernel
theorem dX1_addPerson_15 : decode cX1_addPerson 15 = .ok (.getfield 27, 3) := by decide +kernel
theorem dX1_addPerson_18 : decode cX1_addPerson 18 = .ok (.iconst 1, 1) := by decide +kernel
theorem dX1_addPerson_19 : decode cX1_addPerson 19 = .ok (.bastore, 1) := by decide +kernel
theorem dX1_addPerson_20 : decode cX1_addPerson 20 = .ok (.aload_n 0, 1) := by decide +kernel
theorem dX1_addPerson_21 : decode cX1_addPerson 21 = .ok (.dup, 1) := by decide +kernel
theorem dX1_addPerson_22 : decode cX1_addPerson 22 = .ok (.getfield 27, 3) := by decide +kernel
theorem dX1_addPerson_25 : decode cX1_addPerson 25 = .ok (.iconst 1, 1) := by decide +kernel
theorem dX1_addPerson_26 : decode cX1_addPerson 26 = .ok (.iadd, 1) := by decide +kernel
theorem dX1_addPerson_27 : decode cX1_addPerson 27 = .ok (.putfield 27, 3) := by decide +kernel
theorem dX1_addPerson_30 : decode cX1_addPerson 30 = .ok (.aload_n 0, 1) := by decide +kernel
theorem dX1_addPerson_31 : decode cX1_addPerson 31 = .ok (.getfield 27, 3) := by decide +kernel
theorem dX1_addPerson_34 : decode cX1_addPerson 34 = .ok (.iconst 1, 1) := by decide +kernel
theorem dX1_addPerson_35 : decode cX1_addPerson 35 = .ok (.isub, 1) := by decide +kernel
theorem dX1_addPerson_36 : decode cX1_addPerson 36 = .ok (.ireturn, 1) := by decide +kernel
theorem dX1_peoplePresent_0 : decode cX1_peoplePresent 0 = .ok (.iconst 0, 1) := by decide +kernel
theorem dX1_peoplePresent_1 : decode cX1_peoplePresent 1 = .ok (.istore_n 1, 1) := by decide +kernel
theorem dX1_peoplePresent_2 : decode cX1_peoplePresent 2 = .ok (.iconst 0, 1) := by decide +kernel
theorem dX1_peoplePresent_3 : decode cX1_peoplePresent 3 = .ok (.istore_n 2, 1) := by decide +kernel
theorem dX1_peoplePresent_4 : decode cX1_peoplePresent 4 = .ok (.iload_n 2, 1) := by decide +kernel
theorem dX1_peoplePresent_5 : decode cX1_peoplePresent 5 = .ok (.aload_n 0, 1) := by decide +kernel
theorem dX1_peoplePresent_6 : decode cX1_peoplePresent 6 = .ok (.getfield 27, 3) := by decide +kernel
theorem dX1_peoplePresent_9 : decode cX1_peoplePresent 9 = .ok (.if_icmp .ge 21, 3) := by decide +kernel
theorem dX1_peoplePresent_12 : decode cX1_peoplePresent 12 = .ok (.aload_n 0, 1) := by decide +kernel
theorem dX1_peoplePresent_13 : decode cX1_peoplePresent 13 = .ok (.getfield 15, 3) := by decide +kernel
theorem dX1_peoplePresent_16 : decode cX1_peoplePresent 16 = .ok (.iload_n 2, 1) := by decide +kernel
theorem dX1_peoplePresent_17 : decode cX1_peoplePresent 17 = .ok (.baload, 1) := by decide +kernel
theorem dX1_peoplePresent_18 : decode cX1_peoplePresent 18 = .ok (.ifCond .eq 6, 3) := by decide +kernel
theorem dX1_peoplePresent_21 : decode cX1_peoplePresent 21 = .ok (.iinc 1 1, 3) := by decide +kernel
theorem dX1_peoplePresent_24 : decode cX1_peoplePresent 24 = .ok (.iinc 2 1, 3) := by decide +kernel
theorem dX1_peoplePresent_27 : decode cX1_peoplePresent 27 = .ok (.goto (-23), 3) := by decide +kernel
theorem dX1_peoplePresent_30 : decode cX1_peoplePresent 30 = .ok (.iload_n 1, 1) := by decide +kernel
theorem dX1_peoplePresent_31 : decode cX1_peoplePresent 31 = .ok (.ireturn, 1) := by decide +kernel
theorem dX1_costOf_0 : decode cX1_costOf 0 = .ok (.iconst 0, 1) := by decide +kernel
theorem dX1_costOf_1 : decode cX1_costOf 1 = .ok (.istore_n 2, 1) := by decide +kernel
theorem dX1_costOf_2 : decode cX1_costOf 2 = .ok (.iconst 0, 1) := by decide +kernel
theorem dX1_costOf_3 : decode cX1_costOf 3 = .ok (.istore_n 3, 1) := by decide +kernel
theorem dX1_costOf_4 : decode cX1_costOf 4 = .ok (.iload_n 3, 1) := by decide +kernel
theorem dX1_costOf_5 : decode cX1_costOf 5 = .ok (.aload_n 0, 1) := by decide +kernel
theorem dX1_costOf_6 : decode cX1_costOf 6 = .ok (.getfield 31, 3) := by decide +kernel
theorem dX1_costOf_9 : decode cX1_costOf 9 = .ok (.if_icmp .ge 29, 3) := by decide +kernel
theorem dX1_costOf_12 : decode cX1_costOf 12 = .ok (.iload_n 2, 1) := by decide +kernel
theorem dX1_costOf_13 : decode cX1_costOf 13 = .ok (.aload_n 0, 1) := by decide +kernel
theorem dX1_costOf_14 : decode cX1_costOf 14 = .ok (.getfield 21, 3) := by decide +kernel
theorem dX1_costOf_17 : decode cX1_costOf 17 = .ok (.iload_n 1, 1) := by decide +kernel
theorem dX1_costOf_18 : decode cX1_costOf 18 = .ok (.aaload, 1) := by decide +kernel
theorem dX1_costOf_19 : decode cX1_costOf 19 = .ok (.iload_n 3, 1) := by decide +kernel
theorem dX1_costOf_20 : decode cX1_costOf 20 = .ok (.iaload, 1) := by decide +kernel
theorem dX1_costOf_21 : decode cX1_costOf 21 = .ok (.aload_n 0, 1) := by decide +kernel
theorem dX1_costOf_22 : decode cX1_costOf 22 = .ok (.getfield 21, 3) := by decide +kernel
theorem dX1_costOf_25 : decode cX1_costOf 25 = .ok (.iload_n 1, 1) := by decide +kernel
theorem dX1_costOf_26 : decode cX1_costOf 26 = .ok (.aaload, 1) := by decide +kernel
theorem dX1_costOf_27 : decode cX1_costOf 27 = .ok (.iload_n 3, 1) := by decide +kernel
theorem dX1_costOf_28 : decode cX1_costOf 28 = .ok (.iaload, 1) := by decide +kernel
theorem dX1_costOf_29 : decode cX1_costOf 29 = .ok (.imul, 1) := by decide +kernel
theorem dX1_costOf_30 : decode cX1_costOf 30 = .ok (.iadd, 1) := by decide +kernel
theorem dX1_costOf_31 : decode cX1_costOf 31 = .ok (.istore_n 2, 1) := by decide +kernel
theorem dX1_costOf_32 : decode cX1_costOf 32 = .ok (.iinc 3 1, 3) := by decide +kernel
theorem dX1_costOf_35 : decode cX1_costOf 35 = .ok (.goto (-31), 3) := by decide +kernel
theorem dX1_costOf_38 : decode cX1_costOf 38 = .ok (.iload_n 2, 1) := by decide +kernel
theorem dX1_costOf_39 : decode cX1_costOf 39 = .ok (.ireturn, 1) := by decide +kernel
theorem dX1_countOf_0 : decode cX1_countOf 0 = .ok (.iconst 0, 1) := by decide +kernel
theorem dX1_countOf_1 : decode cX1_countOf 1 = .ok (.istore_n 2, 1) := by decide +kernel
theorem dX1_countOf_2 : decode cX1_countOf 2 = .ok (.iconst 0, 1) := by decide +kernel
theorem dX1_countOf_3 : decode cX1_countOf 3 = .ok (.istore_n 3, 1) := by decide +kernel
theorem dX1_countOf_4 : decode cX1_countOf 4 = .ok (.iload_n 3, 1) := by decide +kernel
theorem dX1_countOf_5 : decode cX1_countOf 5 = .ok (.aload_n 0, 1) := by decide +kernel
theorem dX1_countOf_6 : decode cX1_countOf 6 = .ok (.getfield 27, 3) := by decide +kernel
theorem dX1_countOf_9 : decode cX1_countOf 9 = .ok (.if_icmp .ge 29, 3) := by decide +kernel
theorem dX1_countOf_12 : decode cX1_countOf 12 = .ok (.aload_n 0, 1) := by decide +kernel
theorem dX1_countOf_13 : decode cX1_countOf 13 = .ok (.getfield 15, 3) := by decide +kernel
theorem dX1_countOf_16 : decode cX1_countOf 16 = .ok (.iload_n 3, 1) := by decide +kernel
theorem dX1_countOf_17 : decode cX1_countOf 17 = .ok (.baload, 1) := by decide +kernel
theorem dX1_countOf_18 : decode cX1_countOf 18 = .ok (.ifCond .eq 14, 3) := by decide +kernel
theorem dX1_countOf_21 : decode cX1_countOf 21 = .ok (.iload_n 2, 1) := by decide +kernel
theorem dX1_countOf_22 : decode cX1_countOf 22 = .ok (.aload_n 0, 1) := by decide +kernel
theorem dX1_countOf_23 : decode cX1_countOf 23 = .ok (.getfield 21, 3) := by decide +kernel
theorem dX1_countOf_26 : decode cX1_countOf 26 = .ok (.iload_n 3, 1) := by decide +kernel
theorem dX1_countOf_27 : decode cX1_countOf 27 = .ok (.aaload, 1) := by decide +kernel
theorem dX1_countOf_28 : decode cX1_countOf 28 = .ok (.iload_n 1, 1) := by decide +kernel
theorem dX1_countOf_29 : decode cX1_countOf 29 = .ok (.iaload, 1) := by decide +kernel
theorem dX1_countOf_30 : decode cX1_countOf 30 = .ok (.iadd, 1) := by decide +kernel
theorem dX1_countOf_31 : decode cX1_countOf 31 = .ok (.istore_n 2, 1) := by decide +kernel
theorem dX1_countOf_32 : decode cX1_countOf 32 = .ok (.iinc 3 1, 3) := by decide +kernel
theorem dX1_countOf_35 : decode cX1_countOf 35 = .ok (.goto (-31), 3) := by decide +kernel
theorem dX1_countOf_38 : decode cX1_countOf 38 = .ok (.iload_n 2, 1) := by decide +kernel
theorem dX1_countOf_39 : decode cX1_countOf 39 = .ok (.ireturn, 1) := by decide +kernel
theorem dX1_countWithout_0 : decode cX1_countWithout 0 = .ok (.aload_n 0, 1) := by decide +kernel
theorem dX1_countWithout_1 : decode cX1_countWithout 1 = .ok (.iload_n 2, 1) := by decide +kernel
theorem dX1_countWithout_2 : decode cX1_countWithout 2 = .ok (.invokevirtual 34, 3) := by decide +kernel
theorem dX1_countWithout_5 : decode cX1_countWithout 5 = .ok (.istore_n 3, 1) := by decide +kernel
theorem dX1_countWithout_6 : decode cX1_countWithout 6 = .ok (.aload_n 0, 1) := by decide +kernel
theorem dX1_countWithout_7 : decode cX1_countWithout 7 = .ok (.getfield 15, 3) := by decide +kernel
theorem dX1_countWithout_10 : decode cX1_countWithout 10 = .ok (.iload_n 1, 1) := by decide +kernel
theorem dX1_countWithout_11 : decode cX1_countWithout 11 = .ok (.baload, 1) := by decide +kernel
theorem dX1_countWithout_12 : decode cX1_countWithout 12 = .ok (.ifCond .eq 16, 3) := by decide +kernel
theorem dX1_countWithout_15 : decode cX1_countWithout 15 = .ok (.iload_n 3, 1) := by decide +kernel
theorem dX1_countWithout_16 : decode cX1_countWithout 16 = .ok (.aload_n 0, 1) := by decide +kernel
theorem dX1_countWithout_17 : decode cX1_countWithout 17 = .ok (.getfield 21, 3) := by decide +kernel
theorem dX1_countWithout_20 : decode cX1_countWithout 20 = .ok (.iload_n 1, 1) := by decide +kernel
theorem dX1_countWithout_21 : decode cX1_countWithout 21 = .ok (.aaload, 1) := by decide +kernel
theorem dX1_countWithout_22 : decode cX1_countWithout 22 = .ok (.iload_n 2, 1) := by decide +kernel
theorem dX1_countWithout_23 : decode cX1_countWithout 23 = .ok (.iaload, 1) := by decide +kernel
theorem dX1_countWithout_24 : decode cX1_countWithout 24 = .ok (.isub, 1) := by decide +kernel
theorem dX1_countWithout_25 : decode cX1_countWithout 25 = .ok (.goto 4, 3) := by decide +kernel
theorem dX1_countWithout_28 : decode cX1_countWithout 28 = .ok (.iload_n 3, 1) := by decide +kernel
theorem dX1_countWithout_29 : decode cX1_countWithout 29 = .ok (.ireturn, 1) := by decide +kernel
theorem dX1_resultOf_0 : decode cX1_resultOf 0 = .ok (.iload_n 2, 1) := by decide +kernel
theorem dX1_resultOf_1 : decode cX1_resultOf 1 = .ok (.ifCond .eq 13, 3) := by decide +kernel
theorem dX1_resultOf_4 : decode cX1_resultOf 4 = .ok (.iload_n 2, 1) := by decide +kernel
theorem dX1_resultOf_5 : decode cX1_resultOf 5 = .ok (.ifCond .le 7, 3) := by decide +kernel
theorem dX1_resultOf_8 : decode cX1_resultOf 8 = .ok (.iconst 1, 1) := by decide +kernel
theorem dX1_resultOf_9 : decode cX1_resultOf 9 = .ok (.goto 4, 3) := by decide +kernel
theorem dX1_resultOf_12 : decode cX1_resultOf 12 = .ok (.iconst (-1), 1) := by decide +kernel
theorem dX1_resultOf_13 : decode cX1_resultOf 13 = .ok (.ireturn, 1) := by decide +kernel
theorem dX1_resultOf_14 : decode cX1_resultOf 14 = .ok (.aload_n 0, 1) := by decide +kernel
theorem dX1_resultOf_15 : decode cX1_resultOf 15 = .ok (.getfield 38, 3) := by decide +kernel
theorem dX1_resultOf_18 : decode cX1_resultOf 18 = .ok (.istore_n 3, 1) := by decide +kernel
theorem dX1_resultOf_19 : decode cX1_resultOf 19 = .ok (.iconst 0, 1) := by decide +kernel
theorem dX1_resultOf_20 : decode cX1_resultOf 20 = .ok (.istore 4, 2) := by decide +kernel
theorem dX1_resultOf_22 : decode cX1_resultOf 22 = .ok (.iload 4, 2) := by decide +kernel
theorem dX1_resultOf_24 : decode cX1_resultOf 24 = .ok (.iload_n 1, 1) := by decide +kernel
theorem dX1_resultOf_25 : decode cX1_resultOf 25 = .ok (.if_icmp .gt 17, 3) := by decide +kernel
theorem dX1_resultOf_28 : decode cX1_resultOf 28 = .ok (.iload_n 3, 1) := by decide +kernel
theorem dX1_resultOf_29 : decode cX1_resultOf 29 = .ok (.ldc 41, 2) := by decide +kernel
theorem dX1_resultOf_31 : decode cX1_resultOf 31 = .ok (.imul, 1) := by decide +kernel
theorem dX1_resultOf_32 : decode cX1_resultOf 32 = .ok (.ldc 42, 2) := by decide +kernel
theorem dX1_resultOf_34 : decode cX1_resultOf 34 = .ok (.iadd, 1) := by decide +kernel
theorem dX1_resultOf_35 : decode cX1_resultOf 35 = .ok (.istore_n 3, 1) := by decide +kernel
theorem dX1_resultOf_36 : decode cX1_resultOf 36 = .ok (.iinc 4 1, 3) := by decide +kernel
theorem dX1_resultOf_39 : decode cX1_resultOf 39 = .ok (.goto (-17), 3) := by decide +kernel
theorem dX1_resultOf_42 : decode cX1_resultOf 42 = .ok (.iload_n 3, 1) := by decide +kernel
theorem dX1_resultOf_43 : decode cX1_resultOf 43 = .ok (.bipush 20, 2) := by decide +kernel
theorem dX1_resultOf_45 : decode cX1_resultOf 45 = .ok (.iushr, 1) := by decide +kernel
theorem dX1_resultOf_46 : decode cX1_resultOf 46 = .ok (.iconst 1, 1) := by decide +kernel
theorem dX1_resultOf_47 : decode cX1_resultOf 47 = .ok (.iand, 1) := by decide +kernel
theorem dX1_resultOf_48 : decode cX1_resultOf 48 = .ok (.iconst 1, 1) := by decide +kernel
theorem dX1_resultOf_49 : decode cX1_resultOf 49 = .ok (.if_icmp .ne 7, 3) := by decide +kernel
theorem dX1_resultOf_52 : decode cX1_resultOf 52 = .ok (.iconst 1, 1) := by decide +kernel
theorem dX1_resultOf_53 : decode cX1_resultOf 53 = .ok (.goto 4, 3) := by decide +kernel
theorem dX1_resultOf_56 : decode cX1_resultOf 56 = .ok (.iconst (-1), 1) := by decide +kernel
theorem dX1_resultOf_57 : decode cX1_resultOf 57 = .ok (.ireturn, 1) := by decide +kernel
theorem dX1_gainOf_0 : decode cX1_gainOf 0 = .ok (.iconst 0, 1) := by decide +kernel
theorem dX1_gainOf_1 : decode cX1_gainOf 1 = .ok (.istore_n 2, 1) := by decide +kernel
theorem dX1_gainOf_2 : decode cX1_gainOf 2 = .ok (.iconst 0, 1) := by decide +kernel
theorem dX1_gainOf_3 : decode cX1_gainOf 3 = .ok (.istore_n 3, 1) := by decide +kernel
theorem dX1_gainOf_4 : decode cX1_gainOf 4 = .ok (.iload_n 3, 1) := by decide +kernel
theorem dX1_gainOf_5 : decode cX1_gainOf 5 = .ok (.aload_n 0, 1) := by decide +kernel
theorem dX1_gainOf_6 : decode cX1_gainOf 6 = .ok (.getfield 31, 3) := by decide +kernel
theorem dX1_gainOf_9 : decode cX1_gainOf 9 = .ok (.if_icmp .ge 28, 3) := by decide +kernel
theorem dX1_gainOf_12 : decode cX1_gainOf 12 = .ok (.iload_n 2, 1) := by decide +kernel
theorem dX1_gainOf_13 : decode cX1_gainOf 13 = .ok (.aload_n 0, 1) := by decide +kernel
theorem dX1_gainOf_14 : decode cX1_gainOf 14 = .ok (.iload_n 3, 1) := by decide +kernel
theorem dX1_gainOf_15 : decode cX1_gainOf 15 = .ok (.invokevirtual 34, 3) := by decide +kernel
theorem dX1_gainOf_18 : decode cX1_gainOf 18 = .ok (.aload_n 0, 1) := by decide +kernel
theorem dX1_gainOf_19 : decode cX1_gainOf 19 = .ok (.getfield 24, 3) := by decide +kernel
theorem dX1_gainOf_22 : decode cX1_gainOf 22 = .ok (.iload_n 1, 1) := by decide +kernel
theorem dX1_gainOf_23 : decode cX1_gainOf 23 = .ok (.aaload, 1) := by decide +kernel
theorem dX1_gainOf_24 : decode cX1_gainOf 24 = .ok (.iload_n 3, 1) := by decide +kernel
theorem dX1_gainOf_25 : decode cX1_gainOf 25 = .ok (.iaload, 1) := by decide +kernel
theorem dX1_gainOf_26 : decode cX1_gainOf 26 = .ok (.invokestatic 43, 3) := by decide +kernel
theorem dX1_gainOf_29 : decode cX1_gainOf 29 = .ok (.iadd, 1) := by decide +kernel
theorem dX1_gainOf_30 : decode cX1_gainOf 30 = .ok (.istore_n 2, 1) := by decide +kernel
theorem dX1_gainOf_31 : decode cX1_gainOf 31 = .ok (.iinc 3 1, 3) := by decide +kernel
theorem dX1_gainOf_34 : decode cX1_gainOf 34 = .ok (.goto (-30), 3) := by decide +kernel
theorem dX1_gainOf_37 : decode cX1_gainOf 37 = .ok (.iload_n 2, 1) := by decide +kernel
theorem dX1_gainOf_38 : decode cX1_gainOf 38 = .ok (.ireturn, 1) := by decide +kernel
theorem dX1_gainBy_0 : decode cX1_gainBy 0 = .ok (.iload_n 0, 1) := by decide +kernel
theorem dX1_gainBy_1 : decode cX1_gainBy 1 = .ok (.ifCond .ge 5, 3) := by decide +kernel
theorem dX1_gainBy_4 : decode cX1_gainBy 4 = .ok (.iconst 0, 1) := by decide +kernel
theorem dX1_gainBy_5 : decode cX1_gainBy 5 = .ok (.ireturn, 1) := by decide +kernel
theorem dX1_gainBy_6 : decode cX1_gainBy 6 = .ok (.iload_n 0, 1) := by decide +kernel
theorem dX1_gainBy_7 : decode cX1_gainBy 7 = .ok (.ifCond .ne 7, 3) := by decide +kernel
theorem dX1_gainBy_10 : decode cX1_gainBy 10 = .ok (.iload_n 1, 1) := by decide +kernel
theorem dX1_gainBy_11 : decode cX1_gainBy 11 = .ok (.goto 6, 3) := by decide +kernel
theorem dX1_gainBy_14 : decode cX1_gainBy 14 = .ok (.iconst 2, 1) := by decide +kernel
theorem dX1_gainBy_15 : decode cX1_gainBy 15 = .ok (.iload_n 1, 1) := by decide +kernel
theorem dX1_gainBy_16 : decode cX1_gainBy 16 = .ok (.imul, 1) := by decide +kernel
theorem dX1_gainBy_17 : decode cX1_gainBy 17 = .ok (.ireturn, 1) := by decide +kernel
theorem dX1_swingsOf_0 : decode cX1_swingsOf 0 = .ok (.iconst 0, 1) := by decide +kernel
theorem dX1_swingsOf_1 : decode cX1_swingsOf 1 = .ok (.istore_n 2, 1) := by decide +kernel
theorem dX1_swingsOf_2 : decode cX1_swingsOf 2 = .ok (.iconst 0, 1) := by decide +kernel
theorem dX1_swingsOf_3 : decode cX1_swingsOf 3 = .ok (.istore_n 3, 1) := by decide +kernel
theorem dX1_swingsOf_4 : decode cX1_swingsOf 4 = .ok (.iload_n 3, 1) := by decide +kernel
theorem dX1_swingsOf_5 : decode cX1_swingsOf 5 = .ok (.aload_n 0, 1) := by decide +kernel
theorem dX1_swingsOf_6 : decode cX1_swingsOf 6 = .ok (.getfield 31, 3) := by decide +kernel
theorem dX1_swingsOf_9 : decode cX1_swingsOf 9 = .ok (.if_icmp .ge 49, 3) := by decide +kernel
theorem dX1_swingsOf_12 : decode cX1_swingsOf 12 = .ok (.aload_n 0, 1) := by decide +kernel
theorem dX1_swingsOf_13 : decode cX1_swingsOf 13 = .ok (.iload_n 1, 1) := by decide +kernel
theorem dX1_swingsOf_14 : decode cX1_swingsOf 14 = .ok (.iload_n 3, 1) := by decide +kernel
theorem dX1_swingsOf_15 : decode cX1_swingsOf 15 = .ok (.invokevirtual 47, 3) := by decide +kernel
theorem dX1_swingsOf_18 : decode cX1_swingsOf 18 = .ok (.istore 4, 2) := by decide +kernel
theorem dX1_swingsOf_20 : decode cX1_swingsOf 20 = .ok (.aload_n 0, 1) := by decide +kernel
theorem dX1_swingsOf_21 : decode cX1_swingsOf 21 = .ok (.iload_n 3, 1) := by decide +kernel
theorem dX1_swingsOf_22 : decode cX1_swingsOf 22 = .ok (.iload 4, 2) := by decide +kernel
theorem dX1_swingsOf_24 : decode cX1_swingsOf 24 = .ok (.invokevirtual 50, 3) := by decide +kernel
theorem dX1_swingsOf_27 : decode cX1_swingsOf 27 = .ok (.aload_n 0, 1) := by decide +kernel
theorem dX1_swingsOf_28 : decode cX1_swingsOf 28 = .ok (.iload_n 3, 1) := by decide +kernel
theorem dX1_swingsOf_29 : decode cX1_swingsOf 29 = .ok (.iload 4, 2) := by decide +kernel
theorem dX1_swingsOf_31 : decode cX1_swingsOf 31 = .ok (.aload_n 0, 1) := by decide +kernel
theorem dX1_swingsOf_32 : decode cX1_swingsOf 32 = .ok (.getfield 21, 3) := by decide +kernel
theorem dX1_swingsOf_35 : decode cX1_swingsOf 35 = .ok (.iload_n 1, 1) := by decide +kernel
theorem dX1_swingsOf_36 : decode cX1_swingsOf 36 = .ok (.aaload, 1) := by decide +kernel
theorem dX1_swingsOf_37 : decode cX1_swingsOf 37 = .ok (.iload_n 3, 1) := by decide +kernel
theorem dX1_swingsOf_38 : decode cX1_swingsOf 38 = .ok (.iaload, 1) := by decide +kernel
theorem dX1_swingsOf_39 : decode cX1_swingsOf 39 = .ok (.iadd, 1) := by decide +kernel
theorem dX1_swingsOf_40 : decode cX1_swingsOf 40 = .ok (.invokevirtual 50, 3) := by decide +kernel
theorem dX1_swingsOf_43 : decode cX1_swingsOf 43 = .ok (.if_icmp .eq 9, 3) := by decide +kernel
theorem dX1_swingsOf_46 : decode cX1_swingsOf 46 = .ok (.iload_n 2, 1) := by decide +kernel
theorem dX1_swingsOf_47 : decode cX1_swingsOf 47 = .ok (.iconst 1, 1) := by decide +kernel
theorem dX1_swingsOf_48 : decode cX1_swingsOf 48 = .ok (.iload_n 3, 1) := by decide +kernel
theorem dX1_swingsOf_49 : decode cX1_swingsOf 49 = .ok (.ishl, 1) := by decide +kernel
theorem dX1_swingsOf_50 : decode cX1_swingsOf 50 = .ok (.ior, 1) := by decide +kernel
theorem dX1_swingsOf_51 : decode cX1_swingsOf 51 = .ok (.istore_n 2, 1) := by decide +kernel
theorem dX1_swingsOf_52 : decode cX1_swingsOf 52 = .ok (.iinc 3 1, 3) := by decide +kernel
theorem dX1_swingsOf_55 : decode cX1_swingsOf 55 = .ok (.goto (-51), 3) := by decide +kernel
theorem dX1_swingsOf_58 : decode cX1_swingsOf 58 = .ok (.iload_n 2, 1) := by decide +kernel
theorem dX1_swingsOf_59 : decode cX1_swingsOf 59 = .ok (.ireturn, 1) := by decide +kernel
theorem dX1_likenessOf_0 : decode cX1_likenessOf 0 = .ok (.aload_n 0, 1) := by decide +kernel
theorem dX1_likenessOf_1 : decode cX1_likenessOf 1 = .ok (.iload_n 1, 1) := by decide +kernel
theorem dX1_likenessOf_2 : decode cX1_likenessOf 2 = .ok (.invokevirtual 53, 3) := by decide +kernel
theorem dX1_likenessOf_5 : decode cX1_likenessOf 5 = .ok (.i2l, 1) := by decide +kernel
theorem dX1_likenessOf_6 : decode cX1_likenessOf 6 = .ok (.aload_n 0, 1) := by decide +kernel
theorem dX1_likenessOf_7 : decode cX1_likenessOf 7 = .ok (.iload_n 2, 1) := by decide +kernel
theorem dX1_likenessOf_8 : decode cX1_likenessOf 8 = .ok (.invokevirtual 53, 3) := by decide +kernel
theorem dX1_likenessOf_11 : decode cX1_likenessOf 11 = .ok (.i2l, 1) := by decide +kernel
theorem dX1_likenessOf_12 : decode cX1_likenessOf 12 = .ok (.lmul, 1) := by decide +kernel
theorem dX1_likenessOf_13 : decode cX1_likenessOf 13 = .ok (.lstore_n 3, 1) := by decide +kernel
theorem dX1_likenessOf_14 : decode cX1_likenessOf 14 = .ok (.lload_n 3, 1) := by decide +kernel
theorem dX1_likenessOf_15 : decode cX1_likenessOf 15 = .ok (.lconst 0, 1) := by decide +kernel
theorem dX1_likenessOf_16 : decode cX1_likenessOf 16 = .ok (.lcmp, 1) := by decide +kernel
theorem dX1_likenessOf_17 : decode cX1_likenessOf 17 = .ok (.ifCond .ne 7, 3) := by decide +kernel
theorem dX1_likenessOf_20 : decode cX1_likenessOf 20 = .ok (.sipush (-2000), 3) := by decide +kernel
theorem dX1_likenessOf_23 : decode cX1_likenessOf 23 = .ok (.ireturn, 1) := by decide +kernel
theorem dX1_likenessOf_24 : decode cX1_likenessOf 24 = .ok (.lconst 0, 1) := by decide +kernel
theorem dX1_likenessOf_25 : decode cX1_likenessOf 25 = .ok (.lstore 5, 2) := by decide +kernel
theorem dX1_likenessOf_27 : decode cX1_likenessOf 27 = .ok (.iconst 0, 1) := by decide +kernel
theorem dX1_likenessOf_28 : decode cX1_likenessOf 28 = .ok (.istore 7, 2) := by decide +kernel
theorem dX1_likenessOf_30 : decode cX1_likenessOf 30 = .ok (.iload 7, 2) := by decide +kernel
theorem dX1_likenessOf_32 : decode cX1_likenessOf 32 = .ok (.aload_n 0, 1) := by decide +kernel
theorem dX1_likenessOf_33 : decode cX1_likenessOf 33 = .ok (.getfield 31, 3) := by decide +kernel
theorem dX1_likenessOf_36 : decode cX1_likenessOf 36 = .ok (.if_icmp .ge 34, 3) := by decide +kernel
theorem dX1_likenessOf_39 : decode cX1_likenessOf 39 = .ok (.lload 5, 2) := by decide +kernel
theorem dX1_likenessOf_41 : decode cX1_likenessOf 41 = .ok (.aload_n 0, 1) := by decide +kernel
theorem dX1_likenessOf_42 : decode cX1_likenessOf 42 = .ok (.getfield 21, 3) := by decide +kernel
theorem dX1_likenessOf_45 : decode cX1_likenessOf 45 = .ok (.iload_n 1, 1) := by decide +kernel
theorem dX1_likenessOf_46 : decode cX1_likenessOf 46 = .ok (.aaload, 1) := by decide +kernel
theorem dX1_likenessOf_47 : decode cX1_likenessOf 47 = .ok (.iload 7, 2) := by decide +kernel
theorem dX1_likenessOf_49 : decode cX1_likenessOf 49 = .ok (.iaload, 1) := by decide +kernel
theorem dX1_likenessOf_50 : decode cX1_likenessOf 50 = .ok (.aload_n 0, 1) := by decide +kernel
theorem dX1_likenessOf_51 : decode cX1_likenessOf 51 = .ok (.getfield 21, 3) := by decide +kernel
theorem dX1_likenessOf_54 : decode cX1_likenessOf 54 = .ok (.iload_n 2, 1) := by decide +kernel
theorem dX1_likenessOf_55 : decode cX1_likenessOf 55 = .ok (.aaload, 1) := by decide +kernel
theorem dX1_likenessOf_56 : decode cX1_likenessOf 56 = .ok (.iload 7, 2) := by decide +kernel
theorem dX1_likenessOf_58 : decode cX1_likenessOf 58 = .ok (.iaload, 1) := by decide +kernel
theorem dX1_likenessOf_59 : decode cX1_likenessOf 59 = .ok (.imul, 1) := by decide +kernel
theorem dX1_likenessOf_60 : decode cX1_likenessOf 60 = .ok (.i2l, 1) := by decide +kernel
theorem dX1_likenessOf_61 : decode cX1_likenessOf 61 = .ok (.ladd, 1) := by decide +kernel
theorem dX1_likenessOf_62 : decode cX1_likenessOf 62 = .ok (.lstore 5, 2) := by decide +kernel
theorem dX1_likenessOf_64 : decode cX1_likenessOf 64 = .ok (.iinc 7 1, 3) := by decide +kernel
theorem dX1_likenessOf_67 : decode cX1_likenessOf 67 = .ok (.goto (-37), 3) := by decide +kernel
theorem dX1_likenessOf_70 : decode cX1_likenessOf 70 = .ok (.lload 5, 2) := by decide +kernel
theorem dX1_likenessOf_72 : decode cX1_likenessOf 72 = .ok (.lload 5, 2) := by decide +kernel
theorem dX1_likenessOf_74 : decode cX1_likenessOf 74 = .ok (.lmul, 1) := by decide +kernel
theorem dX1_likenessOf_75 : decode cX1_likenessOf 75 = .ok (.ldc2_w 56, 3) := by decide +kernel
theorem dX1_likenessOf_78 : decode cX1_likenessOf 78 = .ok (.lmul, 1) := by decide +kernel
theorem dX1_likenessOf_79 : decode cX1_likenessOf 79 = .ok (.lload_n 3, 1) := by decide +kernel
theorem dX1_likenessOf_80 : decode cX1_likenessOf 80 = .ok (.ldiv, 1) := by decide +kernel
theorem dX1_likenessOf_81 : decode cX1_likenessOf 81 = .ok (.l2i, 1) := by decide +kernel
theorem dX1_likenessOf_82 : decode cX1_likenessOf 82 = .ok (.istore 7, 2) := by decide +kernel
theorem dX1_likenessOf_84 : decode cX1_likenessOf 84 = .ok (.lload 5, 2) := by decide +kernel
theorem dX1_likenessOf_86 : decode cX1_likenessOf 86 = .ok (.lconst 0, 1) := by decide +kernel
theorem dX1_likenessOf_87 : decode cX1_likenessOf 87 = .ok (.lcmp, 1) := by decide +kernel
theorem dX1_likenessOf_88 : decode cX1_likenessOf 88 = .ok (.ifCond .ge 9, 3) := by decide +kernel
theorem dX1_likenessOf_91 : decode cX1_likenessOf 91 = .ok (.iload 7, 2) := by decide +kernel
theorem dX1_likenessOf_93 : decode cX1_likenessOf 93 = .ok (.ineg, 1) := by decide +kernel
theorem dX1_likenessOf_94 : decode cX1_likenessOf 94 = .ok (.goto 5, 3) := by decide +kernel
theorem dX1_likenessOf_97 : decode cX1_likenessOf 97 = .ok (.iload 7, 2) := by decide +kernel
theorem dX1_likenessOf_99 : decode cX1_likenessOf 99 = .ok (.ireturn, 1) := by decide +kernel
theorem dX1_groupOf_0 : decode cX1_groupOf 0 = .ok (.iconst 1, 1) := by decide +kernel
theorem dX1_groupOf_1 : decode cX1_groupOf 1 = .ok (.iload_n 1, 1) := by decide +kernel
theorem dX1_groupOf_2 : decode cX1_groupOf 2 = .ok (.ishl, 1) := by decide +kernel
theorem dX1_groupOf_3 : decode cX1_groupOf 3 = .ok (.istore_n 3, 1) := by decide +kernel
theorem dX1_groupOf_4 : decode cX1_groupOf 4 = .ok (.iconst 0, 1) := by decide +kernel
theorem dX1_groupOf_5 : decode cX1_groupOf 5 = .ok (.istore 4, 2) := by decide +kernel
theorem dX1_groupOf_7 : decode cX1_groupOf 7 = .ok (.iconst 0, 1) := by decide +kernel
theorem dX1_groupOf_8 : decode cX1_groupOf 8 = .ok (.istore 5, 2) := by decide +kernel
theorem dX1_groupOf_10 : decode cX1_groupOf 10 = .ok (.iload 5, 2) := by decide +kernel
theorem dX1_groupOf_12 : decode cX1_groupOf 12 = .ok (.aload_n 0, 1) := by decide +kernel
theorem dX1_groupOf_13 : decode cX1_groupOf 13 = .ok (.getfield 27, 3) := by decide +kernel
theorem dX1_groupOf_16 : decode cX1_groupOf 16 = .ok (.if_icmp .ge 56, 3) := by decide +kernel
theorem dX1_groupOf_19 : decode cX1_groupOf 19 = .ok (.iload_n 3, 1) := by decide +kernel
theorem dX1_groupOf_20 : decode cX1_groupOf 20 = .ok (.iload 4, 2) := by decide +kernel
theorem dX1_groupOf_22 : decode cX1_groupOf 22 = .ok (.if_icmp .eq 50, 3) := by decide +kernel
theorem dX1_groupOf_25 : decode cX1_groupOf 25 = .ok (.iload_n 3, 1) := by decide +kernel
theorem dX1_groupOf_26 : decode cX1_groupOf 26 = .ok (.istore 4, 2) := by decide +kernel
theorem dX1_groupOf_28 : decode cX1_groupOf 28 = .ok (.iconst 0, 1) := by decide +kernel
theorem dX1_groupOf_29 : decode cX1_groupOf 29 = .ok (.istore 6, 2) := by decide +kernel
theorem dX1_groupOf_31 : decode cX1_groupOf 31 = .ok (.iload 6, 2) := by decide +kernel
theorem dX1_groupOf_33 : decode cX1_groupOf 33 = .ok (.aload_n 0, 1) := by decide +kernel
theorem dX1_groupOf_34 : decode cX1_groupOf 34 = .ok (.getfield 27, 3) := by decide +kernel
theorem dX1_groupOf_37 : decode cX1_groupOf 37 = .ok (.if_icmp .ge 29, 3) := by decide +kernel
theorem dX1_groupOf_40 : decode cX1_groupOf 40 = .ok (.iload_n 3, 1) := by decide +kernel
theorem dX1_groupOf_41 : decode cX1_groupOf 41 = .ok (.iload 6, 2) := by decide +kernel
theorem dX1_groupOf_43 : decode cX1_groupOf 43 = .ok (.ishr, 1) := by decide +kernel
theorem dX1_groupOf_44 : decode cX1_groupOf 44 = .ok (.iconst 1, 1) := by decide +kernel
theorem dX1_groupOf_45 : decode cX1_groupOf 45 = .ok (.iand, 1) := by decide +kernel
theorem dX1_groupOf_46 : decode cX1_groupOf 46 = .ok (.iconst 1, 1) := by decide +kernel
theorem dX1_groupOf_47 : decode cX1_groupOf 47 = .ok (.if_icmp .ne 13, 3) := by decide +kernel
theorem dX1_groupOf_50 : decode cX1_groupOf 50 = .ok (.iload_n 3, 1) := by decide +kernel
theorem dX1_groupOf_51 : decode cX1_groupOf 51 = .ok (.aload_n 0, 1) := by decide +kernel
theorem dX1_groupOf_52 : decode cX1_groupOf 52 = .ok (.iload 6, 2) := by decide +kernel
theorem dX1_groupOf_54 : decode cX1_groupOf 54 = .ok (.iload_n 2, 1) := by decide +kernel
theorem dX1_groupOf_55 : decode cX1_groupOf 55 = .ok (.invokevirtual 58, 3) := by decide +kernel
theorem dX1_groupOf_58 : decode cX1_groupOf 58 = .ok (.ior, 1) := by decide +kernel
theorem dX1_groupOf_59 : decode cX1_groupOf 59 = .ok (.istore_n 3, 1) := by decide +kernel
theorem dX1_groupOf_60 : decode cX1_groupOf 60 = .ok (.iinc 6 1, 3) := by decide +kernel
theorem dX1_groupOf_63 : decode cX1_groupOf 63 = .ok (.goto (-32), 3) := by decide +kernel
theorem dX1_groupOf_66 : decode cX1_groupOf 66 = .ok (.iinc 5 1, 3) := by decide +kernel
theorem dX1_groupOf_69 : decode cX1_groupOf 69 = .ok (.goto (-59), 3) := by decide +kernel
theorem dX1_groupOf_72 : decode cX1_groupOf 72 = .ok (.iload_n 3, 1) := by decide +kernel
theorem dX1_groupOf_73 : decode cX1_groupOf 73 = .ok (.ireturn, 1) := by decide +kernel
theorem dX1_alikeTo_0 : decode cX1_alikeTo 0 = .ok (.iconst 0, 1) := by decide +kernel
theorem dX1_alikeTo_1 : decode cX1_alikeTo 1 = .ok (.istore_n 3, 1) := by decide +kernel
theorem dX1_alikeTo_2 : decode cX1_alikeTo 2 = .ok (.iconst 0, 1) := by decide +kernel
theorem dX1_alikeTo_3 : decode cX1_alikeTo 3 = .ok (.istore 4, 2) := by decide +kernel
theorem dX1_alikeTo_5 : decode cX1_alikeTo 5 = .ok (.iload 4, 2) := by decide +kernel
theorem dX1_alikeTo_7 : decode cX1_alikeTo 7 = .ok (.aload_n 0, 1) := by decide +kernel
theorem dX1_alikeTo_8 : decode cX1_alikeTo 8 = .ok (.getfield 27, 3) := by decide +kernel
theorem dX1_alikeTo_11 : decode cX1_alikeTo 11 = .ok (.if_icmp .ge 27, 3) := by decide +kernel
theorem dX1_alikeTo_14 : decode cX1_alikeTo 14 = .ok (.aload_n 0, 1) := by decide +kernel
theorem dX1_alikeTo_15 : decode cX1_alikeTo 15 = .ok (.iload_n 1, 1) := by decide +kernel
theorem dX1_alikeTo_16 : decode cX1_alikeTo 16 = .ok (.iload 4, 2) := by decide +kernel
theorem dX1_alikeTo_18 : decode cX1_alikeTo 18 = .ok (.invokevirtual 61, 3) := by decide +kernel
theorem dX1_alikeTo_21 : decode cX1_alikeTo 21 = .ok (.iload_n 2, 1) := by decide +kernel
theorem dX1_alikeTo_22 : decode cX1_alikeTo 22 = .ok (.if_icmp .lt 10, 3) := by decide +kernel
theorem dX1_alikeTo_25 : decode cX1_alikeTo 25 = .ok (.iload_n 3, 1) := by decide +kernel
theorem dX1_alikeTo_26 : decode cX1_alikeTo 26 = .ok (.iconst 1, 1) := by decide +kernel
theorem dX1_alikeTo_27 : decode cX1_alikeTo 27 = .ok (.iload 4, 2) := by decide +kernel
theorem dX1_alikeTo_29 : decode cX1_alikeTo 29 = .ok (.ishl, 1) := by decide +kernel
theorem dX1_alikeTo_30 : decode cX1_alikeTo 30 = .ok (.ior, 1) := by decide +kernel
theorem dX1_alikeTo_31 : decode cX1_alikeTo 31 = .ok (.istore_n 3, 1) := by decide +kernel
theorem dX1_alikeTo_32 : decode cX1_alikeTo 32 = .ok (.iinc 4 1, 3) := by decide +kernel
theorem dX1_alikeTo_35 : decode cX1_alikeTo 35 = .ok (.goto (-30), 3) := by decide +kernel
theorem dX1_alikeTo_38 : decode cX1_alikeTo 38 = .ok (.iload_n 3, 1) := by decide +kernel
theorem dX1_alikeTo_39 : decode cX1_alikeTo 39 = .ok (.ireturn, 1) := by decide +kernel
theorem dX1_voicesInOne_0 : decode cX1_voicesInOne 0 = .ok (.lconst 0, 1) := by decide +kernel
theorem dX1_voicesInOne_1 : decode cX1_voicesInOne 1 = .ok (.lstore_n 2, 1) := by decide +kernel
theorem dX1_voicesInOne_2 : decode cX1_voicesInOne 2 = .ok (.iconst 0, 1) := by decide +kernel
theorem dX1_voicesInOne_3 : decode cX1_voicesInOne 3 = .ok (.istore 4, 2) := by decide +kernel
theorem dX1_voicesInOne_5 : decode cX1_voicesInOne 5 = .ok (.iload 4, 2) := by decide +kernel
theorem dX1_voicesInOne_7 : decode cX1_voicesInOne 7 = .ok (.aload_n 0, 1) := by decide +kernel
theorem dX1_voicesInOne_8 : decode cX1_voicesInOne 8 = .ok (.getfield 31, 3) := by decide +kernel
theorem dX1_voicesInOne_11 : decode cX1_voicesInOne 11 = .ok (.if_icmp .ge 30, 3) := by decide +kernel
theorem dX1_voicesInOne_14 : decode cX1_voicesInOne 14 = .ok (.lload_n 2, 1) := by decide +kernel
theorem dX1_voicesInOne_15 : decode cX1_voicesInOne 15 = .ok (.ldc2_w 64, 3) := by decide +kernel
theorem dX1_voicesInOne_18 : decode cX1_voicesInOne 18 = .ok (.lmul, 1) := by decide +kernel
theorem dX1_voicesInOne_19 : decode cX1_voicesInOne 19 = .ok (.aload_n 0, 1) := by decide +kernel
theorem dX1_voicesInOne_20 : decode cX1_voicesInOne 20 = .ok (.getfield 21, 3) := by decide +kernel
theorem dX1_voicesInOne_23 : decode cX1_voicesInOne 23 = .ok (.iload_n 1, 1) := by decide +kernel
theorem dX1_voicesInOne_24 : decode cX1_voicesInOne 24 = .ok (.aaload, 1) := by decide +kernel
theorem dX1_voicesInOne_25 : decode cX1_voicesInOne 25 = .ok (.iload 4, 2) := by decide +kernel
theorem dX1_voicesInOne_27 : decode cX1_voicesInOne 27 = .ok (.iaload, 1) := by decide +kernel
theorem dX1_voicesInOne_28 : decode cX1_voicesInOne 28 = .ok (.i2l, 1) := by decide +kernel
theorem dX1_voicesInOne_29 : decode cX1_voicesInOne 29 = .ok (.ladd, 1) := by decide +kernel
theorem dX1_voicesInOne_30 : decode cX1_voicesInOne 30 = .ok (.ldc2_w 66, 3) := by decide +kernel
theorem dX1_voicesInOne_33 : decode cX1_voicesInOne 33 = .ok (.ladd, 1) := by decide +kernel
theorem dX1_voicesInOne_34 : decode cX1_voicesInOne 34 = .ok (.lstore_n 2, 1) := by decide +kernel
theorem dX1_voicesInOne_35 : decode cX1_voicesInOne 35 = .ok (.iinc 4 1, 3) := by decide +kernel
theorem dX1_voicesInOne_38 : decode cX1_voicesInOne 38 = .ok (.goto (-33), 3) := by decide +kernel
theorem dX1_voicesInOne_41 : decode cX1_voicesInOne 41 = .ok (.lload_n 2, 1) := by decide +kernel
theorem dX1_voicesInOne_42 : decode cX1_voicesInOne 42 = .ok (.lreturn, 1) := by decide +kernel
theorem dX1_digestPerson_0 : decode cX1_digestPerson 0 = .ok (.ldc2_w 68, 3) := by decide +kernel
theorem dX1_digestPerson_3 : decode cX1_digestPerson 3 = .ok (.lload_n 1, 1) := by decide +kernel
theorem dX1_digestPerson_4 : decode cX1_digestPerson 4 = .ok (.lmul, 1) := by decide +kernel
theorem dX1_digestPerson_5 : decode cX1_digestPerson 5 = .ok (.aload_n 0, 1) := by decide +kernel
theorem dX1_digestPerson_6 : decode cX1_digestPerson 6 = .ok (.getfield 9, 3) := by decide +kernel
theorem dX1_digestPerson_9 : decode cX1_digestPerson 9 = .ok (.iload_n 3, 1) := by decide +kernel
theorem dX1_digestPerson_10 : decode cX1_digestPerson 10 = .ok (.iaload, 1) := by decide +kernel
theorem dX1_digestPerson_11 : decode cX1_digestPerson 11 = .ok (.i2l, 1) := by decide +kernel
theorem dX1_digestPerson_12 : decode cX1_digestPerson 12 = .ok (.ladd, 1) := by decide +kernel
theorem dX1_digestPerson_13 : decode cX1_digestPerson 13 = .ok (.lstore 4, 2) := by decide +kernel
theorem dX1_digestPerson_15 : decode cX1_digestPerson 15 = .ok (.ldc2_w 68, 3) := by decide +kernel
theorem dX1_digestPerson_18 : decode cX1_digestPerson 18 = .ok (.lload 4, 2) := by decide +kernel
theorem dX1_digestPerson_20 : decode cX1_digestPerson 20 = .ok (.lmul, 1) := by decide +kernel
theorem dX1_digestPerson_21 : decode cX1_digestPerson 21 = .ok (.aload_n 0, 1) := by decide +kernel
theorem dX1_digestPerson_22 : decode cX1_digestPerson 22 = .ok (.getfield 15, 3) := by decide +kernel
theorem dX1_digestPerson_25 : decode cX1_digestPerson 25 = .ok (.iload_n 3, 1) := by decide +kernel
theorem dX1_digestPerson_26 : decode cX1_digestPerson 26 = .ok (.baload, 1) := by decide +kernel
theorem dX1_digestPerson_27 : decode cX1_digestPerson 27 = .ok (.ifCond .eq 7, 3) := by decide +kernel
theorem dX1_digestPerson_30 : decode cX1_digestPerson 30 = .ok (.iconst 1, 1) := by decide +kernel
theorem dX1_digestPerson_31 : decode cX1_digestPerson 31 = .ok (.goto 4, 3) := by decide +kernel
theorem dX1_digestPerson_34 : decode cX1_digestPerson 34 = .ok (.iconst 0, 1) := by decide +kernel
theorem dX1_digestPerson_35 : decode cX1_digestPerson 35 = .ok (.i2l, 1) := by decide +kernel
theorem dX1_digestPerson_36 : decode cX1_digestPerson 36 = .ok (.ladd, 1) := by decide +kernel
theorem dX1_digestPerson_37 : decode cX1_digestPerson 37 = .ok (.lstore 4, 2) := by decide +kernel
theorem dX1_digestPerson_39 : decode cX1_digestPerson 39 = .ok (.iconst 0, 1) := by decide +kernel
theorem dX1_digestPerson_40 : decode cX1_digestPerson 40 = .ok (.istore 6, 2) := by decide +kernel
theorem dX1_digestPerson_42 : decode cX1_digestPerson 42 = .ok (.iload 6, 2) := by decide +kernel
theorem dX1_digestPerson_44 : decode cX1_digestPerson 44 = .ok (.aload_n 0, 1) := by decide +kernel
theorem dX1_digestPerson_45 : decode cX1_digestPerson 45 = .ok (.getfield 31, 3) := by decide +kernel
theorem dX1_digestPerson_48 : decode cX1_digestPerson 48 = .ok (.if_icmp .ge 28, 3) := by decide +kernel
theorem dX1_digestPerson_51 : decode cX1_digestPerson 51 = .ok (.ldc2_w 68, 3) := by decide +kernel
theorem dX1_digestPerson_54 : decode cX1_digestPerson 54 = .ok (.lload 4, 2) := by decide +kernel
theorem dX1_digestPerson_56 : decode cX1_digestPerson 56 = .ok (.lmul, 1) := by decide +kernel
theorem dX1_digestPerson_57 : decode cX1_digestPerson 57 = .ok (.aload_n 0, 1) := by decide +kernel
theorem dX1_digestPerson_58 : decode cX1_digestPerson 58 = .ok (.getfield 21, 3) := by decide +kernel
theorem dX1_digestPerson_61 : decode cX1_digestPerson 61 = .ok (.iload_n 3, 1) := by decide +kernel
theorem dX1_digestPerson_62 : decode cX1_digestPerson 62 = .ok (.aaload, 1) := by decide +kernel
theorem dX1_digestPerson_63 : decode cX1_digestPerson 63 = .ok (.iload 6, 2) := by decide +kernel
theorem dX1_digestPerson_65 : decode cX1_digestPerson 65 = .ok (.iaload, 1) := by decide +kernel
theorem dX1_digestPerson_66 : decode cX1_digestPerson 66 = .ok (.i2l, 1) := by decide +kernel
theorem dX1_digestPerson_67 : decode cX1_digestPerson 67 = .ok (.ladd, 1) := by decide +kernel
theorem dX1_digestPerson_68 : decode cX1_digestPerson 68 = .ok (.lstore 4, 2) := by decide +kernel
theorem dX1_digestPerson_70 : decode cX1_digestPerson 70 = .ok (.iinc 6 1, 3) := by decide +kernel
theorem dX1_digestPerson_73 : decode cX1_digestPerson 73 = .ok (.goto (-31), 3) := by decide +kernel
theorem dX1_digestPerson_76 : decode cX1_digestPerson 76 = .ok (.iconst 0, 1) := by decide +kernel
theorem dX1_digestPerson_77 : decode cX1_digestPerson 77 = .ok (.istore 6, 2) := by decide +kernel
theorem dX1_digestPerson_79 : decode cX1_digestPerson 79 = .ok (.iload 6, 2) := by decide +kernel
theorem dX1_digestPerson_81 : decode cX1_digestPerson 81 = .ok (.aload_n 0, 1) := by decide +kernel
theorem dX1_digestPerson_82 : decode cX1_digestPerson 82 = .ok (.getfield 31, 3) := by decide +kernel
theorem dX1_digestPerson_85 : decode cX1_digestPerson 85 = .ok (.if_icmp .ge 28, 3) := by decide +kernel
theorem dX1_digestPerson_88 : decode cX1_digestPerson 88 = .ok (.ldc2_w 68, 3) := by decide +kernel
theorem dX1_digestPerson_91 : decode cX1_digestPerson 91 = .ok (.lload 4, 2) := by decide +kernel
theorem dX1_digestPerson_93 : decode cX1_digestPerson 93 = .ok (.lmul, 1) := by decide +kernel
theorem dX1_digestPerson_94 : decode cX1_digestPerson 94 = .ok (.aload_n 0, 1) := by decide +kernel
theorem dX1_digestPerson_95 : decode cX1_digestPerson 95 = .ok (.getfield 24, 3) := by decide +kernel
theorem dX1_digestPerson_98 : decode cX1_digestPerson 98 = .ok (.iload_n 3, 1) := by decide +kernel
theorem dX1_digestPerson_99 : decode cX1_digestPerson 99 = .ok (.aaload, 1) := by decide +kernel
theorem dX1_digestPerson_100 : decode cX1_digestPerson 100 = .ok (.iload 6, 2) := by decide +kernel
theorem dX1_digestPerson_102 : decode cX1_digestPerson 102 = .ok (.iaload, 1) := by decide +kernel
theorem dX1_digestPerson_103 : decode cX1_digestPerson 103 = .ok (.i2l, 1) := by decide +kernel
theorem dX1_digestPerson_104 : decode cX1_digestPerson 104 = .ok (.ladd, 1) := by decide +kernel
theorem dX1_digestPerson_105 : decode cX1_digestPerson 105 = .ok (.lstore 4, 2) := by decide +kernel
theorem dX1_digestPerson_107 : decode cX1_digestPerson 107 = .ok (.iinc 6 1, 3) := by decide +kernel
theorem dX1_digestPerson_110 : decode cX1_digestPerson 110 = .ok (.goto (-31), 3) := by decide +kernel
theorem dX1_digestPerson_113 : decode cX1_digestPerson 113 = .ok (.lload 4, 2) := by decide +kernel
theorem dX1_digestPerson_115 : decode cX1_digestPerson 115 = .ok (.lreturn, 1) := by decide +kernel
theorem dX2_init_0 : decode cX2_init 0 = .ok (.aload_n 0, 1) := by decide +kernel
theorem dX2_init_1 : decode cX2_init 1 = .ok (.invokespecial 3, 3) := by decide +kernel
theorem dX2_init_4 : decode cX2_init 4 = .ok (.aload_n 0, 1) := by decide +kernel
theorem dX2_init_5 : decode cX2_init 5 = .ok (.bipush 31, 2) := by decide +kernel
theorem dX2_init_7 : decode cX2_init 7 = .ok (.bipush 12, 2) := by decide +kernel
theorem dX2_init_9 : decode cX2_init 9 = .ok (.multianewarray 9 2, 4) := by decide +kernel
theorem dX2_init_13 : decode cX2_init 13 = .ok (.putfield 11, 3) := by decide +kernel
theorem dX2_init_16 : decode cX2_init 16 = .ok (.aload_n 0, 1) := by decide +kernel
theorem dX2_init_17 : decode cX2_init 17 = .ok (.iconst 0, 1) := by decide +kernel
theorem dX2_init_18 : decode cX2_init 18 = .ok (.putfield 16, 3) := by decide +kernel
theorem dX2_init_21 : decode cX2_init 21 = .ok (.aload_n 0, 1) := by decide +kernel
theorem dX2_init_22 : decode cX2_init 22 = .ok (.aload_n 1, 1) := by decide +kernel
theorem dX2_init_23 : decode cX2_init 23 = .ok (.putfield 20, 3) := by decide +kernel
theorem dX2_init_26 : decode cX2_init 26 = .ok (.aload_n 0, 1) := by decide +kernel
theorem dX2_init_27 : decode cX2_init 27 = .ok (.aload_n 2, 1) := by decide +kernel
theorem dX2_init_28 : decode cX2_init 28 = .ok (.putfield 24, 3) := by decide +kernel
theorem dX2_init_31 : decode cX2_init 31 = .ok (.return_, 1) := by decide +kernel
theorem dX2_playAtMost_0 : decode cX2_playAtMost 0 = .ok (.aload_n 0, 1) := by decide +kernel
theorem dX2_playAtMost_1 : decode cX2_playAtMost 1 = .ok (.iconst 0, 1) := by decide +kernel
theorem dX2_playAtMost_2 : decode cX2_playAtMost 2 = .ok (.putfield 16, 3) := by decide +kernel
theorem dX2_playAtMost_5 : decode cX2_playAtMost 5 = .ok (.aload_n 0, 1) := by decide +kernel
theorem dX2_playAtMost_6 : decode cX2_playAtMost 6 = .ok (.iconst 0, 1) := by decide +kernel
theorem dX2_playAtMost_7 : decode cX2_playAtMost 7 = .ok (.putfield 28, 3) := by decide +kernel
theorem dX2_playAtMost_10 : decode cX2_playAtMost 10 = .ok (.aload_n 0, 1) := by decide +kernel
theorem dX2_playAtMost_11 : decode cX2_playAtMost 11 = .ok (.iconst 0, 1) := by decide +kernel
theorem dX2_playAtMost_12 : decode cX2_playAtMost 12 = .ok (.invokevirtual 31, 3) := by decide +kernel
theorem dX2_playAtMost_15 : decode cX2_playAtMost 15 = .ok (.iconst 0, 1) := by decide +kernel
theorem dX2_playAtMost_16 : decode cX2_playAtMost 16 = .ok (.istore_n 2, 1) := by decide +kernel
theorem dX2_playAtMost_17 : decode cX2_playAtMost 17 = .ok (.iload_n 2, 1) := by decide +kernel
theorem dX2_playAtMost_18 : decode cX2_playAtMost 18 = .ok (.iload_n 1, 1) := by decide +kernel
theorem dX2_playAtMost_19 : decode cX2_playAtMost 19 = .ok (.if_icmp .ge 58, 3) := by decide +kernel
theorem dX2_playAtMost_22 : decode cX2_playAtMost 22 = .ok (.iload_n 2, 1) := by decide +kernel
theorem dX2_playAtMost_23 : decode cX2_playAtMost 23 = .ok (.bipush 30, 2) := by decide +kernel
theorem dX2_playAtMost_25 : decode cX2_playAtMost 25 = .ok (.if_icmp .ge 52, 3) := by decide +kernel
theorem dX2_playAtMost_28 : decode cX2_playAtMost 28 = .ok (.aload_n 0, 1) := by decide +kernel
theorem dX2_playAtMost_29 : decode cX2_playAtMost 29 = .ok (.getfield 16, 3) := by decide +kernel
theorem dX2_playAtMost_32 : decode cX2_playAtMost 32 = .ok (.ifCond .ne 45, 3) := by decide +kernel
theorem dX2_playAtMost_35 : decode cX2_playAtMost 35 = .ok (.aload_n 0, 1) := by decide +kernel
theorem dX2_playAtMost_36 : decode cX2_playAtMost 36 = .ok (.invokevirtual 35, 3) := by decide +kernel
theorem dX2_playAtMost_39 : decode cX2_playAtMost 39 = .ok (.istore_n 3, 1) := by decide +kernel
theorem dX2_playAtMost_40 : decode cX2_playAtMost 40 = .ok (.iinc 2 1, 3) := by decide +kernel
theorem dX2_playAtMost_43 : decode cX2_playAtMost 43 = .ok (.aload_n 0, 1) := by decide +kernel
theorem dX2_playAtMost_44 : decode cX2_playAtMost 44 = .ok (.dup, 1) := by decide +kernel
theorem dX2_playAtMost_45 : decode cX2_playAtMost 45 = .ok (.getfield 39, 3) := by decide +kernel
theorem dX2_playAtMost_48 : decode cX2_playAtMost 48 = .ok (.iconst 1, 1) := by decide +kernel
theorem dX2_playAtMost_49 : decode cX2_playAtMost 49 = .ok (.iadd, 1) := by decide +kernel
theorem dX2_playAtMost_50 : decode cX2_playAtMost 50 = .ok (.putfield 39, 3) := by decide +kernel
theorem dX2_playAtMost_53 : decode cX2_playAtMost 53 = .ok (.aload_n 0, 1) := by decide +kernel
theorem dX2_playAtMost_54 : decode cX2_playAtMost 54 = .ok (.dup, 1) := by decide +kernel
theorem dX2_playAtMost_55 : decode cX2_playAtMost 55 = .ok (.getfield 42, 3) := by decide +kernel
theorem dX2_playAtMost_58 : decode cX2_playAtMost 58 = .ok (.iload_n 3, 1) := by decide +kernel
theorem dX2_playAtMost_59 : decode cX2_playAtMost 59 = .ok (.iadd, 1) := by decide +kernel
theorem dX2_playAtMost_60 : decode cX2_playAtMost 60 = .ok (.putfield 42, 3) := by decide +kernel
theorem dX2_playAtMost_63 : decode cX2_playAtMost 63 = .ok (.aload_n 0, 1) := by decide +kernel
theorem dX2_playAtMost_64 : decode cX2_playAtMost 64 = .ok (.iload_n 2, 1) := by decide +kernel
theorem dX2_playAtMost_65 : decode cX2_playAtMost 65 = .ok (.invokevirtual 31, 3) := by decide +kernel
theorem dX2_playAtMost_68 : decode cX2_playAtMost 68 = .ok (.aload_n 0, 1) := by decide +kernel
theorem dX2_playAtMost_69 : decode cX2_playAtMost 69 = .ok (.iload_n 2, 1) := by decide +kernel
theorem dX2_playAtMost_70 : decode cX2_playAtMost 70 = .ok (.iload_n 3, 1) := by decide +kernel
theorem dX2_playAtMost_71 : decode cX2_playAtMost 71 = .ok (.invokevirtual 45, 3) := by decide +kernel
theorem dX2_playAtMost_74 : decode cX2_playAtMost 74 = .ok (.goto (-57), 3) := by decide +kernel
theorem dX2_playAtMost_77 : decode cX2_playAtMost 77 = .ok (.iload_n 2, 1) := by decide +kernel
theorem dX2_playAtMost_78 : decode cX2_playAtMost 78 = .ok (.ireturn, 1) := by decide +kernel
theorem dX2_doRound_0 : decode cX2_doRound 0 = .ok (.iconst 0, 1) := by decide +kernel
theorem dX2_doRound_1 : decode cX2_doRound 1 = .ok (.istore_n 1, 1) := by decide +kernel
theorem dX2_doRound_2 : decode cX2_doRound 2 = .ok (.iconst 0, 1) := by decide +kernel
theorem dX2_doRound_3 : decode cX2_doRound 3 = .ok (.istore_n 2, 1) := by decide +kernel
theorem dX2_doRound_4 : decode cX2_doRound 4 = .ok (.iload_n 2, 1) := by decide +kernel
theorem dX2_doRound_5 : decode cX2_doRound 5 = .ok (.aload_n 0, 1) := by decide +kernel
theorem dX2_doRound_6 : decode cX2_doRound 6 = .ok (.getfield 20, 3) := by decide +kernel
theorem dX2_doRound_9 : decode cX2_doRound 9 = .ok (.getfield 49, 3) := by decide +kernel
theorem dX2_doRound_12 : decode cX2_doRound 12 = .ok (.if_icmp .ge 58, 3) := by decide +kernel
theorem dX2_doRound_15 : decode cX2_doRound 15 = .ok (.aload_n 0, 1) := by decide +kernel
theorem dX2_doRound_16 : decode cX2_doRound 16 = .ok (.getfield 20, 3) := by decide +kernel
theorem dX2_doRound_19 : decode cX2_doRound 19 = .ok (.getfield 54, 3) := by decide +kernel
theorem dX2_doRound_22 : decode cX2_doRound 22 = .ok (.iload_n 2, 1) := by decide +kernel
theorem dX2_doRound_23 : decode cX2_doRound 23 = .ok (.baload, 1) := by decide +kernel
theorem dX2_doRound_24 : decode cX2_doRound 24 = .ok (.ifCond .eq 40, 3) := by decide +kernel
theorem dX2_doRound_27 : decode cX2_doRound 27 = .ok (.aload_n 0, 1) := by decide +kernel
theorem dX2_doRound_28 : decode cX2_doRound 28 = .ok (.getfield 24, 3) := by decide +kernel
theorem dX2_doRound_31 : decode cX2_doRound 31 = .ok (.iload_n 2, 1) := by decide +kernel
theorem dX2_doRound_32 : decode cX2_doRound 32 = .ok (.invokevirtual 58, 3) := by decide +kernel
theorem dX2_doRound_35 : decode cX2_doRound 35 = .ok (.aload_n 0, 1) := by decide +kernel
theorem dX2_doRound_36 : decode cX2_doRound 36 = .ok (.getfield 24, 3) := by decide +kernel
theorem dX2_doRound_39 : decode cX2_doRound 39 = .ok (.getfield 63, 3) := by decide +kernel
theorem dX2_doRound_42 : decode cX2_doRound 42 = .ok (.aload_n 0, 1) := by decide +kernel
theorem dX2_doRound_43 : decode cX2_doRound 43 = .ok (.getfield 20, 3) := by decide +kernel
theorem dX2_doRound_46 : decode cX2_doRound 46 = .ok (.iload_n 2, 1) := by decide +kernel
theorem dX2_doRound_47 : decode cX2_doRound 47 = .ok (.invokevirtual 66, 3) := by decide +kernel
theorem dX2_doRound_50 : decode cX2_doRound 50 = .ok (.if_icmp .le 14, 3) := by decide +kernel
theorem dX2_doRound_53 : decode cX2_doRound 53 = .ok (.aload_n 0, 1) := by decide +kernel
theorem dX2_doRound_54 : decode cX2_doRound 54 = .ok (.getfield 24, 3) := by decide +kernel
theorem dX2_doRound_57 : decode cX2_doRound 57 = .ok (.iload_n 2, 1) := by decide +kernel
theorem dX2_doRound_58 : decode cX2_doRound 58 = .ok (.invokevirtual 70, 3) := by decide +kernel
theorem dX2_doRound_61 : decode cX2_doRound 61 = .ok (.iinc 1 1, 3) := by decide +kernel
theorem dX2_doRound_64 : decode cX2_doRound 64 = .ok (.iinc 2 1, 3) := by decide +kernel
theorem dX2_doRound_67 : decode cX2_doRound 67 = .ok (.goto (-63), 3) := by decide +kernel
theorem dX2_doRound_70 : decode cX2_doRound 70 = .ok (.iload_n 1, 1) := by decide +kernel
theorem dX2_doRound_71 : decode cX2_doRound 71 = .ok (.ireturn, 1) := by decide +kernel
theorem dX2_noteVoices_0 : decode cX2_noteVoices 0 = .ok (.iconst 0, 1) := by decide +kernel
theorem dX2_noteVoices_1 : decode cX2_noteVoices 1 = .ok (.istore_n 2, 1) := by decide +kernel
theorem dX2_noteVoices_2 : decode cX2_noteVoices 2 = .ok (.iload_n 2, 1) := by decide +kernel
theorem dX2_noteVoices_3 : decode cX2_noteVoices 3 = .ok (.aload_n 0, 1) := by decide +kernel
theorem dX2_noteVoices_4 : decode cX2_noteVoices 4 = .ok (.getfield 20, 3) := by decide +kernel
theorem dX2_noteVoices_7 : decode cX2_noteVoices 7 = .ok (.getfield 49, 3) := by decide +kernel
theorem dX2_noteVoices_10 : decode cX2_noteVoices 10 = .ok (.if_icmp .ge 25, 3) := by decide +kernel
theorem dX2_noteVoices_13 : decode cX2_noteVoices 13 = .ok (.aload_n 0, 1) := by decide +kernel
theorem dX2_noteVoices_14 : decode cX2_noteVoices 14 = .ok (.getfield 11, 3) := by decide +kernel
theorem dX2_noteVoices_17 : decode cX2_noteVoices 17 = .ok (.iload_n 1, 1) := by decide +kernel
theorem dX2_noteVoices_18 : decode cX2_noteVoices 18 = .ok (.aaload, 1) := by decide +kernel
theorem dX2_noteVoices_19 : decode cX2_noteVoices 19 = .ok (.iload_n 2, 1) := by decide +kernel
theorem dX2_noteVoices_20 : decode cX2_noteVoices 20 = .ok (.aload_n 0, 1) := by decide +kernel
theorem dX2_noteVoices_21 : decode cX2_noteVoices 21 = .ok (.getfield 20, 3) := by decide +kernel
theorem dX2_noteVoices_24 : decode cX2_noteVoices 24 = .ok (.iload_n 2, 1) := by decide +kernel
theorem dX2_noteVoices_25 : decode cX2_noteVoices 25 = .ok (.invokevirtual 73, 3) := by decide +kernel
theorem dX2_noteVoices_28 : decode cX2_noteVoices 28 = .ok (.lastore, 1) := by decide +kernel
theorem dX2_noteVoices_29 : decode cX2_noteVoices 29 = .ok (.iinc 2 1, 3) := by decide +kernel
theorem dX2_noteVoices_32 : decode cX2_noteVoices 32 = .ok (.goto (-30), 3) := by decide +kernel
theorem dX2_noteVoices_35 : decode cX2_noteVoices 35 = .ok (.return_, 1) := by decide +kernel
theorem dX2_judge_0 : decode cX2_judge 0 = .ok (.iload_n 2, 1) := by decide +kernel
theorem dX2_judge_1 : decode cX2_judge 1 = .ok (.ifCond .ne 9, 3) := by decide +kernel
theorem dX2_judge_4 : decode cX2_judge 4 = .ok (.aload_n 0, 1) := by decide +kernel
theorem dX2_judge_5 : decode cX2_judge 5 = .ok (.iconst 1, 1) := by decide +kernel
theorem dX2_judge_6 : decode cX2_judge 6 = .ok (.putfield 16, 3) := by decide +kernel
theorem dX2_judge_9 : decode cX2_judge 9 = .ok (.return_, 1) := by decide +kernel
theorem dX2_judge_10 : decode cX2_judge 10 = .ok (.iconst 0, 1) := by decide +kernel
theorem dX2_judge_11 : decode cX2_judge 11 = .ok (.istore_n 3, 1) := by decide +kernel
theorem dX2_judge_12 : decode cX2_judge 12 = .ok (.iload_n 3, 1) := by decide +kernel
theorem dX2_judge_13 : decode cX2_judge 13 = .ok (.iload_n 1, 1) := by decide +kernel
theorem dX2_judge_14 : decode cX2_judge 14 = .ok (.if_icmp .ge 30, 3) := by decide +kernel
theorem dX2_judge_17 : decode cX2_judge 17 = .ok (.aload_n 0, 1) := by decide +kernel
theorem dX2_judge_18 : decode cX2_judge 18 = .ok (.iload_n 3, 1) := by decide +kernel
theorem dX2_judge_19 : decode cX2_judge 19 = .ok (.iload_n 1, 1) := by decide +kernel
theorem dX2_judge_20 : decode cX2_judge 20 = .ok (.invokevirtual 77, 3) := by decide +kernel
theorem dX2_judge_23 : decode cX2_judge 23 = .ok (.ifCond .eq 15, 3) := by decide +kernel
theorem dX2_judge_26 : decode cX2_judge 26 = .ok (.aload_n 0, 1) := by decide +kernel
theorem dX2_judge_27 : decode cX2_judge 27 = .ok (.iconst 2, 1) := by decide +kernel
theorem dX2_judge_28 : decode cX2_judge 28 = .ok (.putfield 16, 3) := by decide +kernel
theorem dX2_judge_31 : decode cX2_judge 31 = .ok (.aload_n 0, 1) := by decide +kernel
theorem dX2_judge_32 : decode cX2_judge 32 = .ok (.iload_n 1, 1) := by decide +kernel
theorem dX2_judge_33 : decode cX2_judge 33 = .ok (.iload_n 3, 1) := by decide +kernel
theorem dX2_judge_34 : decode cX2_judge 34 = .ok (.isub, 1) := by decide +kernel
theorem dX2_judge_35 : decode cX2_judge 35 = .ok (.putfield 28, 3) := by decide +kernel
theorem dX2_judge_38 : decode cX2_judge 38 = .ok (.iinc 3 1, 3) := by decide +kernel
theorem dX2_judge_41 : decode cX2_judge 41 = .ok (.goto (-29), 3) := by decide +kernel
theorem dX2_judge_44 : decode cX2_judge 44 = .ok (.return_, 1) := by decide +kernel
theorem dX2_isSameTrail_0 : decode cX2_isSameTrail 0 = .ok (.iconst 0, 1) := by decide +kernel
theorem dX2_isSameTrail_1 : decode cX2_isSameTrail 1 = .ok (.istore_n 3, 1) := by decide +kernel
theorem dX2_isSameTrail_2 : decode cX2_isSameTrail 2 = .ok (.iload_n 3, 1) := by decide +kernel
theorem dX2_isSameTrail_3 : decode cX2_isSameTrail 3 = .ok (.aload_n 0, 1) := by decide +kernel
theorem dX2_isSameTrail_4 : decode cX2_isSameTrail 4 = .ok (.getfield 20, 3) := by decide +kernel
theorem dX2_isSameTrail_7 : decode cX2_isSameTrail 7 = .ok (.getfield 49, 3) := by decide +kernel
theorem dX2_isSameTrail_10 : decode cX2_isSameTrail 10 = .ok (.if_icmp .ge 31, 3) := by decide +kernel
theorem dX2_isSameTrail_13 : decode cX2_isSameTrail 13 = .ok (.aload_n 0, 1) := by decide +kernel
theorem dX2_isSameTrail_14 : decode cX2_isSameTrail 14 = .ok (.getfield 11, 3) := by decide +kernel
theorem dX2_isSameTrail_17 : decode cX2_isSameTrail 17 = .ok (.iload_n 1, 1) := by decide +kernel
theorem dX2_isSameTrail_18 : decode cX2_isSameTrail 18 = .ok (.aaload, 1) := by decide +kernel
theorem dX2_isSameTrail_19 : decode cX2_isSameTrail 19 = .ok (.iload_n 3, 1) := by decide +kernel
theorem dX2_isSameTrail_20 : decode cX2_isSameTrail 20 = .ok (.laload, 1) := by decide +kernel
theorem dX2_isSameTrail_21 : decode cX2_isSameTrail 21 = .ok (.aload_n 0, 1) := by decide +kernel
theorem dX2_isSameTrail_22 : decode cX2_isSameTrail 22 = .ok (.getfield 11, 3) := by decide +kernel
theorem dX2_isSameTrail_25 : decode cX2_isSameTrail 25 = .ok (.iload_n 2, 1) := by decide +kernel
theorem dX2_isSameTrail_26 : decode cX2_isSameTrail 26 = .ok (.aaload, 1) := by decide +kernel
theorem dX2_isSameTrail_27 : decode cX2_isSameTrail 27 = .ok (.iload_n 3, 1) := by decide +kernel
theorem dX2_isSameTrail_28 : decode cX2_isSameTrail 28 = .ok (.laload, 1) := by decide +kernel
theorem dX2_isSameTrail_29 : decode cX2_isSameTrail 29 = .ok (.lcmp, 1) := by decide +kernel
theorem dX2_isSameTrail_30 : decode cX2_isSameTrail 30 = .ok (.ifCond .eq 5, 3) := by decide +kernel
theorem dX2_isSameTrail_33 : decode cX2_isSameTrail 33 = .ok (.iconst 0, 1) := by decide +kernel
theorem dX2_isSameTrail_34 : decode cX2_isSameTrail 34 = .ok (.ireturn, 1) := by decide +kernel
theorem dX2_isSameTrail_35 : decode cX2_isSameTrail 35 = .ok (.iinc 3 1, 3) := by decide +kernel
theorem dX2_isSameTrail_38 : decode cX2_isSameTrail 38 = .ok (.goto (-36), 3) := by decide +kernel
theorem dX2_isSameTrail_41 : decode cX2_isSameTrail 41 = .ok (.iconst 1, 1) := by decide +kernel
theorem dX2_isSameTrail_42 : decode cX2_isSameTrail 42 = .ok (.ireturn, 1) := by decide +kernel
theorem dX3_init_0 : decode cX3_init 0 = .ok (.aload_n 0, 1) := by decide +kernel
theorem dX3_init_1 : decode cX3_init 1 = .ok (.invokespecial 3, 3) := by decide +kernel
theorem dX3_init_4 : decode cX3_init 4 = .ok (.aload_n 0, 1) := by decide +kernel
theorem dX3_init_5 : decode cX3_init 5 = .ok (.bipush 6, 2) := by decide +kernel
theorem dX3_init_7 : decode cX3_init 7 = .ok (.newarray .int, 2) := by decide +kernel
theorem dX3_init_9 : decode cX3_init 9 = .ok (.putfield 9, 3) := by decide +kernel
theorem dX3_init_12 : decode cX3_init 12 = .ok (.aload_n 0, 1) := by decide +kernel
theorem dX3_init_13 : decode cX3_init 13 = .ok (.bipush 6, 2) := by decide +kernel
theorem dX3_init_15 : decode cX3_init 15 = .ok (.iconst 3, 1) := by decide +kernel
theorem dX3_init_16 : decode cX3_init 16 = .ok (.multianewarray 15 2, 4) := by decide +kernel
theorem dX3_init_20 : decode cX3_init 20 = .ok (.putfield 17, 3) := by decide +kernel
theorem dX3_init_23 : decode cX3_init 23 = .ok (.aload_n 0, 1) := by decide +kernel
theorem dX3_init_24 : decode cX3_init 24 = .ok (.bipush 6, 2) := by decide +kernel
theorem dX3_init_26 : decode cX3_init 26 = .ok (.iconst 3, 1) := by decide +kernel
theorem dX3_init_27 : decode cX3_init 27 = .ok (.multianewarray 15 2, 4) := by decide +kernel
theorem dX3_init_31 : decode cX3_init 31 = .ok (.putfield 20, 3) := by decide +kernel
theorem dX3_init_34 : decode cX3_init 34 = .ok (.aload_n 0, 1) := by decide +kernel
theorem dX3_init_35 : decode cX3_init 35 = .ok (.bipush 7, 2) := by decide +kernel
theorem dX3_init_37 : decode cX3_init 37 = .ok (.newarray .int, 2) := by decide +kernel
theorem dX3_init_39 : decode cX3_init 39 = .ok (.putfield 23, 3) := by decide +kernel
theorem dX3_init_42 : decode cX3_init 42 = .ok (.aload_n 0, 1) := by decide +kernel
theorem dX3_init_43 : decode cX3_init 43 = .ok (.bipush 6, 2) := by decide +kernel
theorem dX3_init_45 : decode cX3_init 45 = .ok (.newarray .int, 2) := by decide +kernel
theorem dX3_init_47 : decode cX3_init 47 = .ok (.putfield 26, 3) := by decide +kernel
theorem dX3_init_50 : decode cX3_init 50 = .ok (.aload_n 0, 1) := by decide +kernel
theorem dX3_init_51 : decode cX3_init 51 = .ok (.bipush 6, 2) := by decide +kernel
theorem dX3_init_53 : decode cX3_init 53 = .ok (.newarray .int, 2) := by decide +kernel
theorem dX3_init_55 : decode cX3_init 55 = .ok (.putfield 29, 3) := by decide +kernel
theorem dX3_init_58 : decode cX3_init 58 = .ok (.aload_n 0, 1) := by decide +kernel
theorem dX3_init_59 : decode cX3_init 59 = .ok (.aload_n 1, 1) := by decide +kernel
theorem dX3_init_60 : decode cX3_init 60 = .ok (.putfield 32, 3) := by decide +kernel
theorem dX3_init_63 : decode cX3_init 63 = .ok (.return_, 1) := by decide +kernel
theorem dX3_findFor_0 : decode cX3_findFor 0 = .ok (.aload_n 0, 1) := by decide +kernel
theorem dX3_findFor_1 : decode cX3_findFor 1 = .ok (.aload_n 0, 1) := by decide +kernel
theorem dX3_findFor_2 : decode cX3_findFor 2 = .ok (.getfield 32, 3) := by decide +kernel
theorem dX3_findFor_5 : decode cX3_findFor 5 = .ok (.getfield 36, 3) := by decide +kernel
theorem dX3_findFor_8 : decode cX3_findFor 8 = .ok (.iload_n 1, 1) := by decide +kernel
theorem dX3_findFor_9 : decode cX3_findFor 9 = .ok (.iaload, 1) := by decide +kernel
theorem dX3_findFor_10 : decode cX3_findFor 10 = .ok (.putfield 41, 3) := by decide +kernel
theorem dX3_findFor_13 : decode cX3_findFor 13 = .ok (.aload_n 0, 1) := by decide +kernel
theorem dX3_findFor_14 : decode cX3_findFor 14 = .ok (.ldc 45, 2) := by decide +kernel
theorem dX3_findFor_16 : decode cX3_findFor 16 = .ok (.putfield 46, 3) := by decide +kernel
theorem dX3_findFor_19 : decode cX3_findFor 19 = .ok (.aload_n 0, 1) := by decide +kernel
theorem dX3_findFor_20 : decode cX3_findFor 20 = .ok (.iconst 0, 1) := by decide +kernel
theorem dX3_findFor_21 : decode cX3_findFor 21 = .ok (.putfield 49, 3) := by decide +kernel
theorem dX3_findFor_24 : decode cX3_findFor 24 = .ok (.aload_n 0, 1) := by decide +kernel
theorem dX3_findFor_25 : decode cX3_findFor 25 = .ok (.getfield 23, 3) := by decide +kernel
theorem dX3_findFor_28 : decode cX3_findFor 28 = .ok (.aload_n 0, 1) := by decide +kernel
theorem dX3_findFor_29 : decode cX3_findFor 29 = .ok (.getfield 32, 3) := by decide +kernel
theorem dX3_findFor_32 : decode cX3_findFor 32 = .ok (.getfield 52, 3) := by decide +kernel
theorem dX3_findFor_35 : decode cX3_findFor 35 = .ok (.iconst 0, 1) := by decide +kernel
theorem dX3_findFor_36 : decode cX3_findFor 36 = .ok (.iastore, 1) := by decide +kernel
theorem dX3_findFor_37 : decode cX3_findFor 37 = .ok (.aload_n 0, 1) := by decide +kernel
theorem dX3_findFor_38 : decode cX3_findFor 38 = .ok (.getfield 32, 3) := by decide +kernel
theorem dX3_findFor_41 : decode cX3_findFor 41 = .ok (.getfield 52, 3) := by decide +kernel
theorem dX3_findFor_44 : decode cX3_findFor 44 = .ok (.iconst 1, 1) := by decide +kernel
theorem dX3_findFor_45 : decode cX3_findFor 45 = .ok (.isub, 1) := by decide +kernel
theorem dX3_findFor_46 : decode cX3_findFor 46 = .ok (.istore_n 2, 1) := by decide +kernel
theorem dX3_findFor_47 : decode cX3_findFor 47 = .ok (.iload_n 2, 1) := by decide +kernel
theorem dX3_findFor_48 : decode cX3_findFor 48 = .ok (.ifCond .lt 57, 3) := by decide +kernel
theorem dX3_findFor_51 : decode cX3_findFor 51 = .ok (.aload_n 0, 1) := by decide +kernel
theorem dX3_findFor_52 : decode cX3_findFor 52 = .ok (.iload_n 2, 1) := by decide +kernel
theorem dX3_findFor_53 : decode cX3_findFor 53 = .ok (.aload_n 0, 1) := by decide +kernel
theorem dX3_findFor_54 : decode cX3_findFor 54 = .ok (.getfield 32, 3) := by decide +kernel
theorem dX3_findFor_57 : decode cX3_findFor 57 = .ok (.iload_n 1, 1) := by decide +kernel
theorem dX3_findFor_58 : decode cX3_findFor 58 = .ok (.iload_n 2, 1) := by decide +kernel
theorem dX3_findFor_59 : decode cX3_findFor 59 = .ok (.invokevirtual 55, 3) := by decide +kernel
theorem dX3_findFor_62 : decode cX3_findFor 62 = .ok (.aload_n 0, 1) := by decide +kernel
theorem dX3_findFor_63 : decode cX3_findFor 63 = .ok (.getfield 32, 3) := by decide +kernel
theorem dX3_findFor_66 : decode cX3_findFor 66 = .ok (.getfield 59, 3) := by decide +kernel
theorem dX3_findFor_69 : decode cX3_findFor 69 = .ok (.iload_n 1, 1) := by decide +kernel
theorem dX3_findFor_70 : decode cX3_findFor 70 = .ok (.aaload, 1) := by decide +kernel
theorem dX3_findFor_71 : decode cX3_findFor 71 = .ok (.iload_n 2, 1) := by decide +kernel
theorem dX3_findFor_72 : decode cX3_findFor 72 = .ok (.iaload, 1) := by decide +kernel
theorem dX3_findFor_73 : decode cX3_findFor 73 = .ok (.invokevirtual 62, 3) := by decide +kernel
theorem dX3_findFor_76 : decode cX3_findFor 76 = .ok (.aload_n 0, 1) := by decide +kernel
theorem dX3_findFor_77 : decode cX3_findFor 77 = .ok (.getfield 23, 3) := by decide +kernel
theorem dX3_findFor_80 : decode cX3_findFor 80 = .ok (.iload_n 2, 1) := by decide +kernel
theorem dX3_findFor_81 : decode cX3_findFor 81 = .ok (.aload_n 0, 1) := by decide +kernel
theorem dX3_findFor_82 : decode cX3_findFor 82 = .ok (.getfield 23, 3) := by decide +kernel
theorem dX3_findFor_85 : decode cX3_findFor 85 = .ok (.iload_n 2, 1) := by decide +kernel
theorem dX3_findFor_86 : decode cX3_findFor 86 = .ok (.iconst 1, 1) := by decide +kernel
theorem dX3_findFor_87 : decode cX3_findFor 87 = .ok (.iadd, 1) := by decide +kernel
theorem dX3_findFor_88 : decode cX3_findFor 88 = .ok (.iaload, 1) := by decide +kernel
theorem dX3_findFor_89 : decode cX3_findFor 89 = .ok (.aload_n 0, 1) := by decide +kernel
theorem dX3_findFor_90 : decode cX3_findFor 90 = .ok (.getfield 20, 3) := by decide +kernel
theorem dX3_findFor_93 : decode cX3_findFor 93 = .ok (.iload_n 2, 1) := by decide +kernel
theorem dX3_findFor_94 : decode cX3_findFor 94 = .ok (.aaload, 1) := by decide +kernel
theorem dX3_findFor_95 : decode cX3_findFor 95 = .ok (.iconst 0, 1) := by decide +kernel
theorem dX3_findFor_96 : decode cX3_findFor 96 = .ok (.iaload, 1) := by decide +kernel
theorem dX3_findFor_97 : decode cX3_findFor 97 = .ok (.iadd, 1) := by decide +kernel
theorem dX3_findFor_98 : decode cX3_findFor 98 = .ok (.iastore, 1) := by decide +kernel
theorem dX3_findFor_99 : decode cX3_findFor 99 = .ok (.iinc 2 (-1), 3) := by decide +kernel
theorem dX3_findFor_102 : decode cX3_findFor 102 = .ok (.goto (-55), 3) := by decide +kernel
theorem dX3_findFor_105 : decode cX3_findFor 105 = .ok (.aload_n 0, 1) := by decide +kernel
theorem dX3_findFor_106 : decode cX3_findFor 106 = .ok (.iconst 0, 1) := by decide +kernel
theorem dX3_findFor_107 : decode cX3_findFor 107 = .ok (.iconst 0, 1) := by decide +kernel
theorem dX3_findFor_108 : decode cX3_findFor 108 = .ok (.iconst 0, 1) := by decide +kernel
theorem dX3_findFor_109 : decode cX3_findFor 109 = .ok (.invokestatic 66, 3) := by decide +kernel
theorem dX3_findFor_112 : decode cX3_findFor 112 = .ok (.return_, 1) := by decide +kernel
theorem dX3_giveTo_0 : decode cX3_giveTo 0 = .ok (.aload_n 0, 1) := by decide +kernel
theorem dX3_giveTo_1 : decode cX3_giveTo 1 = .ok (.getfield 29, 3) := by decide +kernel
theorem dX3_giveTo_4 : decode cX3_giveTo 4 = .ok (.iconst 0, 1) := by decide +kernel
theorem dX3_giveTo_5 : decode cX3_giveTo 5 = .ok (.aload_n 0, 1) := by decide +kernel
theorem dX3_giveTo_6 : decode cX3_giveTo 6 = .ok (.getfield 32, 3) := by decide +kernel
theorem dX3_giveTo_9 : decode cX3_giveTo 9 = .ok (.getfield 70, 3) := by decide +kernel
theorem dX3_giveTo_12 : decode cX3_giveTo 12 = .ok (.iload_n 1, 1) := by decide +kernel
theorem dX3_giveTo_13 : decode cX3_giveTo 13 = .ok (.aaload, 1) := by decide +kernel
theorem dX3_giveTo_14 : decode cX3_giveTo 14 = .ok (.iconst 0, 1) := by decide +kernel
theorem dX3_giveTo_15 : decode cX3_giveTo 15 = .ok (.aload_n 0, 1) := by decide +kernel
theorem dX3_giveTo_16 : decode cX3_giveTo 16 = .ok (.getfield 32, 3) := by decide +kernel
theorem dX3_giveTo_19 : decode cX3_giveTo 19 = .ok (.getfield 52, 3) := by decide +kernel
theorem dX3_giveTo_22 : decode cX3_giveTo 22 = .ok (.invokestatic 73, 3) := by decide +kernel
theorem dX3_giveTo_25 : decode cX3_giveTo 25 = .ok (.return_, 1) := by decide +kernel
theorem dX3_listChoices_0 : decode cX3_listChoices 0 = .ok (.aload_n 0, 1) := by decide +kernel
theorem dX3_listChoices_1 : decode cX3_listChoices 1 = .ok (.getfield 9, 3) := by decide +kernel
theorem dX3_listChoices_4 : decode cX3_listChoices 4 = .ok (.iload_n 1, 1) := by decide +kernel
theorem dX3_listChoices_5 : decode cX3_listChoices 5 = .ok (.iconst 0, 1) := by decide +kernel
theorem dX3_listChoices_6 : decode cX3_listChoices 6 = .ok (.iastore, 1) := by decide +kernel
theorem dX3_listChoices_7 : decode cX3_listChoices 7 = .ok (.iload_n 3, 1) := by decide +kernel
theorem dX3_listChoices_8 : decode cX3_listChoices 8 = .ok (.ifCond .le 7, 3) := by decide +kernel
theorem dX3_listChoices_11 : decode cX3_listChoices 11 = .ok (.iconst 1, 1) := by decide +kernel
theorem dX3_listChoices_12 : decode cX3_listChoices 12 = .ok (.goto 4, 3) := by decide +kernel
theorem dX3_listChoices_15 : decode cX3_listChoices 15 = .ok (.iconst (-1), 1) := by decide +kernel
theorem dX3_listChoices_16 : decode cX3_listChoices 16 = .ok (.istore 4, 2) := by decide +kernel
theorem dX3_listChoices_18 : decode cX3_listChoices 18 = .ok (.iload_n 2, 1) := by decide +kernel
theorem dX3_listChoices_19 : decode cX3_listChoices 19 = .ok (.iload_n 3, 1) := by decide +kernel
theorem dX3_listChoices_20 : decode cX3_listChoices 20 = .ok (.invokestatic 79, 3) := by decide +kernel
theorem dX3_listChoices_23 : decode cX3_listChoices 23 = .ok (.istore 5, 2) := by decide +kernel
theorem dX3_listChoices_25 : decode cX3_listChoices 25 = .ok (.iload 4, 2) := by decide +kernel
theorem dX3_listChoices_27 : decode cX3_listChoices 27 = .ok (.iload_n 3, 1) := by decide +kernel
theorem dX3_listChoices_28 : decode cX3_listChoices 28 = .ok (.invokestatic 79, 3) := by decide +kernel
theorem dX3_listChoices_31 : decode cX3_listChoices 31 = .ok (.iload 5, 2) := by decide +kernel
theorem dX3_listChoices_33 : decode cX3_listChoices 33 = .ok (.if_icmp .le 18, 3) := by decide +kernel
theorem dX3_listChoices_36 : decode cX3_listChoices 36 = .ok (.aload_n 0, 1) := by decide +kernel
theorem dX3_listChoices_37 : decode cX3_listChoices 37 = .ok (.iload_n 1, 1) := by decide +kernel
theorem dX3_listChoices_38 : decode cX3_listChoices 38 = .ok (.iload 4, 2) := by decide +kernel
theorem dX3_listChoices_40 : decode cX3_listChoices 40 = .ok (.iload_n 2, 1) := by decide +kernel
theorem dX3_listChoices_41 : decode cX3_listChoices 41 = .ok (.isub, 1) := by decide +kernel
theorem dX3_listChoices_42 : decode cX3_listChoices 42 = .ok (.iload 4, 2) := by decide +kernel
theorem dX3_listChoices_44 : decode cX3_listChoices 44 = .ok (.iload_n 3, 1) := by decide +kernel
theorem dX3_listChoices_45 : decode cX3_listChoices 45 = .ok (.invokestatic 79, 3) := by decide +kernel
theorem dX3_listChoices_48 : decode cX3_listChoices 48 = .ok (.invokevirtual 82, 3) := by decide +kernel
theorem dX3_listChoices_51 : decode cX3_listChoices 51 = .ok (.iconst 0, 1) := by decide +kernel
theorem dX3_listChoices_52 : decode cX3_listChoices 52 = .ok (.iload_n 3, 1) := by decide +kernel
theorem dX3_listChoices_53 : decode cX3_listChoices 53 = .ok (.invokestatic 79, 3) := by decide +kernel
theorem dX3_listChoices_56 : decode cX3_listChoices 56 = .ok (.iload 5, 2) := by decide +kernel
theorem dX3_listChoices_58 : decode cX3_listChoices 58 = .ok (.if_icmp .le 15, 3) := by decide +kernel
theorem dX3_listChoices_61 : decode cX3_listChoices 61 = .ok (.aload_n 0, 1) := by decide +kernel
theorem dX3_listChoices_62 : decode cX3_listChoices 62 = .ok (.iload_n 1, 1) := by decide +kernel
theorem dX3_listChoices_63 : decode cX3_listChoices 63 = .ok (.iload_n 2, 1) := by decide +kernel
theorem dX3_listChoices_64 : decode cX3_listChoices 64 = .ok (.ineg, 1) := by decide +kernel
theorem dX3_listChoices_65 : decode cX3_listChoices 65 = .ok (.iconst 0, 1) := by decide +kernel
theorem dX3_listChoices_66 : decode cX3_listChoices 66 = .ok (.iload_n 3, 1) := by decide +kernel
theorem dX3_listChoices_67 : decode cX3_listChoices 67 = .ok (.invokestatic 79, 3) := by decide +kernel
theorem dX3_listChoices_70 : decode cX3_listChoices 70 = .ok (.invokevirtual 82, 3) := by decide +kernel
theorem dX3_listChoices_73 : decode cX3_listChoices 73 = .ok (.aload_n 0, 1) := by decide +kernel
theorem dX3_listChoices_74 : decode cX3_listChoices 74 = .ok (.iload_n 1, 1) := by decide +kernel
theorem dX3_listChoices_75 : decode cX3_listChoices 75 = .ok (.iconst 0, 1) := by decide +kernel
theorem dX3_listChoices_76 : decode cX3_listChoices 76 = .ok (.iload 5, 2) := by decide +kernel
theorem dX3_listChoices_78 : decode cX3_listChoices 78 = .ok (.invokevirtual 82, 3) := by decide +kernel
theorem dX3_listChoices_81 : decode cX3_listChoices 81 = .ok (.return_, 1) := by decide +kernel
theorem dX3_addChoice_0 : decode cX3_addChoice 0 = .ok (.aload_n 0, 1) := by decide +kernel
theorem dX3_addChoice_1 : decode cX3_addChoice 1 = .ok (.getfield 9, 3) := by decide +kernel
theorem dX3_addChoice_4 : decode cX3_addChoice 4 = .ok (.iload_n 1, 1) := by decide +kernel
theorem dX3_addChoice_5 : decode cX3_addChoice 5 = .ok (.iaload, 1) := by decide +kernel
theorem dX3_addChoice_6 : decode cX3_addChoice 6 = .ok (.istore 4, 2) := by decide +kernel
theorem dX3_addChoice_8 : decode cX3_addChoice 8 = .ok (.iload 4, 2) := by decide +kernel
theorem dX3_addChoice_10 : decode cX3_addChoice 10 = .ok (.iconst 3, 1) := by decide +kernel
theorem dX3_addChoice_11 : decode cX3_addChoice 11 = .ok (.if_icmp .ge 15, 3) := by decide +kernel
theorem dX3_addChoice_14 : decode cX3_addChoice 14 = .ok (.iload_n 2, 1) := by decide +kernel
theorem dX3_addChoice_15 : decode cX3_addChoice 15 = .ok (.bipush (-40), 2) := by decide +kernel
theorem dX3_addChoice_17 : decode cX3_addChoice 17 = .ok (.if_icmp .lt 9, 3) := by decide +kernel
theorem dX3_addChoice_20 : decode cX3_addChoice 20 = .ok (.iload_n 2, 1) := by decide +kernel
theorem dX3_addChoice_21 : decode cX3_addChoice 21 = .ok (.bipush 40, 2) := by decide +kernel
theorem dX3_addChoice_23 : decode cX3_addChoice 23 = .ok (.if_icmp .le 4, 3) := by decide +kernel
theorem dX3_addChoice_26 : decode cX3_addChoice 26 = .ok (.return_, 1) := by decide +kernel
theorem dX3_addChoice_27 : decode cX3_addChoice 27 = .ok (.aload_n 0, 1) := by decide +kernel
theorem dX3_addChoice_28 : decode cX3_addChoice 28 = .ok (.getfield 17, 3) := by decide +kernel
theorem dX3_addChoice_31 : decode cX3_addChoice 31 = .ok (.iload_n 1, 1) := by decide +kernel
theorem dX3_addChoice_32 : decode cX3_addChoice 32 = .ok (.aaload, 1) := by decide +kernel
theorem dX3_addChoice_33 : decode cX3_addChoice 33 = .ok (.iload 4, 2) := by decide +kernel
theorem dX3_addChoice_35 : decode cX3_addChoice 35 = .ok (.iload_n 2, 1) := by decide +kernel
theorem dX3_addChoice_36 : decode cX3_addChoice 36 = .ok (.iastore, 1) := by decide +kernel
theorem dX3_addChoice_37 : decode cX3_addChoice 37 = .ok (.aload_n 0, 1) := by decide +kernel
theorem dX3_addChoice_38 : decode cX3_addChoice 38 = .ok (.getfield 20, 3) := by decide +kernel
theorem dX3_addChoice_41 : decode cX3_addChoice 41 = .ok (.iload_n 1, 1) := by decide +kernel
theorem dX3_addChoice_42 : decode cX3_addChoice 42 = .ok (.aaload, 1) := by decide +kernel
theorem dX3_addChoice_43 : decode cX3_addChoice 43 = .ok (.iload 4, 2) := by decide +kernel
theorem dX3_addChoice_45 : decode cX3_addChoice 45 = .ok (.iload_n 3, 1) := by decide +kernel
theorem dX3_addChoice_46 : decode cX3_addChoice 46 = .ok (.iastore, 1) := by decide +kernel
theorem dX3_addChoice_47 : decode cX3_addChoice 47 = .ok (.aload_n 0, 1) := by decide +kernel
theorem dX3_addChoice_48 : decode cX3_addChoice 48 = .ok (.getfield 9, 3) := by decide +kernel
theorem dX3_addChoice_51 : decode cX3_addChoice 51 = .ok (.iload_n 1, 1) := by decide +kernel
theorem dX3_addChoice_52 : decode cX3_addChoice 52 = .ok (.dup2, 1) := by decide +kernel
theorem dX3_addChoice_53 : decode cX3_addChoice 53 = .ok (.iaload, 1) := by decide +kernel
theorem dX3_addChoice_54 : decode cX3_addChoice 54 = .ok (.iconst 1, 1) := by decide +kernel
theorem dX3_addChoice_55 : decode cX3_addChoice 55 = .ok (.iadd, 1) := by decide +kernel
theorem dX3_addChoice_56 : decode cX3_addChoice 56 = .ok (.iastore, 1) := by decide +kernel
theorem dX3_addChoice_57 : decode cX3_addChoice 57 = .ok (.return_, 1) := by decide +kernel
theorem dX3_tryFrom_0 : decode cX3_tryFrom 0 = .ok (.iload_n 1, 1) := by decide +kernel
theorem dX3_tryFrom_1 : decode cX3_tryFrom 1 = .ok (.aload_n 0, 1) := by decide +kernel
theorem dX3_tryFrom_2 : decode cX3_tryFrom 2 = .ok (.getfield 32, 3) := by decide +kernel
theorem dX3_tryFrom_5 : decode cX3_tryFrom 5 = .ok (.getfield 52, 3) := by decide +kernel
theorem dX3_tryFrom_8 : decode cX3_tryFrom 8 = .ok (.if_icmp .lt 10, 3) := by decide +kernel
theorem dX3_tryFrom_11 : decode cX3_tryFrom 11 = .ok (.aload_n 0, 1) := by decide +kernel
theorem dX3_tryFrom_12 : decode cX3_tryFrom 12 = .ok (.iload_n 2, 1) := by decide +kernel
theorem dX3_tryFrom_13 : decode cX3_tryFrom 13 = .ok (.iload_n 3, 1) := by decide +kernel
theorem dX3_tryFrom_14 : decode cX3_tryFrom 14 = .ok (.invokevirtual 85, 3) := by decide +kernel
theorem dX3_tryFrom_17 : decode cX3_tryFrom 17 = .ok (.return_, 1) := by decide +kernel
theorem dX3_tryFrom_18 : decode cX3_tryFrom 18 = .ok (.iload_n 2, 1) := by decide +kernel
theorem dX3_tryFrom_19 : decode cX3_tryFrom 19 = .ok (.aload_n 0, 1) := by decide +kernel
theorem dX3_tryFrom_20 : decode cX3_tryFrom 20 = .ok (.getfield 23, 3) := by decide +kernel
theorem dX3_tryFrom_23 : decode cX3_tryFrom 23 = .ok (.iload_n 1, 1) := by decide +kernel
theorem dX3_tryFrom_24 : decode cX3_tryFrom 24 = .ok (.iaload, 1) := by decide +kernel
theorem dX3_tryFrom_25 : decode cX3_tryFrom 25 = .ok (.iadd, 1) := by decide +kernel
theorem dX3_tryFrom_26 : decode cX3_tryFrom 26 = .ok (.istore 4, 2) := by decide +kernel
theorem dX3_tryFrom_28 : decode cX3_tryFrom 28 = .ok (.iload 4, 2) := by decide +kernel
theorem dX3_tryFrom_30 : decode cX3_tryFrom 30 = .ok (.aload_n 0, 1) := by decide +kernel
theorem dX3_tryFrom_31 : decode cX3_tryFrom 31 = .ok (.getfield 46, 3) := by decide +kernel
theorem dX3_tryFrom_34 : decode cX3_tryFrom 34 = .ok (.if_icmp .lt 20, 3) := by decide +kernel
theorem dX3_tryFrom_37 : decode cX3_tryFrom 37 = .ok (.iload 4, 2) := by decide +kernel
theorem dX3_tryFrom_39 : decode cX3_tryFrom 39 = .ok (.aload_n 0, 1) := by decide +kernel
theorem dX3_tryFrom_40 : decode cX3_tryFrom 40 = .ok (.getfield 46, 3) := by decide +kernel
theorem dX3_tryFrom_43 : decode cX3_tryFrom 43 = .ok (.if_icmp .ne 12, 3) := by decide +kernel
theorem dX3_tryFrom_46 : decode cX3_tryFrom 46 = .ok (.iload_n 3, 1) := by decide +kernel
theorem dX3_tryFrom_47 : decode cX3_tryFrom 47 = .ok (.aload_n 0, 1) := by decide +kernel
theorem dX3_tryFrom_48 : decode cX3_tryFrom 48 = .ok (.getfield 49, 3) := by decide +kernel
theorem dX3_tryFrom_51 : decode cX3_tryFrom 51 = .ok (.if_icmp .le 4, 3) := by decide +kernel
theorem dX3_tryFrom_54 : decode cX3_tryFrom 54 = .ok (.return_, 1) := by decide +kernel
theorem dX3_tryFrom_55 : decode cX3_tryFrom 55 = .ok (.iconst 0, 1) := by decide +kernel
theorem dX3_tryFrom_56 : decode cX3_tryFrom 56 = .ok (.istore 5, 2) := by decide +kernel
theorem dX3_tryFrom_58 : decode cX3_tryFrom 58 = .ok (.iload 5, 2) := by decide +kernel
theorem dX3_tryFrom_60 : decode cX3_tryFrom 60 = .ok (.aload_n 0, 1) := by decide +kernel
theorem dX3_tryFrom_61 : decode cX3_tryFrom 61 = .ok (.getfield 9, 3) := by decide +kernel
theorem dX3_tryFrom_64 : decode cX3_tryFrom 64 = .ok (.iload_n 1, 1) := by decide +kernel
theorem dX3_tryFrom_65 : decode cX3_tryFrom 65 = .ok (.iaload, 1) := by decide +kernel
theorem dX3_tryFrom_66 : decode cX3_tryFrom 66 = .ok (.if_icmp .ge 67, 3) := by decide +kernel
theorem dX3_tryFrom_69 : decode cX3_tryFrom 69 = .ok (.aload_n 0, 1) := by decide +kernel
theorem dX3_tryFrom_70 : decode cX3_tryFrom 70 = .ok (.getfield 17, 3) := by decide +kernel
theorem dX3_tryFrom_73 : decode cX3_tryFrom 73 = .ok (.iload_n 1, 1) := by decide +kernel
theorem dX3_tryFrom_74 : decode cX3_tryFrom 74 = .ok (.aaload, 1) := by decide +kernel
theorem dX3_tryFrom_75 : decode cX3_tryFrom 75 = .ok (.iload 5, 2) := by decide +kernel
theorem dX3_tryFrom_77 : decode cX3_tryFrom 77 = .ok (.iaload, 1) := by decide +kernel
theorem dX3_tryFrom_78 : decode cX3_tryFrom 78 = .ok (.istore 6, 2) := by decide +kernel
theorem dX3_tryFrom_80 : decode cX3_tryFrom 80 = .ok (.iload_n 3, 1) := by decide +kernel
theorem dX3_tryFrom_81 : decode cX3_tryFrom 81 = .ok (.iload 6, 2) := by decide +kernel
theorem dX3_tryFrom_83 : decode cX3_tryFrom 83 = .ok (.iload 6, 2) := by decide +kernel
theorem dX3_tryFrom_85 : decode cX3_tryFrom 85 = .ok (.imul, 1) := by decide +kernel
theorem dX3_tryFrom_86 : decode cX3_tryFrom 86 = .ok (.iadd, 1) := by decide +kernel
theorem dX3_tryFrom_87 : decode cX3_tryFrom 87 = .ok (.aload_n 0, 1) := by decide +kernel
theorem dX3_tryFrom_88 : decode cX3_tryFrom 88 = .ok (.getfield 41, 3) := by decide +kernel
theorem dX3_tryFrom_91 : decode cX3_tryFrom 91 = .ok (.if_icmp .gt 36, 3) := by decide +kernel
theorem dX3_tryFrom_94 : decode cX3_tryFrom 94 = .ok (.aload_n 0, 1) := by decide +kernel
theorem dX3_tryFrom_95 : decode cX3_tryFrom 95 = .ok (.getfield 26, 3) := by decide +kernel
theorem dX3_tryFrom_98 : decode cX3_tryFrom 98 = .ok (.iload_n 1, 1) := by decide +kernel
theorem dX3_tryFrom_99 : decode cX3_tryFrom 99 = .ok (.iload 6, 2) := by decide +kernel
theorem dX3_tryFrom_101 : decode cX3_tryFrom 101 = .ok (.iastore, 1) := by decide +kernel
theorem dX3_tryFrom_102 : decode cX3_tryFrom 102 = .ok (.aload_n 0, 1) := by decide +kernel
theorem dX3_tryFrom_103 : decode cX3_tryFrom 103 = .ok (.iload_n 1, 1) := by decide +kernel
theorem dX3_tryFrom_104 : decode cX3_tryFrom 104 = .ok (.iconst 1, 1) := by decide +kernel
theorem dX3_tryFrom_105 : decode cX3_tryFrom 105 = .ok (.iadd, 1) := by decide +kernel
theorem dX3_tryFrom_106 : decode cX3_tryFrom 106 = .ok (.iload_n 2, 1) := by decide +kernel
theorem dX3_tryFrom_107 : decode cX3_tryFrom 107 = .ok (.aload_n 0, 1) := by decide +kernel
theorem dX3_tryFrom_108 : decode cX3_tryFrom 108 = .ok (.getfield 20, 3) := by decide +kernel
theorem dX3_tryFrom_111 : decode cX3_tryFrom 111 = .ok (.iload_n 1, 1) := by decide +kernel
theorem dX3_tryFrom_112 : decode cX3_tryFrom 112 = .ok (.aaload, 1) := by decide +kernel
theorem dX3_tryFrom_113 : decode cX3_tryFrom 113 = .ok (.iload 5, 2) := by decide +kernel
theorem dX3_tryFrom_115 : decode cX3_tryFrom 115 = .ok (.iaload, 1) := by decide +kernel
theorem dX3_tryFrom_116 : decode cX3_tryFrom 116 = .ok (.iadd, 1) := by decide +kernel
theorem dX3_tryFrom_117 : decode cX3_tryFrom 117 = .ok (.iload_n 3, 1) := by decide +kernel
theorem dX3_tryFrom_118 : decode cX3_tryFrom 118 = .ok (.iload 6, 2) := by decide +kernel
theorem dX3_tryFrom_120 : decode cX3_tryFrom 120 = .ok (.iload 6, 2) := by decide +kernel
theorem dX3_tryFrom_122 : decode cX3_tryFrom 122 = .ok (.imul, 1) := by decide +kernel
theorem dX3_tryFrom_123 : decode cX3_tryFrom 123 = .ok (.iadd, 1) := by decide +kernel
theorem dX3_tryFrom_124 : decode cX3_tryFrom 124 = .ok (.invokestatic 66, 3) := by decide +kernel
theorem dX3_tryFrom_127 : decode cX3_tryFrom 127 = .ok (.iinc 5 1, 3) := by decide +kernel
theorem dX3_tryFrom_130 : decode cX3_tryFrom 130 = .ok (.goto (-72), 3) := by decide +kernel
theorem dX3_tryFrom_133 : decode cX3_tryFrom 133 = .ok (.return_, 1) := by decide +kernel
theorem dX3_keepIfBetter_0 : decode cX3_keepIfBetter 0 = .ok (.iload_n 1, 1) := by decide +kernel
theorem dX3_keepIfBetter_1 : decode cX3_keepIfBetter 1 = .ok (.aload_n 0, 1) := by decide +kernel
theorem dX3_keepIfBetter_2 : decode cX3_keepIfBetter 2 = .ok (.getfield 46, 3) := by decide +kernel
theorem dX3_keepIfBetter_5 : decode cX3_keepIfBetter 5 = .ok (.if_icmp .ge 4, 3) := by decide +kernel
theorem dX3_keepIfBetter_8 : decode cX3_keepIfBetter 8 = .ok (.return_, 1) := by decide +kernel
theorem dX3_keepIfBetter_9 : decode cX3_keepIfBetter 9 = .ok (.iload_n 1, 1) := by decide +kernel
theorem dX3_keepIfBetter_10 : decode cX3_keepIfBetter 10 = .ok (.aload_n 0, 1) := by decide +kernel
theorem dX3_keepIfBetter_11 : decode cX3_keepIfBetter 11 = .ok (.getfield 46, 3) := by decide +kernel
theorem dX3_keepIfBetter_14 : decode cX3_keepIfBetter 14 = .ok (.if_icmp .ne 27, 3) := by decide +kernel
theorem dX3_keepIfBetter_17 : decode cX3_keepIfBetter 17 = .ok (.iload_n 2, 1) := by decide +kernel
theorem dX3_keepIfBetter_18 : decode cX3_keepIfBetter 18 = .ok (.aload_n 0, 1) := by decide +kernel
theorem dX3_keepIfBetter_19 : decode cX3_keepIfBetter 19 = .ok (.getfield 49, 3) := by decide +kernel
theorem dX3_keepIfBetter_22 : decode cX3_keepIfBetter 22 = .ok (.if_icmp .gt 18, 3) := by decide +kernel
theorem dX3_keepIfBetter_25 : decode cX3_keepIfBetter 25 = .ok (.iload_n 2, 1) := by decide +kernel
theorem dX3_keepIfBetter_26 : decode cX3_keepIfBetter 26 = .ok (.aload_n 0, 1) := by decide +kernel
theorem dX3_keepIfBetter_27 : decode cX3_keepIfBetter 27 = .ok (.getfield 49, 3) := by decide +kernel
theorem dX3_keepIfBetter_30 : decode cX3_keepIfBetter 30 = .ok (.if_icmp .ne 11, 3) := by decide +kernel
theorem dX3_keepIfBetter_33 : decode cX3_keepIfBetter 33 = .ok (.aload_n 0, 1) := by decide +kernel
theorem dX3_keepIfBetter_34 : decode cX3_keepIfBetter 34 = .ok (.invokevirtual 89, 3) := by decide +kernel
theorem dX3_keepIfBetter_37 : decode cX3_keepIfBetter 37 = .ok (.ifCond .ne 4, 3) := by decide +kernel
theorem dX3_keepIfBetter_40 : decode cX3_keepIfBetter 40 = .ok (.return_, 1) := by decide +kernel
theorem dX3_keepIfBetter_41 : decode cX3_keepIfBetter 41 = .ok (.aload_n 0, 1) := by decide +kernel
theorem dX3_keepIfBetter_42 : decode cX3_keepIfBetter 42 = .ok (.iload_n 1, 1) := by decide +kernel
theorem dX3_keepIfBetter_43 : decode cX3_keepIfBetter 43 = .ok (.putfield 46, 3) := by decide +kernel
theorem dX3_keepIfBetter_46 : decode cX3_keepIfBetter 46 = .ok (.aload_n 0, 1) := by decide +kernel
theorem dX3_keepIfBetter_47 : decode cX3_keepIfBetter 47 = .ok (.iload_n 2, 1) := by decide +kernel
theorem dX3_keepIfBetter_48 : decode cX3_keepIfBetter 48 = .ok (.putfield 49, 3) := by decide +kernel
theorem dX3_keepIfBetter_51 : decode cX3_keepIfBetter 51 = .ok (.aload_n 0, 1) := by decide +kernel
theorem dX3_keepIfBetter_52 : decode cX3_keepIfBetter 52 = .ok (.getfield 26, 3) := by decide +kernel
theorem dX3_keepIfBetter_55 : decode cX3_keepIfBetter 55 = .ok (.iconst 0, 1) := by decide +kernel
theorem dX3_keepIfBetter_56 : decode cX3_keepIfBetter 56 = .ok (.aload_n 0, 1) := by decide +kernel
theorem dX3_keepIfBetter_57 : decode cX3_keepIfBetter 57 = .ok (.getfield 29, 3) := by decide +kernel
theorem dX3_keepIfBetter_60 : decode cX3_keepIfBetter 60 = .ok (.iconst 0, 1) := by decide +kernel
theorem dX3_keepIfBetter_61 : decode cX3_keepIfBetter 61 = .ok (.aload_n 0, 1) := by decide +kernel
theorem dX3_keepIfBetter_62 : decode cX3_keepIfBetter 62 = .ok (.getfield 32, 3) := by decide +kernel
theorem dX3_keepIfBetter_65 : decode cX3_keepIfBetter 65 = .ok (.getfield 52, 3) := by decide +kernel
theorem dX3_keepIfBetter_68 : decode cX3_keepIfBetter 68 = .ok (.invokestatic 73, 3) := by decide +kernel
theorem dX3_keepIfBetter_71 : decode cX3_keepIfBetter 71 = .ok (.return_, 1) := by decide +kernel
theorem dX3_triedIsLess_0 : decode cX3_triedIsLess 0 = .ok (.iconst 0, 1) := by decide +kernel
theorem dX3_triedIsLess_1 : decode cX3_triedIsLess 1 = .ok (.istore_n 1, 1) := by decide +kernel
theorem dX3_triedIsLess_2 : decode cX3_triedIsLess 2 = .ok (.iload_n 1, 1) := by decide +kernel
theorem dX3_triedIsLess_3 : decode cX3_triedIsLess 3 = .ok (.aload_n 0, 1) := by decide +kernel
theorem dX3_triedIsLess_4 : decode cX3_triedIsLess 4 = .ok (.getfield 32, 3) := by decide +kernel
theorem dX3_triedIsLess_7 : decode cX3_triedIsLess 7 = .ok (.getfield 52, 3) := by decide +kernel
theorem dX3_triedIsLess_10 : decode cX3_triedIsLess 10 = .ok (.if_icmp .ge 45, 3) := by decide +kernel
theorem dX3_triedIsLess_13 : decode cX3_triedIsLess 13 = .ok (.aload_n 0, 1) := by decide +kernel
theorem dX3_triedIsLess_14 : decode cX3_triedIsLess 14 = .ok (.getfield 26, 3) := by decide +kernel
theorem dX3_triedIsLess_17 : decode cX3_triedIsLess 17 = .ok (.iload_n 1, 1) := by decide +kernel
theorem dX3_triedIsLess_18 : decode cX3_triedIsLess 18 = .ok (.iaload, 1) := by decide +kernel
theorem dX3_triedIsLess_19 : decode cX3_triedIsLess 19 = .ok (.aload_n 0, 1) := by decide +kernel
theorem dX3_triedIsLess_20 : decode cX3_triedIsLess 20 = .ok (.getfield 29, 3) := by decide +kernel
theorem dX3_triedIsLess_23 : decode cX3_triedIsLess 23 = .ok (.iload_n 1, 1) := by decide +kernel
theorem dX3_triedIsLess_24 : decode cX3_triedIsLess 24 = .ok (.iaload, 1) := by decide +kernel
theorem dX3_triedIsLess_25 : decode cX3_triedIsLess 25 = .ok (.if_icmp .eq 24, 3) := by decide +kernel
theorem dX3_triedIsLess_28 : decode cX3_triedIsLess 28 = .ok (.aload_n 0, 1) := by decide +kernel
theorem dX3_triedIsLess_29 : decode cX3_triedIsLess 29 = .ok (.getfield 26, 3) := by decide +kernel
theorem dX3_triedIsLess_32 : decode cX3_triedIsLess 32 = .ok (.iload_n 1, 1) := by decide +kernel
theorem dX3_triedIsLess_33 : decode cX3_triedIsLess 33 = .ok (.iaload, 1) := by decide +kernel
theorem dX3_triedIsLess_34 : decode cX3_triedIsLess 34 = .ok (.aload_n 0, 1) := by decide +kernel
theorem dX3_triedIsLess_35 : decode cX3_triedIsLess 35 = .ok (.getfield 29, 3) := by decide +kernel
theorem dX3_triedIsLess_38 : decode cX3_triedIsLess 38 = .ok (.iload_n 1, 1) := by decide +kernel
theorem dX3_triedIsLess_39 : decode cX3_triedIsLess 39 = .ok (.iaload, 1) := by decide +kernel
theorem dX3_triedIsLess_40 : decode cX3_triedIsLess 40 = .ok (.if_icmp .ge 7, 3) := by decide +kernel
theorem dX3_triedIsLess_43 : decode cX3_triedIsLess 43 = .ok (.iconst 1, 1) := by decide +kernel
theorem dX3_triedIsLess_44 : decode cX3_triedIsLess 44 = .ok (.goto 4, 3) := by decide +kernel
theorem dX3_triedIsLess_47 : decode cX3_triedIsLess 47 = .ok (.iconst 0, 1) := by decide +kernel
theorem dX3_triedIsLess_48 : decode cX3_triedIsLess 48 = .ok (.ireturn, 1) := by decide +kernel
theorem dX3_triedIsLess_49 : decode cX3_triedIsLess 49 = .ok (.iinc 1 1, 3) := by decide +kernel
theorem dX3_triedIsLess_52 : decode cX3_triedIsLess 52 = .ok (.goto (-50), 3) := by decide +kernel
theorem dX3_triedIsLess_55 : decode cX3_triedIsLess 55 = .ok (.iconst 0, 1) := by decide +kernel
theorem dX3_triedIsLess_56 : decode cX3_triedIsLess 56 = .ok (.ireturn, 1) := by decide +kernel
theorem dX4_init_0 : decode cX4_init 0 = .ok (.aload_n 0, 1) := by decide +kernel
theorem dX4_init_1 : decode cX4_init 1 = .ok (.invokespecial 1, 3) := by decide +kernel
theorem dX4_init_4 : decode cX4_init 4 = .ok (.aload_n 0, 1) := by decide +kernel
theorem dX4_init_5 : decode cX4_init 5 = .ok (.new 7, 3) := by decide +kernel
theorem dX4_init_8 : decode cX4_init 8 = .ok (.dup, 1) := by decide +kernel
theorem dX4_init_9 : decode cX4_init 9 = .ok (.invokespecial 9, 3) := by decide +kernel
theorem dX4_init_12 : decode cX4_init 12 = .ok (.putfield 10, 3) := by decide +kernel
theorem dX4_init_15 : decode cX4_init 15 = .ok (.aload_n 0, 1) := by decide +kernel
theorem dX4_init_16 : decode cX4_init 16 = .ok (.new 16, 3) := by decide +kernel
theorem dX4_init_19 : decode cX4_init 19 = .ok (.dup, 1) := by decide +kernel
theorem dX4_init_20 : decode cX4_init 20 = .ok (.aload_n 0, 1) := by decide +kernel
theorem dX4_init_21 : decode cX4_init 21 = .ok (.getfield 10, 3) := by decide +kernel
theorem dX4_init_24 : decode cX4_init 24 = .ok (.invokespecial 18, 3) := by decide +kernel
theorem dX4_init_27 : decode cX4_init 27 = .ok (.putfield 21, 3) := by decide +kernel
theorem dX4_init_30 : decode cX4_init 30 = .ok (.aload_n 0, 1) := by decide +kernel
theorem dX4_init_31 : decode cX4_init 31 = .ok (.new 25, 3) := by decide +kernel
theorem dX4_init_34 : decode cX4_init 34 = .ok (.dup, 1) := by decide +kernel
theorem dX4_init_35 : decode cX4_init 35 = .ok (.aload_n 0, 1) := by decide +kernel
theorem dX4_init_36 : decode cX4_init 36 = .ok (.getfield 10, 3) := by decide +kernel
theorem dX4_init_39 : decode cX4_init 39 = .ok (.aload_n 0, 1) := by decide +kernel
theorem dX4_init_40 : decode cX4_init 40 = .ok (.getfield 21, 3) := by decide +kernel
theorem dX4_init_43 : decode cX4_init 43 = .ok (.invokespecial 27, 3) := by decide +kernel
theorem dX4_init_46 : decode cX4_init 46 = .ok (.putfield 30, 3) := by decide +kernel
theorem dX4_init_49 : decode cX4_init 49 = .ok (.aload_n 0, 1) := by decide +kernel
theorem dX4_init_50 : decode cX4_init 50 = .ok (.new 34, 3) := by decide +kernel
theorem dX4_init_53 : decode cX4_init 53 = .ok (.dup, 1) := by decide +kernel
theorem dX4_init_54 : decode cX4_init 54 = .ok (.aload_n 0, 1) := by decide +kernel
theorem dX4_init_55 : decode cX4_init 55 = .ok (.getfield 10, 3) := by decide +kernel
theorem dX4_init_58 : decode cX4_init 58 = .ok (.invokespecial 36, 3) := by decide +kernel
theorem dX4_init_61 : decode cX4_init 61 = .ok (.putfield 37, 3) := by decide +kernel
theorem dX4_init_64 : decode cX4_init 64 = .ok (.return_, 1) := by decide +kernel
theorem dX4_person_0 : decode cX4_person 0 = .ok (.iload_n 1, 1) := by decide +kernel
theorem dX4_person_1 : decode cX4_person 1 = .ok (.iconst 0, 1) := by decide +kernel
theorem dX4_person_2 : decode cX4_person 2 = .ok (.sipush 2000, 3) := by decide +kernel
theorem dX4_person_5 : decode cX4_person 5 = .ok (.invokestatic 41, 3) := by decide +kernel
theorem dX4_person_8 : decode cX4_person 8 = .ok (.ifCond .ne 6, 3) := by decide +kernel
theorem dX4_person_11 : decode cX4_person 11 = .ok (.bipush (-102), 2) := by decide +kernel
theorem dX4_person_13 : decode cX4_person 13 = .ok (.ireturn, 1) := by decide +kernel
theorem dX4_person_14 : decode cX4_person 14 = .ok (.aload_n 0, 1) := by decide +kernel
theorem dX4_person_15 : decode cX4_person 15 = .ok (.getfield 10, 3) := by decide +kernel
theorem dX4_person_18 : decode cX4_person 18 = .ok (.getfield 45, 3) := by decide +kernel
theorem dX4_person_21 : decode cX4_person 21 = .ok (.bipush 12, 2) := by decide +kernel
theorem dX4_person_23 : decode cX4_person 23 = .ok (.if_icmp .lt 6, 3) := by decide +kernel
theorem dX4_person_26 : decode cX4_person 26 = .ok (.bipush (-104), 2) := by decide +kernel
theorem dX4_person_28 : decode cX4_person 28 = .ok (.ireturn, 1) := by decide +kernel
theorem dX4_person_29 : decode cX4_person 29 = .ok (.aload_n 0, 1) := by decide +kernel
theorem dX4_person_30 : decode cX4_person 30 = .ok (.getfield 10, 3) := by decide +kernel
theorem dX4_person_33 : decode cX4_person 33 = .ok (.iload_n 1, 1) := by decide +kernel
theorem dX4_person_34 : decode cX4_person 34 = .ok (.invokevirtual 49, 3) := by decide +kernel
theorem dX4_person_37 : decode cX4_person 37 = .ok (.ireturn, 1) := by decide +kernel
theorem dX4_question_0 : decode cX4_question 0 = .ok (.aload_n 0, 1) := by decide +kernel
theorem dX4_question_1 : decode cX4_question 1 = .ok (.getfield 10, 3) := by decide +kernel
theorem dX4_question_4 : decode cX4_question 4 = .ok (.getfield 53, 3) := by decide +kernel
theorem dX4_question_7 : decode cX4_question 7 = .ok (.bipush 6, 2) := by decide +kernel
theorem dX4_question_9 : decode cX4_question 9 = .ok (.if_icmp .lt 6, 3) := by decide +kernel
theorem dX4_question_12 : decode cX4_question 12 = .ok (.bipush (-104), 2) := by decide +kernel
theorem dX4_question_14 : decode cX4_question 14 = .ok (.ireturn, 1) := by decide +kernel
theorem dX4_question_15 : decode cX4_question 15 = .ok (.aload_n 0, 1) := by decide +kernel
theorem dX4_question_16 : decode cX4_question 16 = .ok (.getfield 10, 3) := by decide +kernel
theorem dX4_question_19 : decode cX4_question 19 = .ok (.dup, 1) := by decide +kernel
theorem dX4_question_20 : decode cX4_question 20 = .ok (.getfield 53, 3) := by decide +kernel
theorem dX4_question_23 : decode cX4_question 23 = .ok (.iconst 1, 1) := by decide +kernel
theorem dX4_question_24 : decode cX4_question 24 = .ok (.iadd, 1) := by decide +kernel
theorem dX4_question_25 : decode cX4_question 25 = .ok (.putfield 53, 3) := by decide +kernel
theorem dX4_question_28 : decode cX4_question 28 = .ok (.aload_n 0, 1) := by decide +kernel
theorem dX4_question_29 : decode cX4_question 29 = .ok (.getfield 10, 3) := by decide +kernel
theorem dX4_question_32 : decode cX4_question 32 = .ok (.getfield 53, 3) := by decide +kernel
theorem dX4_question_35 : decode cX4_question 35 = .ok (.iconst 1, 1) := by decide +kernel
theorem dX4_question_36 : decode cX4_question 36 = .ok (.isub, 1) := by decide +kernel
theorem dX4_question_37 : decode cX4_question 37 = .ok (.ireturn, 1) := by decide +kernel
theorem dX4_project_0 : decode cX4_project 0 = .ok (.aload_n 0, 1) := by decide +kernel
theorem dX4_project_1 : decode cX4_project 1 = .ok (.getfield 37, 3) := by decide +kernel
theorem dX4_project_4 : decode cX4_project 4 = .ok (.getfield 56, 3) := by decide +kernel
theorem dX4_project_7 : decode cX4_project 7 = .ok (.bipush 6, 2) := by decide +kernel
theorem dX4_project_9 : decode cX4_project 9 = .ok (.if_icmp .lt 6, 3) := by decide +kernel
theorem dX4_project_12 : decode cX4_project 12 = .ok (.bipush (-104), 2) := by decide +kernel
theorem dX4_project_14 : decode cX4_project 14 = .ok (.ireturn, 1) := by decide +kernel
theorem dX4_project_15 : decode cX4_project 15 = .ok (.aload_n 0, 1) := by decide +kernel
theorem dX4_project_16 : decode cX4_project 16 = .ok (.getfield 37, 3) := by decide +kernel
theorem dX4_project_19 : decode cX4_project 19 = .ok (.dup, 1) := by decide +kernel
theorem dX4_project_20 : decode cX4_project 20 = .ok (.getfield 56, 3) := by decide +kernel
theorem dX4_project_23 : decode cX4_project 23 = .ok (.iconst 1, 1) := by decide +kernel
theorem dX4_project_24 : decode cX4_project 24 = .ok (.iadd, 1) := by decide +kernel
theorem dX4_project_25 : decode cX4_project 25 = .ok (.putfield 56, 3) := by decide +kernel
theorem dX4_project_28 : decode cX4_project 28 = .ok (.aload_n 0, 1) := by decide +kernel
theorem dX4_project_29 : decode cX4_project 29 = .ok (.getfield 37, 3) := by decide +kernel
theorem dX4_project_32 : decode cX4_project 32 = .ok (.getfield 56, 3) := by decide +kernel
theorem dX4_project_35 : decode cX4_project 35 = .ok (.iconst 1, 1) := by decide +kernel
theorem dX4_project_36 : decode cX4_project 36 = .ok (.isub, 1) := by decide +kernel
theorem dX4_project_37 : decode cX4_project 37 = .ok (.ireturn, 1) := by decide +kernel
theorem dX4_seed_0 : decode cX4_seed 0 = .ok (.aload_n 0, 1) := by decide +kernel
theorem dX4_seed_1 : decode cX4_seed 1 = .ok (.getfield 10, 3) := by decide +kernel
theorem dX4_seed_4 : decode cX4_seed 4 = .ok (.getfield 59, 3) := by decide +kernel
theorem dX4_seed_7 : decode cX4_seed 7 = .ok (.istore_n 2, 1) := by decide +kernel
theorem dX4_seed_8 : decode cX4_seed 8 = .ok (.aload_n 0, 1) := by decide +kernel
theorem dX4_seed_9 : decode cX4_seed 9 = .ok (.getfield 10, 3) := by decide +kernel
theorem dX4_seed_12 : decode cX4_seed 12 = .ok (.iload_n 1, 1) := by decide +kernel
theorem dX4_seed_13 : decode cX4_seed 13 = .ok (.putfield 59, 3) := by decide +kernel
theorem dX4_seed_16 : decode cX4_seed 16 = .ok (.iload_n 2, 1) := by decide +kernel
theorem dX4_seed_17 : decode cX4_seed 17 = .ok (.ireturn, 1) := by decide +kernel
theorem dX4_vote_0 : decode cX4_vote 0 = .ok (.aload_n 0, 1) := by decide +kernel
theorem dX4_vote_1 : decode cX4_vote 1 = .ok (.getfield 10, 3) := by decide +kernel
theorem dX4_vote_4 : decode cX4_vote 4 = .ok (.iload_n 1, 1) := by decide +kernel
theorem dX4_vote_5 : decode cX4_vote 5 = .ok (.invokevirtual 62, 3) := by decide +kernel
theorem dX4_vote_8 : decode cX4_vote 8 = .ok (.ifCond .eq 14, 3) := by decide +kernel
theorem dX4_vote_11 : decode cX4_vote 11 = .ok (.aload_n 0, 1) := by decide +kernel
theorem dX4_vote_12 : decode cX4_vote 12 = .ok (.getfield 10, 3) := by decide +kernel
theorem dX4_vote_15 : decode cX4_vote 15 = .ok (.iload_n 2, 1) := by decide +kernel
theorem dX4_vote_16 : decode cX4_vote 16 = .ok (.invokevirtual 66, 3) := by decide +kernel
theorem dX4_vote_19 : decode cX4_vote 19 = .ok (.ifCond .ne 6, 3) := by decide +kernel
theorem dX4_vote_22 : decode cX4_vote 22 = .ok (.bipush (-101), 2) := by decide +kernel
theorem dX4_vote_24 : decode cX4_vote 24 = .ok (.ireturn, 1) := by decide +kernel
theorem dX4_vote_25 : decode cX4_vote 25 = .ok (.iload_n 3, 1) := by decide +kernel
theorem dX4_vote_26 : decode cX4_vote 26 = .ok (.bipush (-40), 2) := by decide +kernel
theorem dX4_vote_28 : decode cX4_vote 28 = .ok (.bipush 40, 2) := by decide +kernel
theorem dX4_vote_30 : decode cX4_vote 30 = .ok (.invokestatic 41, 3) := by decide +kernel
theorem dX4_vote_33 : decode cX4_vote 33 = .ok (.ifCond .ne 6, 3) := by decide +kernel
theorem dX4_vote_36 : decode cX4_vote 36 = .ok (.bipush (-102), 2) := by decide +kernel
theorem dX4_vote_38 : decode cX4_vote 38 = .ok (.ireturn, 1) := by decide +kernel
theorem dX4_vote_39 : decode cX4_vote 39 = .ok (.aload_n 0, 1) := by decide +kernel
theorem dX4_vote_40 : decode cX4_vote 40 = .ok (.getfield 10, 3) := by decide +kernel
theorem dX4_vote_43 : decode cX4_vote 43 = .ok (.getfield 69, 3) := by decide +kernel
theorem dX4_vote_46 : decode cX4_vote 46 = .ok (.iload_n 1, 1) := by decide +kernel
theorem dX4_vote_47 : decode cX4_vote 47 = .ok (.aaload, 1) := by decide +kernel
theorem dX4_vote_48 : decode cX4_vote 48 = .ok (.iload_n 2, 1) := by decide +kernel
theorem dX4_vote_49 : decode cX4_vote 49 = .ok (.iaload, 1) := by decide +kernel
theorem dX4_vote_50 : decode cX4_vote 50 = .ok (.istore 4, 2) := by decide +kernel
theorem dX4_vote_52 : decode cX4_vote 52 = .ok (.aload_n 0, 1) := by decide +kernel
theorem dX4_vote_53 : decode cX4_vote 53 = .ok (.getfield 10, 3) := by decide +kernel
theorem dX4_vote_56 : decode cX4_vote 56 = .ok (.iload_n 1, 1) := by decide +kernel
theorem dX4_vote_57 : decode cX4_vote 57 = .ok (.invokevirtual 73, 3) := by decide +kernel
theorem dX4_vote_60 : decode cX4_vote 60 = .ok (.iload 4, 2) := by decide +kernel
theorem dX4_vote_62 : decode cX4_vote 62 = .ok (.iload 4, 2) := by decide +kernel
theorem dX4_vote_64 : decode cX4_vote 64 = .ok (.imul, 1) := by decide +kernel
theorem dX4_vote_65 : decode cX4_vote 65 = .ok (.isub, 1) := by decide +kernel
theorem dX4_vote_66 : decode cX4_vote 66 = .ok (.iload_n 3, 1) := by decide +kernel
theorem dX4_vote_67 : decode cX4_vote 67 = .ok (.iload_n 3, 1) := by decide +kernel
theorem dX4_vote_68 : decode cX4_vote 68 = .ok (.imul, 1) := by decide +kernel
theorem dX4_vote_69 : decode cX4_vote 69 = .ok (.iadd, 1) := by decide +kernel
theorem dX4_vote_70 : decode cX4_vote 70 = .ok (.istore 5, 2) := by decide +kernel
theorem dX4_vote_72 : decode cX4_vote 72 = .ok (.iload 5, 2) := by decide +kernel
theorem dX4_vote_74 : decode cX4_vote 74 = .ok (.aload_n 0, 1) := by decide +kernel
theorem dX4_vote_75 : decode cX4_vote 75 = .ok (.getfield 10, 3) := by decide +kernel
theorem dX4_vote_78 : decode cX4_vote 78 = .ok (.getfield 76, 3) := by decide +kernel
theorem dX4_vote_81 : decode cX4_vote 81 = .ok (.iload_n 1, 1) := by decide +kernel
theorem dX4_vote_82 : decode cX4_vote 82 = .ok (.iaload, 1) := by decide +kernel
theorem dX4_vote_83 : decode cX4_vote 83 = .ok (.if_icmp .le 6, 3) := by decide +kernel
theorem dX4_vote_86 : decode cX4_vote 86 = .ok (.bipush (-103), 2) := by decide +kernel
theorem dX4_vote_88 : decode cX4_vote 88 = .ok (.ireturn, 1) := by decide +kernel
theorem dX4_vote_89 : decode cX4_vote 89 = .ok (.aload_n 0, 1) := by decide +kernel
theorem dX4_vote_90 : decode cX4_vote 90 = .ok (.getfield 10, 3) := by decide +kernel
theorem dX4_vote_93 : decode cX4_vote 93 = .ok (.getfield 69, 3) := by decide +kernel
theorem dX4_vote_96 : decode cX4_vote 96 = .ok (.iload_n 1, 1) := by decide +kernel
theorem dX4_vote_97 : decode cX4_vote 97 = .ok (.aaload, 1) := by decide +kernel
theorem dX4_vote_98 : decode cX4_vote 98 = .ok (.iload_n 2, 1) := by decide +kernel
theorem dX4_vote_99 : decode cX4_vote 99 = .ok (.iload_n 3, 1) := by decide +kernel
theorem dX4_vote_100 : decode cX4_vote 100 = .ok (.iastore, 1) := by decide +kernel
theorem dX4_vote_101 : decode cX4_vote 101 = .ok (.iload 5, 2) := by decide +kernel
theorem dX4_vote_103 : decode cX4_vote 103 = .ok (.ireturn, 1) := by decide +kernel
theorem dX4_worth_0 : decode cX4_worth 0 = .ok (.aload_n 0, 1) := by decide +kernel
theorem dX4_worth_1 : decode cX4_worth 1 = .ok (.getfield 10, 3) := by decide +kernel
theorem dX4_worth_4 : decode cX4_worth 4 = .ok (.iload_n 1, 1) := by decide +kernel
theorem dX4_worth_5 : decode cX4_worth 5 = .ok (.invokevirtual 62, 3) := by decide +kernel
theorem dX4_worth_8 : decode cX4_worth 8 = .ok (.ifCond .eq 14, 3) := by decide +kernel
theorem dX4_worth_11 : decode cX4_worth 11 = .ok (.aload_n 0, 1) := by decide +kernel
theorem dX4_worth_12 : decode cX4_worth 12 = .ok (.getfield 10, 3) := by decide +kernel
theorem dX4_worth_15 : decode cX4_worth 15 = .ok (.iload_n 2, 1) := by decide +kernel
theorem dX4_worth_16 : decode cX4_worth 16 = .ok (.invokevirtual 66, 3) := by decide +kernel
theorem dX4_worth_19 : decode cX4_worth 19 = .ok (.ifCond .ne 6, 3) := by decide +kernel
theorem dX4_worth_22 : decode cX4_worth 22 = .ok (.bipush (-101), 2) := by decide +kernel
theorem dX4_worth_24 : decode cX4_worth 24 = .ok (.ireturn, 1) := by decide +kernel
theorem dX4_worth_25 : decode cX4_worth 25 = .ok (.iload_n 3, 1) := by decide +kernel
theorem dX4_worth_26 : decode cX4_worth 26 = .ok (.sipush (-1000), 3) := by decide +kernel
theorem dX4_worth_29 : decode cX4_worth 29 = .ok (.sipush 1000, 3) := by decide +kernel
theorem dX4_worth_32 : decode cX4_worth 32 = .ok (.invokestatic 41, 3) := by decide +kernel
theorem dX4_worth_35 : decode cX4_worth 35 = .ok (.ifCond .ne 6, 3) := by decide +kernel
theorem dX4_worth_38 : decode cX4_worth 38 = .ok (.bipush (-102), 2) := by decide +kernel
theorem dX4_worth_40 : decode cX4_worth 40 = .ok (.ireturn, 1) := by decide +kernel
theorem dX4_worth_41 : decode cX4_worth 41 = .ok (.aload_n 0, 1) := by decide +kernel
theorem dX4_worth_42 : decode cX4_worth 42 = .ok (.getfield 10, 3) := by decide +kernel
theorem dX4_worth_45 : decode cX4_worth 45 = .ok (.getfield 80, 3) := by decide +kernel
theorem dX4_worth_48 : decode cX4_worth 48 = .ok (.iload_n 1, 1) := by decide +kernel
theorem dX4_worth_49 : decode cX4_worth 49 = .ok (.aaload, 1) := by decide +kernel
theorem dX4_worth_50 : decode cX4_worth 50 = .ok (.iload_n 2, 1) := by decide +kernel
theorem dX4_worth_51 : decode cX4_worth 51 = .ok (.iaload, 1) := by decide +kernel
theorem dX4_worth_52 : decode cX4_worth 52 = .ok (.istore 4, 2) := by decide +kernel
theorem dX4_worth_54 : decode cX4_worth 54 = .ok (.aload_n 0, 1) := by decide +kernel
theorem dX4_worth_55 : decode cX4_worth 55 = .ok (.getfield 10, 3) := by decide +kernel
theorem dX4_worth_58 : decode cX4_worth 58 = .ok (.getfield 80, 3) := by decide +kernel
theorem dX4_worth_61 : decode cX4_worth 61 = .ok (.iload_n 1, 1) := by decide +kernel
theorem dX4_worth_62 : decode cX4_worth 62 = .ok (.aaload, 1) := by decide +kernel
theorem dX4_worth_63 : decode cX4_worth 63 = .ok (.iload_n 2, 1) := by decide +kernel
theorem dX4_worth_64 : decode cX4_worth 64 = .ok (.iload_n 3, 1) := by decide +kernel
theorem dX4_worth_65 : decode cX4_worth 65 = .ok (.iastore, 1) := by decide +kernel
theorem dX4_worth_66 : decode cX4_worth 66 = .ok (.iload 4, 2) := by decide +kernel
theorem dX4_worth_68 : decode cX4_worth 68 = .ok (.ireturn, 1) := by decide +kernel
theorem dX4_here_0 : decode cX4_here 0 = .ok (.aload_n 0, 1) := by decide +kernel
theorem dX4_here_1 : decode cX4_here 1 = .ok (.getfield 10, 3) := by decide +kernel
theorem dX4_here_4 : decode cX4_here 4 = .ok (.iload_n 1, 1) := by decide +kernel
theorem dX4_here_5 : decode cX4_here 5 = .ok (.invokevirtual 62, 3) := by decide +kernel
theorem dX4_here_8 : decode cX4_here 8 = .ok (.ifCond .ne 6, 3) := by decide +kernel
theorem dX4_here_11 : decode cX4_here 11 = .ok (.bipush (-101), 2) := by decide +kernel
theorem dX4_here_13 : decode cX4_here 13 = .ok (.ireturn, 1) := by decide +kernel
theorem dX4_here_14 : decode cX4_here 14 = .ok (.aload_n 0, 1) := by decide +kernel
theorem dX4_here_15 : decode cX4_here 15 = .ok (.getfield 10, 3) := by decide +kernel
theorem dX4_here_18 : decode cX4_here 18 = .ok (.getfield 83, 3) := by decide +kernel
theorem dX4_here_21 : decode cX4_here 21 = .ok (.iload_n 1, 1) := by decide +kernel
theorem dX4_here_22 : decode cX4_here 22 = .ok (.baload, 1) := by decide +kernel
theorem dX4_here_23 : decode cX4_here 23 = .ok (.istore_n 3, 1) := by decide +kernel
theorem dX4_here_24 : decode cX4_here 24 = .ok (.aload_n 0, 1) := by decide +kernel
theorem dX4_here_25 : decode cX4_here 25 = .ok (.getfield 10, 3) := by decide +kernel
theorem dX4_here_28 : decode cX4_here 28 = .ok (.getfield 83, 3) := by decide +kernel
theorem dX4_here_31 : decode cX4_here 31 = .ok (.iload_n 1, 1) := by decide +kernel
theorem dX4_here_32 : decode cX4_here 32 = .ok (.iload_n 2, 1) := by decide +kernel
theorem dX4_here_33 : decode cX4_here 33 = .ok (.bastore, 1) := by decide +kernel
theorem dX4_here_34 : decode cX4_here 34 = .ok (.iload_n 3, 1) := by decide +kernel
theorem dX4_here_35 : decode cX4_here 35 = .ok (.ifCond .eq 7, 3) := by decide +kernel
theorem dX4_here_38 : decode cX4_here 38 = .ok (.iconst 1, 1) := by decide +kernel
theorem dX4_here_39 : decode cX4_here 39 = .ok (.goto 4, 3) := by decide +kernel
theorem dX4_here_42 : decode cX4_here 42 = .ok (.iconst 0, 1) := by decide +kernel
theorem dX4_here_43 : decode cX4_here 43 = .ok (.ireturn, 1) := by decide +kernel
theorem dX4_voices_0 : decode cX4_voices 0 = .ok (.aload_n 0, 1) := by decide +kernel
theorem dX4_voices_1 : decode cX4_voices 1 = .ok (.getfield 10, 3) := by decide +kernel
theorem dX4_voices_4 : decode cX4_voices 4 = .ok (.iload_n 1, 1) := by decide +kernel
theorem dX4_voices_5 : decode cX4_voices 5 = .ok (.invokevirtual 62, 3) := by decide +kernel
theorem dX4_voices_8 : decode cX4_voices 8 = .ok (.ifCond .eq 14, 3) := by decide +kernel
theorem dX4_voices_11 : decode cX4_voices 11 = .ok (.aload_n 0, 1) := by decide +kernel
theorem dX4_voices_12 : decode cX4_voices 12 = .ok (.getfield 10, 3) := by decide +kernel
theorem dX4_voices_15 : decode cX4_voices 15 = .ok (.iload_n 2, 1) := by decide +kernel
theorem dX4_voices_16 : decode cX4_voices 16 = .ok (.invokevirtual 66, 3) := by decide +kernel
theorem dX4_voices_19 : decode cX4_voices 19 = .ok (.ifCond .ne 7, 3) := by decide +kernel
theorem dX4_voices_22 : decode cX4_voices 22 = .ok (.sipush (-2000), 3) := by decide +kernel
theorem dX4_voices_25 : decode cX4_voices 25 = .ok (.ireturn, 1) := by decide +kernel
theorem dX4_voices_26 : decode cX4_voices 26 = .ok (.aload_n 0, 1) := by decide +kernel
theorem dX4_voices_27 : decode cX4_voices 27 = .ok (.getfield 10, 3) := by decide +kernel
theorem dX4_voices_30 : decode cX4_voices 30 = .ok (.getfield 69, 3) := by decide +kernel
theorem dX4_voices_33 : decode cX4_voices 33 = .ok (.iload_n 1, 1) := by decide +kernel
theorem dX4_voices_34 : decode cX4_voices 34 = .ok (.aaload, 1) := by decide +kernel
theorem dX4_voices_35 : decode cX4_voices 35 = .ok (.iload_n 2, 1) := by decide +kernel
theorem dX4_voices_36 : decode cX4_voices 36 = .ok (.iaload, 1) := by decide +kernel
theorem dX4_voices_37 : decode cX4_voices 37 = .ok (.ireturn, 1) := by decide +kernel
theorem dX4_cost_0 : decode cX4_cost 0 = .ok (.aload_n 0, 1) := by decide +kernel
theorem dX4_cost_1 : decode cX4_cost 1 = .ok (.getfield 10, 3) := by decide +kernel
theorem dX4_cost_4 : decode cX4_cost 4 = .ok (.iload_n 1, 1) := by decide +kernel
theorem dX4_cost_5 : decode cX4_cost 5 = .ok (.invokevirtual 62, 3) := by decide +kernel
theorem dX4_cost_8 : decode cX4_cost 8 = .ok (.ifCond .ne 6, 3) := by decide +kernel
theorem dX4_cost_11 : decode cX4_cost 11 = .ok (.bipush (-101), 2) := by decide +kernel
theorem dX4_cost_13 : decode cX4_cost 13 = .ok (.ireturn, 1) := by decide +kernel
theorem dX4_cost_14 : decode cX4_cost 14 = .ok (.aload_n 0, 1) := by decide +kernel
theorem dX4_cost_15 : decode cX4_cost 15 = .ok (.getfield 10, 3) := by decide +kernel
theorem dX4_cost_18 : decode cX4_cost 18 = .ok (.iload_n 1, 1) := by decide +kernel
theorem dX4_cost_19 : decode cX4_cost 19 = .ok (.invokevirtual 73, 3) := by decide +kernel
theorem dX4_cost_22 : decode cX4_cost 22 = .ok (.ireturn, 1) := by decide +kernel
theorem dX4_total_0 : decode cX4_total 0 = .ok (.aload_n 0, 1) := by decide +kernel
theorem dX4_total_1 : decode cX4_total 1 = .ok (.getfield 10, 3) := by decide +kernel
theorem dX4_total_4 : decode cX4_total 4 = .ok (.iload_n 1, 1) := by decide +kernel
theorem dX4_total_5 : decode cX4_total 5 = .ok (.invokevirtual 66, 3) := by decide +kernel
theorem dX4_total_8 : decode cX4_total 8 = .ok (.ifCond .ne 7, 3) := by decide +kernel
theorem dX4_total_11 : decode cX4_total 11 = .ok (.sipush (-2000), 3) := by decide +kernel
theorem dX4_total_14 : decode cX4_total 14 = .ok (.ireturn, 1) := by decide +kernel
theorem dX4_total_15 : decode cX4_total 15 = .ok (.aload_n 0, 1) := by decide +kernel
theorem dX4_total_16 : decode cX4_total 16 = .ok (.getfield 10, 3) := by decide +kernel
theorem dX4_total_19 : decode cX4_total 19 = .ok (.iload_n 1, 1) := by decide +kernel
theorem dX4_total_20 : decode cX4_total 20 = .ok (.invokevirtual 87, 3) := by decide +kernel
theorem dX4_total_23 : decode cX4_total 23 = .ok (.ireturn, 1) := by decide +kernel
theorem dX4_result_0 : decode cX4_result 0 = .ok (.aload_n 0, 1) := by decide +kernel
theorem dX4_result_1 : decode cX4_result 1 = .ok (.getfield 10, 3) := by decide +kernel
theorem dX4_result_4 : decode cX4_result 4 = .ok (.iload_n 1, 1) := by decide +kernel
theorem dX4_result_5 : decode cX4_result 5 = .ok (.invokevirtual 66, 3) := by decide +kernel
theorem dX4_result_8 : decode cX4_result 8 = .ok (.ifCond .ne 6, 3) := by decide +kernel
theorem dX4_result_11 : decode cX4_result 11 = .ok (.bipush (-101), 2) := by decide +kernel
theorem dX4_result_13 : decode cX4_result 13 = .ok (.ireturn, 1) := by decide +kernel
theorem dX4_result_14 : decode cX4_result 14 = .ok (.aload_n 0, 1) := by decide +kernel
theorem dX4_result_15 : decode cX4_result 15 = .ok (.getfield 10, 3) := by decide +kernel
theorem dX4_result_18 : decode cX4_result 18 = .ok (.iload_n 1, 1) := by decide +kernel
theorem dX4_result_19 : decode cX4_result 19 = .ok (.aload_n 0, 1) := by decide +kernel
theorem dX4_result_20 : decode cX4_result 20 = .ok (.getfield 10, 3) := by decide +kernel
theorem dX4_result_23 : decode cX4_result 23 = .ok (.iload_n 1, 1) := by decide +kernel
theorem dX4_result_24 : decode cX4_result 24 = .ok (.invokevirtual 87, 3) := by decide +kernel
theorem dX4_result_27 : decode cX4_result 27 = .ok (.invokevirtual 90, 3) := by decide +kernel
theorem dX4_result_30 : decode cX4_result 30 = .ok (.ireturn, 1) := by decide +kernel
theorem dX4_gain_0 : decode cX4_gain 0 = .ok (.aload_n 0, 1) := by decide +kernel
theorem dX4_gain_1 : decode cX4_gain 1 = .ok (.getfield 10, 3) := by decide +kernel
theorem dX4_gain_4 : decode cX4_gain 4 = .ok (.iload_n 1, 1) := by decide +kernel
theorem dX4_gain_5 : decode cX4_gain 5 = .ok (.invokevirtual 62, 3) := by decide +kernel
theorem dX4_gain_8 : decode cX4_gain 8 = .ok (.ifCond .ne 6, 3) := by decide +kernel
theorem dX4_gain_11 : decode cX4_gain 11 = .ok (.ldc 94, 2) := by decide +kernel
theorem dX4_gain_13 : decode cX4_gain 13 = .ok (.ireturn, 1) := by decide +kernel
theorem dX4_gain_14 : decode cX4_gain 14 = .ok (.aload_n 0, 1) := by decide +kernel
theorem dX4_gain_15 : decode cX4_gain 15 = .ok (.getfield 10, 3) := by decide +kernel
theorem dX4_gain_18 : decode cX4_gain 18 = .ok (.iload_n 1, 1) := by decide +kernel
theorem dX4_gain_19 : decode cX4_gain 19 = .ok (.invokevirtual 95, 3) := by decide +kernel
theorem dX4_gain_22 : decode cX4_gain 22 = .ok (.ireturn, 1) := by decide +kernel
theorem dX4_swings_0 : decode cX4_swings 0 = .ok (.aload_n 0, 1) := by decide +kernel
theorem dX4_swings_1 : decode cX4_swings 1 = .ok (.getfield 10, 3) := by decide +kernel
theorem dX4_swings_4 : decode cX4_swings 4 = .ok (.iload_n 1, 1) := by decide +kernel
theorem dX4_swings_5 : decode cX4_swings 5 = .ok (.invokevirtual 62, 3) := by decide +kernel
theorem dX4_swings_8 : decode cX4_swings 8 = .ok (.ifCond .ne 6, 3) := by decide +kernel
theorem dX4_swings_11 : decode cX4_swings 11 = .ok (.bipush (-101), 2) := by decide +kernel
theorem dX4_swings_13 : decode cX4_swings 13 = .ok (.ireturn, 1) := by decide +kernel
theorem dX4_swings_14 : decode cX4_swings 14 = .ok (.aload_n 0, 1) := by decide +kernel
theorem dX4_swings_15 : decode cX4_swings 15 = .ok (.getfield 10, 3) := by decide +kernel
theorem dX4_swings_18 : decode cX4_swings 18 = .ok (.iload_n 1, 1) := by decide +kernel
theorem dX4_swings_19 : decode cX4_swings 19 = .ok (.invokevirtual 98, 3) := by decide +kernel
theorem dX4_swings_22 : decode cX4_swings 22 = .ok (.ireturn, 1) := by decide +kernel
theorem dX4_best_0 : decode cX4_best 0 = .ok (.aload_n 0, 1) := by decide +kernel
theorem dX4_best_1 : decode cX4_best 1 = .ok (.getfield 10, 3) := by decide +kernel
theorem dX4_best_4 : decode cX4_best 4 = .ok (.iload_n 1, 1) := by decide +kernel
theorem dX4_best_5 : decode cX4_best 5 = .ok (.invokevirtual 62, 3) := by decide +kernel
theorem dX4_best_8 : decode cX4_best 8 = .ok (.ifCond .ne 6, 3) := by decide +kernel
theorem dX4_best_11 : decode cX4_best 11 = .ok (.ldc 94, 2) := by decide +kernel
theorem dX4_best_13 : decode cX4_best 13 = .ok (.ireturn, 1) := by decide +kernel
theorem dX4_best_14 : decode cX4_best 14 = .ok (.aload_n 0, 1) := by decide +kernel
theorem dX4_best_15 : decode cX4_best 15 = .ok (.getfield 21, 3) := by decide +kernel
theorem dX4_best_18 : decode cX4_best 18 = .ok (.iload_n 1, 1) := by decide +kernel
theorem dX4_best_19 : decode cX4_best 19 = .ok (.invokevirtual 101, 3) := by decide +kernel
theorem dX4_best_22 : decode cX4_best 22 = .ok (.aload_n 0, 1) := by decide +kernel
theorem dX4_best_23 : decode cX4_best 23 = .ok (.getfield 21, 3) := by decide +kernel
theorem dX4_best_26 : decode cX4_best 26 = .ok (.getfield 105, 3) := by decide +kernel
theorem dX4_best_29 : decode cX4_best 29 = .ok (.ireturn, 1) := by decide +kernel
theorem dX4_answer_0 : decode cX4_answer 0 = .ok (.aload_n 0, 1) := by decide +kernel
theorem dX4_answer_1 : decode cX4_answer 1 = .ok (.getfield 10, 3) := by decide +kernel
theorem dX4_answer_4 : decode cX4_answer 4 = .ok (.iload_n 1, 1) := by decide +kernel
theorem dX4_answer_5 : decode cX4_answer 5 = .ok (.invokevirtual 62, 3) := by decide +kernel
theorem dX4_answer_8 : decode cX4_answer 8 = .ok (.ifCond .eq 14, 3) := by decide +kernel
theorem dX4_answer_11 : decode cX4_answer 11 = .ok (.aload_n 0, 1) := by decide +kernel
theorem dX4_answer_12 : decode cX4_answer 12 = .ok (.getfield 10, 3) := by decide +kernel
theorem dX4_answer_15 : decode cX4_answer 15 = .ok (.iload_n 2, 1) := by decide +kernel
theorem dX4_answer_16 : decode cX4_answer 16 = .ok (.invokevirtual 66, 3) := by decide +kernel
theorem dX4_answer_19 : decode cX4_answer 19 = .ok (.ifCond .ne 7, 3) := by decide +kernel
theorem dX4_answer_22 : decode cX4_answer 22 = .ok (.sipush (-2000), 3) := by decide +kernel
theorem dX4_answer_25 : decode cX4_answer 25 = .ok (.ireturn, 1) := by decide +kernel
theorem dX4_answer_26 : decode cX4_answer 26 = .ok (.aload_n 0, 1) := by decide +kernel
theorem dX4_answer_27 : decode cX4_answer 27 = .ok (.getfield 21, 3) := by decide +kernel
theorem dX4_answer_30 : decode cX4_answer 30 = .ok (.iload_n 1, 1) := by decide +kernel
theorem dX4_answer_31 : decode cX4_answer 31 = .ok (.invokevirtual 101, 3) := by decide +kernel
theorem dX4_answer_34 : decode cX4_answer 34 = .ok (.aload_n 0, 1) := by decide +kernel
theorem dX4_answer_35 : decode cX4_answer 35 = .ok (.getfield 21, 3) := by decide +kernel
theorem dX4_answer_38 : decode cX4_answer 38 = .ok (.getfield 108, 3) := by decide +kernel
theorem dX4_answer_41 : decode cX4_answer 41 = .ok (.iload_n 2, 1) := by decide +kernel
theorem dX4_answer_42 : decode cX4_answer 42 = .ok (.iaload, 1) := by decide +kernel
theorem dX4_answer_43 : decode cX4_answer 43 = .ok (.ireturn, 1) := by decide +kernel
theorem dX4_take_0 : decode cX4_take 0 = .ok (.aload_n 0, 1) := by decide +kernel
theorem dX4_take_1 : decode cX4_take 1 = .ok (.getfield 10, 3) := by decide +kernel
theorem dX4_take_4 : decode cX4_take 4 = .ok (.iload_n 1, 1) := by decide +kernel
theorem dX4_take_5 : decode cX4_take 5 = .ok (.invokevirtual 62, 3) := by decide +kernel
theorem dX4_take_8 : decode cX4_take 8 = .ok (.ifCond .ne 6, 3) := by decide +kernel
theorem dX4_take_11 : decode cX4_take 11 = .ok (.bipush (-101), 2) := by decide +kernel
theorem dX4_take_13 : decode cX4_take 13 = .ok (.ireturn, 1) := by decide +kernel
theorem dX4_take_14 : decode cX4_take 14 = .ok (.aload_n 0, 1) := by decide +kernel
theorem dX4_take_15 : decode cX4_take 15 = .ok (.getfield 10, 3) := by decide +kernel
theorem dX4_take_18 : decode cX4_take 18 = .ok (.getfield 83, 3) := by decide +kernel
theorem dX4_take_21 : decode cX4_take 21 = .ok (.iload_n 1, 1) := by decide +kernel
theorem dX4_take_22 : decode cX4_take 22 = .ok (.baload, 1) := by decide +kernel
theorem dX4_take_23 : decode cX4_take 23 = .ok (.ifCond .ne 6, 3) := by decide +kernel
theorem dX4_take_26 : decode cX4_take 26 = .ok (.bipush (-103), 2) := by decide +kernel
theorem dX4_take_28 : decode cX4_take 28 = .ok (.ireturn, 1) := by decide +kernel
theorem dX4_take_29 : decode cX4_take 29 = .ok (.aload_n 0, 1) := by decide +kernel
theorem dX4_take_30 : decode cX4_take 30 = .ok (.getfield 21, 3) := by decide +kernel
theorem dX4_take_33 : decode cX4_take 33 = .ok (.iload_n 1, 1) := by decide +kernel
theorem dX4_take_34 : decode cX4_take 34 = .ok (.invokevirtual 101, 3) := by decide +kernel
theorem dX4_take_37 : decode cX4_take 37 = .ok (.aload_n 0, 1) := by decide +kernel
theorem dX4_take_38 : decode cX4_take 38 = .ok (.getfield 21, 3) := by decide +kernel
theorem dX4_take_41 : decode cX4_take 41 = .ok (.iload_n 1, 1) := by decide +kernel
theorem dX4_take_42 : decode cX4_take 42 = .ok (.invokevirtual 111, 3) := by decide +kernel
theorem dX4_take_45 : decode cX4_take 45 = .ok (.aload_n 0, 1) := by decide +kernel
theorem dX4_take_46 : decode cX4_take 46 = .ok (.getfield 10, 3) := by decide +kernel
theorem dX4_take_49 : decode cX4_take 49 = .ok (.iload_n 1, 1) := by decide +kernel
theorem dX4_take_50 : decode cX4_take 50 = .ok (.invokevirtual 73, 3) := by decide +kernel
theorem dX4_take_53 : decode cX4_take 53 = .ok (.ireturn, 1) := by decide +kernel
theorem dX4_play_0 : decode cX4_play 0 = .ok (.iload_n 1, 1) := by decide +kernel
theorem dX4_play_1 : decode cX4_play 1 = .ok (.iconst 1, 1) := by decide +kernel
theorem dX4_play_2 : decode cX4_play 2 = .ok (.bipush 30, 2) := by decide +kernel
theorem dX4_play_4 : decode cX4_play 4 = .ok (.invokestatic 41, 3) := by decide +kernel
theorem dX4_play_7 : decode cX4_play 7 = .ok (.ifCond .ne 6, 3) := by decide +kernel
theorem dX4_play_10 : decode cX4_play 10 = .ok (.bipush (-102), 2) := by decide +kernel
theorem dX4_play_12 : decode cX4_play 12 = .ok (.ireturn, 1) := by decide +kernel
theorem dX4_play_13 : decode cX4_play 13 = .ok (.aload_n 0, 1) := by decide +kernel
theorem dX4_play_14 : decode cX4_play 14 = .ok (.getfield 30, 3) := by decide +kernel
theorem dX4_play_17 : decode cX4_play 17 = .ok (.iload_n 1, 1) := by decide +kernel
theorem dX4_play_18 : decode cX4_play 18 = .ok (.invokevirtual 114, 3) := by decide +kernel
theorem dX4_play_21 : decode cX4_play 21 = .ok (.ireturn, 1) := by decide +kernel
theorem dX4_ended_0 : decode cX4_ended 0 = .ok (.aload_n 0, 1) := by decide +kernel
theorem dX4_ended_1 : decode cX4_ended 1 = .ok (.getfield 30, 3) := by decide +kernel
theorem dX4_ended_4 : decode cX4_ended 4 = .ok (.getfield 117, 3) := by decide +kernel
theorem dX4_ended_7 : decode cX4_ended 7 = .ok (.ireturn, 1) := by decide +kernel
theorem dX4_ring_0 : decode cX4_ring 0 = .ok (.aload_n 0, 1) := by decide +kernel
theorem dX4_ring_1 : decode cX4_ring 1 = .ok (.getfield 30, 3) := by decide +kernel
theorem dX4_ring_4 : decode cX4_ring 4 = .ok (.getfield 120, 3) := by decide +kernel
theorem dX4_ring_7 : decode cX4_ring 7 = .ok (.ireturn, 1) := by decide +kernel
theorem dX4_gift_0 : decode cX4_gift 0 = .ok (.aload_n 0, 1) := by decide +kernel
theorem dX4_gift_1 : decode cX4_gift 1 = .ok (.getfield 10, 3) := by decide +kernel
theorem dX4_gift_4 : decode cX4_gift 4 = .ok (.iload_n 1, 1) := by decide +kernel
theorem dX4_gift_5 : decode cX4_gift 5 = .ok (.invokevirtual 62, 3) := by decide +kernel
theorem dX4_gift_8 : decode cX4_gift 8 = .ok (.ifCond .eq 14, 3) := by decide +kernel
theorem dX4_gift_11 : decode cX4_gift 11 = .ok (.aload_n 0, 1) := by decide +kernel
theorem dX4_gift_12 : decode cX4_gift 12 = .ok (.getfield 37, 3) := by decide +kernel
theorem dX4_gift_15 : decode cX4_gift 15 = .ok (.iload_n 2, 1) := by decide +kernel
theorem dX4_gift_16 : decode cX4_gift 16 = .ok (.invokevirtual 123, 3) := by decide +kernel
theorem dX4_gift_19 : decode cX4_gift 19 = .ok (.ifCond .ne 6, 3) := by decide +kernel
theorem dX4_gift_22 : decode cX4_gift 22 = .ok (.bipush (-101), 2) := by decide +kernel
theorem dX4_gift_24 : decode cX4_gift 24 = .ok (.ireturn, 1) := by decide +kernel
theorem dX4_gift_25 : decode cX4_gift 25 = .ok (.iload_n 3, 1) := by decide +kernel
theorem dX4_gift_26 : decode cX4_gift 26 = .ok (.iconst 0, 1) := by decide +kernel
theorem dX4_gift_27 : decode cX4_gift 27 = .ok (.ldc 126, 2) := by decide +kernel
theorem dX4_gift_29 : decode cX4_gift 29 = .ok (.invokestatic 41, 3) := by decide +kernel
theorem dX4_gift_32 : decode cX4_gift 32 = .ok (.ifCond .ne 6, 3) := by decide +kernel
theorem dX4_gift_35 : decode cX4_gift 35 = .ok (.bipush (-102), 2) := by decide +kernel
theorem dX4_gift_37 : decode cX4_gift 37 = .ok (.ireturn, 1) := by decide +kernel
theorem dX4_gift_38 : decode cX4_gift 38 = .ok (.aload_n 0, 1) := by decide +kernel
theorem dX4_gift_39 : decode cX4_gift 39 = .ok (.getfield 37, 3) := by decide +kernel
theorem dX4_gift_42 : decode cX4_gift 42 = .ok (.getfield 127, 3) := by decide +kernel
theorem dX4_gift_45 : decode cX4_gift 45 = .ok (.iload_n 1, 1) := by decide +kernel
theorem dX4_gift_46 : decode cX4_gift 46 = .ok (.aaload, 1) := by decide +kernel
theorem dX4_gift_47 : decode cX4_gift 47 = .ok (.iload_n 2, 1) := by decide +kernel
theorem dX4_gift_48 : decode cX4_gift 48 = .ok (.iaload, 1) := by decide +kernel
theorem dX4_gift_49 : decode cX4_gift 49 = .ok (.istore 4, 2) := by decide +kernel
theorem dX4_gift_51 : decode cX4_gift 51 = .ok (.aload_n 0, 1) := by decide +kernel
theorem dX4_gift_52 : decode cX4_gift 52 = .ok (.getfield 37, 3) := by decide +kernel
theorem dX4_gift_55 : decode cX4_gift 55 = .ok (.getfield 127, 3) := by decide +kernel
theorem dX4_gift_58 : decode cX4_gift 58 = .ok (.iload_n 1, 1) := by decide +kernel
theorem dX4_gift_59 : decode cX4_gift 59 = .ok (.aaload, 1) := by decide +kernel
theorem dX4_gift_60 : decode cX4_gift 60 = .ok (.iload_n 2, 1) := by decide +kernel
theorem dX4_gift_61 : decode cX4_gift 61 = .ok (.iload_n 3, 1) := by decide +kernel
theorem dX4_gift_62 : decode cX4_gift 62 = .ok (.iastore, 1) := by decide +kernel
theorem dX4_gift_63 : decode cX4_gift 63 = .ok (.iload 4, 2) := by decide +kernel
theorem dX4_gift_65 : decode cX4_gift 65 = .ok (.ireturn, 1) := by decide +kernel
theorem dX4_bond_0 : decode cX4_bond 0 = .ok (.aload_n 0, 1) := by decide +kernel
theorem dX4_bond_1 : decode cX4_bond 1 = .ok (.getfield 10, 3) := by decide +kernel
theorem dX4_bond_4 : decode cX4_bond 4 = .ok (.iload_n 1, 1) := by decide +kernel
theorem dX4_bond_5 : decode cX4_bond 5 = .ok (.invokevirtual 62, 3) := by decide +kernel
theorem dX4_bond_8 : decode cX4_bond 8 = .ok (.ifCond .eq 14, 3) := by decide +kernel
theorem dX4_bond_11 : decode cX4_bond 11 = .ok (.aload_n 0, 1) := by decide +kernel
theorem dX4_bond_12 : decode cX4_bond 12 = .ok (.getfield 10, 3) := by decide +kernel
theorem dX4_bond_15 : decode cX4_bond 15 = .ok (.iload_n 2, 1) := by decide +kernel
theorem dX4_bond_16 : decode cX4_bond 16 = .ok (.invokevirtual 62, 3) := by decide +kernel
theorem dX4_bond_19 : decode cX4_bond 19 = .ok (.ifCond .ne 6, 3) := by decide +kernel
theorem dX4_bond_22 : decode cX4_bond 22 = .ok (.bipush (-101), 2) := by decide +kernel
theorem dX4_bond_24 : decode cX4_bond 24 = .ok (.ireturn, 1) := by decide +kernel
theorem dX4_bond_25 : decode cX4_bond 25 = .ok (.iload_n 1, 1) := by decide +kernel
theorem dX4_bond_26 : decode cX4_bond 26 = .ok (.iload_n 2, 1) := by decide +kernel
theorem dX4_bond_27 : decode cX4_bond 27 = .ok (.if_icmp .eq 14, 3) := by decide +kernel
theorem dX4_bond_30 : decode cX4_bond 30 = .ok (.iload_n 3, 1) := by decide +kernel
theorem dX4_bond_31 : decode cX4_bond 31 = .ok (.iconst 0, 1) := by decide +kernel
theorem dX4_bond_32 : decode cX4_bond 32 = .ok (.sipush 1000, 3) := by decide +kernel
theorem dX4_bond_35 : decode cX4_bond 35 = .ok (.invokestatic 41, 3) := by decide +kernel
theorem dX4_bond_38 : decode cX4_bond 38 = .ok (.ifCond .ne 6, 3) := by decide +kernel
theorem dX4_bond_41 : decode cX4_bond 41 = .ok (.bipush (-102), 2) := by decide +kernel
theorem dX4_bond_43 : decode cX4_bond 43 = .ok (.ireturn, 1) := by decide +kernel
theorem dX4_bond_44 : decode cX4_bond 44 = .ok (.aload_n 0, 1) := by decide +kernel
theorem dX4_bond_45 : decode cX4_bond 45 = .ok (.getfield 37, 3) := by decide +kernel
theorem dX4_bond_48 : decode cX4_bond 48 = .ok (.getfield 130, 3) := by decide +kernel
theorem dX4_bond_51 : decode cX4_bond 51 = .ok (.iload_n 1, 1) := by decide +kernel
theorem dX4_bond_52 : decode cX4_bond 52 = .ok (.aaload, 1) := by decide +kernel
theorem dX4_bond_53 : decode cX4_bond 53 = .ok (.iload_n 2, 1) := by decide +kernel
theorem dX4_bond_54 : decode cX4_bond 54 = .ok (.iaload, 1) := by decide +kernel
theorem dX4_bond_55 : decode cX4_bond 55 = .ok (.istore 4, 2) := by decide +kernel
theorem dX4_bond_57 : decode cX4_bond 57 = .ok (.aload_n 0, 1) := by decide +kernel
theorem dX4_bond_58 : decode cX4_bond 58 = .ok (.getfield 37, 3) := by decide +kernel
theorem dX4_bond_61 : decode cX4_bond 61 = .ok (.getfield 130, 3) := by decide +kernel
theorem dX4_bond_64 : decode cX4_bond 64 = .ok (.iload_n 1, 1) := by decide +kernel
theorem dX4_bond_65 : decode cX4_bond 65 = .ok (.aaload, 1) := by decide +kernel
theorem dX4_bond_66 : decode cX4_bond 66 = .ok (.iload_n 2, 1) := by decide +kernel
theorem dX4_bond_67 : decode cX4_bond 67 = .ok (.iload_n 3, 1) := by decide +kernel
theorem dX4_bond_68 : decode cX4_bond 68 = .ok (.iastore, 1) := by decide +kernel
theorem dX4_bond_69 : decode cX4_bond 69 = .ok (.aload_n 0, 1) := by decide +kernel
theorem dX4_bond_70 : decode cX4_bond 70 = .ok (.getfield 37, 3) := by decide +kernel
theorem dX4_bond_73 : decode cX4_bond 73 = .ok (.getfield 130, 3) := by decide +kernel
theorem dX4_bond_76 : decode cX4_bond 76 = .ok (.iload_n 2, 1) := by decide +kernel
theorem dX4_bond_77 : decode cX4_bond 77 = .ok (.aaload, 1) := by decide +kernel
theorem dX4_bond_78 : decode cX4_bond 78 = .ok (.iload_n 1, 1) := by decide +kernel
theorem dX4_bond_79 : decode cX4_bond 79 = .ok (.iload_n 3, 1) := by decide +kernel
theorem dX4_bond_80 : decode cX4_bond 80 = .ok (.iastore, 1) := by decide +kernel
theorem dX4_bond_81 : decode cX4_bond 81 = .ok (.iload 4, 2) := by decide +kernel
theorem dX4_bond_83 : decode cX4_bond 83 = .ok (.ireturn, 1) := by decide +kernel
theorem dX4_matched_0 : decode cX4_matched 0 = .ok (.aload_n 0, 1) := by decide +kernel
theorem dX4_matched_1 : decode cX4_matched 1 = .ok (.getfield 37, 3) := by decide +kernel
theorem dX4_matched_4 : decode cX4_matched 4 = .ok (.iload_n 1, 1) := by decide +kernel
theorem dX4_matched_5 : decode cX4_matched 5 = .ok (.invokevirtual 123, 3) := by decide +kernel
theorem dX4_matched_8 : decode cX4_matched 8 = .ok (.ifCond .ne 7, 3) := by decide +kernel
theorem dX4_matched_11 : decode cX4_matched 11 = .ok (.ldc2_w 133, 3) := by decide +kernel
theorem dX4_matched_14 : decode cX4_matched 14 = .ok (.lreturn, 1) := by decide +kernel
theorem dX4_matched_15 : decode cX4_matched 15 = .ok (.iload_n 2, 1) := by decide +kernel
theorem dX4_matched_16 : decode cX4_matched 16 = .ok (.iconst 0, 1) := by decide +kernel
theorem dX4_matched_17 : decode cX4_matched 17 = .ok (.iconst 1, 1) := by decide +kernel
theorem dX4_matched_18 : decode cX4_matched 18 = .ok (.invokestatic 41, 3) := by decide +kernel
theorem dX4_matched_21 : decode cX4_matched 21 = .ok (.ifCond .ne 7, 3) := by decide +kernel
theorem dX4_matched_24 : decode cX4_matched 24 = .ok (.ldc2_w 135, 3) := by decide +kernel
theorem dX4_matched_27 : decode cX4_matched 27 = .ok (.lreturn, 1) := by decide +kernel
theorem dX4_matched_28 : decode cX4_matched 28 = .ok (.iload_n 2, 1) := by decide +kernel
theorem dX4_matched_29 : decode cX4_matched 29 = .ok (.ifCond .ne 14, 3) := by decide +kernel
theorem dX4_matched_32 : decode cX4_matched 32 = .ok (.aload_n 0, 1) := by decide +kernel
theorem dX4_matched_33 : decode cX4_matched 33 = .ok (.getfield 37, 3) := by decide +kernel
theorem dX4_matched_36 : decode cX4_matched 36 = .ok (.iload_n 1, 1) := by decide +kernel
theorem dX4_matched_37 : decode cX4_matched 37 = .ok (.invokevirtual 137, 3) := by decide +kernel
theorem dX4_matched_40 : decode cX4_matched 40 = .ok (.goto 11, 3) := by decide +kernel
theorem dX4_matched_43 : decode cX4_matched 43 = .ok (.aload_n 0, 1) := by decide +kernel
theorem dX4_matched_44 : decode cX4_matched 44 = .ok (.getfield 37, 3) := by decide +kernel
theorem dX4_matched_47 : decode cX4_matched 47 = .ok (.iload_n 1, 1) := by decide +kernel
theorem dX4_matched_48 : decode cX4_matched 48 = .ok (.invokevirtual 141, 3) := by decide +kernel
theorem dX4_matched_51 : decode cX4_matched 51 = .ok (.lreturn, 1) := by decide +kernel
theorem dX4_share_0 : decode cX4_share 0 = .ok (.aload_n 0, 1) := by decide +kernel
theorem dX4_share_1 : decode cX4_share 1 = .ok (.getfield 37, 3) := by decide +kernel
theorem dX4_share_4 : decode cX4_share 4 = .ok (.iload_n 1, 1) := by decide +kernel
theorem dX4_share_5 : decode cX4_share 5 = .ok (.invokevirtual 123, 3) := by decide +kernel
theorem dX4_share_8 : decode cX4_share 8 = .ok (.ifCond .ne 7, 3) := by decide +kernel
theorem dX4_share_11 : decode cX4_share 11 = .ok (.ldc2_w 133, 3) := by decide +kernel
theorem dX4_share_14 : decode cX4_share 14 = .ok (.lreturn, 1) := by decide +kernel
theorem dX4_share_15 : decode cX4_share 15 = .ok (.lload_n 2, 1) := by decide +kernel
theorem dX4_share_16 : decode cX4_share 16 = .ok (.lconst 0, 1) := by decide +kernel
theorem dX4_share_17 : decode cX4_share 17 = .ok (.lcmp, 1) := by decide +kernel
theorem dX4_share_18 : decode cX4_share 18 = .ok (.ifCond .lt 11, 3) := by decide +kernel
theorem dX4_share_21 : decode cX4_share 21 = .ok (.lload_n 2, 1) := by decide +kernel
theorem dX4_share_22 : decode cX4_share 22 = .ok (.ldc2_w 144, 3) := by decide +kernel
theorem dX4_share_25 : decode cX4_share 25 = .ok (.lcmp, 1) := by decide +kernel
theorem dX4_share_26 : decode cX4_share 26 = .ok (.ifCond .le 7, 3) := by decide +kernel
theorem dX4_share_29 : decode cX4_share 29 = .ok (.ldc2_w 135, 3) := by decide +kernel
theorem dX4_share_32 : decode cX4_share 32 = .ok (.lreturn, 1) := by decide +kernel
theorem dX4_share_33 : decode cX4_share 33 = .ok (.aload_n 0, 1) := by decide +kernel
theorem dX4_share_34 : decode cX4_share 34 = .ok (.getfield 37, 3) := by decide +kernel
theorem dX4_share_37 : decode cX4_share 37 = .ok (.iload_n 1, 1) := by decide +kernel
theorem dX4_share_38 : decode cX4_share 38 = .ok (.lload_n 2, 1) := by decide +kernel
theorem dX4_share_39 : decode cX4_share 39 = .ok (.invokevirtual 146, 3) := by decide +kernel
theorem dX4_share_42 : decode cX4_share 42 = .ok (.lreturn, 1) := by decide +kernel
theorem dX4_damped_0 : decode cX4_damped 0 = .ok (.aload_n 0, 1) := by decide +kernel
theorem dX4_damped_1 : decode cX4_damped 1 = .ok (.getfield 37, 3) := by decide +kernel
theorem dX4_damped_4 : decode cX4_damped 4 = .ok (.iload_n 1, 1) := by decide +kernel
theorem dX4_damped_5 : decode cX4_damped 5 = .ok (.invokevirtual 123, 3) := by decide +kernel
theorem dX4_damped_8 : decode cX4_damped 8 = .ok (.ifCond .ne 7, 3) := by decide +kernel
theorem dX4_damped_11 : decode cX4_damped 11 = .ok (.ldc2_w 133, 3) := by decide +kernel
theorem dX4_damped_14 : decode cX4_damped 14 = .ok (.lreturn, 1) := by decide +kernel
theorem dX4_damped_15 : decode cX4_damped 15 = .ok (.aload_n 0, 1) := by decide +kernel
theorem dX4_damped_16 : decode cX4_damped 16 = .ok (.getfield 37, 3) := by decide +kernel
theorem dX4_damped_19 : decode cX4_damped 19 = .ok (.iload_n 1, 1) := by decide +kernel
theorem dX4_damped_20 : decode cX4_damped 20 = .ok (.invokevirtual 150, 3) := by decide +kernel
theorem dX4_damped_23 : decode cX4_damped 23 = .ok (.aload_n 0, 1) := by decide +kernel
theorem dX4_damped_24 : decode cX4_damped 24 = .ok (.getfield 37, 3) := by decide +kernel
theorem dX4_damped_27 : decode cX4_damped 27 = .ok (.iload_n 1, 1) := by decide +kernel
theorem dX4_damped_28 : decode cX4_damped 28 = .ok (.invokevirtual 137, 3) := by decide +kernel
theorem dX4_damped_31 : decode cX4_damped 31 = .ok (.lsub, 1) := by decide +kernel
theorem dX4_damped_32 : decode cX4_damped 32 = .ok (.lreturn, 1) := by decide +kernel
theorem dX4_likeness_0 : decode cX4_likeness 0 = .ok (.aload_n 0, 1) := by decide +kernel
theorem dX4_likeness_1 : decode cX4_likeness 1 = .ok (.getfield 10, 3) := by decide +kernel
theorem dX4_likeness_4 : decode cX4_likeness 4 = .ok (.iload_n 1, 1) := by decide +kernel
theorem dX4_likeness_5 : decode cX4_likeness 5 = .ok (.invokevirtual 62, 3) := by decide +kernel
theorem dX4_likeness_8 : decode cX4_likeness 8 = .ok (.ifCond .eq 14, 3) := by decide +kernel
theorem dX4_likeness_11 : decode cX4_likeness 11 = .ok (.aload_n 0, 1) := by decide +kernel
theorem dX4_likeness_12 : decode cX4_likeness 12 = .ok (.getfield 10, 3) := by decide +kernel
theorem dX4_likeness_15 : decode cX4_likeness 15 = .ok (.iload_n 2, 1) := by decide +kernel
theorem dX4_likeness_16 : decode cX4_likeness 16 = .ok (.invokevirtual 62, 3) := by decide +kernel
theorem dX4_likeness_19 : decode cX4_likeness 19 = .ok (.ifCond .ne 7, 3) := by decide +kernel
theorem dX4_likeness_22 : decode cX4_likeness 22 = .ok (.sipush (-2001), 3) := by decide +kernel
theorem dX4_likeness_25 : decode cX4_likeness 25 = .ok (.ireturn, 1) := by decide +kernel
theorem dX4_likeness_26 : decode cX4_likeness 26 = .ok (.aload_n 0, 1) := by decide +kernel
theorem dX4_likeness_27 : decode cX4_likeness 27 = .ok (.getfield 10, 3) := by decide +kernel
theorem dX4_likeness_30 : decode cX4_likeness 30 = .ok (.iload_n 1, 1) := by decide +kernel
theorem dX4_likeness_31 : decode cX4_likeness 31 = .ok (.iload_n 2, 1) := by decide +kernel
theorem dX4_likeness_32 : decode cX4_likeness 32 = .ok (.invokevirtual 153, 3) := by decide +kernel
theorem dX4_likeness_35 : decode cX4_likeness 35 = .ok (.ireturn, 1) := by decide +kernel
theorem dX4_group_0 : decode cX4_group 0 = .ok (.aload_n 0, 1) := by decide +kernel
theorem dX4_group_1 : decode cX4_group 1 = .ok (.getfield 10, 3) := by decide +kernel
theorem dX4_group_4 : decode cX4_group 4 = .ok (.iload_n 1, 1) := by decide +kernel
theorem dX4_group_5 : decode cX4_group 5 = .ok (.invokevirtual 62, 3) := by decide +kernel
theorem dX4_group_8 : decode cX4_group 8 = .ok (.ifCond .ne 6, 3) := by decide +kernel
theorem dX4_group_11 : decode cX4_group 11 = .ok (.bipush (-101), 2) := by decide +kernel
theorem dX4_group_13 : decode cX4_group 13 = .ok (.ireturn, 1) := by decide +kernel
theorem dX4_group_14 : decode cX4_group 14 = .ok (.iload_n 2, 1) := by decide +kernel
theorem dX4_group_15 : decode cX4_group 15 = .ok (.iconst 1, 1) := by decide +kernel
theorem dX4_group_16 : decode cX4_group 16 = .ok (.sipush 1000, 3) := by decide +kernel
theorem dX4_group_19 : decode cX4_group 19 = .ok (.invokestatic 41, 3) := by decide +kernel
theorem dX4_group_22 : decode cX4_group 22 = .ok (.ifCond .ne 6, 3) := by decide +kernel
theorem dX4_group_25 : decode cX4_group 25 = .ok (.bipush (-102), 2) := by decide +kernel
theorem dX4_group_27 : decode cX4_group 27 = .ok (.ireturn, 1) := by decide +kernel
theorem dX4_group_28 : decode cX4_group 28 = .ok (.aload_n 0, 1) := by decide +kernel
theorem dX4_group_29 : decode cX4_group 29 = .ok (.getfield 10, 3) := by decide +kernel
theorem dX4_group_32 : decode cX4_group 32 = .ok (.iload_n 1, 1) := by decide +kernel
theorem dX4_group_33 : decode cX4_group 33 = .ok (.iload_n 2, 1) := by decide +kernel
theorem dX4_group_34 : decode cX4_group 34 = .ok (.invokevirtual 156, 3) := by decide +kernel
theorem dX4_group_37 : decode cX4_group 37 = .ok (.ireturn, 1) := by decide +kernel
theorem dX4_count_0 : decode cX4_count 0 = .ok (.iload_n 1, 1) := by decide +kernel
theorem dX4_count_1 : decode cX4_count 1 = .ok (.tableswitch 87 0 5 #[39, 47, 55, 63, 71, 79], 39) := by decide +kernel
theorem dX4_count_40 : decode cX4_count 40 = .ok (.aload_n 0, 1) := by decide +kernel
theorem dX4_count_41 : decode cX4_count 41 = .ok (.getfield 10, 3) := by decide +kernel
theorem dX4_count_44 : decode cX4_count 44 = .ok (.getfield 45, 3) := by decide +kernel
theorem dX4_count_47 : decode cX4_count 47 = .ok (.ireturn, 1) := by decide +kernel
theorem dX4_count_48 : decode cX4_count 48 = .ok (.aload_n 0, 1) := by decide +kernel
theorem dX4_count_49 : decode cX4_count 49 = .ok (.getfield 10, 3) := by decide +kernel
theorem dX4_count_52 : decode cX4_count 52 = .ok (.getfield 53, 3) := by decide +kernel
theorem dX4_count_55 : decode cX4_count 55 = .ok (.ireturn, 1) := by decide +kernel
theorem dX4_count_56 : decode cX4_count 56 = .ok (.aload_n 0, 1) := by decide +kernel
theorem dX4_count_57 : decode cX4_count 57 = .ok (.getfield 37, 3) := by decide +kernel
theorem dX4_count_60 : decode cX4_count 60 = .ok (.getfield 56, 3) := by decide +kernel
theorem dX4_count_63 : decode cX4_count 63 = .ok (.ireturn, 1) := by decide +kernel
theorem dX4_count_64 : decode cX4_count 64 = .ok (.aload_n 0, 1) := by decide +kernel
theorem dX4_count_65 : decode cX4_count 65 = .ok (.getfield 10, 3) := by decide +kernel
theorem dX4_count_68 : decode cX4_count 68 = .ok (.invokevirtual 159, 3) := by decide +kernel
theorem dX4_count_71 : decode cX4_count 71 = .ok (.ireturn, 1) := by decide +kernel
theorem dX4_count_72 : decode cX4_count 72 = .ok (.aload_n 0, 1) := by decide +kernel
theorem dX4_count_73 : decode cX4_count 73 = .ok (.getfield 30, 3) := by decide +kernel
theorem dX4_count_76 : decode cX4_count 76 = .ok (.getfield 163, 3) := by decide +kernel
theorem dX4_count_79 : decode cX4_count 79 = .ok (.ireturn, 1) := by decide +kernel
theorem dX4_count_80 : decode cX4_count 80 = .ok (.aload_n 0, 1) := by decide +kernel
theorem dX4_count_81 : decode cX4_count 81 = .ok (.getfield 30, 3) := by decide +kernel
theorem dX4_count_84 : decode cX4_count 84 = .ok (.getfield 166, 3) := by decide +kernel
theorem dX4_count_87 : decode cX4_count 87 = .ok (.ireturn, 1) := by decide +kernel
theorem dX4_count_88 : decode cX4_count 88 = .ok (.bipush (-102), 2) := by decide +kernel
theorem dX4_count_90 : decode cX4_count 90 = .ok (.ireturn, 1) := by decide +kernel
theorem dX4_digest_0 : decode cX4_digest 0 = .ok (.ldc2_w 169, 3) := by decide +kernel
theorem dX4_digest_3 : decode cX4_digest 3 = .ok (.lstore_n 1, 1) := by decide +kernel
theorem dX4_digest_4 : decode cX4_digest 4 = .ok (.iconst 0, 1) := by decide +kernel
theorem dX4_digest_5 : decode cX4_digest 5 = .ok (.istore_n 3, 1) := by decide +kernel
theorem dX4_digest_6 : decode cX4_digest 6 = .ok (.iload_n 3, 1) := by decide +kernel
theorem dX4_digest_7 : decode cX4_digest 7 = .ok (.aload_n 0, 1) := by decide +kernel
theorem dX4_digest_8 : decode cX4_digest 8 = .ok (.getfield 10, 3) := by decide +kernel
theorem dX4_digest_11 : decode cX4_digest 11 = .ok (.getfield 45, 3) := by decide +kernel
theorem dX4_digest_14 : decode cX4_digest 14 = .ok (.if_icmp .ge 29, 3) := by decide +kernel
theorem dX4_digest_17 : decode cX4_digest 17 = .ok (.aload_n 0, 1) := by decide +kernel
theorem dX4_digest_18 : decode cX4_digest 18 = .ok (.getfield 10, 3) := by decide +kernel
theorem dX4_digest_21 : decode cX4_digest 21 = .ok (.lload_n 1, 1) := by decide +kernel
theorem dX4_digest_22 : decode cX4_digest 22 = .ok (.iload_n 3, 1) := by decide +kernel
theorem dX4_digest_23 : decode cX4_digest 23 = .ok (.invokevirtual 171, 3) := by decide +kernel
theorem dX4_digest_26 : decode cX4_digest 26 = .ok (.lstore_n 1, 1) := by decide +kernel
theorem dX4_digest_27 : decode cX4_digest 27 = .ok (.aload_n 0, 1) := by decide +kernel
theorem dX4_digest_28 : decode cX4_digest 28 = .ok (.getfield 37, 3) := by decide +kernel
theorem dX4_digest_31 : decode cX4_digest 31 = .ok (.lload_n 1, 1) := by decide +kernel
theorem dX4_digest_32 : decode cX4_digest 32 = .ok (.iload_n 3, 1) := by decide +kernel
theorem dX4_digest_33 : decode cX4_digest 33 = .ok (.invokevirtual 175, 3) := by decide +kernel
theorem dX4_digest_36 : decode cX4_digest 36 = .ok (.lstore_n 1, 1) := by decide +kernel
theorem dX4_digest_37 : decode cX4_digest 37 = .ok (.iinc 3 1, 3) := by decide +kernel
theorem dX4_digest_40 : decode cX4_digest 40 = .ok (.goto (-34), 3) := by decide +kernel
theorem dX4_digest_43 : decode cX4_digest 43 = .ok (.ldc2_w 176, 3) := by decide +kernel
theorem dX4_digest_46 : decode cX4_digest 46 = .ok (.lload_n 1, 1) := by decide +kernel
theorem dX4_digest_47 : decode cX4_digest 47 = .ok (.lmul, 1) := by decide +kernel
theorem dX4_digest_48 : decode cX4_digest 48 = .ok (.aload_n 0, 1) := by decide +kernel
theorem dX4_digest_49 : decode cX4_digest 49 = .ok (.getfield 10, 3) := by decide +kernel
theorem dX4_digest_52 : decode cX4_digest 52 = .ok (.getfield 59, 3) := by decide +kernel
theorem dX4_digest_55 : decode cX4_digest 55 = .ok (.i2l, 1) := by decide +kernel
theorem dX4_digest_56 : decode cX4_digest 56 = .ok (.ladd, 1) := by decide +kernel
theorem dX4_digest_57 : decode cX4_digest 57 = .ok (.lstore_n 1, 1) := by decide +kernel
theorem dX4_digest_58 : decode cX4_digest 58 = .ok (.ldc2_w 176, 3) := by decide +kernel
theorem dX4_digest_61 : decode cX4_digest 61 = .ok (.lload_n 1, 1) := by decide +kernel
theorem dX4_digest_62 : decode cX4_digest 62 = .ok (.lmul, 1) := by decide +kernel
theorem dX4_digest_63 : decode cX4_digest 63 = .ok (.aload_n 0, 1) := by decide +kernel
theorem dX4_digest_64 : decode cX4_digest 64 = .ok (.getfield 30, 3) := by decide +kernel
theorem dX4_digest_67 : decode cX4_digest 67 = .ok (.getfield 163, 3) := by decide +kernel
theorem dX4_digest_70 : decode cX4_digest 70 = .ok (.i2l, 1) := by decide +kernel
theorem dX4_digest_71 : decode cX4_digest 71 = .ok (.ladd, 1) := by decide +kernel
theorem dX4_digest_72 : decode cX4_digest 72 = .ok (.lstore_n 1, 1) := by decide +kernel
theorem dX4_digest_73 : decode cX4_digest 73 = .ok (.ldc2_w 176, 3) := by decide +kernel
theorem dX4_digest_76 : decode cX4_digest 76 = .ok (.lload_n 1, 1) := by decide +kernel
theorem dX4_digest_77 : decode cX4_digest 77 = .ok (.lmul, 1) := by decide +kernel
theorem dX4_digest_78 : decode cX4_digest 78 = .ok (.aload_n 0, 1) := by decide +kernel
theorem dX4_digest_79 : decode cX4_digest 79 = .ok (.getfield 30, 3) := by decide +kernel
theorem dX4_digest_82 : decode cX4_digest 82 = .ok (.getfield 166, 3) := by decide +kernel
theorem dX4_digest_85 : decode cX4_digest 85 = .ok (.i2l, 1) := by decide +kernel
theorem dX4_digest_86 : decode cX4_digest 86 = .ok (.ladd, 1) := by decide +kernel
theorem dX4_digest_87 : decode cX4_digest 87 = .ok (.lreturn, 1) := by decide +kernel
theorem dX4_isWithin_0 : decode cX4_isWithin 0 = .ok (.iload_n 0, 1) := by decide +kernel
theorem dX4_isWithin_1 : decode cX4_isWithin 1 = .ok (.iload_n 1, 1) := by decide +kernel
theorem dX4_isWithin_2 : decode cX4_isWithin 2 = .ok (.if_icmp .lt 12, 3) := by decide +kernel
theorem dX4_isWithin_5 : decode cX4_isWithin 5 = .ok (.iload_n 0, 1) := by decide +kernel
theorem dX4_isWithin_6 : decode cX4_isWithin 6 = .ok (.iload_n 2, 1) := by decide +kernel
theorem dX4_isWithin_7 : decode cX4_isWithin 7 = .ok (.if_icmp .gt 7, 3) := by decide +kernel
theorem dX4_isWithin_10 : decode cX4_isWithin 10 = .ok (.iconst 1, 1) := by decide +kernel
theorem dX4_isWithin_11 : decode cX4_isWithin 11 = .ok (.goto 4, 3) := by decide +kernel
theorem dX4_isWithin_14 : decode cX4_isWithin 14 = .ok (.iconst 0, 1) := by decide +kernel
theorem dX4_isWithin_15 : decode cX4_isWithin 15 = .ok (.ireturn, 1) := by decide +kernel
