theorem xX7_partOfMoment_0 : dcd mX7_partOfMoment 0 = some (.aload 0, 1, 0, 0) := by decide +kernel
theorem xX7_partOfMoment_1 : dcd mX7_partOfMoment 1 = some (.getfield 24, 3, 0, 0) := by decide +kernel
theorem xX7_partOfMoment_4 : dcd mX7_partOfMoment 4 = some (.iload 1, 1, 0, 0) := by decide +kernel
theorem xX7_partOfMoment_5 : dcd mX7_partOfMoment 5 = some (.invokevirtual 74, 3, 0, 0) := by decide +kernel
theorem xX7_partOfMoment_8 : dcd mX7_partOfMoment 8 = some (.ifCond .ne 0, 3, 13, 0) := by decide +kernel
theorem xX7_partOfMoment_11 : dcd mX7_partOfMoment 11 = some (.iconst 0, 1, 0, 0) := by decide +kernel
theorem xX7_partOfMoment_12 : dcd mX7_partOfMoment 12 = some (.ireturn, 1, 0, 0) := by decide +kernel
theorem xX7_partOfMoment_13 : dcd mX7_partOfMoment 13 = some (.aload 0, 1, 0, 0) := by decide +kernel
theorem xX7_partOfMoment_14 : dcd mX7_partOfMoment 14 = some (.getfield 24, 3, 0, 0) := by decide +kernel
theorem xX7_partOfMoment_17 : dcd mX7_partOfMoment 17 = some (.getfield 38, 3, 0, 0) := by decide +kernel
theorem xX7_partOfMoment_20 : dcd mX7_partOfMoment 20 = some (.iload 1, 1, 0, 0) := by decide +kernel
theorem xX7_partOfMoment_21 : dcd mX7_partOfMoment 21 = some (.iaload, 1, 0, 0) := by decide +kernel
theorem xX7_partOfMoment_22 : dcd mX7_partOfMoment 22 = some (.istore 2, 1, 0, 0) := by decide +kernel
theorem xX7_partOfMoment_23 : dcd mX7_partOfMoment 23 = some (.iload 2, 1, 0, 0) := by decide +kernel
theorem xX7_partOfMoment_24 : dcd mX7_partOfMoment 24 = some (.ifCond .ne 0, 3, 51, 0) := by decide +kernel
theorem xX7_partOfMoment_27 : dcd mX7_partOfMoment 27 = some (.aload 0, 1, 0, 0) := by decide +kernel
theorem xX7_partOfMoment_28 : dcd mX7_partOfMoment 28 = some (.getfield 24, 3, 0, 0) := by decide +kernel
theorem xX7_partOfMoment_31 : dcd mX7_partOfMoment 31 = some (.getfield 62, 3, 0, 0) := by decide +kernel
theorem xX7_partOfMoment_34 : dcd mX7_partOfMoment 34 = some (.iload 1, 1, 0, 0) := by decide +kernel
theorem xX7_partOfMoment_35 : dcd mX7_partOfMoment 35 = some (.iaload, 1, 0, 0) := by decide +kernel
theorem xX7_partOfMoment_36 : dcd mX7_partOfMoment 36 = some (.aload 0, 1, 0, 0) := by decide +kernel
theorem xX7_partOfMoment_37 : dcd mX7_partOfMoment 37 = some (.getfield 9, 3, 0, 0) := by decide +kernel
theorem xX7_partOfMoment_40 : dcd mX7_partOfMoment 40 = some (.iload 1, 1, 0, 0) := by decide +kernel
theorem xX7_partOfMoment_41 : dcd mX7_partOfMoment 41 = some (.iaload, 1, 0, 0) := by decide +kernel
theorem xX7_partOfMoment_42 : dcd mX7_partOfMoment 42 = some (.imul, 1, 0, 0) := by decide +kernel
theorem xX7_partOfMoment_43 : dcd mX7_partOfMoment 43 = some (.aload 0, 1, 0, 0) := by decide +kernel
theorem xX7_partOfMoment_44 : dcd mX7_partOfMoment 44 = some (.getfield 15, 3, 0, 0) := by decide +kernel
theorem xX7_partOfMoment_47 : dcd mX7_partOfMoment 47 = some (.iload 1, 1, 0, 0) := by decide +kernel
theorem xX7_partOfMoment_48 : dcd mX7_partOfMoment 48 = some (.iaload, 1, 0, 0) := by decide +kernel
theorem xX7_partOfMoment_49 : dcd mX7_partOfMoment 49 = some (.iadd, 1, 0, 0) := by decide +kernel
theorem xX7_partOfMoment_50 : dcd mX7_partOfMoment 50 = some (.ireturn, 1, 0, 0) := by decide +kernel
theorem xX7_partOfMoment_51 : dcd mX7_partOfMoment 51 = some (.iconst 0, 1, 0, 0) := by decide +kernel
theorem xX7_partOfMoment_52 : dcd mX7_partOfMoment 52 = some (.istore 3, 1, 0, 0) := by decide +kernel
theorem xX7_partOfMoment_53 : dcd mX7_partOfMoment 53 = some (.iload 3, 1, 0, 0) := by decide +kernel
theorem xX7_partOfMoment_54 : dcd mX7_partOfMoment 54 = some (.iconst 0, 2, 0, 10) := by decide +kernel
theorem xX7_partOfMoment_56 : dcd mX7_partOfMoment 56 = some (.if_icmp .ge 0, 3, 98, 0) := by decide +kernel
theorem xX7_partOfMoment_59 : dcd mX7_partOfMoment 59 = some (.aload 0, 1, 0, 0) := by decide +kernel
theorem xX7_partOfMoment_60 : dcd mX7_partOfMoment 60 = some (.getfield 24, 3, 0, 0) := by decide +kernel
theorem xX7_partOfMoment_63 : dcd mX7_partOfMoment 63 = some (.iload 2, 1, 0, 0) := by decide +kernel
theorem xX7_partOfMoment_64 : dcd mX7_partOfMoment 64 = some (.invokevirtual 45, 3, 0, 0) := by decide +kernel
theorem xX7_partOfMoment_67 : dcd mX7_partOfMoment 67 = some (.ifCond .eq 0, 3, 98, 0) := by decide +kernel
theorem xX7_partOfMoment_70 : dcd mX7_partOfMoment 70 = some (.aload 0, 1, 0, 0) := by decide +kernel
theorem xX7_partOfMoment_71 : dcd mX7_partOfMoment 71 = some (.getfield 24, 3, 0, 0) := by decide +kernel
theorem xX7_partOfMoment_74 : dcd mX7_partOfMoment 74 = some (.getfield 68, 3, 0, 0) := by decide +kernel
theorem xX7_partOfMoment_77 : dcd mX7_partOfMoment 77 = some (.iload 2, 1, 0, 0) := by decide +kernel
theorem xX7_partOfMoment_78 : dcd mX7_partOfMoment 78 = some (.iaload, 1, 0, 0) := by decide +kernel
theorem xX7_partOfMoment_79 : dcd mX7_partOfMoment 79 = some (.ifCond .le 0, 3, 98, 0) := by decide +kernel
theorem xX7_partOfMoment_82 : dcd mX7_partOfMoment 82 = some (.aload 0, 1, 0, 0) := by decide +kernel
theorem xX7_partOfMoment_83 : dcd mX7_partOfMoment 83 = some (.getfield 24, 3, 0, 0) := by decide +kernel
theorem xX7_partOfMoment_86 : dcd mX7_partOfMoment 86 = some (.getfield 68, 3, 0, 0) := by decide +kernel
theorem xX7_partOfMoment_89 : dcd mX7_partOfMoment 89 = some (.iload 2, 1, 0, 0) := by decide +kernel
theorem xX7_partOfMoment_90 : dcd mX7_partOfMoment 90 = some (.iaload, 1, 0, 0) := by decide +kernel
theorem xX7_partOfMoment_91 : dcd mX7_partOfMoment 91 = some (.istore 2, 1, 0, 0) := by decide +kernel
theorem xX7_partOfMoment_92 : dcd mX7_partOfMoment 92 = some (.iinc 3 0, 3, 0, 1) := by decide +kernel
theorem xX7_partOfMoment_95 : dcd mX7_partOfMoment 95 = some (.goto 0, 3, 53, 0) := by decide +kernel
theorem xX7_partOfMoment_98 : dcd mX7_partOfMoment 98 = some (.aload 0, 1, 0, 0) := by decide +kernel
theorem xX7_partOfMoment_99 : dcd mX7_partOfMoment 99 = some (.getfield 24, 3, 0, 0) := by decide +kernel
theorem xX7_partOfMoment_102 : dcd mX7_partOfMoment 102 = some (.iload 2, 1, 0, 0) := by decide +kernel
theorem xX7_partOfMoment_103 : dcd mX7_partOfMoment 103 = some (.invokevirtual 45, 3, 0, 0) := by decide +kernel
theorem xX7_partOfMoment_106 : dcd mX7_partOfMoment 106 = some (.ifCond .eq 0, 3, 128, 0) := by decide +kernel
theorem xX7_partOfMoment_109 : dcd mX7_partOfMoment 109 = some (.aload 0, 1, 0, 0) := by decide +kernel
theorem xX7_partOfMoment_110 : dcd mX7_partOfMoment 110 = some (.getfield 24, 3, 0, 0) := by decide +kernel
theorem xX7_partOfMoment_113 : dcd mX7_partOfMoment 113 = some (.getfield 71, 3, 0, 0) := by decide +kernel
theorem xX7_partOfMoment_116 : dcd mX7_partOfMoment 116 = some (.iload 2, 1, 0, 0) := by decide +kernel
theorem xX7_partOfMoment_117 : dcd mX7_partOfMoment 117 = some (.iaload, 1, 0, 0) := by decide +kernel
theorem xX7_partOfMoment_118 : dcd mX7_partOfMoment 118 = some (.aload 0, 1, 0, 0) := by decide +kernel
theorem xX7_partOfMoment_119 : dcd mX7_partOfMoment 119 = some (.getfield 9, 3, 0, 0) := by decide +kernel
theorem xX7_partOfMoment_122 : dcd mX7_partOfMoment 122 = some (.iload 1, 1, 0, 0) := by decide +kernel
theorem xX7_partOfMoment_123 : dcd mX7_partOfMoment 123 = some (.iaload, 1, 0, 0) := by decide +kernel
theorem xX7_partOfMoment_124 : dcd mX7_partOfMoment 124 = some (.imul, 1, 0, 0) := by decide +kernel
theorem xX7_partOfMoment_125 : dcd mX7_partOfMoment 125 = some (.goto 0, 3, 129, 0) := by decide +kernel
theorem xX7_partOfMoment_128 : dcd mX7_partOfMoment 128 = some (.iconst 0, 1, 0, 0) := by decide +kernel
theorem xX7_partOfMoment_129 : dcd mX7_partOfMoment 129 = some (.ireturn, 1, 0, 0) := by decide +kernel
theorem xX7_lean_0 : dcd mX7_lean 0 = some (.aload 0, 1, 0, 0) := by decide +kernel
theorem xX7_lean_1 : dcd mX7_lean 1 = some (.getfield 24, 3, 0, 0) := by decide +kernel
theorem xX7_lean_4 : dcd mX7_lean 4 = some (.iload 1, 1, 0, 0) := by decide +kernel
theorem xX7_lean_5 : dcd mX7_lean 5 = some (.invokevirtual 45, 3, 0, 0) := by decide +kernel
theorem xX7_lean_8 : dcd mX7_lean 8 = some (.ifCond .eq 0, 3, 32, 0) := by decide +kernel
theorem xX7_lean_11 : dcd mX7_lean 11 = some (.aload 0, 1, 0, 0) := by decide +kernel
theorem xX7_lean_12 : dcd mX7_lean 12 = some (.getfield 21, 3, 0, 0) := by decide +kernel
theorem xX7_lean_15 : dcd mX7_lean 15 = some (.iload 1, 1, 0, 0) := by decide +kernel
theorem xX7_lean_16 : dcd mX7_lean 16 = some (.iaload, 1, 0, 0) := by decide +kernel
theorem xX7_lean_17 : dcd mX7_lean 17 = some (.aload 0, 1, 0, 0) := by decide +kernel
theorem xX7_lean_18 : dcd mX7_lean 18 = some (.getfield 24, 3, 0, 0) := by decide +kernel
theorem xX7_lean_21 : dcd mX7_lean 21 = some (.getfield 80, 3, 0, 0) := by decide +kernel
theorem xX7_lean_24 : dcd mX7_lean 24 = some (.iload 1, 1, 0, 0) := by decide +kernel
theorem xX7_lean_25 : dcd mX7_lean 25 = some (.iaload, 1, 0, 0) := by decide +kernel
theorem xX7_lean_26 : dcd mX7_lean 26 = some (.invokestatic 83, 3, 0, 0) := by decide +kernel
theorem xX7_lean_29 : dcd mX7_lean 29 = some (.goto 0, 3, 33, 0) := by decide +kernel
theorem xX7_lean_32 : dcd mX7_lean 32 = some (.iconst 0, 1, 0, 0) := by decide +kernel
theorem xX7_lean_33 : dcd mX7_lean 33 = some (.ireturn, 1, 0, 0) := by decide +kernel
theorem xX7_isSeenToLean_0 : dcd mX7_isSeenToLean 0 = some (.iconst 0, 1, 0, 0) := by decide +kernel
theorem xX7_isSeenToLean_1 : dcd mX7_isSeenToLean 1 = some (.istore 1, 1, 0, 0) := by decide +kernel
theorem xX7_isSeenToLean_2 : dcd mX7_isSeenToLean 2 = some (.iload 1, 1, 0, 0) := by decide +kernel
theorem xX7_isSeenToLean_3 : dcd mX7_isSeenToLean 3 = some (.aload 0, 1, 0, 0) := by decide +kernel
theorem xX7_isSeenToLean_4 : dcd mX7_isSeenToLean 4 = some (.getfield 24, 3, 0, 0) := by decide +kernel
theorem xX7_isSeenToLean_7 : dcd mX7_isSeenToLean 7 = some (.getfield 65, 3, 0, 0) := by decide +kernel
theorem xX7_isSeenToLean_10 : dcd mX7_isSeenToLean 10 = some (.if_icmp .ge 0, 3, 41, 0) := by decide +kernel
theorem xX7_isSeenToLean_13 : dcd mX7_isSeenToLean 13 = some (.aload 0, 1, 0, 0) := by decide +kernel
theorem xX7_isSeenToLean_14 : dcd mX7_isSeenToLean 14 = some (.getfield 24, 3, 0, 0) := by decide +kernel
theorem xX7_isSeenToLean_17 : dcd mX7_isSeenToLean 17 = some (.getfield 77, 3, 0, 0) := by decide +kernel
theorem xX7_isSeenToLean_20 : dcd mX7_isSeenToLean 20 = some (.iload 1, 1, 0, 0) := by decide +kernel
theorem xX7_isSeenToLean_21 : dcd mX7_isSeenToLean 21 = some (.baload, 1, 0, 0) := by decide +kernel
theorem xX7_isSeenToLean_22 : dcd mX7_isSeenToLean 22 = some (.ifCond .eq 0, 3, 35, 0) := by decide +kernel
theorem xX7_isSeenToLean_25 : dcd mX7_isSeenToLean 25 = some (.aload 0, 1, 0, 0) := by decide +kernel
theorem xX7_isSeenToLean_26 : dcd mX7_isSeenToLean 26 = some (.iload 1, 1, 0, 0) := by decide +kernel
theorem xX7_isSeenToLean_27 : dcd mX7_isSeenToLean 27 = some (.invokevirtual 87, 3, 0, 0) := by decide +kernel
theorem xX7_isSeenToLean_30 : dcd mX7_isSeenToLean 30 = some (.ifCond .eq 0, 3, 35, 0) := by decide +kernel
theorem xX7_isSeenToLean_33 : dcd mX7_isSeenToLean 33 = some (.iconst 0, 1, 0, 1) := by decide +kernel
theorem xX7_isSeenToLean_34 : dcd mX7_isSeenToLean 34 = some (.ireturn, 1, 0, 0) := by decide +kernel
theorem xX7_isSeenToLean_35 : dcd mX7_isSeenToLean 35 = some (.iinc 1 0, 3, 0, 1) := by decide +kernel
theorem xX7_isSeenToLean_38 : dcd mX7_isSeenToLean 38 = some (.goto 0, 3, 2, 0) := by decide +kernel
theorem xX7_isSeenToLean_41 : dcd mX7_isSeenToLean 41 = some (.iconst 0, 1, 0, 0) := by decide +kernel
theorem xX7_isSeenToLean_42 : dcd mX7_isSeenToLean 42 = some (.ireturn, 1, 0, 0) := by decide +kernel
theorem xX7_isPicture_0 : dcd mX7_isPicture 0 = some (.iconst 0, 1, 0, 0) := by decide +kernel
theorem xX7_isPicture_1 : dcd mX7_isPicture 1 = some (.istore 2, 1, 0, 0) := by decide +kernel
theorem xX7_isPicture_2 : dcd mX7_isPicture 2 = some (.iload 2, 1, 0, 0) := by decide +kernel
theorem xX7_isPicture_3 : dcd mX7_isPicture 3 = some (.aload 0, 1, 0, 0) := by decide +kernel
theorem xX7_isPicture_4 : dcd mX7_isPicture 4 = some (.getfield 24, 3, 0, 0) := by decide +kernel
theorem xX7_isPicture_7 : dcd mX7_isPicture 7 = some (.getfield 65, 3, 0, 0) := by decide +kernel
theorem xX7_isPicture_10 : dcd mX7_isPicture 10 = some (.if_icmp .ge 0, 3, 50, 0) := by decide +kernel
theorem xX7_isPicture_13 : dcd mX7_isPicture 13 = some (.iload 2, 1, 0, 0) := by decide +kernel
theorem xX7_isPicture_14 : dcd mX7_isPicture 14 = some (.aload 1, 1, 0, 0) := by decide +kernel
theorem xX7_isPicture_15 : dcd mX7_isPicture 15 = some (.arraylength, 1, 0, 0) := by decide +kernel
theorem xX7_isPicture_16 : dcd mX7_isPicture 16 = some (.if_icmp .ge 0, 3, 50, 0) := by decide +kernel
theorem xX7_isPicture_19 : dcd mX7_isPicture 19 = some (.aload 0, 1, 0, 0) := by decide +kernel
theorem xX7_isPicture_20 : dcd mX7_isPicture 20 = some (.getfield 24, 3, 0, 0) := by decide +kernel
theorem xX7_isPicture_23 : dcd mX7_isPicture 23 = some (.getfield 77, 3, 0, 0) := by decide +kernel
theorem xX7_isPicture_26 : dcd mX7_isPicture 26 = some (.iload 2, 1, 0, 0) := by decide +kernel
theorem xX7_isPicture_27 : dcd mX7_isPicture 27 = some (.baload, 1, 0, 0) := by decide +kernel
theorem xX7_isPicture_28 : dcd mX7_isPicture 28 = some (.ifCond .eq 0, 3, 44, 0) := by decide +kernel
theorem xX7_isPicture_31 : dcd mX7_isPicture 31 = some (.aload 0, 1, 0, 0) := by decide +kernel
theorem xX7_isPicture_32 : dcd mX7_isPicture 32 = some (.iload 2, 1, 0, 0) := by decide +kernel
theorem xX7_isPicture_33 : dcd mX7_isPicture 33 = some (.invokevirtual 87, 3, 0, 0) := by decide +kernel
theorem xX7_isPicture_36 : dcd mX7_isPicture 36 = some (.aload 1, 1, 0, 0) := by decide +kernel
theorem xX7_isPicture_37 : dcd mX7_isPicture 37 = some (.iload 2, 1, 0, 0) := by decide +kernel
theorem xX7_isPicture_38 : dcd mX7_isPicture 38 = some (.iaload, 1, 0, 0) := by decide +kernel
theorem xX7_isPicture_39 : dcd mX7_isPicture 39 = some (.if_icmp .eq 0, 3, 44, 0) := by decide +kernel
theorem xX7_isPicture_42 : dcd mX7_isPicture 42 = some (.iconst 0, 1, 0, 0) := by decide +kernel
theorem xX7_isPicture_43 : dcd mX7_isPicture 43 = some (.ireturn, 1, 0, 0) := by decide +kernel
theorem xX7_isPicture_44 : dcd mX7_isPicture 44 = some (.iinc 2 0, 3, 0, 1) := by decide +kernel
theorem xX7_isPicture_47 : dcd mX7_isPicture 47 = some (.goto 0, 3, 2, 0) := by decide +kernel
theorem xX7_isPicture_50 : dcd mX7_isPicture 50 = some (.iconst 0, 1, 0, 1) := by decide +kernel
theorem xX7_isPicture_51 : dcd mX7_isPicture 51 = some (.ireturn, 1, 0, 0) := by decide +kernel
theorem xX7_picture_0 : dcd mX7_picture 0 = some (.lconst 0, 1, 0, 0) := by decide +kernel
theorem xX7_picture_1 : dcd mX7_picture 1 = some (.lstore 1, 1, 0, 0) := by decide +kernel
theorem xX7_picture_2 : dcd mX7_picture 2 = some (.iconst 0, 1, 0, 0) := by decide +kernel
theorem xX7_picture_3 : dcd mX7_picture 3 = some (.istore 3, 1, 0, 0) := by decide +kernel
theorem xX7_picture_4 : dcd mX7_picture 4 = some (.iload 3, 1, 0, 0) := by decide +kernel
theorem xX7_picture_5 : dcd mX7_picture 5 = some (.aload 0, 1, 0, 0) := by decide +kernel
theorem xX7_picture_6 : dcd mX7_picture 6 = some (.getfield 24, 3, 0, 0) := by decide +kernel
theorem xX7_picture_9 : dcd mX7_picture 9 = some (.getfield 65, 3, 0, 0) := by decide +kernel
theorem xX7_picture_12 : dcd mX7_picture 12 = some (.if_icmp .ge 0, 3, 50, 0) := by decide +kernel
theorem xX7_picture_15 : dcd mX7_picture 15 = some (.aload 0, 1, 0, 0) := by decide +kernel
theorem xX7_picture_16 : dcd mX7_picture 16 = some (.getfield 24, 3, 0, 0) := by decide +kernel
theorem xX7_picture_19 : dcd mX7_picture 19 = some (.getfield 77, 3, 0, 0) := by decide +kernel
theorem xX7_picture_22 : dcd mX7_picture 22 = some (.iload 3, 1, 0, 0) := by decide +kernel
theorem xX7_picture_23 : dcd mX7_picture 23 = some (.baload, 1, 0, 0) := by decide +kernel
theorem xX7_picture_24 : dcd mX7_picture 24 = some (.ifCond .eq 0, 3, 44, 0) := by decide +kernel
theorem xX7_picture_27 : dcd mX7_picture 27 = some (.lload 1, 1, 0, 0) := by decide +kernel
theorem xX7_picture_28 : dcd mX7_picture 28 = some (.ldc2_w 90, 3, 0, 0) := by decide +kernel
theorem xX7_picture_31 : dcd mX7_picture 31 = some (.lmul, 1, 0, 0) := by decide +kernel
theorem xX7_picture_32 : dcd mX7_picture 32 = some (.aload 0, 1, 0, 0) := by decide +kernel
theorem xX7_picture_33 : dcd mX7_picture 33 = some (.iload 3, 1, 0, 0) := by decide +kernel
theorem xX7_picture_34 : dcd mX7_picture 34 = some (.invokevirtual 87, 3, 0, 0) := by decide +kernel
theorem xX7_picture_37 : dcd mX7_picture 37 = some (.i2l, 1, 0, 0) := by decide +kernel
theorem xX7_picture_38 : dcd mX7_picture 38 = some (.ladd, 1, 0, 0) := by decide +kernel
theorem xX7_picture_39 : dcd mX7_picture 39 = some (.ldc2_w 92, 3, 0, 0) := by decide +kernel
theorem xX7_picture_42 : dcd mX7_picture 42 = some (.ladd, 1, 0, 0) := by decide +kernel
theorem xX7_picture_43 : dcd mX7_picture 43 = some (.lstore 1, 1, 0, 0) := by decide +kernel
theorem xX7_picture_44 : dcd mX7_picture 44 = some (.iinc 3 0, 3, 0, 1) := by decide +kernel
theorem xX7_picture_47 : dcd mX7_picture 47 = some (.goto 0, 3, 4, 0) := by decide +kernel
theorem xX7_picture_50 : dcd mX7_picture 50 = some (.lload 1, 1, 0, 0) := by decide +kernel
theorem xX7_picture_51 : dcd mX7_picture 51 = some (.lreturn, 1, 0, 0) := by decide +kernel
theorem xX7_leansOtherThan_0 : dcd mX7_leansOtherThan 0 = some (.iconst 0, 1, 0, 0) := by decide +kernel
theorem xX7_leansOtherThan_1 : dcd mX7_leansOtherThan 1 = some (.istore 2, 1, 0, 0) := by decide +kernel
theorem xX7_leansOtherThan_2 : dcd mX7_leansOtherThan 2 = some (.iconst 0, 1, 0, 0) := by decide +kernel
theorem xX7_leansOtherThan_3 : dcd mX7_leansOtherThan 3 = some (.istore 3, 1, 0, 0) := by decide +kernel
theorem xX7_leansOtherThan_4 : dcd mX7_leansOtherThan 4 = some (.iload 3, 1, 0, 0) := by decide +kernel
theorem xX7_leansOtherThan_5 : dcd mX7_leansOtherThan 5 = some (.aload 0, 1, 0, 0) := by decide +kernel
theorem xX7_leansOtherThan_6 : dcd mX7_leansOtherThan 6 = some (.getfield 24, 3, 0, 0) := by decide +kernel
theorem xX7_leansOtherThan_9 : dcd mX7_leansOtherThan 9 = some (.getfield 65, 3, 0, 0) := by decide +kernel
theorem xX7_leansOtherThan_12 : dcd mX7_leansOtherThan 12 = some (.if_icmp .ge 0, 3, 41, 0) := by decide +kernel
theorem xX7_leansOtherThan_15 : dcd mX7_leansOtherThan 15 = some (.iload 3, 1, 0, 0) := by decide +kernel
theorem xX7_leansOtherThan_16 : dcd mX7_leansOtherThan 16 = some (.aload 1, 1, 0, 0) := by decide +kernel
theorem xX7_leansOtherThan_17 : dcd mX7_leansOtherThan 17 = some (.arraylength, 1, 0, 0) := by decide +kernel
theorem xX7_leansOtherThan_18 : dcd mX7_leansOtherThan 18 = some (.if_icmp .ge 0, 3, 41, 0) := by decide +kernel
theorem xX7_leansOtherThan_21 : dcd mX7_leansOtherThan 21 = some (.aload 0, 1, 0, 0) := by decide +kernel
theorem xX7_leansOtherThan_22 : dcd mX7_leansOtherThan 22 = some (.iload 3, 1, 0, 0) := by decide +kernel
theorem xX7_leansOtherThan_23 : dcd mX7_leansOtherThan 23 = some (.invokevirtual 87, 3, 0, 0) := by decide +kernel
theorem xX7_leansOtherThan_26 : dcd mX7_leansOtherThan 26 = some (.aload 1, 1, 0, 0) := by decide +kernel
theorem xX7_leansOtherThan_27 : dcd mX7_leansOtherThan 27 = some (.iload 3, 1, 0, 0) := by decide +kernel
theorem xX7_leansOtherThan_28 : dcd mX7_leansOtherThan 28 = some (.iaload, 1, 0, 0) := by decide +kernel
theorem xX7_leansOtherThan_29 : dcd mX7_leansOtherThan 29 = some (.if_icmp .eq 0, 3, 35, 0) := by decide +kernel
theorem xX7_leansOtherThan_32 : dcd mX7_leansOtherThan 32 = some (.iinc 2 0, 3, 0, 1) := by decide +kernel
theorem xX7_leansOtherThan_35 : dcd mX7_leansOtherThan 35 = some (.iinc 3 0, 3, 0, 1) := by decide +kernel
theorem xX7_leansOtherThan_38 : dcd mX7_leansOtherThan 38 = some (.goto 0, 3, 4, 0) := by decide +kernel
theorem xX7_leansOtherThan_41 : dcd mX7_leansOtherThan 41 = some (.iload 2, 1, 0, 0) := by decide +kernel
theorem xX7_leansOtherThan_42 : dcd mX7_leansOtherThan 42 = some (.ireturn, 1, 0, 0) := by decide +kernel
theorem xX7_writeLeans_0 : dcd mX7_writeLeans 0 = some (.iconst 0, 1, 0, 0) := by decide +kernel
theorem xX7_writeLeans_1 : dcd mX7_writeLeans 1 = some (.istore 2, 1, 0, 0) := by decide +kernel
theorem xX7_writeLeans_2 : dcd mX7_writeLeans 2 = some (.iload 2, 1, 0, 0) := by decide +kernel
theorem xX7_writeLeans_3 : dcd mX7_writeLeans 3 = some (.aload 0, 1, 0, 0) := by decide +kernel
theorem xX7_writeLeans_4 : dcd mX7_writeLeans 4 = some (.getfield 24, 3, 0, 0) := by decide +kernel
theorem xX7_writeLeans_7 : dcd mX7_writeLeans 7 = some (.getfield 65, 3, 0, 0) := by decide +kernel
theorem xX7_writeLeans_10 : dcd mX7_writeLeans 10 = some (.if_icmp .ge 0, 3, 33, 0) := by decide +kernel
theorem xX7_writeLeans_13 : dcd mX7_writeLeans 13 = some (.iload 2, 1, 0, 0) := by decide +kernel
theorem xX7_writeLeans_14 : dcd mX7_writeLeans 14 = some (.aload 1, 1, 0, 0) := by decide +kernel
theorem xX7_writeLeans_15 : dcd mX7_writeLeans 15 = some (.arraylength, 1, 0, 0) := by decide +kernel
theorem xX7_writeLeans_16 : dcd mX7_writeLeans 16 = some (.if_icmp .ge 0, 3, 33, 0) := by decide +kernel
theorem xX7_writeLeans_19 : dcd mX7_writeLeans 19 = some (.aload 1, 1, 0, 0) := by decide +kernel
theorem xX7_writeLeans_20 : dcd mX7_writeLeans 20 = some (.iload 2, 1, 0, 0) := by decide +kernel
theorem xX7_writeLeans_21 : dcd mX7_writeLeans 21 = some (.aload 0, 1, 0, 0) := by decide +kernel
theorem xX7_writeLeans_22 : dcd mX7_writeLeans 22 = some (.iload 2, 1, 0, 0) := by decide +kernel
theorem xX7_writeLeans_23 : dcd mX7_writeLeans 23 = some (.invokevirtual 87, 3, 0, 0) := by decide +kernel
theorem xX7_writeLeans_26 : dcd mX7_writeLeans 26 = some (.iastore, 1, 0, 0) := by decide +kernel
theorem xX7_writeLeans_27 : dcd mX7_writeLeans 27 = some (.iinc 2 0, 3, 0, 1) := by decide +kernel
theorem xX7_writeLeans_30 : dcd mX7_writeLeans 30 = some (.goto 0, 3, 2, 0) := by decide +kernel
theorem xX7_writeLeans_33 : dcd mX7_writeLeans 33 = some (.return_, 1, 0, 0) := by decide +kernel
theorem xX7_leansTogether_0 : dcd mX7_leansTogether 0 = some (.iconst 0, 1, 0, 0) := by decide +kernel
theorem xX7_leansTogether_1 : dcd mX7_leansTogether 1 = some (.istore 1, 1, 0, 0) := by decide +kernel
theorem xX7_leansTogether_2 : dcd mX7_leansTogether 2 = some (.iconst 0, 1, 0, 0) := by decide +kernel
theorem xX7_leansTogether_3 : dcd mX7_leansTogether 3 = some (.istore 2, 1, 0, 0) := by decide +kernel
theorem xX7_leansTogether_4 : dcd mX7_leansTogether 4 = some (.iload 2, 1, 0, 0) := by decide +kernel
theorem xX7_leansTogether_5 : dcd mX7_leansTogether 5 = some (.aload 0, 1, 0, 0) := by decide +kernel
theorem xX7_leansTogether_6 : dcd mX7_leansTogether 6 = some (.getfield 24, 3, 0, 0) := by decide +kernel
theorem xX7_leansTogether_9 : dcd mX7_leansTogether 9 = some (.getfield 65, 3, 0, 0) := by decide +kernel
theorem xX7_leansTogether_12 : dcd mX7_leansTogether 12 = some (.if_icmp .ge 0, 3, 32, 0) := by decide +kernel
theorem xX7_leansTogether_15 : dcd mX7_leansTogether 15 = some (.iload 1, 1, 0, 0) := by decide +kernel
theorem xX7_leansTogether_16 : dcd mX7_leansTogether 16 = some (.aload 0, 1, 0, 0) := by decide +kernel
theorem xX7_leansTogether_17 : dcd mX7_leansTogether 17 = some (.iload 2, 1, 0, 0) := by decide +kernel
theorem xX7_leansTogether_18 : dcd mX7_leansTogether 18 = some (.invokevirtual 87, 3, 0, 0) := by decide +kernel
theorem xX7_leansTogether_21 : dcd mX7_leansTogether 21 = some (.invokestatic 94, 3, 0, 0) := by decide +kernel
theorem xX7_leansTogether_24 : dcd mX7_leansTogether 24 = some (.iadd, 1, 0, 0) := by decide +kernel
theorem xX7_leansTogether_25 : dcd mX7_leansTogether 25 = some (.istore 1, 1, 0, 0) := by decide +kernel
theorem xX7_leansTogether_26 : dcd mX7_leansTogether 26 = some (.iinc 2 0, 3, 0, 1) := by decide +kernel
theorem xX7_leansTogether_29 : dcd mX7_leansTogether 29 = some (.goto 0, 3, 4, 0) := by decide +kernel
theorem xX7_leansTogether_32 : dcd mX7_leansTogether 32 = some (.iload 1, 1, 0, 0) := by decide +kernel
theorem xX7_leansTogether_33 : dcd mX7_leansTogether 33 = some (.ireturn, 1, 0, 0) := by decide +kernel
theorem xX8_init_0 : dcd mX8_init 0 = some (.aload 0, 1, 0, 0) := by decide +kernel
theorem xX8_init_1 : dcd mX8_init 1 = some (.invokespecial 3, 3, 0, 0) := by decide +kernel
theorem xX8_init_4 : dcd mX8_init 4 = some (.aload 0, 1, 0, 0) := by decide +kernel
theorem xX8_init_5 : dcd mX8_init 5 = some (.iconst 0, 3, 0, 220) := by decide +kernel
theorem xX8_init_8 : dcd mX8_init 8 = some (.newarray .int, 2, 0, 0) := by decide +kernel
theorem xX8_init_10 : dcd mX8_init 10 = some (.putfield 11, 3, 0, 0) := by decide +kernel
theorem xX8_init_13 : dcd mX8_init 13 = some (.return_, 1, 0, 0) := by decide +kernel
theorem xX8_hasRoom_0 : dcd mX8_hasRoom 0 = some (.aload 0, 1, 0, 0) := by decide +kernel
theorem xX8_hasRoom_1 : dcd mX8_hasRoom 1 = some (.getfield 15, 3, 0, 0) := by decide +kernel
theorem xX8_hasRoom_4 : dcd mX8_hasRoom 4 = some (.iconst 0, 2, 0, 20) := by decide +kernel
theorem xX8_hasRoom_6 : dcd mX8_hasRoom 6 = some (.iadd, 1, 0, 0) := by decide +kernel
theorem xX8_hasRoom_7 : dcd mX8_hasRoom 7 = some (.iconst 0, 3, 0, 220) := by decide +kernel
theorem xX8_hasRoom_10 : dcd mX8_hasRoom 10 = some (.if_icmp .gt 0, 3, 17, 0) := by decide +kernel
theorem xX8_hasRoom_13 : dcd mX8_hasRoom 13 = some (.iconst 0, 1, 0, 1) := by decide +kernel
theorem xX8_hasRoom_14 : dcd mX8_hasRoom 14 = some (.goto 0, 3, 18, 0) := by decide +kernel
theorem xX8_hasRoom_17 : dcd mX8_hasRoom 17 = some (.iconst 0, 1, 0, 0) := by decide +kernel
theorem xX8_hasRoom_18 : dcd mX8_hasRoom 18 = some (.ireturn, 1, 0, 0) := by decide +kernel
theorem xX8_add_0 : dcd mX8_add 0 = some (.iconst 0, 2, 0, 24) := by decide +kernel
theorem xX8_add_2 : dcd mX8_add 2 = some (.istore 2, 1, 0, 0) := by decide +kernel
theorem xX8_add_3 : dcd mX8_add 3 = some (.iload 2, 1, 0, 0) := by decide +kernel
theorem xX8_add_4 : dcd mX8_add 4 = some (.ifCond .lt 0, 3, 49, 0) := by decide +kernel
theorem xX8_add_7 : dcd mX8_add 7 = some (.aload 0, 1, 0, 0) := by decide +kernel
theorem xX8_add_8 : dcd mX8_add 8 = some (.getfield 15, 3, 0, 0) := by decide +kernel
theorem xX8_add_11 : dcd mX8_add 11 = some (.iconst 0, 3, 0, 220) := by decide +kernel
theorem xX8_add_14 : dcd mX8_add 14 = some (.if_icmp .ge 0, 3, 49, 0) := by decide +kernel
theorem xX8_add_17 : dcd mX8_add 17 = some (.aload 0, 1, 0, 0) := by decide +kernel
theorem xX8_add_18 : dcd mX8_add 18 = some (.getfield 11, 3, 0, 0) := by decide +kernel
theorem xX8_add_21 : dcd mX8_add 21 = some (.aload 0, 1, 0, 0) := by decide +kernel
theorem xX8_add_22 : dcd mX8_add 22 = some (.getfield 15, 3, 0, 0) := by decide +kernel
theorem xX8_add_25 : dcd mX8_add 25 = some (.iload 1, 1, 0, 0) := by decide +kernel
theorem xX8_add_26 : dcd mX8_add 26 = some (.iload 2, 1, 0, 0) := by decide +kernel
theorem xX8_add_27 : dcd mX8_add 27 = some (.ishr, 1, 0, 0) := by decide +kernel
theorem xX8_add_28 : dcd mX8_add 28 = some (.iconst 0, 3, 0, 255) := by decide +kernel
theorem xX8_add_31 : dcd mX8_add 31 = some (.iand, 1, 0, 0) := by decide +kernel
theorem xX8_add_32 : dcd mX8_add 32 = some (.iastore, 1, 0, 0) := by decide +kernel
theorem xX8_add_33 : dcd mX8_add 33 = some (.aload 0, 1, 0, 0) := by decide +kernel
theorem xX8_add_34 : dcd mX8_add 34 = some (.dup, 1, 0, 0) := by decide +kernel
theorem xX8_add_35 : dcd mX8_add 35 = some (.getfield 15, 3, 0, 0) := by decide +kernel
theorem xX8_add_38 : dcd mX8_add 38 = some (.iconst 0, 1, 0, 1) := by decide +kernel
theorem xX8_add_39 : dcd mX8_add 39 = some (.iadd, 1, 0, 0) := by decide +kernel
theorem xX8_add_40 : dcd mX8_add 40 = some (.putfield 15, 3, 0, 0) := by decide +kernel
theorem xX8_add_43 : dcd mX8_add 43 = some (.iinc 2 0, 3, 0, (-8)) := by decide +kernel
theorem xX8_add_46 : dcd mX8_add 46 = some (.goto 0, 3, 3, 0) := by decide +kernel
theorem xX8_add_49 : dcd mX8_add 49 = some (.return_, 1, 0, 0) := by decide +kernel
theorem xX8_empty_0 : dcd mX8_empty 0 = some (.aload 0, 1, 0, 0) := by decide +kernel
theorem xX8_empty_1 : dcd mX8_empty 1 = some (.iconst 0, 1, 0, 0) := by decide +kernel
theorem xX8_empty_2 : dcd mX8_empty 2 = some (.putfield 15, 3, 0, 0) := by decide +kernel
theorem xX8_empty_5 : dcd mX8_empty 5 = some (.return_, 1, 0, 0) := by decide +kernel
theorem xX8_byteAt_0 : dcd mX8_byteAt 0 = some (.iload 1, 1, 0, 0) := by decide +kernel
theorem xX8_byteAt_1 : dcd mX8_byteAt 1 = some (.ifCond .lt 0, 3, 21, 0) := by decide +kernel
theorem xX8_byteAt_4 : dcd mX8_byteAt 4 = some (.iload 1, 1, 0, 0) := by decide +kernel
theorem xX8_byteAt_5 : dcd mX8_byteAt 5 = some (.aload 0, 1, 0, 0) := by decide +kernel
theorem xX8_byteAt_6 : dcd mX8_byteAt 6 = some (.getfield 15, 3, 0, 0) := by decide +kernel
theorem xX8_byteAt_9 : dcd mX8_byteAt 9 = some (.if_icmp .ge 0, 3, 21, 0) := by decide +kernel
theorem xX8_byteAt_12 : dcd mX8_byteAt 12 = some (.aload 0, 1, 0, 0) := by decide +kernel
theorem xX8_byteAt_13 : dcd mX8_byteAt 13 = some (.getfield 11, 3, 0, 0) := by decide +kernel
theorem xX8_byteAt_16 : dcd mX8_byteAt 16 = some (.iload 1, 1, 0, 0) := by decide +kernel
theorem xX8_byteAt_17 : dcd mX8_byteAt 17 = some (.iaload, 1, 0, 0) := by decide +kernel
theorem xX8_byteAt_18 : dcd mX8_byteAt 18 = some (.goto 0, 3, 22, 0) := by decide +kernel
theorem xX8_byteAt_21 : dcd mX8_byteAt 21 = some (.iconst 0, 1, 0, (-1)) := by decide +kernel
theorem xX8_byteAt_22 : dcd mX8_byteAt 22 = some (.ireturn, 1, 0, 0) := by decide +kernel
theorem xX8_numberAt_0 : dcd mX8_numberAt 0 = some (.iconst 0, 1, 0, 0) := by decide +kernel
theorem xX8_numberAt_1 : dcd mX8_numberAt 1 = some (.istore 2, 1, 0, 0) := by decide +kernel
theorem xX8_numberAt_2 : dcd mX8_numberAt 2 = some (.iconst 0, 1, 0, 0) := by decide +kernel
theorem xX8_numberAt_3 : dcd mX8_numberAt 3 = some (.istore 3, 1, 0, 0) := by decide +kernel
theorem xX8_numberAt_4 : dcd mX8_numberAt 4 = some (.iload 3, 1, 0, 0) := by decide +kernel
theorem xX8_numberAt_5 : dcd mX8_numberAt 5 = some (.iconst 0, 1, 0, 4) := by decide +kernel
theorem xX8_numberAt_6 : dcd mX8_numberAt 6 = some (.if_icmp .ge 0, 3, 34, 0) := by decide +kernel
theorem xX8_numberAt_9 : dcd mX8_numberAt 9 = some (.iload 2, 1, 0, 0) := by decide +kernel
theorem xX8_numberAt_10 : dcd mX8_numberAt 10 = some (.iconst 0, 2, 0, 8) := by decide +kernel
theorem xX8_numberAt_12 : dcd mX8_numberAt 12 = some (.ishl, 1, 0, 0) := by decide +kernel
theorem xX8_numberAt_13 : dcd mX8_numberAt 13 = some (.aload 0, 1, 0, 0) := by decide +kernel
theorem xX8_numberAt_14 : dcd mX8_numberAt 14 = some (.iconst 0, 1, 0, 4) := by decide +kernel
theorem xX8_numberAt_15 : dcd mX8_numberAt 15 = some (.iload 1, 1, 0, 0) := by decide +kernel
theorem xX8_numberAt_16 : dcd mX8_numberAt 16 = some (.imul, 1, 0, 0) := by decide +kernel
theorem xX8_numberAt_17 : dcd mX8_numberAt 17 = some (.iload 3, 1, 0, 0) := by decide +kernel
theorem xX8_numberAt_18 : dcd mX8_numberAt 18 = some (.iadd, 1, 0, 0) := by decide +kernel
theorem xX8_numberAt_19 : dcd mX8_numberAt 19 = some (.invokevirtual 19, 3, 0, 0) := by decide +kernel
theorem xX8_numberAt_22 : dcd mX8_numberAt 22 = some (.iconst 0, 3, 0, 255) := by decide +kernel
theorem xX8_numberAt_25 : dcd mX8_numberAt 25 = some (.iand, 1, 0, 0) := by decide +kernel
theorem xX8_numberAt_26 : dcd mX8_numberAt 26 = some (.ior, 1, 0, 0) := by decide +kernel
theorem xX8_numberAt_27 : dcd mX8_numberAt 27 = some (.istore 2, 1, 0, 0) := by decide +kernel
theorem xX8_numberAt_28 : dcd mX8_numberAt 28 = some (.iinc 3 0, 3, 0, 1) := by decide +kernel
theorem xX8_numberAt_31 : dcd mX8_numberAt 31 = some (.goto 0, 3, 4, 0) := by decide +kernel
theorem xX8_numberAt_34 : dcd mX8_numberAt 34 = some (.iload 2, 1, 0, 0) := by decide +kernel
theorem xX8_numberAt_35 : dcd mX8_numberAt 35 = some (.ireturn, 1, 0, 0) := by decide +kernel
theorem xX8_allWithin_0 : dcd mX8_allWithin 0 = some (.iconst 0, 1, 0, 0) := by decide +kernel
theorem xX8_allWithin_1 : dcd mX8_allWithin 1 = some (.istore 4, 2, 0, 0) := by decide +kernel
theorem xX8_allWithin_3 : dcd mX8_allWithin 3 = some (.iload 4, 2, 0, 0) := by decide +kernel
theorem xX8_allWithin_5 : dcd mX8_allWithin 5 = some (.iload 2, 1, 0, 0) := by decide +kernel
theorem xX8_allWithin_6 : dcd mX8_allWithin 6 = some (.if_icmp .ge 0, 3, 33, 0) := by decide +kernel
theorem xX8_allWithin_9 : dcd mX8_allWithin 9 = some (.iconst 0, 1, 0, 0) := by decide +kernel
theorem xX8_allWithin_10 : dcd mX8_allWithin 10 = some (.aload 0, 1, 0, 0) := by decide +kernel
theorem xX8_allWithin_11 : dcd mX8_allWithin 11 = some (.iload 1, 1, 0, 0) := by decide +kernel
theorem xX8_allWithin_12 : dcd mX8_allWithin 12 = some (.iload 4, 2, 0, 0) := by decide +kernel
theorem xX8_allWithin_14 : dcd mX8_allWithin 14 = some (.iadd, 1, 0, 0) := by decide +kernel
theorem xX8_allWithin_15 : dcd mX8_allWithin 15 = some (.invokevirtual 19, 3, 0, 0) := by decide +kernel
theorem xX8_allWithin_18 : dcd mX8_allWithin 18 = some (.iload 3, 1, 0, 0) := by decide +kernel
theorem xX8_allWithin_19 : dcd mX8_allWithin 19 = some (.invokestatic 23, 3, 0, 0) := by decide +kernel
theorem xX8_allWithin_22 : dcd mX8_allWithin 22 = some (.ifCond .ne 0, 3, 27, 0) := by decide +kernel
theorem xX8_allWithin_25 : dcd mX8_allWithin 25 = some (.iconst 0, 1, 0, 0) := by decide +kernel
theorem xX8_allWithin_26 : dcd mX8_allWithin 26 = some (.ireturn, 1, 0, 0) := by decide +kernel
theorem xX8_allWithin_27 : dcd mX8_allWithin 27 = some (.iinc 4 0, 3, 0, 1) := by decide +kernel
theorem xX8_allWithin_30 : dcd mX8_allWithin 30 = some (.goto 0, 3, 3, 0) := by decide +kernel
theorem xX8_allWithin_33 : dcd mX8_allWithin 33 = some (.iconst 0, 1, 0, 1) := by decide +kernel
theorem xX8_allWithin_34 : dcd mX8_allWithin 34 = some (.ireturn, 1, 0, 0) := by decide +kernel
theorem xX9_init_0 : dcd mX9_init 0 = some (.aload 0, 1, 0, 0) := by decide +kernel
theorem xX9_init_1 : dcd mX9_init 1 = some (.invokespecial 3, 3, 0, 0) := by decide +kernel
theorem xX9_init_4 : dcd mX9_init 4 = some (.aload 0, 1, 0, 0) := by decide +kernel
theorem xX9_init_5 : dcd mX9_init 5 = some (.iconst 0, 2, 0, 10) := by decide +kernel
theorem xX9_init_7 : dcd mX9_init 7 = some (.newarray .int, 2, 0, 0) := by decide +kernel
theorem xX9_init_9 : dcd mX9_init 9 = some (.putfield 9, 3, 0, 0) := by decide +kernel
theorem xX9_init_12 : dcd mX9_init 12 = some (.aload 0, 1, 0, 0) := by decide +kernel
theorem xX9_init_13 : dcd mX9_init 13 = some (.aload 1, 1, 0, 0) := by decide +kernel
theorem xX9_init_14 : dcd mX9_init 14 = some (.putfield 15, 3, 0, 0) := by decide +kernel
theorem xX9_init_17 : dcd mX9_init 17 = some (.aload 0, 1, 0, 0) := by decide +kernel
theorem xX9_init_18 : dcd mX9_init 18 = some (.aload 2, 1, 0, 0) := by decide +kernel
theorem xX9_init_19 : dcd mX9_init 19 = some (.putfield 19, 3, 0, 0) := by decide +kernel
theorem xX9_init_22 : dcd mX9_init 22 = some (.aload 0, 1, 0, 0) := by decide +kernel
theorem xX9_init_23 : dcd mX9_init 23 = some (.aload 3, 1, 0, 0) := by decide +kernel
theorem xX9_init_24 : dcd mX9_init 24 = some (.putfield 23, 3, 0, 0) := by decide +kernel
theorem xX9_init_27 : dcd mX9_init 27 = some (.return_, 1, 0, 0) := by decide +kernel
theorem xX9_readPicture_0 : dcd mX9_readPicture 0 = some (.iconst 0, 1, 0, 0) := by decide +kernel
theorem xX9_readPicture_1 : dcd mX9_readPicture 1 = some (.istore 2, 1, 0, 0) := by decide +kernel
theorem xX9_readPicture_2 : dcd mX9_readPicture 2 = some (.iconst 0, 1, 0, 0) := by decide +kernel
theorem xX9_readPicture_3 : dcd mX9_readPicture 3 = some (.istore 3, 1, 0, 0) := by decide +kernel
theorem xX9_readPicture_4 : dcd mX9_readPicture 4 = some (.iload 3, 1, 0, 0) := by decide +kernel
theorem xX9_readPicture_5 : dcd mX9_readPicture 5 = some (.aload 0, 1, 0, 0) := by decide +kernel
theorem xX9_readPicture_6 : dcd mX9_readPicture 6 = some (.getfield 15, 3, 0, 0) := by decide +kernel
theorem xX9_readPicture_9 : dcd mX9_readPicture 9 = some (.getfield 27, 3, 0, 0) := by decide +kernel
theorem xX9_readPicture_12 : dcd mX9_readPicture 12 = some (.if_icmp .ge 0, 3, 64, 0) := by decide +kernel
theorem xX9_readPicture_15 : dcd mX9_readPicture 15 = some (.aload 0, 1, 0, 0) := by decide +kernel
theorem xX9_readPicture_16 : dcd mX9_readPicture 16 = some (.getfield 15, 3, 0, 0) := by decide +kernel
theorem xX9_readPicture_19 : dcd mX9_readPicture 19 = some (.getfield 33, 3, 0, 0) := by decide +kernel
theorem xX9_readPicture_22 : dcd mX9_readPicture 22 = some (.iload 3, 1, 0, 0) := by decide +kernel
theorem xX9_readPicture_23 : dcd mX9_readPicture 23 = some (.baload, 1, 0, 0) := by decide +kernel
theorem xX9_readPicture_24 : dcd mX9_readPicture 24 = some (.ifCond .eq 0, 3, 58, 0) := by decide +kernel
theorem xX9_readPicture_27 : dcd mX9_readPicture 27 = some (.aload 0, 1, 0, 0) := by decide +kernel
theorem xX9_readPicture_28 : dcd mX9_readPicture 28 = some (.getfield 9, 3, 0, 0) := by decide +kernel
theorem xX9_readPicture_31 : dcd mX9_readPicture 31 = some (.iload 3, 1, 0, 0) := by decide +kernel
theorem xX9_readPicture_32 : dcd mX9_readPicture 32 = some (.aload 1, 1, 0, 0) := by decide +kernel
theorem xX9_readPicture_33 : dcd mX9_readPicture 33 = some (.iload 2, 1, 0, 0) := by decide +kernel
theorem xX9_readPicture_34 : dcd mX9_readPicture 34 = some (.invokevirtual 37, 3, 0, 0) := by decide +kernel
theorem xX9_readPicture_37 : dcd mX9_readPicture 37 = some (.iconst 0, 2, 0, 9) := by decide +kernel
theorem xX9_readPicture_39 : dcd mX9_readPicture 39 = some (.isub, 1, 0, 0) := by decide +kernel
theorem xX9_readPicture_40 : dcd mX9_readPicture 40 = some (.iastore, 1, 0, 0) := by decide +kernel
theorem xX9_readPicture_41 : dcd mX9_readPicture 41 = some (.iinc 2 0, 3, 0, 1) := by decide +kernel
theorem xX9_readPicture_44 : dcd mX9_readPicture 44 = some (.aload 0, 1, 0, 0) := by decide +kernel
theorem xX9_readPicture_45 : dcd mX9_readPicture 45 = some (.getfield 9, 3, 0, 0) := by decide +kernel
theorem xX9_readPicture_48 : dcd mX9_readPicture 48 = some (.iload 3, 1, 0, 0) := by decide +kernel
theorem xX9_readPicture_49 : dcd mX9_readPicture 49 = some (.iaload, 1, 0, 0) := by decide +kernel
theorem xX9_readPicture_50 : dcd mX9_readPicture 50 = some (.invokestatic 43, 3, 0, 0) := by decide +kernel
theorem xX9_readPicture_53 : dcd mX9_readPicture 53 = some (.ifCond .ne 0, 3, 58, 0) := by decide +kernel
theorem xX9_readPicture_56 : dcd mX9_readPicture 56 = some (.iconst 0, 1, 0, 0) := by decide +kernel
theorem xX9_readPicture_57 : dcd mX9_readPicture 57 = some (.ireturn, 1, 0, 0) := by decide +kernel
theorem xX9_readPicture_58 : dcd mX9_readPicture 58 = some (.iinc 3 0, 3, 0, 1) := by decide +kernel
theorem xX9_readPicture_61 : dcd mX9_readPicture 61 = some (.goto 0, 3, 4, 0) := by decide +kernel
theorem xX9_readPicture_64 : dcd mX9_readPicture 64 = some (.iconst 0, 1, 0, 1) := by decide +kernel
theorem xX9_readPicture_65 : dcd mX9_readPicture 65 = some (.ireturn, 1, 0, 0) := by decide +kernel
theorem xX9_startWatch_0 : dcd mX9_startWatch 0 = some (.aload 0, 1, 0, 0) := by decide +kernel
theorem xX9_startWatch_1 : dcd mX9_startWatch 1 = some (.getfield 23, 3, 0, 0) := by decide +kernel
theorem xX9_startWatch_4 : dcd mX9_startWatch 4 = some (.aload 0, 1, 0, 0) := by decide +kernel
theorem xX9_startWatch_5 : dcd mX9_startWatch 5 = some (.getfield 15, 3, 0, 0) := by decide +kernel
theorem xX9_startWatch_8 : dcd mX9_startWatch 8 = some (.getfield 47, 3, 0, 0) := by decide +kernel
theorem xX9_startWatch_11 : dcd mX9_startWatch 11 = some (.invokevirtual 50, 3, 0, 0) := by decide +kernel
theorem xX9_startWatch_14 : dcd mX9_startWatch 14 = some (.aload 0, 1, 0, 0) := by decide +kernel
theorem xX9_startWatch_15 : dcd mX9_startWatch 15 = some (.lconst 0, 1, 0, 0) := by decide +kernel
theorem xX9_startWatch_16 : dcd mX9_startWatch 16 = some (.putfield 56, 3, 0, 0) := by decide +kernel
theorem xX9_startWatch_19 : dcd mX9_startWatch 19 = some (.iconst 0, 1, 0, 0) := by decide +kernel
theorem xX9_startWatch_20 : dcd mX9_startWatch 20 = some (.istore 1, 1, 0, 0) := by decide +kernel
theorem xX9_startWatch_21 : dcd mX9_startWatch 21 = some (.iload 1, 1, 0, 0) := by decide +kernel
theorem xX9_startWatch_22 : dcd mX9_startWatch 22 = some (.aload 0, 1, 0, 0) := by decide +kernel
theorem xX9_startWatch_23 : dcd mX9_startWatch 23 = some (.getfield 15, 3, 0, 0) := by decide +kernel
theorem xX9_startWatch_26 : dcd mX9_startWatch 26 = some (.getfield 60, 3, 0, 0) := by decide +kernel
theorem xX9_startWatch_29 : dcd mX9_startWatch 29 = some (.if_icmp .ge 0, 3, 77, 0) := by decide +kernel
theorem xX9_startWatch_32 : dcd mX9_startWatch 32 = some (.aload 0, 1, 0, 0) := by decide +kernel
theorem xX9_startWatch_33 : dcd mX9_startWatch 33 = some (.getfield 15, 3, 0, 0) := by decide +kernel
theorem xX9_startWatch_36 : dcd mX9_startWatch 36 = some (.getfield 63, 3, 0, 0) := by decide +kernel
theorem xX9_startWatch_39 : dcd mX9_startWatch 39 = some (.iload 1, 1, 0, 0) := by decide +kernel
theorem xX9_startWatch_40 : dcd mX9_startWatch 40 = some (.baload, 1, 0, 0) := by decide +kernel
theorem xX9_startWatch_41 : dcd mX9_startWatch 41 = some (.ifCond .eq 0, 3, 71, 0) := by decide +kernel
theorem xX9_startWatch_44 : dcd mX9_startWatch 44 = some (.aload 0, 1, 0, 0) := by decide +kernel
theorem xX9_startWatch_45 : dcd mX9_startWatch 45 = some (.getfield 23, 3, 0, 0) := by decide +kernel
theorem xX9_startWatch_48 : dcd mX9_startWatch 48 = some (.iload 1, 1, 0, 0) := by decide +kernel
theorem xX9_startWatch_49 : dcd mX9_startWatch 49 = some (.aload 0, 1, 0, 0) := by decide +kernel
theorem xX9_startWatch_50 : dcd mX9_startWatch 50 = some (.getfield 9, 3, 0, 0) := by decide +kernel
theorem xX9_startWatch_53 : dcd mX9_startWatch 53 = some (.invokevirtual 66, 3, 0, 0) := by decide +kernel
theorem xX9_startWatch_56 : dcd mX9_startWatch 56 = some (.ifCond .eq 0, 3, 71, 0) := by decide +kernel
theorem xX9_startWatch_59 : dcd mX9_startWatch 59 = some (.aload 0, 1, 0, 0) := by decide +kernel
theorem xX9_startWatch_60 : dcd mX9_startWatch 60 = some (.dup, 1, 0, 0) := by decide +kernel
theorem xX9_startWatch_61 : dcd mX9_startWatch 61 = some (.getfield 56, 3, 0, 0) := by decide +kernel
theorem xX9_startWatch_64 : dcd mX9_startWatch 64 = some (.lconst 1, 1, 0, 0) := by decide +kernel
theorem xX9_startWatch_65 : dcd mX9_startWatch 65 = some (.iload 1, 1, 0, 0) := by decide +kernel
theorem xX9_startWatch_66 : dcd mX9_startWatch 66 = some (.lshl, 1, 0, 0) := by decide +kernel
theorem xX9_startWatch_67 : dcd mX9_startWatch 67 = some (.lor, 1, 0, 0) := by decide +kernel
theorem xX9_startWatch_68 : dcd mX9_startWatch 68 = some (.putfield 56, 3, 0, 0) := by decide +kernel
theorem xX9_startWatch_71 : dcd mX9_startWatch 71 = some (.iinc 1 0, 3, 0, 1) := by decide +kernel
theorem xX9_startWatch_74 : dcd mX9_startWatch 74 = some (.goto 0, 3, 21, 0) := by decide +kernel
theorem xX9_startWatch_77 : dcd mX9_startWatch 77 = some (.return_, 1, 0, 0) := by decide +kernel
theorem xX9_isInQuestion_0 : dcd mX9_isInQuestion 0 = some (.aload 0, 1, 0, 0) := by decide +kernel
theorem xX9_isInQuestion_1 : dcd mX9_isInQuestion 1 = some (.getfield 15, 3, 0, 0) := by decide +kernel
theorem xX9_isInQuestion_4 : dcd mX9_isInQuestion 4 = some (.iload 1, 1, 0, 0) := by decide +kernel
theorem xX9_isInQuestion_5 : dcd mX9_isInQuestion 5 = some (.invokevirtual 70, 3, 0, 0) := by decide +kernel
theorem xX9_isInQuestion_8 : dcd mX9_isInQuestion 8 = some (.ifCond .eq 0, 3, 28, 0) := by decide +kernel
theorem xX9_isInQuestion_11 : dcd mX9_isInQuestion 11 = some (.aload 0, 1, 0, 0) := by decide +kernel
theorem xX9_isInQuestion_12 : dcd mX9_isInQuestion 12 = some (.getfield 56, 3, 0, 0) := by decide +kernel
theorem xX9_isInQuestion_15 : dcd mX9_isInQuestion 15 = some (.iload 1, 1, 0, 0) := by decide +kernel
theorem xX9_isInQuestion_16 : dcd mX9_isInQuestion 16 = some (.lshr, 1, 0, 0) := by decide +kernel
theorem xX9_isInQuestion_17 : dcd mX9_isInQuestion 17 = some (.lconst 1, 1, 0, 0) := by decide +kernel
theorem xX9_isInQuestion_18 : dcd mX9_isInQuestion 18 = some (.land, 1, 0, 0) := by decide +kernel
theorem xX9_isInQuestion_19 : dcd mX9_isInQuestion 19 = some (.lconst 0, 1, 0, 0) := by decide +kernel
theorem xX9_isInQuestion_20 : dcd mX9_isInQuestion 20 = some (.lcmp, 1, 0, 0) := by decide +kernel
theorem xX9_isInQuestion_21 : dcd mX9_isInQuestion 21 = some (.ifCond .eq 0, 3, 28, 0) := by decide +kernel
theorem xX9_isInQuestion_24 : dcd mX9_isInQuestion 24 = some (.iconst 0, 1, 0, 1) := by decide +kernel
theorem xX9_isInQuestion_25 : dcd mX9_isInQuestion 25 = some (.goto 0, 3, 29, 0) := by decide +kernel
theorem xX9_isInQuestion_28 : dcd mX9_isInQuestion 28 = some (.iconst 0, 1, 0, 0) := by decide +kernel
theorem xX9_isInQuestion_29 : dcd mX9_isInQuestion 29 = some (.ireturn, 1, 0, 0) := by decide +kernel
theorem xX9_mayBe_0 : dcd mX9_mayBe 0 = some (.aload 0, 1, 0, 0) := by decide +kernel
theorem xX9_mayBe_1 : dcd mX9_mayBe 1 = some (.iload 1, 1, 0, 0) := by decide +kernel
theorem xX9_mayBe_2 : dcd mX9_mayBe 2 = some (.invokevirtual 73, 3, 0, 0) := by decide +kernel
theorem xX9_mayBe_5 : dcd mX9_mayBe 5 = some (.ifCond .eq 0, 3, 21, 0) := by decide +kernel
theorem xX9_mayBe_8 : dcd mX9_mayBe 8 = some (.aload 0, 1, 0, 0) := by decide +kernel
theorem xX9_mayBe_9 : dcd mX9_mayBe 9 = some (.getfield 15, 3, 0, 0) := by decide +kernel
theorem xX9_mayBe_12 : dcd mX9_mayBe 12 = some (.getfield 76, 3, 0, 0) := by decide +kernel
theorem xX9_mayBe_15 : dcd mX9_mayBe 15 = some (.iload 1, 1, 0, 0) := by decide +kernel
theorem xX9_mayBe_16 : dcd mX9_mayBe 16 = some (.iaload, 1, 0, 0) := by decide +kernel
theorem xX9_mayBe_17 : dcd mX9_mayBe 17 = some (.iload 2, 1, 0, 0) := by decide +kernel
theorem xX9_mayBe_18 : dcd mX9_mayBe 18 = some (.if_icmp .ne 0, 3, 23, 0) := by decide +kernel
theorem xX9_mayBe_21 : dcd mX9_mayBe 21 = some (.iconst 0, 1, 0, 0) := by decide +kernel
theorem xX9_mayBe_22 : dcd mX9_mayBe 22 = some (.ireturn, 1, 0, 0) := by decide +kernel
theorem xX9_mayBe_23 : dcd mX9_mayBe 23 = some (.aload 0, 1, 0, 0) := by decide +kernel
theorem xX9_mayBe_24 : dcd mX9_mayBe 24 = some (.getfield 19, 3, 0, 0) := by decide +kernel
theorem xX9_mayBe_27 : dcd mX9_mayBe 27 = some (.aload 0, 1, 0, 0) := by decide +kernel
theorem xX9_mayBe_28 : dcd mX9_mayBe 28 = some (.getfield 15, 3, 0, 0) := by decide +kernel
theorem xX9_mayBe_31 : dcd mX9_mayBe 31 = some (.iload 1, 1, 0, 0) := by decide +kernel
theorem xX9_mayBe_32 : dcd mX9_mayBe 32 = some (.iload 2, 1, 0, 0) := by decide +kernel
theorem xX9_mayBe_33 : dcd mX9_mayBe 33 = some (.aload 0, 1, 0, 0) := by decide +kernel
theorem xX9_mayBe_34 : dcd mX9_mayBe 34 = some (.getfield 15, 3, 0, 0) := by decide +kernel
theorem xX9_mayBe_37 : dcd mX9_mayBe 37 = some (.getfield 47, 3, 0, 0) := by decide +kernel
theorem xX9_mayBe_40 : dcd mX9_mayBe 40 = some (.invokevirtual 79, 3, 0, 0) := by decide +kernel
theorem xX9_mayBe_43 : dcd mX9_mayBe 43 = some (.aload 0, 1, 0, 0) := by decide +kernel
theorem xX9_mayBe_44 : dcd mX9_mayBe 44 = some (.getfield 19, 3, 0, 0) := by decide +kernel
theorem xX9_mayBe_47 : dcd mX9_mayBe 47 = some (.iconst 0, 2, 0, 103) := by decide +kernel
theorem xX9_mayBe_49 : dcd mX9_mayBe 49 = some (.invokevirtual 85, 3, 0, 0) := by decide +kernel
theorem xX9_mayBe_52 : dcd mX9_mayBe 52 = some (.aload 0, 1, 0, 0) := by decide +kernel
theorem xX9_mayBe_53 : dcd mX9_mayBe 53 = some (.getfield 23, 3, 0, 0) := by decide +kernel
theorem xX9_mayBe_56 : dcd mX9_mayBe 56 = some (.getfield 88, 3, 0, 0) := by decide +kernel
theorem xX9_mayBe_59 : dcd mX9_mayBe 59 = some (.iload 1, 1, 0, 0) := by decide +kernel
theorem xX9_mayBe_60 : dcd mX9_mayBe 60 = some (.iaload, 1, 0, 0) := by decide +kernel
theorem xX9_mayBe_61 : dcd mX9_mayBe 61 = some (.isub, 1, 0, 0) := by decide +kernel
theorem xX9_mayBe_62 : dcd mX9_mayBe 62 = some (.istore 3, 1, 0, 0) := by decide +kernel
theorem xX9_mayBe_63 : dcd mX9_mayBe 63 = some (.aload 0, 1, 0, 0) := by decide +kernel
theorem xX9_mayBe_64 : dcd mX9_mayBe 64 = some (.getfield 19, 3, 0, 0) := by decide +kernel
theorem xX9_mayBe_67 : dcd mX9_mayBe 67 = some (.iconst 0, 2, 0, 112) := by decide +kernel
theorem xX9_mayBe_69 : dcd mX9_mayBe 69 = some (.invokevirtual 85, 3, 0, 0) := by decide +kernel
theorem xX9_mayBe_72 : dcd mX9_mayBe 72 = some (.aload 0, 1, 0, 0) := by decide +kernel
theorem xX9_mayBe_73 : dcd mX9_mayBe 73 = some (.getfield 23, 3, 0, 0) := by decide +kernel
theorem xX9_mayBe_76 : dcd mX9_mayBe 76 = some (.getfield 91, 3, 0, 0) := by decide +kernel
theorem xX9_mayBe_79 : dcd mX9_mayBe 79 = some (.iload 1, 1, 0, 0) := by decide +kernel
theorem xX9_mayBe_80 : dcd mX9_mayBe 80 = some (.iaload, 1, 0, 0) := by decide +kernel
theorem xX9_mayBe_81 : dcd mX9_mayBe 81 = some (.isub, 1, 0, 0) := by decide +kernel
theorem xX9_mayBe_82 : dcd mX9_mayBe 82 = some (.istore 4, 2, 0, 0) := by decide +kernel
theorem xX9_mayBe_84 : dcd mX9_mayBe 84 = some (.aload 0, 1, 0, 0) := by decide +kernel
theorem xX9_mayBe_85 : dcd mX9_mayBe 85 = some (.getfield 23, 3, 0, 0) := by decide +kernel
theorem xX9_mayBe_88 : dcd mX9_mayBe 88 = some (.iload 1, 1, 0, 0) := by decide +kernel
theorem xX9_mayBe_89 : dcd mX9_mayBe 89 = some (.iload 3, 1, 0, 0) := by decide +kernel
theorem xX9_mayBe_90 : dcd mX9_mayBe 90 = some (.iload 4, 2, 0, 0) := by decide +kernel
theorem xX9_mayBe_92 : dcd mX9_mayBe 92 = some (.aload 0, 1, 0, 0) := by decide +kernel
theorem xX9_mayBe_93 : dcd mX9_mayBe 93 = some (.getfield 9, 3, 0, 0) := by decide +kernel
theorem xX9_mayBe_96 : dcd mX9_mayBe 96 = some (.invokevirtual 94, 3, 0, 0) := by decide +kernel
theorem xX9_mayBe_99 : dcd mX9_mayBe 99 = some (.ireturn, 1, 0, 0) := by decide +kernel
theorem xX9_falseLengths_0 : dcd mX9_falseLengths 0 = some (.aload 0, 1, 0, 0) := by decide +kernel
theorem xX9_falseLengths_1 : dcd mX9_falseLengths 1 = some (.invokevirtual 98, 3, 0, 0) := by decide +kernel
theorem xX9_falseLengths_4 : dcd mX9_falseLengths 4 = some (.iconst 0, 1, 0, 0) := by decide +kernel
theorem xX9_falseLengths_5 : dcd mX9_falseLengths 5 = some (.istore 2, 1, 0, 0) := by decide +kernel
theorem xX9_falseLengths_6 : dcd mX9_falseLengths 6 = some (.iconst 0, 1, 0, 1) := by decide +kernel
theorem xX9_falseLengths_7 : dcd mX9_falseLengths 7 = some (.istore 3, 1, 0, 0) := by decide +kernel
theorem xX9_falseLengths_8 : dcd mX9_falseLengths 8 = some (.iload 3, 1, 0, 0) := by decide +kernel
theorem xX9_falseLengths_9 : dcd mX9_falseLengths 9 = some (.iconst 0, 2, 0, 99) := by decide +kernel
theorem xX9_falseLengths_11 : dcd mX9_falseLengths 11 = some (.if_icmp .gt 0, 3, 40, 0) := by decide +kernel
theorem xX9_falseLengths_14 : dcd mX9_falseLengths 14 = some (.aload 0, 1, 0, 0) := by decide +kernel
theorem xX9_falseLengths_15 : dcd mX9_falseLengths 15 = some (.iload 1, 1, 0, 0) := by decide +kernel
theorem xX9_falseLengths_16 : dcd mX9_falseLengths 16 = some (.invokevirtual 73, 3, 0, 0) := by decide +kernel
theorem xX9_falseLengths_19 : dcd mX9_falseLengths 19 = some (.ifCond .eq 0, 3, 40, 0) := by decide +kernel
theorem xX9_falseLengths_22 : dcd mX9_falseLengths 22 = some (.aload 0, 1, 0, 0) := by decide +kernel
theorem xX9_falseLengths_23 : dcd mX9_falseLengths 23 = some (.iload 1, 1, 0, 0) := by decide +kernel
theorem xX9_falseLengths_24 : dcd mX9_falseLengths 24 = some (.iload 3, 1, 0, 0) := by decide +kernel
theorem xX9_falseLengths_25 : dcd mX9_falseLengths 25 = some (.invokevirtual 101, 3, 0, 0) := by decide +kernel
theorem xX9_falseLengths_28 : dcd mX9_falseLengths 28 = some (.ifCond .eq 0, 3, 34, 0) := by decide +kernel
theorem xX9_falseLengths_31 : dcd mX9_falseLengths 31 = some (.iinc 2 0, 3, 0, 1) := by decide +kernel
theorem xX9_falseLengths_34 : dcd mX9_falseLengths 34 = some (.iinc 3 0, 3, 0, 1) := by decide +kernel
theorem xX9_falseLengths_37 : dcd mX9_falseLengths 37 = some (.goto 0, 3, 8, 0) := by decide +kernel
theorem xX9_falseLengths_40 : dcd mX9_falseLengths 40 = some (.iload 2, 1, 0, 0) := by decide +kernel
theorem xX9_falseLengths_41 : dcd mX9_falseLengths 41 = some (.ireturn, 1, 0, 0) := by decide +kernel
theorem xX9_suspectBits_0 : dcd mX9_suspectBits 0 = some (.aload 0, 1, 0, 0) := by decide +kernel
theorem xX9_suspectBits_1 : dcd mX9_suspectBits 1 = some (.invokevirtual 98, 3, 0, 0) := by decide +kernel
theorem xX9_suspectBits_4 : dcd mX9_suspectBits 4 = some (.lconst 0, 1, 0, 0) := by decide +kernel
theorem xX9_suspectBits_5 : dcd mX9_suspectBits 5 = some (.lstore 1, 1, 0, 0) := by decide +kernel
theorem xX9_suspectBits_6 : dcd mX9_suspectBits 6 = some (.iconst 0, 1, 0, 0) := by decide +kernel
theorem xX9_suspectBits_7 : dcd mX9_suspectBits 7 = some (.istore 3, 1, 0, 0) := by decide +kernel
theorem xX9_suspectBits_8 : dcd mX9_suspectBits 8 = some (.iload 3, 1, 0, 0) := by decide +kernel
theorem xX9_suspectBits_9 : dcd mX9_suspectBits 9 = some (.aload 0, 1, 0, 0) := by decide +kernel
theorem xX9_suspectBits_10 : dcd mX9_suspectBits 10 = some (.getfield 15, 3, 0, 0) := by decide +kernel
theorem xX9_suspectBits_13 : dcd mX9_suspectBits 13 = some (.getfield 60, 3, 0, 0) := by decide +kernel
theorem xX9_suspectBits_16 : dcd mX9_suspectBits 16 = some (.if_icmp .ge 0, 3, 77, 0) := by decide +kernel
theorem xX9_suspectBits_19 : dcd mX9_suspectBits 19 = some (.iconst 0, 1, 0, 0) := by decide +kernel
theorem xX9_suspectBits_20 : dcd mX9_suspectBits 20 = some (.istore 4, 2, 0, 0) := by decide +kernel
theorem xX9_suspectBits_22 : dcd mX9_suspectBits 22 = some (.iconst 0, 1, 0, 1) := by decide +kernel
theorem xX9_suspectBits_23 : dcd mX9_suspectBits 23 = some (.istore 5, 2, 0, 0) := by decide +kernel
theorem xX9_suspectBits_25 : dcd mX9_suspectBits 25 = some (.iload 5, 2, 0, 0) := by decide +kernel
theorem xX9_suspectBits_27 : dcd mX9_suspectBits 27 = some (.iconst 0, 2, 0, 99) := by decide +kernel
theorem xX9_suspectBits_29 : dcd mX9_suspectBits 29 = some (.if_icmp .gt 0, 3, 60, 0) := by decide +kernel
theorem xX9_suspectBits_32 : dcd mX9_suspectBits 32 = some (.aload 0, 1, 0, 0) := by decide +kernel
theorem xX9_suspectBits_33 : dcd mX9_suspectBits 33 = some (.iload 3, 1, 0, 0) := by decide +kernel
theorem xX9_suspectBits_34 : dcd mX9_suspectBits 34 = some (.invokevirtual 73, 3, 0, 0) := by decide +kernel
theorem xX9_suspectBits_37 : dcd mX9_suspectBits 37 = some (.ifCond .eq 0, 3, 60, 0) := by decide +kernel
theorem xX9_suspectBits_40 : dcd mX9_suspectBits 40 = some (.iload 4, 2, 0, 0) := by decide +kernel
theorem xX9_suspectBits_42 : dcd mX9_suspectBits 42 = some (.ifCond .ne 0, 3, 60, 0) := by decide +kernel
theorem xX9_suspectBits_45 : dcd mX9_suspectBits 45 = some (.aload 0, 1, 0, 0) := by decide +kernel
theorem xX9_suspectBits_46 : dcd mX9_suspectBits 46 = some (.iload 3, 1, 0, 0) := by decide +kernel
theorem xX9_suspectBits_47 : dcd mX9_suspectBits 47 = some (.iload 5, 2, 0, 0) := by decide +kernel
theorem xX9_suspectBits_49 : dcd mX9_suspectBits 49 = some (.invokevirtual 101, 3, 0, 0) := by decide +kernel
theorem xX9_suspectBits_52 : dcd mX9_suspectBits 52 = some (.istore 4, 2, 0, 0) := by decide +kernel
theorem xX9_suspectBits_54 : dcd mX9_suspectBits 54 = some (.iinc 5 0, 3, 0, 1) := by decide +kernel
theorem xX9_suspectBits_57 : dcd mX9_suspectBits 57 = some (.goto 0, 3, 25, 0) := by decide +kernel
theorem xX9_suspectBits_60 : dcd mX9_suspectBits 60 = some (.iload 4, 2, 0, 0) := by decide +kernel
theorem xX9_suspectBits_62 : dcd mX9_suspectBits 62 = some (.ifCond .eq 0, 3, 71, 0) := by decide +kernel
theorem xX9_suspectBits_65 : dcd mX9_suspectBits 65 = some (.lload 1, 1, 0, 0) := by decide +kernel
theorem xX9_suspectBits_66 : dcd mX9_suspectBits 66 = some (.lconst 1, 1, 0, 0) := by decide +kernel
theorem xX9_suspectBits_67 : dcd mX9_suspectBits 67 = some (.iload 3, 1, 0, 0) := by decide +kernel
theorem xX9_suspectBits_68 : dcd mX9_suspectBits 68 = some (.lshl, 1, 0, 0) := by decide +kernel
theorem xX9_suspectBits_69 : dcd mX9_suspectBits 69 = some (.lor, 1, 0, 0) := by decide +kernel
theorem xX9_suspectBits_70 : dcd mX9_suspectBits 70 = some (.lstore 1, 1, 0, 0) := by decide +kernel
theorem xX9_suspectBits_71 : dcd mX9_suspectBits 71 = some (.iinc 3 0, 3, 0, 1) := by decide +kernel
theorem xX9_suspectBits_74 : dcd mX9_suspectBits 74 = some (.goto 0, 3, 8, 0) := by decide +kernel
theorem xX9_suspectBits_77 : dcd mX9_suspectBits 77 = some (.lload 1, 1, 0, 0) := by decide +kernel
theorem xX9_suspectBits_78 : dcd mX9_suspectBits 78 = some (.lreturn, 1, 0, 0) := by decide +kernel
theorem xX9_collectCases_0 : dcd mX9_collectCases 0 = some (.aload 0, 1, 0, 0) := by decide +kernel
theorem xX9_collectCases_1 : dcd mX9_collectCases 1 = some (.getfield 105, 3, 0, 0) := by decide +kernel
theorem xX9_collectCases_4 : dcd mX9_collectCases 4 = some (.ifnonnull 0, 3, 16, 0) := by decide +kernel
theorem xX9_collectCases_7 : dcd mX9_collectCases 7 = some (.aload 0, 1, 0, 0) := by decide +kernel
theorem xX9_collectCases_8 : dcd mX9_collectCases 8 = some (.iconst 0, 3, 0, 3920) := by decide +kernel
theorem xX9_collectCases_11 : dcd mX9_collectCases 11 = some (.newarray .int, 2, 0, 0) := by decide +kernel
theorem xX9_collectCases_13 : dcd mX9_collectCases 13 = some (.putfield 105, 3, 0, 0) := by decide +kernel
theorem xX9_collectCases_16 : dcd mX9_collectCases 16 = some (.aload 0, 1, 0, 0) := by decide +kernel
theorem xX9_collectCases_17 : dcd mX9_collectCases 17 = some (.invokevirtual 98, 3, 0, 0) := by decide +kernel
theorem xX9_collectCases_20 : dcd mX9_collectCases 20 = some (.aload 0, 1, 0, 0) := by decide +kernel
theorem xX9_collectCases_21 : dcd mX9_collectCases 21 = some (.iconst 0, 1, 0, 0) := by decide +kernel
theorem xX9_collectCases_22 : dcd mX9_collectCases 22 = some (.putfield 108, 3, 0, 0) := by decide +kernel
theorem xX9_collectCases_25 : dcd mX9_collectCases 25 = some (.iconst 0, 1, 0, 0) := by decide +kernel
theorem xX9_collectCases_26 : dcd mX9_collectCases 26 = some (.istore 1, 1, 0, 0) := by decide +kernel
theorem xX9_collectCases_27 : dcd mX9_collectCases 27 = some (.iload 1, 1, 0, 0) := by decide +kernel
theorem xX9_collectCases_28 : dcd mX9_collectCases 28 = some (.aload 0, 1, 0, 0) := by decide +kernel
theorem xX9_collectCases_29 : dcd mX9_collectCases 29 = some (.getfield 15, 3, 0, 0) := by decide +kernel
theorem xX9_collectCases_32 : dcd mX9_collectCases 32 = some (.getfield 60, 3, 0, 0) := by decide +kernel
theorem xX9_collectCases_35 : dcd mX9_collectCases 35 = some (.if_icmp .ge 0, 3, 112, 0) := by decide +kernel
theorem xX9_collectCases_38 : dcd mX9_collectCases 38 = some (.iconst 0, 1, 0, 1) := by decide +kernel
theorem xX9_collectCases_39 : dcd mX9_collectCases 39 = some (.istore 2, 1, 0, 0) := by decide +kernel
theorem xX9_collectCases_40 : dcd mX9_collectCases 40 = some (.iload 2, 1, 0, 0) := by decide +kernel
theorem xX9_collectCases_41 : dcd mX9_collectCases 41 = some (.iconst 0, 2, 0, 99) := by decide +kernel
theorem xX9_collectCases_43 : dcd mX9_collectCases 43 = some (.if_icmp .gt 0, 3, 106, 0) := by decide +kernel
theorem xX9_collectCases_46 : dcd mX9_collectCases 46 = some (.aload 0, 1, 0, 0) := by decide +kernel
theorem xX9_collectCases_47 : dcd mX9_collectCases 47 = some (.iload 1, 1, 0, 0) := by decide +kernel
theorem xX9_collectCases_48 : dcd mX9_collectCases 48 = some (.invokevirtual 73, 3, 0, 0) := by decide +kernel
theorem xX9_collectCases_51 : dcd mX9_collectCases 51 = some (.ifCond .eq 0, 3, 106, 0) := by decide +kernel
theorem xX9_collectCases_54 : dcd mX9_collectCases 54 = some (.aload 0, 1, 0, 0) := by decide +kernel
theorem xX9_collectCases_55 : dcd mX9_collectCases 55 = some (.iload 1, 1, 0, 0) := by decide +kernel
theorem xX9_collectCases_56 : dcd mX9_collectCases 56 = some (.iload 2, 1, 0, 0) := by decide +kernel
theorem xX9_collectCases_57 : dcd mX9_collectCases 57 = some (.invokevirtual 101, 3, 0, 0) := by decide +kernel
theorem xX9_collectCases_60 : dcd mX9_collectCases 60 = some (.ifCond .eq 0, 3, 100, 0) := by decide +kernel
theorem xX9_collectCases_63 : dcd mX9_collectCases 63 = some (.aload 0, 1, 0, 0) := by decide +kernel
theorem xX9_collectCases_64 : dcd mX9_collectCases 64 = some (.getfield 108, 3, 0, 0) := by decide +kernel
theorem xX9_collectCases_67 : dcd mX9_collectCases 67 = some (.aload 0, 1, 0, 0) := by decide +kernel
theorem xX9_collectCases_68 : dcd mX9_collectCases 68 = some (.getfield 105, 3, 0, 0) := by decide +kernel
theorem xX9_collectCases_71 : dcd mX9_collectCases 71 = some (.arraylength, 1, 0, 0) := by decide +kernel
theorem xX9_collectCases_72 : dcd mX9_collectCases 72 = some (.if_icmp .ge 0, 3, 100, 0) := by decide +kernel
theorem xX9_collectCases_75 : dcd mX9_collectCases 75 = some (.aload 0, 1, 0, 0) := by decide +kernel
theorem xX9_collectCases_76 : dcd mX9_collectCases 76 = some (.getfield 105, 3, 0, 0) := by decide +kernel
theorem xX9_collectCases_79 : dcd mX9_collectCases 79 = some (.aload 0, 1, 0, 0) := by decide +kernel
theorem xX9_collectCases_80 : dcd mX9_collectCases 80 = some (.getfield 108, 3, 0, 0) := by decide +kernel
theorem xX9_collectCases_83 : dcd mX9_collectCases 83 = some (.iload 1, 1, 0, 0) := by decide +kernel
theorem xX9_collectCases_84 : dcd mX9_collectCases 84 = some (.iconst 0, 2, 0, 100) := by decide +kernel
theorem xX9_collectCases_86 : dcd mX9_collectCases 86 = some (.imul, 1, 0, 0) := by decide +kernel
theorem xX9_collectCases_87 : dcd mX9_collectCases 87 = some (.iload 2, 1, 0, 0) := by decide +kernel
theorem xX9_collectCases_88 : dcd mX9_collectCases 88 = some (.iadd, 1, 0, 0) := by decide +kernel
theorem xX9_collectCases_89 : dcd mX9_collectCases 89 = some (.iastore, 1, 0, 0) := by decide +kernel
theorem xX9_collectCases_90 : dcd mX9_collectCases 90 = some (.aload 0, 1, 0, 0) := by decide +kernel
theorem xX9_collectCases_91 : dcd mX9_collectCases 91 = some (.dup, 1, 0, 0) := by decide +kernel
theorem xX9_collectCases_92 : dcd mX9_collectCases 92 = some (.getfield 108, 3, 0, 0) := by decide +kernel
theorem xX9_collectCases_95 : dcd mX9_collectCases 95 = some (.iconst 0, 1, 0, 1) := by decide +kernel
theorem xX9_collectCases_96 : dcd mX9_collectCases 96 = some (.iadd, 1, 0, 0) := by decide +kernel
theorem xX9_collectCases_97 : dcd mX9_collectCases 97 = some (.putfield 108, 3, 0, 0) := by decide +kernel
theorem xX9_collectCases_100 : dcd mX9_collectCases 100 = some (.iinc 2 0, 3, 0, 1) := by decide +kernel
theorem xX9_collectCases_103 : dcd mX9_collectCases 103 = some (.goto 0, 3, 40, 0) := by decide +kernel
theorem xX9_collectCases_106 : dcd mX9_collectCases 106 = some (.iinc 1 0, 3, 0, 1) := by decide +kernel
theorem xX9_collectCases_109 : dcd mX9_collectCases 109 = some (.goto 0, 3, 27, 0) := by decide +kernel
theorem xX9_collectCases_112 : dcd mX9_collectCases 112 = some (.aload 0, 1, 0, 0) := by decide +kernel
theorem xX9_collectCases_113 : dcd mX9_collectCases 113 = some (.getfield 108, 3, 0, 0) := by decide +kernel
theorem xX9_collectCases_116 : dcd mX9_collectCases 116 = some (.ireturn, 1, 0, 0) := by decide +kernel
theorem xX9_findGust_0 : dcd mX9_findGust 0 = some (.aload 0, 1, 0, 0) := by decide +kernel
theorem xX9_findGust_1 : dcd mX9_findGust 1 = some (.getfield 15, 3, 0, 0) := by decide +kernel
theorem xX9_findGust_4 : dcd mX9_findGust 4 = some (.invokevirtual 111, 3, 0, 0) := by decide +kernel
theorem xX9_findGust_7 : dcd mX9_findGust 7 = some (.istore 3, 1, 0, 0) := by decide +kernel
theorem xX9_findGust_8 : dcd mX9_findGust 8 = some (.aload 0, 1, 0, 0) := by decide +kernel
theorem xX9_findGust_9 : dcd mX9_findGust 9 = some (.ldc 117, 2, 0, 0) := by decide +kernel
theorem xX9_findGust_11 : dcd mX9_findGust 11 = some (.putfield 118, 3, 0, 0) := by decide +kernel
theorem xX9_findGust_14 : dcd mX9_findGust 14 = some (.iconst 0, 1, 0, 0) := by decide +kernel
theorem xX9_findGust_15 : dcd mX9_findGust 15 = some (.istore 4, 2, 0, 0) := by decide +kernel
theorem xX9_findGust_17 : dcd mX9_findGust 17 = some (.iload 4, 2, 0, 0) := by decide +kernel
theorem xX9_findGust_19 : dcd mX9_findGust 19 = some (.iload 2, 1, 0, 0) := by decide +kernel
theorem xX9_findGust_20 : dcd mX9_findGust 20 = some (.if_icmp .ge 0, 3, 79, 0) := by decide +kernel
theorem xX9_findGust_23 : dcd mX9_findGust 23 = some (.aload 0, 1, 0, 0) := by decide +kernel
theorem xX9_findGust_24 : dcd mX9_findGust 24 = some (.getfield 118, 3, 0, 0) := by decide +kernel
theorem xX9_findGust_27 : dcd mX9_findGust 27 = some (.iconst 0, 1, 0, 1) := by decide +kernel
theorem xX9_findGust_28 : dcd mX9_findGust 28 = some (.if_icmp .le 0, 3, 79, 0) := by decide +kernel
theorem xX9_findGust_31 : dcd mX9_findGust 31 = some (.aload 1, 1, 0, 0) := by decide +kernel
theorem xX9_findGust_32 : dcd mX9_findGust 32 = some (.iload 3, 1, 0, 0) := by decide +kernel
theorem xX9_findGust_33 : dcd mX9_findGust 33 = some (.iload 4, 2, 0, 0) := by decide +kernel
theorem xX9_findGust_35 : dcd mX9_findGust 35 = some (.iadd, 1, 0, 0) := by decide +kernel
theorem xX9_findGust_36 : dcd mX9_findGust 36 = some (.invokevirtual 37, 3, 0, 0) := by decide +kernel
theorem xX9_findGust_39 : dcd mX9_findGust 39 = some (.iconst 0, 2, 0, 9) := by decide +kernel
theorem xX9_findGust_41 : dcd mX9_findGust 41 = some (.isub, 1, 0, 0) := by decide +kernel
theorem xX9_findGust_42 : dcd mX9_findGust 42 = some (.istore 5, 2, 0, 0) := by decide +kernel
theorem xX9_findGust_44 : dcd mX9_findGust 44 = some (.aload 0, 1, 0, 0) := by decide +kernel
theorem xX9_findGust_45 : dcd mX9_findGust 45 = some (.iload 5, 2, 0, 0) := by decide +kernel
theorem xX9_findGust_47 : dcd mX9_findGust 47 = some (.invokevirtual 121, 3, 0, 0) := by decide +kernel
theorem xX9_findGust_50 : dcd mX9_findGust 50 = some (.istore 6, 2, 0, 0) := by decide +kernel
theorem xX9_findGust_52 : dcd mX9_findGust 52 = some (.iload 6, 2, 0, 0) := by decide +kernel
theorem xX9_findGust_54 : dcd mX9_findGust 54 = some (.aload 0, 1, 0, 0) := by decide +kernel
theorem xX9_findGust_55 : dcd mX9_findGust 55 = some (.getfield 118, 3, 0, 0) := by decide +kernel
theorem xX9_findGust_58 : dcd mX9_findGust 58 = some (.if_icmp .ge 0, 3, 73, 0) := by decide +kernel
theorem xX9_findGust_61 : dcd mX9_findGust 61 = some (.aload 0, 1, 0, 0) := by decide +kernel
theorem xX9_findGust_62 : dcd mX9_findGust 62 = some (.iload 6, 2, 0, 0) := by decide +kernel
theorem xX9_findGust_64 : dcd mX9_findGust 64 = some (.putfield 118, 3, 0, 0) := by decide +kernel
theorem xX9_findGust_67 : dcd mX9_findGust 67 = some (.aload 0, 1, 0, 0) := by decide +kernel
theorem xX9_findGust_68 : dcd mX9_findGust 68 = some (.iload 5, 2, 0, 0) := by decide +kernel
theorem xX9_findGust_70 : dcd mX9_findGust 70 = some (.putfield 124, 3, 0, 0) := by decide +kernel
theorem xX9_findGust_73 : dcd mX9_findGust 73 = some (.iinc 4 0, 3, 0, 1) := by decide +kernel
theorem xX9_findGust_76 : dcd mX9_findGust 76 = some (.goto 0, 3, 17, 0) := by decide +kernel
theorem xX9_findGust_79 : dcd mX9_findGust 79 = some (.return_, 1, 0, 0) := by decide +kernel
theorem xX9_crowdBy_0 : dcd mX9_crowdBy 0 = some (.aload 0, 1, 0, 0) := by decide +kernel
theorem xX9_crowdBy_1 : dcd mX9_crowdBy 1 = some (.getfield 127, 3, 0, 0) := by decide +kernel
theorem xX9_crowdBy_4 : dcd mX9_crowdBy 4 = some (.ifnonnull 0, 3, 16, 0) := by decide +kernel
theorem xX9_crowdBy_7 : dcd mX9_crowdBy 7 = some (.aload 0, 1, 0, 0) := by decide +kernel
theorem xX9_crowdBy_8 : dcd mX9_crowdBy 8 = some (.iconst 0, 3, 0, 3920) := by decide +kernel
theorem xX9_crowdBy_11 : dcd mX9_crowdBy 11 = some (.newarray .long, 2, 0, 0) := by decide +kernel
theorem xX9_crowdBy_13 : dcd mX9_crowdBy 13 = some (.putfield 127, 3, 0, 0) := by decide +kernel
theorem xX9_crowdBy_16 : dcd mX9_crowdBy 16 = some (.aload 0, 1, 0, 0) := by decide +kernel
theorem xX9_crowdBy_17 : dcd mX9_crowdBy 17 = some (.getfield 23, 3, 0, 0) := by decide +kernel
theorem xX9_crowdBy_20 : dcd mX9_crowdBy 20 = some (.iload 1, 1, 0, 0) := by decide +kernel
theorem xX9_crowdBy_21 : dcd mX9_crowdBy 21 = some (.invokevirtual 50, 3, 0, 0) := by decide +kernel
theorem xX9_crowdBy_24 : dcd mX9_crowdBy 24 = some (.iconst 0, 1, 0, 0) := by decide +kernel
theorem xX9_crowdBy_25 : dcd mX9_crowdBy 25 = some (.istore 2, 1, 0, 0) := by decide +kernel
theorem xX9_crowdBy_26 : dcd mX9_crowdBy 26 = some (.iload 2, 1, 0, 0) := by decide +kernel
theorem xX9_crowdBy_27 : dcd mX9_crowdBy 27 = some (.aload 0, 1, 0, 0) := by decide +kernel
theorem xX9_crowdBy_28 : dcd mX9_crowdBy 28 = some (.getfield 108, 3, 0, 0) := by decide +kernel
theorem xX9_crowdBy_31 : dcd mX9_crowdBy 31 = some (.if_icmp .ge 0, 3, 94, 0) := by decide +kernel
theorem xX9_crowdBy_34 : dcd mX9_crowdBy 34 = some (.iload 2, 1, 0, 0) := by decide +kernel
theorem xX9_crowdBy_35 : dcd mX9_crowdBy 35 = some (.aload 0, 1, 0, 0) := by decide +kernel
theorem xX9_crowdBy_36 : dcd mX9_crowdBy 36 = some (.getfield 127, 3, 0, 0) := by decide +kernel
theorem xX9_crowdBy_39 : dcd mX9_crowdBy 39 = some (.arraylength, 1, 0, 0) := by decide +kernel
theorem xX9_crowdBy_40 : dcd mX9_crowdBy 40 = some (.if_icmp .ge 0, 3, 94, 0) := by decide +kernel
theorem xX9_crowdBy_43 : dcd mX9_crowdBy 43 = some (.aload 0, 1, 0, 0) := by decide +kernel
theorem xX9_crowdBy_44 : dcd mX9_crowdBy 44 = some (.getfield 105, 3, 0, 0) := by decide +kernel
theorem xX9_crowdBy_47 : dcd mX9_crowdBy 47 = some (.ifnull 0, 3, 94, 0) := by decide +kernel
theorem xX9_crowdBy_50 : dcd mX9_crowdBy 50 = some (.iload 2, 1, 0, 0) := by decide +kernel
theorem xX9_crowdBy_51 : dcd mX9_crowdBy 51 = some (.aload 0, 1, 0, 0) := by decide +kernel
theorem xX9_crowdBy_52 : dcd mX9_crowdBy 52 = some (.getfield 105, 3, 0, 0) := by decide +kernel
theorem xX9_crowdBy_55 : dcd mX9_crowdBy 55 = some (.arraylength, 1, 0, 0) := by decide +kernel
theorem xX9_crowdBy_56 : dcd mX9_crowdBy 56 = some (.if_icmp .ge 0, 3, 94, 0) := by decide +kernel
theorem xX9_crowdBy_59 : dcd mX9_crowdBy 59 = some (.aload 0, 1, 0, 0) := by decide +kernel
theorem xX9_crowdBy_60 : dcd mX9_crowdBy 60 = some (.getfield 127, 3, 0, 0) := by decide +kernel
theorem xX9_crowdBy_63 : dcd mX9_crowdBy 63 = some (.iload 2, 1, 0, 0) := by decide +kernel
theorem xX9_crowdBy_64 : dcd mX9_crowdBy 64 = some (.aload 0, 1, 0, 0) := by decide +kernel
theorem xX9_crowdBy_65 : dcd mX9_crowdBy 65 = some (.aload 0, 1, 0, 0) := by decide +kernel
theorem xX9_crowdBy_66 : dcd mX9_crowdBy 66 = some (.getfield 105, 3, 0, 0) := by decide +kernel
theorem xX9_crowdBy_69 : dcd mX9_crowdBy 69 = some (.iload 2, 1, 0, 0) := by decide +kernel
theorem xX9_crowdBy_70 : dcd mX9_crowdBy 70 = some (.iaload, 1, 0, 0) := by decide +kernel
theorem xX9_crowdBy_71 : dcd mX9_crowdBy 71 = some (.iconst 0, 2, 0, 100) := by decide +kernel
theorem xX9_crowdBy_73 : dcd mX9_crowdBy 73 = some (.idiv, 1, 0, 0) := by decide +kernel
theorem xX9_crowdBy_74 : dcd mX9_crowdBy 74 = some (.aload 0, 1, 0, 0) := by decide +kernel
theorem xX9_crowdBy_75 : dcd mX9_crowdBy 75 = some (.getfield 105, 3, 0, 0) := by decide +kernel
theorem xX9_crowdBy_78 : dcd mX9_crowdBy 78 = some (.iload 2, 1, 0, 0) := by decide +kernel
theorem xX9_crowdBy_79 : dcd mX9_crowdBy 79 = some (.iaload, 1, 0, 0) := by decide +kernel
theorem xX9_crowdBy_80 : dcd mX9_crowdBy 80 = some (.iconst 0, 2, 0, 100) := by decide +kernel
theorem xX9_crowdBy_82 : dcd mX9_crowdBy 82 = some (.irem, 1, 0, 0) := by decide +kernel
theorem xX9_crowdBy_83 : dcd mX9_crowdBy 83 = some (.iload 1, 1, 0, 0) := by decide +kernel
theorem xX9_crowdBy_84 : dcd mX9_crowdBy 84 = some (.invokevirtual 131, 3, 0, 0) := by decide +kernel
theorem xX9_crowdBy_87 : dcd mX9_crowdBy 87 = some (.lastore, 1, 0, 0) := by decide +kernel
theorem xX9_crowdBy_88 : dcd mX9_crowdBy 88 = some (.iinc 2 0, 3, 0, 1) := by decide +kernel
theorem xX9_crowdBy_91 : dcd mX9_crowdBy 91 = some (.goto 0, 3, 26, 0) := by decide +kernel
theorem xX9_crowdBy_94 : dcd mX9_crowdBy 94 = some (.aload 0, 1, 0, 0) := by decide +kernel
theorem xX9_crowdBy_95 : dcd mX9_crowdBy 95 = some (.getfield 127, 3, 0, 0) := by decide +kernel
theorem xX9_crowdBy_98 : dcd mX9_crowdBy 98 = some (.aload 0, 1, 0, 0) := by decide +kernel
theorem xX9_crowdBy_99 : dcd mX9_crowdBy 99 = some (.getfield 108, 3, 0, 0) := by decide +kernel
theorem xX9_crowdBy_102 : dcd mX9_crowdBy 102 = some (.invokestatic 135, 3, 0, 0) := by decide +kernel
theorem xX9_crowdBy_105 : dcd mX9_crowdBy 105 = some (.aload 0, 1, 0, 0) := by decide +kernel
theorem xX9_crowdBy_106 : dcd mX9_crowdBy 106 = some (.getfield 127, 3, 0, 0) := by decide +kernel
theorem xX9_crowdBy_109 : dcd mX9_crowdBy 109 = some (.aload 0, 1, 0, 0) := by decide +kernel
theorem xX9_crowdBy_110 : dcd mX9_crowdBy 110 = some (.getfield 108, 3, 0, 0) := by decide +kernel
theorem xX9_crowdBy_113 : dcd mX9_crowdBy 113 = some (.invokestatic 139, 3, 0, 0) := by decide +kernel
theorem xX9_crowdBy_116 : dcd mX9_crowdBy 116 = some (.ireturn, 1, 0, 0) := by decide +kernel
theorem xX9_pictureOf_0 : dcd mX9_pictureOf 0 = some (.aload 0, 1, 0, 0) := by decide +kernel
theorem xX9_pictureOf_1 : dcd mX9_pictureOf 1 = some (.getfield 15, 3, 0, 0) := by decide +kernel
theorem xX9_pictureOf_4 : dcd mX9_pictureOf 4 = some (.iload 1, 1, 0, 0) := by decide +kernel
theorem xX9_pictureOf_5 : dcd mX9_pictureOf 5 = some (.invokevirtual 70, 3, 0, 0) := by decide +kernel
theorem xX9_pictureOf_8 : dcd mX9_pictureOf 8 = some (.ifCond .ne 0, 3, 13, 0) := by decide +kernel
theorem xX9_pictureOf_11 : dcd mX9_pictureOf 11 = some (.lconst 0, 1, 0, 0) := by decide +kernel
theorem xX9_pictureOf_12 : dcd mX9_pictureOf 12 = some (.lreturn, 1, 0, 0) := by decide +kernel
theorem xX9_pictureOf_13 : dcd mX9_pictureOf 13 = some (.aload 0, 1, 0, 0) := by decide +kernel
theorem xX9_pictureOf_14 : dcd mX9_pictureOf 14 = some (.getfield 19, 3, 0, 0) := by decide +kernel
theorem xX9_pictureOf_17 : dcd mX9_pictureOf 17 = some (.aload 0, 1, 0, 0) := by decide +kernel
theorem xX9_pictureOf_18 : dcd mX9_pictureOf 18 = some (.getfield 15, 3, 0, 0) := by decide +kernel
theorem xX9_pictureOf_21 : dcd mX9_pictureOf 21 = some (.iload 1, 1, 0, 0) := by decide +kernel
theorem xX9_pictureOf_22 : dcd mX9_pictureOf 22 = some (.iload 2, 1, 0, 0) := by decide +kernel
theorem xX9_pictureOf_23 : dcd mX9_pictureOf 23 = some (.iload 3, 1, 0, 0) := by decide +kernel
theorem xX9_pictureOf_24 : dcd mX9_pictureOf 24 = some (.invokevirtual 79, 3, 0, 0) := by decide +kernel
theorem xX9_pictureOf_27 : dcd mX9_pictureOf 27 = some (.aload 0, 1, 0, 0) := by decide +kernel
theorem xX9_pictureOf_28 : dcd mX9_pictureOf 28 = some (.getfield 19, 3, 0, 0) := by decide +kernel
theorem xX9_pictureOf_31 : dcd mX9_pictureOf 31 = some (.iconst 0, 2, 0, 103) := by decide +kernel
theorem xX9_pictureOf_33 : dcd mX9_pictureOf 33 = some (.invokevirtual 85, 3, 0, 0) := by decide +kernel
theorem xX9_pictureOf_36 : dcd mX9_pictureOf 36 = some (.aload 0, 1, 0, 0) := by decide +kernel
theorem xX9_pictureOf_37 : dcd mX9_pictureOf 37 = some (.getfield 23, 3, 0, 0) := by decide +kernel
theorem xX9_pictureOf_40 : dcd mX9_pictureOf 40 = some (.getfield 88, 3, 0, 0) := by decide +kernel
theorem xX9_pictureOf_43 : dcd mX9_pictureOf 43 = some (.iload 1, 1, 0, 0) := by decide +kernel
theorem xX9_pictureOf_44 : dcd mX9_pictureOf 44 = some (.iaload, 1, 0, 0) := by decide +kernel
theorem xX9_pictureOf_45 : dcd mX9_pictureOf 45 = some (.isub, 1, 0, 0) := by decide +kernel
theorem xX9_pictureOf_46 : dcd mX9_pictureOf 46 = some (.istore 4, 2, 0, 0) := by decide +kernel
theorem xX9_pictureOf_48 : dcd mX9_pictureOf 48 = some (.aload 0, 1, 0, 0) := by decide +kernel
theorem xX9_pictureOf_49 : dcd mX9_pictureOf 49 = some (.getfield 19, 3, 0, 0) := by decide +kernel
theorem xX9_pictureOf_52 : dcd mX9_pictureOf 52 = some (.iconst 0, 2, 0, 112) := by decide +kernel
theorem xX9_pictureOf_54 : dcd mX9_pictureOf 54 = some (.invokevirtual 85, 3, 0, 0) := by decide +kernel
theorem xX9_pictureOf_57 : dcd mX9_pictureOf 57 = some (.aload 0, 1, 0, 0) := by decide +kernel
theorem xX9_pictureOf_58 : dcd mX9_pictureOf 58 = some (.getfield 23, 3, 0, 0) := by decide +kernel
theorem xX9_pictureOf_61 : dcd mX9_pictureOf 61 = some (.getfield 91, 3, 0, 0) := by decide +kernel
theorem xX9_pictureOf_64 : dcd mX9_pictureOf 64 = some (.iload 1, 1, 0, 0) := by decide +kernel
theorem xX9_pictureOf_65 : dcd mX9_pictureOf 65 = some (.iaload, 1, 0, 0) := by decide +kernel
theorem xX9_pictureOf_66 : dcd mX9_pictureOf 66 = some (.isub, 1, 0, 0) := by decide +kernel
theorem xX9_pictureOf_67 : dcd mX9_pictureOf 67 = some (.istore 5, 2, 0, 0) := by decide +kernel
theorem xX9_pictureOf_69 : dcd mX9_pictureOf 69 = some (.aload 0, 1, 0, 0) := by decide +kernel
theorem xX9_pictureOf_70 : dcd mX9_pictureOf 70 = some (.getfield 23, 3, 0, 0) := by decide +kernel
theorem xX9_pictureOf_73 : dcd mX9_pictureOf 73 = some (.aload 0, 1, 0, 0) := by decide +kernel
theorem xX9_pictureOf_74 : dcd mX9_pictureOf 74 = some (.getfield 15, 3, 0, 0) := by decide +kernel
theorem xX9_pictureOf_77 : dcd mX9_pictureOf 77 = some (.getfield 143, 3, 0, 0) := by decide +kernel
theorem xX9_pictureOf_80 : dcd mX9_pictureOf 80 = some (.iload 1, 1, 0, 0) := by decide +kernel
theorem xX9_pictureOf_81 : dcd mX9_pictureOf 81 = some (.iaload, 1, 0, 0) := by decide +kernel
theorem xX9_pictureOf_82 : dcd mX9_pictureOf 82 = some (.aload 0, 1, 0, 0) := by decide +kernel
theorem xX9_pictureOf_83 : dcd mX9_pictureOf 83 = some (.getfield 15, 3, 0, 0) := by decide +kernel
theorem xX9_pictureOf_86 : dcd mX9_pictureOf 86 = some (.getfield 146, 3, 0, 0) := by decide +kernel
theorem xX9_pictureOf_89 : dcd mX9_pictureOf 89 = some (.iload 1, 1, 0, 0) := by decide +kernel
theorem xX9_pictureOf_90 : dcd mX9_pictureOf 90 = some (.iaload, 1, 0, 0) := by decide +kernel
theorem xX9_pictureOf_91 : dcd mX9_pictureOf 91 = some (.iload 4, 2, 0, 0) := by decide +kernel
theorem xX9_pictureOf_93 : dcd mX9_pictureOf 93 = some (.iload 5, 2, 0, 0) := by decide +kernel
theorem xX9_pictureOf_95 : dcd mX9_pictureOf 95 = some (.invokevirtual 149, 3, 0, 0) := by decide +kernel
theorem xX9_pictureOf_98 : dcd mX9_pictureOf 98 = some (.aload 0, 1, 0, 0) := by decide +kernel
theorem xX9_pictureOf_99 : dcd mX9_pictureOf 99 = some (.getfield 23, 3, 0, 0) := by decide +kernel
theorem xX9_pictureOf_102 : dcd mX9_pictureOf 102 = some (.invokevirtual 153, 3, 0, 0) := by decide +kernel
theorem xX9_pictureOf_105 : dcd mX9_pictureOf 105 = some (.lstore 6, 2, 0, 0) := by decide +kernel
theorem xX9_pictureOf_107 : dcd mX9_pictureOf 107 = some (.aload 0, 1, 0, 0) := by decide +kernel
theorem xX9_pictureOf_108 : dcd mX9_pictureOf 108 = some (.getfield 23, 3, 0, 0) := by decide +kernel
theorem xX9_pictureOf_111 : dcd mX9_pictureOf 111 = some (.aload 0, 1, 0, 0) := by decide +kernel
theorem xX9_pictureOf_112 : dcd mX9_pictureOf 112 = some (.getfield 15, 3, 0, 0) := by decide +kernel
theorem xX9_pictureOf_115 : dcd mX9_pictureOf 115 = some (.getfield 143, 3, 0, 0) := by decide +kernel
theorem xX9_pictureOf_118 : dcd mX9_pictureOf 118 = some (.iload 1, 1, 0, 0) := by decide +kernel
theorem xX9_pictureOf_119 : dcd mX9_pictureOf 119 = some (.iaload, 1, 0, 0) := by decide +kernel
theorem xX9_pictureOf_120 : dcd mX9_pictureOf 120 = some (.aload 0, 1, 0, 0) := by decide +kernel
theorem xX9_pictureOf_121 : dcd mX9_pictureOf 121 = some (.getfield 15, 3, 0, 0) := by decide +kernel
theorem xX9_pictureOf_124 : dcd mX9_pictureOf 124 = some (.getfield 146, 3, 0, 0) := by decide +kernel
theorem xX9_pictureOf_127 : dcd mX9_pictureOf 127 = some (.iload 1, 1, 0, 0) := by decide +kernel
theorem xX9_pictureOf_128 : dcd mX9_pictureOf 128 = some (.iaload, 1, 0, 0) := by decide +kernel
theorem xX9_pictureOf_129 : dcd mX9_pictureOf 129 = some (.iload 4, 2, 0, 0) := by decide +kernel
theorem xX9_pictureOf_131 : dcd mX9_pictureOf 131 = some (.ineg, 1, 0, 0) := by decide +kernel
theorem xX9_pictureOf_132 : dcd mX9_pictureOf 132 = some (.iload 5, 2, 0, 0) := by decide +kernel
theorem xX9_pictureOf_134 : dcd mX9_pictureOf 134 = some (.ineg, 1, 0, 0) := by decide +kernel
theorem xX9_pictureOf_135 : dcd mX9_pictureOf 135 = some (.invokevirtual 149, 3, 0, 0) := by decide +kernel
theorem xX9_pictureOf_138 : dcd mX9_pictureOf 138 = some (.lload 6, 2, 0, 0) := by decide +kernel
theorem xX9_pictureOf_140 : dcd mX9_pictureOf 140 = some (.lreturn, 1, 0, 0) := by decide +kernel
theorem xX9_sort_0 : dcd mX9_sort 0 = some (.iload 1, 1, 0, 0) := by decide +kernel
theorem xX9_sort_1 : dcd mX9_sort 1 = some (.aload 0, 1, 0, 0) := by decide +kernel
theorem xX9_sort_2 : dcd mX9_sort 2 = some (.arraylength, 1, 0, 0) := by decide +kernel
theorem xX9_sort_3 : dcd mX9_sort 3 = some (.invokestatic 157, 3, 0, 0) := by decide +kernel
theorem xX9_sort_6 : dcd mX9_sort 6 = some (.istore 2, 1, 0, 0) := by decide +kernel
theorem xX9_sort_7 : dcd mX9_sort 7 = some (.iconst 0, 1, 0, 1) := by decide +kernel
theorem xX9_sort_8 : dcd mX9_sort 8 = some (.istore 3, 1, 0, 0) := by decide +kernel
theorem xX9_sort_9 : dcd mX9_sort 9 = some (.iload 3, 1, 0, 0) := by decide +kernel
theorem xX9_sort_10 : dcd mX9_sort 10 = some (.iload 2, 1, 0, 0) := by decide +kernel
theorem xX9_sort_11 : dcd mX9_sort 11 = some (.iconst 0, 1, 0, 3) := by decide +kernel
theorem xX9_sort_12 : dcd mX9_sort 12 = some (.idiv, 1, 0, 0) := by decide +kernel
theorem xX9_sort_13 : dcd mX9_sort 13 = some (.if_icmp .ge 0, 3, 25, 0) := by decide +kernel
theorem xX9_sort_16 : dcd mX9_sort 16 = some (.iconst 0, 1, 0, 3) := by decide +kernel
theorem xX9_sort_17 : dcd mX9_sort 17 = some (.iload 3, 1, 0, 0) := by decide +kernel
theorem xX9_sort_18 : dcd mX9_sort 18 = some (.imul, 1, 0, 0) := by decide +kernel
theorem xX9_sort_19 : dcd mX9_sort 19 = some (.iconst 0, 1, 0, 1) := by decide +kernel
theorem xX9_sort_20 : dcd mX9_sort 20 = some (.iadd, 1, 0, 0) := by decide +kernel
theorem xX9_sort_21 : dcd mX9_sort 21 = some (.istore 3, 1, 0, 0) := by decide +kernel
theorem xX9_sort_22 : dcd mX9_sort 22 = some (.goto 0, 3, 9, 0) := by decide +kernel
theorem xX9_sort_25 : dcd mX9_sort 25 = some (.iload 3, 1, 0, 0) := by decide +kernel
theorem xX9_sort_26 : dcd mX9_sort 26 = some (.iconst 0, 1, 0, 1) := by decide +kernel
theorem xX9_sort_27 : dcd mX9_sort 27 = some (.if_icmp .lt 0, 3, 105, 0) := by decide +kernel
theorem xX9_sort_30 : dcd mX9_sort 30 = some (.iload 3, 1, 0, 0) := by decide +kernel
theorem xX9_sort_31 : dcd mX9_sort 31 = some (.istore 4, 2, 0, 0) := by decide +kernel
theorem xX9_sort_33 : dcd mX9_sort 33 = some (.iload 4, 2, 0, 0) := by decide +kernel
theorem xX9_sort_35 : dcd mX9_sort 35 = some (.iload 2, 1, 0, 0) := by decide +kernel
theorem xX9_sort_36 : dcd mX9_sort 36 = some (.if_icmp .ge 0, 3, 98, 0) := by decide +kernel
theorem xX9_sort_39 : dcd mX9_sort 39 = some (.aload 0, 1, 0, 0) := by decide +kernel
theorem xX9_sort_40 : dcd mX9_sort 40 = some (.iload 4, 2, 0, 0) := by decide +kernel
theorem xX9_sort_42 : dcd mX9_sort 42 = some (.laload, 1, 0, 0) := by decide +kernel
theorem xX9_sort_43 : dcd mX9_sort 43 = some (.lstore 5, 2, 0, 0) := by decide +kernel
theorem xX9_sort_45 : dcd mX9_sort 45 = some (.iload 4, 2, 0, 0) := by decide +kernel
theorem xX9_sort_47 : dcd mX9_sort 47 = some (.istore 7, 2, 0, 0) := by decide +kernel
theorem xX9_sort_49 : dcd mX9_sort 49 = some (.iload 7, 2, 0, 0) := by decide +kernel
theorem xX9_sort_51 : dcd mX9_sort 51 = some (.iload 3, 1, 0, 0) := by decide +kernel
theorem xX9_sort_52 : dcd mX9_sort 52 = some (.if_icmp .lt 0, 3, 86, 0) := by decide +kernel
theorem xX9_sort_55 : dcd mX9_sort 55 = some (.aload 0, 1, 0, 0) := by decide +kernel
theorem xX9_sort_56 : dcd mX9_sort 56 = some (.iload 7, 2, 0, 0) := by decide +kernel
theorem xX9_sort_58 : dcd mX9_sort 58 = some (.iload 3, 1, 0, 0) := by decide +kernel
theorem xX9_sort_59 : dcd mX9_sort 59 = some (.isub, 1, 0, 0) := by decide +kernel
theorem xX9_sort_60 : dcd mX9_sort 60 = some (.laload, 1, 0, 0) := by decide +kernel
theorem xX9_sort_61 : dcd mX9_sort 61 = some (.lload 5, 2, 0, 0) := by decide +kernel
theorem xX9_sort_63 : dcd mX9_sort 63 = some (.lcmp, 1, 0, 0) := by decide +kernel
theorem xX9_sort_64 : dcd mX9_sort 64 = some (.ifCond .le 0, 3, 86, 0) := by decide +kernel
theorem xX9_sort_67 : dcd mX9_sort 67 = some (.aload 0, 1, 0, 0) := by decide +kernel
theorem xX9_sort_68 : dcd mX9_sort 68 = some (.iload 7, 2, 0, 0) := by decide +kernel
theorem xX9_sort_70 : dcd mX9_sort 70 = some (.aload 0, 1, 0, 0) := by decide +kernel
theorem xX9_sort_71 : dcd mX9_sort 71 = some (.iload 7, 2, 0, 0) := by decide +kernel
theorem xX9_sort_73 : dcd mX9_sort 73 = some (.iload 3, 1, 0, 0) := by decide +kernel
theorem xX9_sort_74 : dcd mX9_sort 74 = some (.isub, 1, 0, 0) := by decide +kernel
theorem xX9_sort_75 : dcd mX9_sort 75 = some (.laload, 1, 0, 0) := by decide +kernel
theorem xX9_sort_76 : dcd mX9_sort 76 = some (.lastore, 1, 0, 0) := by decide +kernel
theorem xX9_sort_77 : dcd mX9_sort 77 = some (.iload 7, 2, 0, 0) := by decide +kernel
theorem xX9_sort_79 : dcd mX9_sort 79 = some (.iload 3, 1, 0, 0) := by decide +kernel
theorem xX9_sort_80 : dcd mX9_sort 80 = some (.isub, 1, 0, 0) := by decide +kernel
theorem xX9_sort_81 : dcd mX9_sort 81 = some (.istore 7, 2, 0, 0) := by decide +kernel
theorem xX9_sort_83 : dcd mX9_sort 83 = some (.goto 0, 3, 49, 0) := by decide +kernel
theorem xX9_sort_86 : dcd mX9_sort 86 = some (.aload 0, 1, 0, 0) := by decide +kernel
theorem xX9_sort_87 : dcd mX9_sort 87 = some (.iload 7, 2, 0, 0) := by decide +kernel
theorem xX9_sort_89 : dcd mX9_sort 89 = some (.lload 5, 2, 0, 0) := by decide +kernel
theorem xX9_sort_91 : dcd mX9_sort 91 = some (.lastore, 1, 0, 0) := by decide +kernel
theorem xX9_sort_92 : dcd mX9_sort 92 = some (.iinc 4 0, 3, 0, 1) := by decide +kernel
theorem xX9_sort_95 : dcd mX9_sort 95 = some (.goto 0, 3, 33, 0) := by decide +kernel
theorem xX9_sort_98 : dcd mX9_sort 98 = some (.iload 3, 1, 0, 0) := by decide +kernel
theorem xX9_sort_99 : dcd mX9_sort 99 = some (.iconst 0, 1, 0, 3) := by decide +kernel
theorem xX9_sort_100 : dcd mX9_sort 100 = some (.idiv, 1, 0, 0) := by decide +kernel
theorem xX9_sort_101 : dcd mX9_sort 101 = some (.istore 3, 1, 0, 0) := by decide +kernel
theorem xX9_sort_102 : dcd mX9_sort 102 = some (.goto 0, 3, 25, 0) := by decide +kernel
theorem xX9_sort_105 : dcd mX9_sort 105 = some (.return_, 1, 0, 0) := by decide +kernel
theorem xX9_longestStretch_0 : dcd mX9_longestStretch 0 = some (.iconst 0, 1, 0, 0) := by decide +kernel
theorem xX9_longestStretch_1 : dcd mX9_longestStretch 1 = some (.istore 2, 1, 0, 0) := by decide +kernel
theorem xX9_longestStretch_2 : dcd mX9_longestStretch 2 = some (.iconst 0, 1, 0, 0) := by decide +kernel
theorem xX9_longestStretch_3 : dcd mX9_longestStretch 3 = some (.istore 3, 1, 0, 0) := by decide +kernel
theorem xX9_longestStretch_4 : dcd mX9_longestStretch 4 = some (.iconst 0, 1, 0, 0) := by decide +kernel
theorem xX9_longestStretch_5 : dcd mX9_longestStretch 5 = some (.istore 4, 2, 0, 0) := by decide +kernel
theorem xX9_longestStretch_7 : dcd mX9_longestStretch 7 = some (.iload 4, 2, 0, 0) := by decide +kernel
theorem xX9_longestStretch_9 : dcd mX9_longestStretch 9 = some (.iload 1, 1, 0, 0) := by decide +kernel
theorem xX9_longestStretch_10 : dcd mX9_longestStretch 10 = some (.if_icmp .ge 0, 3, 59, 0) := by decide +kernel
theorem xX9_longestStretch_13 : dcd mX9_longestStretch 13 = some (.iload 4, 2, 0, 0) := by decide +kernel
theorem xX9_longestStretch_15 : dcd mX9_longestStretch 15 = some (.aload 0, 1, 0, 0) := by decide +kernel
theorem xX9_longestStretch_16 : dcd mX9_longestStretch 16 = some (.arraylength, 1, 0, 0) := by decide +kernel
theorem xX9_longestStretch_17 : dcd mX9_longestStretch 17 = some (.if_icmp .ge 0, 3, 59, 0) := by decide +kernel
theorem xX9_longestStretch_20 : dcd mX9_longestStretch 20 = some (.iload 4, 2, 0, 0) := by decide +kernel
theorem xX9_longestStretch_22 : dcd mX9_longestStretch 22 = some (.ifCond .le 0, 3, 45, 0) := by decide +kernel
theorem xX9_longestStretch_25 : dcd mX9_longestStretch 25 = some (.aload 0, 1, 0, 0) := by decide +kernel
theorem xX9_longestStretch_26 : dcd mX9_longestStretch 26 = some (.iload 4, 2, 0, 0) := by decide +kernel
theorem xX9_longestStretch_28 : dcd mX9_longestStretch 28 = some (.laload, 1, 0, 0) := by decide +kernel
theorem xX9_longestStretch_29 : dcd mX9_longestStretch 29 = some (.aload 0, 1, 0, 0) := by decide +kernel
theorem xX9_longestStretch_30 : dcd mX9_longestStretch 30 = some (.iload 4, 2, 0, 0) := by decide +kernel
theorem xX9_longestStretch_32 : dcd mX9_longestStretch 32 = some (.iconst 0, 1, 0, 1) := by decide +kernel
theorem xX9_longestStretch_33 : dcd mX9_longestStretch 33 = some (.isub, 1, 0, 0) := by decide +kernel
theorem xX9_longestStretch_34 : dcd mX9_longestStretch 34 = some (.laload, 1, 0, 0) := by decide +kernel
theorem xX9_longestStretch_35 : dcd mX9_longestStretch 35 = some (.lcmp, 1, 0, 0) := by decide +kernel
theorem xX9_longestStretch_36 : dcd mX9_longestStretch 36 = some (.ifCond .ne 0, 3, 45, 0) := by decide +kernel
theorem xX9_longestStretch_39 : dcd mX9_longestStretch 39 = some (.iload 3, 1, 0, 0) := by decide +kernel
theorem xX9_longestStretch_40 : dcd mX9_longestStretch 40 = some (.iconst 0, 1, 0, 1) := by decide +kernel
theorem xX9_longestStretch_41 : dcd mX9_longestStretch 41 = some (.iadd, 1, 0, 0) := by decide +kernel
theorem xX9_longestStretch_42 : dcd mX9_longestStretch 42 = some (.goto 0, 3, 46, 0) := by decide +kernel
theorem xX9_longestStretch_45 : dcd mX9_longestStretch 45 = some (.iconst 0, 1, 0, 1) := by decide +kernel
theorem xX9_longestStretch_46 : dcd mX9_longestStretch 46 = some (.istore 3, 1, 0, 0) := by decide +kernel
theorem xX9_longestStretch_47 : dcd mX9_longestStretch 47 = some (.iload 2, 1, 0, 0) := by decide +kernel
theorem xX9_longestStretch_48 : dcd mX9_longestStretch 48 = some (.iload 3, 1, 0, 0) := by decide +kernel
theorem xX9_longestStretch_49 : dcd mX9_longestStretch 49 = some (.invokestatic 163, 3, 0, 0) := by decide +kernel
theorem xX9_longestStretch_52 : dcd mX9_longestStretch 52 = some (.istore 2, 1, 0, 0) := by decide +kernel
theorem xX9_longestStretch_53 : dcd mX9_longestStretch 53 = some (.iinc 4 0, 3, 0, 1) := by decide +kernel
theorem xX9_longestStretch_56 : dcd mX9_longestStretch 56 = some (.goto 0, 3, 7, 0) := by decide +kernel
theorem xX9_longestStretch_59 : dcd mX9_longestStretch 59 = some (.iload 2, 1, 0, 0) := by decide +kernel
theorem xX9_longestStretch_60 : dcd mX9_longestStretch 60 = some (.ireturn, 1, 0, 0) := by decide +kernel
theorem xX10_init_0 : dcd mX10_init 0 = some (.aload 0, 1, 0, 0) := by decide +kernel
theorem xX10_init_1 : dcd mX10_init 1 = some (.invokespecial 1, 3, 0, 0) := by decide +kernel
theorem xX10_init_4 : dcd mX10_init 4 = some (.aload 0, 1, 0, 0) := by decide +kernel
theorem xX10_init_5 : dcd mX10_init 5 = some (.new 7, 3, 0, 0) := by decide +kernel
theorem xX10_init_8 : dcd mX10_init 8 = some (.dup, 1, 0, 0) := by decide +kernel
theorem xX10_init_9 : dcd mX10_init 9 = some (.invokespecial 9, 3, 0, 0) := by decide +kernel
theorem xX10_init_12 : dcd mX10_init 12 = some (.putfield 10, 3, 0, 0) := by decide +kernel
theorem xX10_init_15 : dcd mX10_init 15 = some (.aload 0, 1, 0, 0) := by decide +kernel
theorem xX10_init_16 : dcd mX10_init 16 = some (.new 16, 3, 0, 0) := by decide +kernel
theorem xX10_init_19 : dcd mX10_init 19 = some (.dup, 1, 0, 0) := by decide +kernel
theorem xX10_init_20 : dcd mX10_init 20 = some (.invokespecial 18, 3, 0, 0) := by decide +kernel
theorem xX10_init_23 : dcd mX10_init 23 = some (.putfield 19, 3, 0, 0) := by decide +kernel
theorem xX10_init_26 : dcd mX10_init 26 = some (.aload 0, 1, 0, 0) := by decide +kernel
theorem xX10_init_27 : dcd mX10_init 27 = some (.new 16, 3, 0, 0) := by decide +kernel
theorem xX10_init_30 : dcd mX10_init 30 = some (.dup, 1, 0, 0) := by decide +kernel
theorem xX10_init_31 : dcd mX10_init 31 = some (.invokespecial 18, 3, 0, 0) := by decide +kernel
theorem xX10_init_34 : dcd mX10_init 34 = some (.putfield 23, 3, 0, 0) := by decide +kernel
theorem xX10_init_37 : dcd mX10_init 37 = some (.aload 0, 1, 0, 0) := by decide +kernel
theorem xX10_init_38 : dcd mX10_init 38 = some (.new 26, 3, 0, 0) := by decide +kernel
theorem xX10_init_41 : dcd mX10_init 41 = some (.dup, 1, 0, 0) := by decide +kernel
theorem xX10_init_42 : dcd mX10_init 42 = some (.invokespecial 28, 3, 0, 0) := by decide +kernel
theorem xX10_init_45 : dcd mX10_init 45 = some (.putfield 29, 3, 0, 0) := by decide +kernel
theorem xX10_init_48 : dcd mX10_init 48 = some (.aload 0, 1, 0, 0) := by decide +kernel
theorem xX10_init_49 : dcd mX10_init 49 = some (.new 33, 3, 0, 0) := by decide +kernel
theorem xX10_init_52 : dcd mX10_init 52 = some (.dup, 1, 0, 0) := by decide +kernel
theorem xX10_init_53 : dcd mX10_init 53 = some (.aload 0, 1, 0, 0) := by decide +kernel
theorem xX10_init_54 : dcd mX10_init 54 = some (.getfield 10, 3, 0, 0) := by decide +kernel
theorem xX10_init_57 : dcd mX10_init 57 = some (.invokespecial 35, 3, 0, 0) := by decide +kernel
theorem xX10_init_60 : dcd mX10_init 60 = some (.putfield 38, 3, 0, 0) := by decide +kernel
theorem xX10_init_63 : dcd mX10_init 63 = some (.aload 0, 1, 0, 0) := by decide +kernel
theorem xX10_init_64 : dcd mX10_init 64 = some (.new 42, 3, 0, 0) := by decide +kernel
theorem xX10_init_67 : dcd mX10_init 67 = some (.dup, 1, 0, 0) := by decide +kernel
theorem xX10_init_68 : dcd mX10_init 68 = some (.aload 0, 1, 0, 0) := by decide +kernel
theorem xX10_init_69 : dcd mX10_init 69 = some (.getfield 19, 3, 0, 0) := by decide +kernel
theorem xX10_init_72 : dcd mX10_init 72 = some (.aload 0, 1, 0, 0) := by decide +kernel
theorem xX10_init_73 : dcd mX10_init 73 = some (.getfield 29, 3, 0, 0) := by decide +kernel
theorem xX10_init_76 : dcd mX10_init 76 = some (.invokespecial 44, 3, 0, 0) := by decide +kernel
theorem xX10_init_79 : dcd mX10_init 79 = some (.putfield 47, 3, 0, 0) := by decide +kernel
theorem xX10_init_82 : dcd mX10_init 82 = some (.aload 0, 1, 0, 0) := by decide +kernel
theorem xX10_init_83 : dcd mX10_init 83 = some (.new 51, 3, 0, 0) := by decide +kernel
theorem xX10_init_86 : dcd mX10_init 86 = some (.dup, 1, 0, 0) := by decide +kernel
theorem xX10_init_87 : dcd mX10_init 87 = some (.aload 0, 1, 0, 0) := by decide +kernel
theorem xX10_init_88 : dcd mX10_init 88 = some (.getfield 19, 3, 0, 0) := by decide +kernel
theorem xX10_init_91 : dcd mX10_init 91 = some (.aload 0, 1, 0, 0) := by decide +kernel
theorem xX10_init_92 : dcd mX10_init 92 = some (.getfield 29, 3, 0, 0) := by decide +kernel
theorem xX10_init_95 : dcd mX10_init 95 = some (.invokespecial 53, 3, 0, 0) := by decide +kernel
theorem xX10_init_98 : dcd mX10_init 98 = some (.putfield 54, 3, 0, 0) := by decide +kernel
theorem xX10_init_101 : dcd mX10_init 101 = some (.aload 0, 1, 0, 0) := by decide +kernel
theorem xX10_init_102 : dcd mX10_init 102 = some (.new 58, 3, 0, 0) := by decide +kernel
theorem xX10_init_105 : dcd mX10_init 105 = some (.dup, 1, 0, 0) := by decide +kernel
theorem xX10_init_106 : dcd mX10_init 106 = some (.aload 0, 1, 0, 0) := by decide +kernel
theorem xX10_init_107 : dcd mX10_init 107 = some (.getfield 19, 3, 0, 0) := by decide +kernel
theorem xX10_init_110 : dcd mX10_init 110 = some (.aload 0, 1, 0, 0) := by decide +kernel
theorem xX10_init_111 : dcd mX10_init 111 = some (.getfield 29, 3, 0, 0) := by decide +kernel
theorem xX10_init_114 : dcd mX10_init 114 = some (.aload 0, 1, 0, 0) := by decide +kernel
theorem xX10_init_115 : dcd mX10_init 115 = some (.getfield 47, 3, 0, 0) := by decide +kernel
theorem xX10_init_118 : dcd mX10_init 118 = some (.invokespecial 60, 3, 0, 0) := by decide +kernel
theorem xX10_init_121 : dcd mX10_init 121 = some (.putfield 63, 3, 0, 0) := by decide +kernel
theorem xX10_init_124 : dcd mX10_init 124 = some (.aload 0, 1, 0, 0) := by decide +kernel
theorem xX10_init_125 : dcd mX10_init 125 = some (.new 67, 3, 0, 0) := by decide +kernel
theorem xX10_init_128 : dcd mX10_init 128 = some (.dup, 1, 0, 0) := by decide +kernel
theorem xX10_init_129 : dcd mX10_init 129 = some (.aload 0, 1, 0, 0) := by decide +kernel
theorem xX10_init_130 : dcd mX10_init 130 = some (.getfield 19, 3, 0, 0) := by decide +kernel
theorem xX10_init_133 : dcd mX10_init 133 = some (.aload 0, 1, 0, 0) := by decide +kernel
theorem xX10_init_134 : dcd mX10_init 134 = some (.getfield 29, 3, 0, 0) := by decide +kernel
theorem xX10_init_137 : dcd mX10_init 137 = some (.aload 0, 1, 0, 0) := by decide +kernel
theorem xX10_init_138 : dcd mX10_init 138 = some (.getfield 47, 3, 0, 0) := by decide +kernel
theorem xX10_init_141 : dcd mX10_init 141 = some (.invokespecial 69, 3, 0, 0) := by decide +kernel
theorem xX10_init_144 : dcd mX10_init 144 = some (.putfield 70, 3, 0, 0) := by decide +kernel
theorem xX10_init_147 : dcd mX10_init 147 = some (.aload 0, 1, 0, 0) := by decide +kernel
theorem xX10_init_148 : dcd mX10_init 148 = some (.new 74, 3, 0, 0) := by decide +kernel
theorem xX10_init_151 : dcd mX10_init 151 = some (.dup, 1, 0, 0) := by decide +kernel
theorem xX10_init_152 : dcd mX10_init 152 = some (.aload 0, 1, 0, 0) := by decide +kernel
theorem xX10_init_153 : dcd mX10_init 153 = some (.getfield 19, 3, 0, 0) := by decide +kernel
theorem xX10_init_156 : dcd mX10_init 156 = some (.invokespecial 76, 3, 0, 0) := by decide +kernel
theorem xX10_init_159 : dcd mX10_init 159 = some (.putfield 79, 3, 0, 0) := by decide +kernel
theorem xX10_init_162 : dcd mX10_init 162 = some (.aload 0, 1, 0, 0) := by decide +kernel
theorem xX10_init_163 : dcd mX10_init 163 = some (.new 83, 3, 0, 0) := by decide +kernel
theorem xX10_init_166 : dcd mX10_init 166 = some (.dup, 1, 0, 0) := by decide +kernel
theorem xX10_init_167 : dcd mX10_init 167 = some (.aload 0, 1, 0, 0) := by decide +kernel
theorem xX10_init_168 : dcd mX10_init 168 = some (.getfield 19, 3, 0, 0) := by decide +kernel
theorem xX10_init_171 : dcd mX10_init 171 = some (.aload 0, 1, 0, 0) := by decide +kernel
theorem xX10_init_172 : dcd mX10_init 172 = some (.getfield 47, 3, 0, 0) := by decide +kernel
theorem xX10_init_175 : dcd mX10_init 175 = some (.invokespecial 85, 3, 0, 0) := by decide +kernel
theorem xX10_init_178 : dcd mX10_init 178 = some (.putfield 88, 3, 0, 0) := by decide +kernel
theorem xX10_init_181 : dcd mX10_init 181 = some (.aload 0, 1, 0, 0) := by decide +kernel
theorem xX10_init_182 : dcd mX10_init 182 = some (.getfield 19, 3, 0, 0) := by decide +kernel
theorem xX10_init_185 : dcd mX10_init 185 = some (.iconst 0, 1, 0, (-1)) := by decide +kernel
theorem xX10_init_186 : dcd mX10_init 186 = some (.iconst 0, 1, 0, 0) := by decide +kernel
theorem xX10_init_187 : dcd mX10_init 187 = some (.invokevirtual 92, 3, 0, 0) := by decide +kernel
theorem xX10_init_190 : dcd mX10_init 190 = some (.pop, 1, 0, 0) := by decide +kernel
theorem xX10_init_191 : dcd mX10_init 191 = some (.aload 0, 1, 0, 0) := by decide +kernel
theorem xX10_init_192 : dcd mX10_init 192 = some (.getfield 19, 3, 0, 0) := by decide +kernel
theorem xX10_init_195 : dcd mX10_init 195 = some (.iconst 0, 1, 0, 1) := by decide +kernel
theorem xX10_init_196 : dcd mX10_init 196 = some (.putfield 96, 3, 0, 0) := by decide +kernel
theorem xX10_init_199 : dcd mX10_init 199 = some (.return_, 1, 0, 0) := by decide +kernel
theorem xX10_rod_0 : dcd mX10_rod 0 = some (.aload 0, 1, 0, 0) := by decide +kernel
theorem xX10_rod_1 : dcd mX10_rod 1 = some (.getfield 19, 3, 0, 0) := by decide +kernel
theorem xX10_rod_4 : dcd mX10_rod 4 = some (.iload 1, 1, 0, 0) := by decide +kernel
theorem xX10_rod_5 : dcd mX10_rod 5 = some (.invokevirtual 100, 3, 0, 0) := by decide +kernel
theorem xX10_rod_8 : dcd mX10_rod 8 = some (.ifCond .eq 0, 3, 30, 0) := by decide +kernel
theorem xX10_rod_11 : dcd mX10_rod 11 = some (.iload 2, 1, 0, 0) := by decide +kernel
theorem xX10_rod_12 : dcd mX10_rod 12 = some (.invokestatic 104, 3, 0, 0) := by decide +kernel
theorem xX10_rod_15 : dcd mX10_rod 15 = some (.ifCond .eq 0, 3, 30, 0) := by decide +kernel
theorem xX10_rod_18 : dcd mX10_rod 18 = some (.aload 0, 1, 0, 0) := by decide +kernel
theorem xX10_rod_19 : dcd mX10_rod 19 = some (.getfield 19, 3, 0, 0) := by decide +kernel
theorem xX10_rod_22 : dcd mX10_rod 22 = some (.getfield 107, 3, 0, 0) := by decide +kernel
theorem xX10_rod_25 : dcd mX10_rod 25 = some (.iconst 0, 2, 0, 10) := by decide +kernel
theorem xX10_rod_27 : dcd mX10_rod 27 = some (.if_icmp .lt 0, 3, 32, 0) := by decide +kernel
theorem xX10_rod_30 : dcd mX10_rod 30 = some (.iconst 0, 1, 0, (-1)) := by decide +kernel
theorem xX10_rod_31 : dcd mX10_rod 31 = some (.ireturn, 1, 0, 0) := by decide +kernel
theorem xX10_rod_32 : dcd mX10_rod 32 = some (.aload 0, 1, 0, 0) := by decide +kernel
theorem xX10_rod_33 : dcd mX10_rod 33 = some (.getfield 19, 3, 0, 0) := by decide +kernel
theorem xX10_rod_36 : dcd mX10_rod 36 = some (.iload 1, 1, 0, 0) := by decide +kernel
theorem xX10_rod_37 : dcd mX10_rod 37 = some (.iload 2, 1, 0, 0) := by decide +kernel
theorem xX10_rod_38 : dcd mX10_rod 38 = some (.invokevirtual 92, 3, 0, 0) := by decide +kernel
theorem xX10_rod_41 : dcd mX10_rod 41 = some (.ireturn, 1, 0, 0) := by decide +kernel
theorem xX10_stiff_0 : dcd mX10_stiff 0 = some (.aload 0, 1, 0, 0) := by decide +kernel
theorem xX10_stiff_1 : dcd mX10_stiff 1 = some (.getfield 19, 3, 0, 0) := by decide +kernel
theorem xX10_stiff_4 : dcd mX10_stiff 4 = some (.iload 1, 1, 0, 0) := by decide +kernel
theorem xX10_stiff_5 : dcd mX10_stiff 5 = some (.invokevirtual 100, 3, 0, 0) := by decide +kernel
theorem xX10_stiff_8 : dcd mX10_stiff 8 = some (.ifCond .eq 0, 3, 22, 0) := by decide +kernel
theorem xX10_stiff_11 : dcd mX10_stiff 11 = some (.iconst 0, 1, 0, 1) := by decide +kernel
theorem xX10_stiff_12 : dcd mX10_stiff 12 = some (.iload 2, 1, 0, 0) := by decide +kernel
theorem xX10_stiff_13 : dcd mX10_stiff 13 = some (.iconst 0, 3, 0, 999) := by decide +kernel
theorem xX10_stiff_16 : dcd mX10_stiff 16 = some (.invokestatic 110, 3, 0, 0) := by decide +kernel
theorem xX10_stiff_19 : dcd mX10_stiff 19 = some (.ifCond .ne 0, 3, 24, 0) := by decide +kernel
theorem xX10_stiff_22 : dcd mX10_stiff 22 = some (.iconst 0, 1, 0, 0) := by decide +kernel
theorem xX10_stiff_23 : dcd mX10_stiff 23 = some (.ireturn, 1, 0, 0) := by decide +kernel
theorem xX10_stiff_24 : dcd mX10_stiff 24 = some (.aload 0, 1, 0, 0) := by decide +kernel
theorem xX10_stiff_25 : dcd mX10_stiff 25 = some (.getfield 19, 3, 0, 0) := by decide +kernel
theorem xX10_stiff_28 : dcd mX10_stiff 28 = some (.getfield 114, 3, 0, 0) := by decide +kernel
theorem xX10_stiff_31 : dcd mX10_stiff 31 = some (.iload 1, 1, 0, 0) := by decide +kernel
theorem xX10_stiff_32 : dcd mX10_stiff 32 = some (.iload 2, 1, 0, 0) := by decide +kernel
theorem xX10_stiff_33 : dcd mX10_stiff 33 = some (.iastore, 1, 0, 0) := by decide +kernel
theorem xX10_stiff_34 : dcd mX10_stiff 34 = some (.iconst 0, 1, 0, 1) := by decide +kernel
theorem xX10_stiff_35 : dcd mX10_stiff 35 = some (.ireturn, 1, 0, 0) := by decide +kernel
theorem xX10_seen_0 : dcd mX10_seen 0 = some (.aload 0, 1, 0, 0) := by decide +kernel
theorem xX10_seen_1 : dcd mX10_seen 1 = some (.getfield 19, 3, 0, 0) := by decide +kernel
theorem xX10_seen_4 : dcd mX10_seen 4 = some (.iload 1, 1, 0, 0) := by decide +kernel
theorem xX10_seen_5 : dcd mX10_seen 5 = some (.invokevirtual 100, 3, 0, 0) := by decide +kernel
theorem xX10_seen_8 : dcd mX10_seen 8 = some (.ifCond .eq 0, 3, 24, 0) := by decide +kernel
theorem xX10_seen_11 : dcd mX10_seen 11 = some (.aload 0, 1, 0, 0) := by decide +kernel
theorem xX10_seen_12 : dcd mX10_seen 12 = some (.getfield 19, 3, 0, 0) := by decide +kernel
theorem xX10_seen_15 : dcd mX10_seen 15 = some (.getfield 118, 3, 0, 0) := by decide +kernel
theorem xX10_seen_18 : dcd mX10_seen 18 = some (.iload 1, 1, 0, 0) := by decide +kernel
theorem xX10_seen_19 : dcd mX10_seen 19 = some (.baload, 1, 0, 0) := by decide +kernel
theorem xX10_seen_20 : dcd mX10_seen 20 = some (.iload 2, 1, 0, 0) := by decide +kernel
theorem xX10_seen_21 : dcd mX10_seen 21 = some (.if_icmp .ne 0, 3, 26, 0) := by decide +kernel
theorem xX10_seen_24 : dcd mX10_seen 24 = some (.iconst 0, 1, 0, 0) := by decide +kernel
theorem xX10_seen_25 : dcd mX10_seen 25 = some (.ireturn, 1, 0, 0) := by decide +kernel
theorem xX10_seen_26 : dcd mX10_seen 26 = some (.aload 0, 1, 0, 0) := by decide +kernel
theorem xX10_seen_27 : dcd mX10_seen 27 = some (.getfield 19, 3, 0, 0) := by decide +kernel
theorem xX10_seen_30 : dcd mX10_seen 30 = some (.getfield 118, 3, 0, 0) := by decide +kernel
theorem xX10_seen_33 : dcd mX10_seen 33 = some (.iload 1, 1, 0, 0) := by decide +kernel
theorem xX10_seen_34 : dcd mX10_seen 34 = some (.iload 2, 1, 0, 0) := by decide +kernel
theorem xX10_seen_35 : dcd mX10_seen 35 = some (.bastore, 1, 0, 0) := by decide +kernel
theorem xX10_seen_36 : dcd mX10_seen 36 = some (.iconst 0, 1, 0, 1) := by decide +kernel
theorem xX10_seen_37 : dcd mX10_seen 37 = some (.ireturn, 1, 0, 0) := by decide +kernel
theorem xX10_wet_0 : dcd mX10_wet 0 = some (.aload 0, 1, 0, 0) := by decide +kernel
theorem xX10_wet_1 : dcd mX10_wet 1 = some (.getfield 19, 3, 0, 0) := by decide +kernel
theorem xX10_wet_4 : dcd mX10_wet 4 = some (.iload 1, 1, 0, 0) := by decide +kernel
theorem xX10_wet_5 : dcd mX10_wet 5 = some (.invokevirtual 100, 3, 0, 0) := by decide +kernel
theorem xX10_wet_8 : dcd mX10_wet 8 = some (.ifCond .eq 0, 3, 24, 0) := by decide +kernel
theorem xX10_wet_11 : dcd mX10_wet 11 = some (.aload 0, 1, 0, 0) := by decide +kernel
theorem xX10_wet_12 : dcd mX10_wet 12 = some (.getfield 19, 3, 0, 0) := by decide +kernel
theorem xX10_wet_15 : dcd mX10_wet 15 = some (.getfield 122, 3, 0, 0) := by decide +kernel
theorem xX10_wet_18 : dcd mX10_wet 18 = some (.iload 1, 1, 0, 0) := by decide +kernel
theorem xX10_wet_19 : dcd mX10_wet 19 = some (.baload, 1, 0, 0) := by decide +kernel
theorem xX10_wet_20 : dcd mX10_wet 20 = some (.iload 2, 1, 0, 0) := by decide +kernel
theorem xX10_wet_21 : dcd mX10_wet 21 = some (.if_icmp .ne 0, 3, 26, 0) := by decide +kernel
theorem xX10_wet_24 : dcd mX10_wet 24 = some (.iconst 0, 1, 0, 0) := by decide +kernel
theorem xX10_wet_25 : dcd mX10_wet 25 = some (.ireturn, 1, 0, 0) := by decide +kernel
theorem xX10_wet_26 : dcd mX10_wet 26 = some (.aload 0, 1, 0, 0) := by decide +kernel
theorem xX10_wet_27 : dcd mX10_wet 27 = some (.getfield 19, 3, 0, 0) := by decide +kernel
theorem xX10_wet_30 : dcd mX10_wet 30 = some (.getfield 122, 3, 0, 0) := by decide +kernel
theorem xX10_wet_33 : dcd mX10_wet 33 = some (.iload 1, 1, 0, 0) := by decide +kernel
theorem xX10_wet_34 : dcd mX10_wet 34 = some (.iload 2, 1, 0, 0) := by decide +kernel
theorem xX10_wet_35 : dcd mX10_wet 35 = some (.bastore, 1, 0, 0) := by decide +kernel
theorem xX10_wet_36 : dcd mX10_wet 36 = some (.iconst 0, 1, 0, 1) := by decide +kernel
theorem xX10_wet_37 : dcd mX10_wet 37 = some (.ireturn, 1, 0, 0) := by decide +kernel
theorem xX10_white_0 : dcd mX10_white 0 = some (.aload 0, 1, 0, 0) := by decide +kernel
theorem xX10_white_1 : dcd mX10_white 1 = some (.iload 1, 1, 0, 0) := by decide +kernel
theorem xX10_white_2 : dcd mX10_white 2 = some (.iload 2, 1, 0, 0) := by decide +kernel
theorem xX10_white_3 : dcd mX10_white 3 = some (.iload 3, 1, 0, 0) := by decide +kernel
theorem xX10_white_4 : dcd mX10_white 4 = some (.iload 4, 2, 0, 0) := by decide +kernel
theorem xX10_white_6 : dcd mX10_white 6 = some (.invokevirtual 125, 3, 0, 0) := by decide +kernel
theorem xX10_white_9 : dcd mX10_white 9 = some (.ifCond .ne 0, 3, 14, 0) := by decide +kernel
theorem xX10_white_12 : dcd mX10_white 12 = some (.iconst 0, 1, 0, (-1)) := by decide +kernel
theorem xX10_white_13 : dcd mX10_white 13 = some (.ireturn, 1, 0, 0) := by decide +kernel
theorem xX10_white_14 : dcd mX10_white 14 = some (.aload 0, 1, 0, 0) := by decide +kernel
theorem xX10_white_15 : dcd mX10_white 15 = some (.getfield 19, 3, 0, 0) := by decide +kernel
theorem xX10_white_18 : dcd mX10_white 18 = some (.iload 1, 1, 0, 0) := by decide +kernel
theorem xX10_white_19 : dcd mX10_white 19 = some (.iload 2, 1, 0, 0) := by decide +kernel
theorem xX10_white_20 : dcd mX10_white 20 = some (.iload 3, 1, 0, 0) := by decide +kernel
theorem xX10_white_21 : dcd mX10_white 21 = some (.iconst 0, 1, 0, 0) := by decide +kernel
theorem xX10_white_22 : dcd mX10_white 22 = some (.iload 4, 2, 0, 0) := by decide +kernel
theorem xX10_white_24 : dcd mX10_white 24 = some (.iconst 0, 1, 0, (-1)) := by decide +kernel
theorem xX10_white_25 : dcd mX10_white 25 = some (.invokevirtual 129, 3, 0, 0) := by decide +kernel
theorem xX10_white_28 : dcd mX10_white 28 = some (.ireturn, 1, 0, 0) := by decide +kernel
theorem xX10_red_0 : dcd mX10_red 0 = some (.aload 0, 1, 0, 0) := by decide +kernel
theorem xX10_red_1 : dcd mX10_red 1 = some (.iload 1, 1, 0, 0) := by decide +kernel
theorem xX10_red_2 : dcd mX10_red 2 = some (.iload 2, 1, 0, 0) := by decide +kernel
theorem xX10_red_3 : dcd mX10_red 3 = some (.iload 3, 1, 0, 0) := by decide +kernel
theorem xX10_red_4 : dcd mX10_red 4 = some (.iload 4, 2, 0, 0) := by decide +kernel
theorem xX10_red_6 : dcd mX10_red 6 = some (.invokevirtual 125, 3, 0, 0) := by decide +kernel
theorem xX10_red_9 : dcd mX10_red 9 = some (.ifCond .eq 0, 3, 22, 0) := by decide +kernel
theorem xX10_red_12 : dcd mX10_red 12 = some (.iload 4, 2, 0, 0) := by decide +kernel
theorem xX10_red_14 : dcd mX10_red 14 = some (.iload 5, 2, 0, 0) := by decide +kernel
theorem xX10_red_16 : dcd mX10_red 16 = some (.invokestatic 133, 3, 0, 0) := by decide +kernel
theorem xX10_red_19 : dcd mX10_red 19 = some (.ifCond .ne 0, 3, 24, 0) := by decide +kernel
theorem xX10_red_22 : dcd mX10_red 22 = some (.iconst 0, 1, 0, (-1)) := by decide +kernel
theorem xX10_red_23 : dcd mX10_red 23 = some (.ireturn, 1, 0, 0) := by decide +kernel
theorem xX10_red_24 : dcd mX10_red 24 = some (.aload 0, 1, 0, 0) := by decide +kernel
theorem xX10_red_25 : dcd mX10_red 25 = some (.getfield 19, 3, 0, 0) := by decide +kernel
theorem xX10_red_28 : dcd mX10_red 28 = some (.iload 1, 1, 0, 0) := by decide +kernel
theorem xX10_red_29 : dcd mX10_red 29 = some (.iload 2, 1, 0, 0) := by decide +kernel
theorem xX10_red_30 : dcd mX10_red 30 = some (.iload 3, 1, 0, 0) := by decide +kernel
theorem xX10_red_31 : dcd mX10_red 31 = some (.iconst 0, 1, 0, 1) := by decide +kernel
theorem xX10_red_32 : dcd mX10_red 32 = some (.iload 4, 2, 0, 0) := by decide +kernel
theorem xX10_red_34 : dcd mX10_red 34 = some (.iload 5, 2, 0, 0) := by decide +kernel
theorem xX10_red_36 : dcd mX10_red 36 = some (.invokevirtual 129, 3, 0, 0) := by decide +kernel
theorem xX10_red_39 : dcd mX10_red 39 = some (.ireturn, 1, 0, 0) := by decide +kernel
theorem xX10_wind_0 : dcd mX10_wind 0 = some (.iload 1, 1, 0, 0) := by decide +kernel
theorem xX10_wind_1 : dcd mX10_wind 1 = some (.invokestatic 104, 3, 0, 0) := by decide +kernel
theorem xX10_wind_4 : dcd mX10_wind 4 = some (.ifCond .ne 0, 3, 9, 0) := by decide +kernel
theorem xX10_wind_7 : dcd mX10_wind 7 = some (.iconst 0, 1, 0, 0) := by decide +kernel
theorem xX10_wind_8 : dcd mX10_wind 8 = some (.ireturn, 1, 0, 0) := by decide +kernel
theorem xX10_wind_9 : dcd mX10_wind 9 = some (.aload 0, 1, 0, 0) := by decide +kernel
theorem xX10_wind_10 : dcd mX10_wind 10 = some (.getfield 19, 3, 0, 0) := by decide +kernel
theorem xX10_wind_13 : dcd mX10_wind 13 = some (.iload 1, 1, 0, 0) := by decide +kernel
theorem xX10_wind_14 : dcd mX10_wind 14 = some (.putfield 137, 3, 0, 0) := by decide +kernel
theorem xX10_wind_17 : dcd mX10_wind 17 = some (.iconst 0, 1, 0, 1) := by decide +kernel
theorem xX10_wind_18 : dcd mX10_wind 18 = some (.ireturn, 1, 0, 0) := by decide +kernel
theorem xX10_feed_0 : dcd mX10_feed 0 = some (.aload 0, 1, 0, 0) := by decide +kernel
theorem xX10_feed_1 : dcd mX10_feed 1 = some (.getfield 10, 3, 0, 0) := by decide +kernel
theorem xX10_feed_4 : dcd mX10_feed 4 = some (.invokevirtual 140, 3, 0, 0) := by decide +kernel
theorem xX10_feed_7 : dcd mX10_feed 7 = some (.ifCond .ne 0, 3, 12, 0) := by decide +kernel
theorem xX10_feed_10 : dcd mX10_feed 10 = some (.iconst 0, 1, 0, (-1)) := by decide +kernel
theorem xX10_feed_11 : dcd mX10_feed 11 = some (.ireturn, 1, 0, 0) := by decide +kernel
theorem xX10_feed_12 : dcd mX10_feed 12 = some (.aload 0, 1, 0, 0) := by decide +kernel
theorem xX10_feed_13 : dcd mX10_feed 13 = some (.getfield 10, 3, 0, 0) := by decide +kernel
theorem xX10_feed_16 : dcd mX10_feed 16 = some (.iload 1, 1, 0, 0) := by decide +kernel
theorem xX10_feed_17 : dcd mX10_feed 17 = some (.invokevirtual 144, 3, 0, 0) := by decide +kernel
theorem xX10_feed_20 : dcd mX10_feed 20 = some (.aload 0, 1, 0, 0) := by decide +kernel
theorem xX10_feed_21 : dcd mX10_feed 21 = some (.getfield 10, 3, 0, 0) := by decide +kernel
theorem xX10_feed_24 : dcd mX10_feed 24 = some (.iload 2, 1, 0, 0) := by decide +kernel
theorem xX10_feed_25 : dcd mX10_feed 25 = some (.invokevirtual 144, 3, 0, 0) := by decide +kernel
theorem xX10_feed_28 : dcd mX10_feed 28 = some (.aload 0, 1, 0, 0) := by decide +kernel
theorem xX10_feed_29 : dcd mX10_feed 29 = some (.getfield 10, 3, 0, 0) := by decide +kernel
theorem xX10_feed_32 : dcd mX10_feed 32 = some (.iload 3, 1, 0, 0) := by decide +kernel
theorem xX10_feed_33 : dcd mX10_feed 33 = some (.invokevirtual 144, 3, 0, 0) := by decide +kernel
theorem xX10_feed_36 : dcd mX10_feed 36 = some (.aload 0, 1, 0, 0) := by decide +kernel
theorem xX10_feed_37 : dcd mX10_feed 37 = some (.getfield 10, 3, 0, 0) := by decide +kernel
theorem xX10_feed_40 : dcd mX10_feed 40 = some (.iload 4, 2, 0, 0) := by decide +kernel
theorem xX10_feed_42 : dcd mX10_feed 42 = some (.invokevirtual 144, 3, 0, 0) := by decide +kernel
theorem xX10_feed_45 : dcd mX10_feed 45 = some (.aload 0, 1, 0, 0) := by decide +kernel
theorem xX10_feed_46 : dcd mX10_feed 46 = some (.getfield 10, 3, 0, 0) := by decide +kernel
theorem xX10_feed_49 : dcd mX10_feed 49 = some (.iload 5, 2, 0, 0) := by decide +kernel
theorem xX10_feed_51 : dcd mX10_feed 51 = some (.invokevirtual 144, 3, 0, 0) := by decide +kernel
theorem xX10_feed_54 : dcd mX10_feed 54 = some (.aload 0, 1, 0, 0) := by decide +kernel
theorem xX10_feed_55 : dcd mX10_feed 55 = some (.getfield 10, 3, 0, 0) := by decide +kernel
theorem xX10_feed_58 : dcd mX10_feed 58 = some (.getfield 148, 3, 0, 0) := by decide +kernel
theorem xX10_feed_61 : dcd mX10_feed 61 = some (.ireturn, 1, 0, 0) := by decide +kernel
theorem xX10_law_0 : dcd mX10_law 0 = some (.iconst 0, 1, 0, 1) := by decide +kernel
theorem xX10_law_1 : dcd mX10_law 1 = some (.iload 1, 1, 0, 0) := by decide +kernel
theorem xX10_law_2 : dcd mX10_law 2 = some (.iconst 0, 3, 0, 200) := by decide +kernel
theorem xX10_law_5 : dcd mX10_law 5 = some (.invokestatic 110, 3, 0, 0) := by decide +kernel
theorem xX10_law_8 : dcd mX10_law 8 = some (.ifCond .eq 0, 3, 22, 0) := by decide +kernel
theorem xX10_law_11 : dcd mX10_law 11 = some (.aload 0, 1, 0, 0) := by decide +kernel
theorem xX10_law_12 : dcd mX10_law 12 = some (.getfield 10, 3, 0, 0) := by decide +kernel
theorem xX10_law_15 : dcd mX10_law 15 = some (.getfield 148, 3, 0, 0) := by decide +kernel
theorem xX10_law_18 : dcd mX10_law 18 = some (.iload 1, 1, 0, 0) := by decide +kernel
theorem xX10_law_19 : dcd mX10_law 19 = some (.if_icmp .ge 0, 3, 24, 0) := by decide +kernel
theorem xX10_law_22 : dcd mX10_law 22 = some (.iconst 0, 1, 0, (-1)) := by decide +kernel
theorem xX10_law_23 : dcd mX10_law 23 = some (.ireturn, 1, 0, 0) := by decide +kernel
theorem xX10_law_24 : dcd mX10_law 24 = some (.aload 0, 1, 0, 0) := by decide +kernel
theorem xX10_law_25 : dcd mX10_law 25 = some (.getfield 38, 3, 0, 0) := by decide +kernel
theorem xX10_law_28 : dcd mX10_law 28 = some (.iload 1, 1, 0, 0) := by decide +kernel
theorem xX10_law_29 : dcd mX10_law 29 = some (.invokevirtual 151, 3, 0, 0) := by decide +kernel
theorem xX10_law_32 : dcd mX10_law 32 = some (.istore 2, 1, 0, 0) := by decide +kernel
theorem xX10_law_33 : dcd mX10_law 33 = some (.aload 0, 1, 0, 0) := by decide +kernel
theorem xX10_law_34 : dcd mX10_law 34 = some (.getfield 10, 3, 0, 0) := by decide +kernel
theorem xX10_law_37 : dcd mX10_law 37 = some (.invokevirtual 155, 3, 0, 0) := by decide +kernel
theorem xX10_law_40 : dcd mX10_law 40 = some (.iload 2, 1, 0, 0) := by decide +kernel
theorem xX10_law_41 : dcd mX10_law 41 = some (.ifCond .eq 0, 3, 46, 0) := by decide +kernel
theorem xX10_law_44 : dcd mX10_law 44 = some (.iload 2, 1, 0, 0) := by decide +kernel
theorem xX10_law_45 : dcd mX10_law 45 = some (.ireturn, 1, 0, 0) := by decide +kernel
theorem xX10_law_46 : dcd mX10_law 46 = some (.aload 0, 1, 0, 0) := by decide +kernel
theorem xX10_law_47 : dcd mX10_law 47 = some (.getfield 29, 3, 0, 0) := by decide +kernel
theorem xX10_law_50 : dcd mX10_law 50 = some (.aload 0, 1, 0, 0) := by decide +kernel
theorem xX10_law_51 : dcd mX10_law 51 = some (.getfield 38, 3, 0, 0) := by decide +kernel
theorem xX10_law_54 : dcd mX10_law 54 = some (.getfield 158, 3, 0, 0) := by decide +kernel
theorem xX10_law_57 : dcd mX10_law 57 = some (.invokevirtual 161, 3, 0, 0) := by decide +kernel
theorem xX10_law_60 : dcd mX10_law 60 = some (.aload 0, 1, 0, 0) := by decide +kernel
theorem xX10_law_61 : dcd mX10_law 61 = some (.getfield 29, 3, 0, 0) := by decide +kernel
theorem xX10_law_64 : dcd mX10_law 64 = some (.getfield 165, 3, 0, 0) := by decide +kernel
theorem xX10_law_67 : dcd mX10_law 67 = some (.ireturn, 1, 0, 0) := by decide +kernel
theorem xX10_rodIs_0 : dcd mX10_rodIs 0 = some (.aload 0, 1, 0, 0) := by decide +kernel
theorem xX10_rodIs_1 : dcd mX10_rodIs 1 = some (.getfield 19, 3, 0, 0) := by decide +kernel
theorem xX10_rodIs_4 : dcd mX10_rodIs 4 = some (.iload 1, 1, 0, 0) := by decide +kernel
theorem xX10_rodIs_5 : dcd mX10_rodIs 5 = some (.invokevirtual 100, 3, 0, 0) := by decide +kernel
theorem xX10_rodIs_8 : dcd mX10_rodIs 8 = some (.ifCond .eq 0, 3, 21, 0) := by decide +kernel
theorem xX10_rodIs_11 : dcd mX10_rodIs 11 = some (.iconst 0, 1, 0, 0) := by decide +kernel
theorem xX10_rodIs_12 : dcd mX10_rodIs 12 = some (.iload 2, 1, 0, 0) := by decide +kernel
theorem xX10_rodIs_13 : dcd mX10_rodIs 13 = some (.iconst 0, 2, 0, 7) := by decide +kernel
theorem xX10_rodIs_15 : dcd mX10_rodIs 15 = some (.invokestatic 110, 3, 0, 0) := by decide +kernel
theorem xX10_rodIs_18 : dcd mX10_rodIs 18 = some (.ifCond .ne 0, 3, 24, 0) := by decide +kernel
theorem xX10_rodIs_21 : dcd mX10_rodIs 21 = some (.ldc 168, 2, 0, 0) := by decide +kernel
theorem xX10_rodIs_23 : dcd mX10_rodIs 23 = some (.ireturn, 1, 0, 0) := by decide +kernel
theorem xX10_rodIs_24 : dcd mX10_rodIs 24 = some (.iload 2, 1, 0, 0) := by decide +kernel
theorem xX10_rodIs_25 : dcd mX10_rodIs 25 = some (.iconst 0, 1, 0, 2) := by decide +kernel
theorem xX10_rodIs_26 : dcd mX10_rodIs 26 = some (.if_icmp .gt 0, 3, 43, 0) := by decide +kernel
theorem xX10_rodIs_29 : dcd mX10_rodIs 29 = some (.aload 0, 1, 0, 0) := by decide +kernel
theorem xX10_rodIs_30 : dcd mX10_rodIs 30 = some (.getfield 47, 3, 0, 0) := by decide +kernel
theorem xX10_rodIs_33 : dcd mX10_rodIs 33 = some (.aload 0, 1, 0, 0) := by decide +kernel
theorem xX10_rodIs_34 : dcd mX10_rodIs 34 = some (.getfield 19, 3, 0, 0) := by decide +kernel
theorem xX10_rodIs_37 : dcd mX10_rodIs 37 = some (.getfield 137, 3, 0, 0) := by decide +kernel
theorem xX10_rodIs_40 : dcd mX10_rodIs 40 = some (.invokevirtual 169, 3, 0, 0) := by decide +kernel
theorem xX10_rodIs_43 : dcd mX10_rodIs 43 = some (.iload 2, 1, 0, 0) := by decide +kernel
theorem xX10_rodIs_44 : dcd mX10_rodIs 44 = some (.tableswitch 121 0 6 #[44, 54, 64, 73, 83, 93, 103], 44, 0, 0) := by decide +kernel
theorem xX10_rodIs_88 : dcd mX10_rodIs 88 = some (.aload 0, 1, 0, 0) := by decide +kernel
theorem xX10_rodIs_89 : dcd mX10_rodIs 89 = some (.getfield 47, 3, 0, 0) := by decide +kernel
theorem xX10_rodIs_92 : dcd mX10_rodIs 92 = some (.getfield 172, 3, 0, 0) := by decide +kernel
theorem xX10_rodIs_95 : dcd mX10_rodIs 95 = some (.iload 1, 1, 0, 0) := by decide +kernel
theorem xX10_rodIs_96 : dcd mX10_rodIs 96 = some (.iaload, 1, 0, 0) := by decide +kernel
theorem xX10_rodIs_97 : dcd mX10_rodIs 97 = some (.ireturn, 1, 0, 0) := by decide +kernel
theorem xX10_rodIs_98 : dcd mX10_rodIs 98 = some (.aload 0, 1, 0, 0) := by decide +kernel
theorem xX10_rodIs_99 : dcd mX10_rodIs 99 = some (.getfield 47, 3, 0, 0) := by decide +kernel
theorem xX10_rodIs_102 : dcd mX10_rodIs 102 = some (.getfield 175, 3, 0, 0) := by decide +kernel
theorem xX10_rodIs_105 : dcd mX10_rodIs 105 = some (.iload 1, 1, 0, 0) := by decide +kernel
theorem xX10_rodIs_106 : dcd mX10_rodIs 106 = some (.iaload, 1, 0, 0) := by decide +kernel
theorem xX10_rodIs_107 : dcd mX10_rodIs 107 = some (.ireturn, 1, 0, 0) := by decide +kernel
theorem xX10_rodIs_108 : dcd mX10_rodIs 108 = some (.aload 0, 1, 0, 0) := by decide +kernel
theorem xX10_rodIs_109 : dcd mX10_rodIs 109 = some (.getfield 47, 3, 0, 0) := by decide +kernel
theorem xX10_rodIs_112 : dcd mX10_rodIs 112 = some (.iload 1, 1, 0, 0) := by decide +kernel
theorem xX10_rodIs_113 : dcd mX10_rodIs 113 = some (.invokevirtual 178, 3, 0, 0) := by decide +kernel
theorem xX10_rodIs_116 : dcd mX10_rodIs 116 = some (.ireturn, 1, 0, 0) := by decide +kernel
theorem xX10_rodIs_117 : dcd mX10_rodIs 117 = some (.aload 0, 1, 0, 0) := by decide +kernel
theorem xX10_rodIs_118 : dcd mX10_rodIs 118 = some (.getfield 19, 3, 0, 0) := by decide +kernel
theorem xX10_rodIs_121 : dcd mX10_rodIs 121 = some (.getfield 181, 3, 0, 0) := by decide +kernel
theorem xX10_rodIs_124 : dcd mX10_rodIs 124 = some (.iload 1, 1, 0, 0) := by decide +kernel
theorem xX10_rodIs_125 : dcd mX10_rodIs 125 = some (.iaload, 1, 0, 0) := by decide +kernel
theorem xX10_rodIs_126 : dcd mX10_rodIs 126 = some (.ireturn, 1, 0, 0) := by decide +kernel
theorem xX10_rodIs_127 : dcd mX10_rodIs 127 = some (.aload 0, 1, 0, 0) := by decide +kernel
theorem xX10_rodIs_128 : dcd mX10_rodIs 128 = some (.getfield 19, 3, 0, 0) := by decide +kernel
theorem xX10_rodIs_131 : dcd mX10_rodIs 131 = some (.getfield 184, 3, 0, 0) := by decide +kernel
theorem xX10_rodIs_134 : dcd mX10_rodIs 134 = some (.iload 1, 1, 0, 0) := by decide +kernel
theorem xX10_rodIs_135 : dcd mX10_rodIs 135 = some (.iaload, 1, 0, 0) := by decide +kernel
theorem xX10_rodIs_136 : dcd mX10_rodIs 136 = some (.ireturn, 1, 0, 0) := by decide +kernel
theorem xX10_rodIs_137 : dcd mX10_rodIs 137 = some (.aload 0, 1, 0, 0) := by decide +kernel
theorem xX10_rodIs_138 : dcd mX10_rodIs 138 = some (.getfield 19, 3, 0, 0) := by decide +kernel
theorem xX10_rodIs_141 : dcd mX10_rodIs 141 = some (.getfield 114, 3, 0, 0) := by decide +kernel
theorem xX10_rodIs_144 : dcd mX10_rodIs 144 = some (.iload 1, 1, 0, 0) := by decide +kernel
theorem xX10_rodIs_145 : dcd mX10_rodIs 145 = some (.iaload, 1, 0, 0) := by decide +kernel
theorem xX10_rodIs_146 : dcd mX10_rodIs 146 = some (.ireturn, 1, 0, 0) := by decide +kernel
theorem xX10_rodIs_147 : dcd mX10_rodIs 147 = some (.aload 0, 1, 0, 0) := by decide +kernel
theorem xX10_rodIs_148 : dcd mX10_rodIs 148 = some (.getfield 19, 3, 0, 0) := by decide +kernel
theorem xX10_rodIs_151 : dcd mX10_rodIs 151 = some (.getfield 118, 3, 0, 0) := by decide +kernel
theorem xX10_rodIs_154 : dcd mX10_rodIs 154 = some (.iload 1, 1, 0, 0) := by decide +kernel
theorem xX10_rodIs_155 : dcd mX10_rodIs 155 = some (.baload, 1, 0, 0) := by decide +kernel
theorem xX10_rodIs_156 : dcd mX10_rodIs 156 = some (.ifCond .eq 0, 3, 163, 0) := by decide +kernel
theorem xX10_rodIs_159 : dcd mX10_rodIs 159 = some (.iconst 0, 1, 0, 1) := by decide +kernel
theorem xX10_rodIs_160 : dcd mX10_rodIs 160 = some (.goto 0, 3, 164, 0) := by decide +kernel
theorem xX10_rodIs_163 : dcd mX10_rodIs 163 = some (.iconst 0, 1, 0, 0) := by decide +kernel
theorem xX10_rodIs_164 : dcd mX10_rodIs 164 = some (.ireturn, 1, 0, 0) := by decide +kernel
theorem xX10_rodIs_165 : dcd mX10_rodIs 165 = some (.aload 0, 1, 0, 0) := by decide +kernel
theorem xX10_rodIs_166 : dcd mX10_rodIs 166 = some (.getfield 19, 3, 0, 0) := by decide +kernel
theorem xX10_rodIs_169 : dcd mX10_rodIs 169 = some (.getfield 122, 3, 0, 0) := by decide +kernel
theorem xX10_rodIs_172 : dcd mX10_rodIs 172 = some (.iload 1, 1, 0, 0) := by decide +kernel
theorem xX10_rodIs_173 : dcd mX10_rodIs 173 = some (.baload, 1, 0, 0) := by decide +kernel
theorem xX10_rodIs_174 : dcd mX10_rodIs 174 = some (.ifCond .eq 0, 3, 181, 0) := by decide +kernel
theorem xX10_rodIs_177 : dcd mX10_rodIs 177 = some (.iconst 0, 1, 0, 1) := by decide +kernel
theorem xX10_rodIs_178 : dcd mX10_rodIs 178 = some (.goto 0, 3, 182, 0) := by decide +kernel
theorem xX10_rodIs_181 : dcd mX10_rodIs 181 = some (.iconst 0, 1, 0, 0) := by decide +kernel
theorem xX10_rodIs_182 : dcd mX10_rodIs 182 = some (.ireturn, 1, 0, 0) := by decide +kernel
