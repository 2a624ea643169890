theorem xX0_init_0 : dcd mX0_init 0 = some (.aload 0, 1, 0, 0) := by decide +kernel
theorem xX0_init_1 : dcd mX0_init 1 = some (.invokespecial 3, 3, 0, 0) := by decide +kernel
theorem xX0_init_4 : dcd mX0_init 4 = some (.aload 0, 1, 0, 0) := by decide +kernel
theorem xX0_init_5 : dcd mX0_init 5 = some (.iconst 0, 2, 0, 8) := by decide +kernel
theorem xX0_init_7 : dcd mX0_init 7 = some (.iconst 0, 2, 0, 8) := by decide +kernel
theorem xX0_init_9 : dcd mX0_init 9 = some (.multianewarray 9 2, 4, 0, 0) := by decide +kernel
theorem xX0_init_13 : dcd mX0_init 13 = some (.putfield 11, 3, 0, 0) := by decide +kernel
theorem xX0_init_16 : dcd mX0_init 16 = some (.aload 0, 1, 0, 0) := by decide +kernel
theorem xX0_init_17 : dcd mX0_init 17 = some (.iconst 0, 2, 0, 8) := by decide +kernel
theorem xX0_init_19 : dcd mX0_init 19 = some (.newarray .int, 2, 0, 0) := by decide +kernel
theorem xX0_init_21 : dcd mX0_init 21 = some (.putfield 16, 3, 0, 0) := by decide +kernel
theorem xX0_init_24 : dcd mX0_init 24 = some (.aload 0, 1, 0, 0) := by decide +kernel
theorem xX0_init_25 : dcd mX0_init 25 = some (.iconst 0, 2, 0, 8) := by decide +kernel
theorem xX0_init_27 : dcd mX0_init 27 = some (.newarray .int, 2, 0, 0) := by decide +kernel
theorem xX0_init_29 : dcd mX0_init 29 = some (.putfield 20, 3, 0, 0) := by decide +kernel
theorem xX0_init_32 : dcd mX0_init 32 = some (.aload 0, 1, 0, 0) := by decide +kernel
theorem xX0_init_33 : dcd mX0_init 33 = some (.aload 1, 1, 0, 0) := by decide +kernel
theorem xX0_init_34 : dcd mX0_init 34 = some (.putfield 23, 3, 0, 0) := by decide +kernel
theorem xX0_init_37 : dcd mX0_init 37 = some (.return_, 1, 0, 0) := by decide +kernel
theorem xX0_findBest_0 : dcd mX0_findBest 0 = some (.aload 0, 1, 0, 0) := by decide +kernel
theorem xX0_findBest_1 : dcd mX0_findBest 1 = some (.invokevirtual 27, 3, 0, 0) := by decide +kernel
theorem xX0_findBest_4 : dcd mX0_findBest 4 = some (.aload 0, 1, 0, 0) := by decide +kernel
theorem xX0_findBest_5 : dcd mX0_findBest 5 = some (.iconst 0, 1, 0, 0) := by decide +kernel
theorem xX0_findBest_6 : dcd mX0_findBest 6 = some (.putfield 30, 3, 0, 0) := by decide +kernel
theorem xX0_findBest_9 : dcd mX0_findBest 9 = some (.aload 0, 1, 0, 0) := by decide +kernel
theorem xX0_findBest_10 : dcd mX0_findBest 10 = some (.iconst 0, 1, 0, 0) := by decide +kernel
theorem xX0_findBest_11 : dcd mX0_findBest 11 = some (.putfield 34, 3, 0, 0) := by decide +kernel
theorem xX0_findBest_14 : dcd mX0_findBest 14 = some (.iconst 0, 1, 0, 0) := by decide +kernel
theorem xX0_findBest_15 : dcd mX0_findBest 15 = some (.istore 1, 1, 0, 0) := by decide +kernel
theorem xX0_findBest_16 : dcd mX0_findBest 16 = some (.iload 1, 1, 0, 0) := by decide +kernel
theorem xX0_findBest_17 : dcd mX0_findBest 17 = some (.iconst 0, 2, 0, 8) := by decide +kernel
theorem xX0_findBest_19 : dcd mX0_findBest 19 = some (.if_icmp .ge 0, 3, 45, 0) := by decide +kernel
theorem xX0_findBest_22 : dcd mX0_findBest 22 = some (.aload 0, 1, 0, 0) := by decide +kernel
theorem xX0_findBest_23 : dcd mX0_findBest 23 = some (.getfield 16, 3, 0, 0) := by decide +kernel
theorem xX0_findBest_26 : dcd mX0_findBest 26 = some (.iconst 0, 1, 0, 0) := by decide +kernel
theorem xX0_findBest_27 : dcd mX0_findBest 27 = some (.iload 1, 1, 0, 0) := by decide +kernel
theorem xX0_findBest_28 : dcd mX0_findBest 28 = some (.iastore, 1, 0, 0) := by decide +kernel
theorem xX0_findBest_29 : dcd mX0_findBest 29 = some (.aload 0, 1, 0, 0) := by decide +kernel
theorem xX0_findBest_30 : dcd mX0_findBest 30 = some (.iconst 0, 1, 0, 1) := by decide +kernel
theorem xX0_findBest_31 : dcd mX0_findBest 31 = some (.iconst 0, 1, 0, 1) := by decide +kernel
theorem xX0_findBest_32 : dcd mX0_findBest 32 = some (.iload 1, 1, 0, 0) := by decide +kernel
theorem xX0_findBest_33 : dcd mX0_findBest 33 = some (.ishl, 1, 0, 0) := by decide +kernel
theorem xX0_findBest_34 : dcd mX0_findBest 34 = some (.ldc 39, 2, 0, 0) := by decide +kernel
theorem xX0_findBest_36 : dcd mX0_findBest 36 = some (.invokevirtual 40, 3, 0, 0) := by decide +kernel
theorem xX0_findBest_39 : dcd mX0_findBest 39 = some (.iinc 1 0, 3, 0, 1) := by decide +kernel
theorem xX0_findBest_42 : dcd mX0_findBest 42 = some (.goto 0, 3, 16, 0) := by decide +kernel
theorem xX0_findBest_45 : dcd mX0_findBest 45 = some (.aload 0, 1, 0, 0) := by decide +kernel
theorem xX0_findBest_46 : dcd mX0_findBest 46 = some (.getfield 34, 3, 0, 0) := by decide +kernel
theorem xX0_findBest_49 : dcd mX0_findBest 49 = some (.ifCond .le 0, 3, 56, 0) := by decide +kernel
theorem xX0_findBest_52 : dcd mX0_findBest 52 = some (.iconst 0, 1, 0, 1) := by decide +kernel
theorem xX0_findBest_53 : dcd mX0_findBest 53 = some (.goto 0, 3, 57, 0) := by decide +kernel
theorem xX0_findBest_56 : dcd mX0_findBest 56 = some (.iconst 0, 1, 0, 0) := by decide +kernel
theorem xX0_findBest_57 : dcd mX0_findBest 57 = some (.ireturn, 1, 0, 0) := by decide +kernel
theorem xX0_addUp_0 : dcd mX0_addUp 0 = some (.iconst 0, 1, 0, 0) := by decide +kernel
theorem xX0_addUp_1 : dcd mX0_addUp 1 = some (.istore 1, 1, 0, 0) := by decide +kernel
theorem xX0_addUp_2 : dcd mX0_addUp 2 = some (.iload 1, 1, 0, 0) := by decide +kernel
theorem xX0_addUp_3 : dcd mX0_addUp 3 = some (.iconst 0, 2, 0, 8) := by decide +kernel
theorem xX0_addUp_5 : dcd mX0_addUp 5 = some (.if_icmp .ge 0, 3, 37, 0) := by decide +kernel
theorem xX0_addUp_8 : dcd mX0_addUp 8 = some (.iconst 0, 1, 0, 0) := by decide +kernel
theorem xX0_addUp_9 : dcd mX0_addUp 9 = some (.istore 2, 1, 0, 0) := by decide +kernel
theorem xX0_addUp_10 : dcd mX0_addUp 10 = some (.iload 2, 1, 0, 0) := by decide +kernel
theorem xX0_addUp_11 : dcd mX0_addUp 11 = some (.iconst 0, 2, 0, 8) := by decide +kernel
theorem xX0_addUp_13 : dcd mX0_addUp 13 = some (.if_icmp .ge 0, 3, 31, 0) := by decide +kernel
theorem xX0_addUp_16 : dcd mX0_addUp 16 = some (.aload 0, 1, 0, 0) := by decide +kernel
theorem xX0_addUp_17 : dcd mX0_addUp 17 = some (.getfield 11, 3, 0, 0) := by decide +kernel
theorem xX0_addUp_20 : dcd mX0_addUp 20 = some (.iload 1, 1, 0, 0) := by decide +kernel
theorem xX0_addUp_21 : dcd mX0_addUp 21 = some (.aaload, 1, 0, 0) := by decide +kernel
theorem xX0_addUp_22 : dcd mX0_addUp 22 = some (.iload 2, 1, 0, 0) := by decide +kernel
theorem xX0_addUp_23 : dcd mX0_addUp 23 = some (.iconst 0, 1, 0, 0) := by decide +kernel
theorem xX0_addUp_24 : dcd mX0_addUp 24 = some (.iastore, 1, 0, 0) := by decide +kernel
theorem xX0_addUp_25 : dcd mX0_addUp 25 = some (.iinc 2 0, 3, 0, 1) := by decide +kernel
theorem xX0_addUp_28 : dcd mX0_addUp 28 = some (.goto 0, 3, 10, 0) := by decide +kernel
theorem xX0_addUp_31 : dcd mX0_addUp 31 = some (.iinc 1 0, 3, 0, 1) := by decide +kernel
theorem xX0_addUp_34 : dcd mX0_addUp 34 = some (.goto 0, 3, 2, 0) := by decide +kernel
theorem xX0_addUp_37 : dcd mX0_addUp 37 = some (.iconst 0, 1, 0, 0) := by decide +kernel
theorem xX0_addUp_38 : dcd mX0_addUp 38 = some (.istore 1, 1, 0, 0) := by decide +kernel
theorem xX0_addUp_39 : dcd mX0_addUp 39 = some (.iload 1, 1, 0, 0) := by decide +kernel
theorem xX0_addUp_40 : dcd mX0_addUp 40 = some (.aload 0, 1, 0, 0) := by decide +kernel
theorem xX0_addUp_41 : dcd mX0_addUp 41 = some (.getfield 23, 3, 0, 0) := by decide +kernel
theorem xX0_addUp_44 : dcd mX0_addUp 44 = some (.getfield 44, 3, 0, 0) := by decide +kernel
theorem xX0_addUp_47 : dcd mX0_addUp 47 = some (.if_icmp .ge 0, 3, 116, 0) := by decide +kernel
theorem xX0_addUp_50 : dcd mX0_addUp 50 = some (.aload 0, 1, 0, 0) := by decide +kernel
theorem xX0_addUp_51 : dcd mX0_addUp 51 = some (.getfield 23, 3, 0, 0) := by decide +kernel
theorem xX0_addUp_54 : dcd mX0_addUp 54 = some (.getfield 49, 3, 0, 0) := by decide +kernel
theorem xX0_addUp_57 : dcd mX0_addUp 57 = some (.iload 1, 1, 0, 0) := by decide +kernel
theorem xX0_addUp_58 : dcd mX0_addUp 58 = some (.iaload, 1, 0, 0) := by decide +kernel
theorem xX0_addUp_59 : dcd mX0_addUp 59 = some (.istore 2, 1, 0, 0) := by decide +kernel
theorem xX0_addUp_60 : dcd mX0_addUp 60 = some (.aload 0, 1, 0, 0) := by decide +kernel
theorem xX0_addUp_61 : dcd mX0_addUp 61 = some (.getfield 23, 3, 0, 0) := by decide +kernel
theorem xX0_addUp_64 : dcd mX0_addUp 64 = some (.getfield 52, 3, 0, 0) := by decide +kernel
theorem xX0_addUp_67 : dcd mX0_addUp 67 = some (.iload 1, 1, 0, 0) := by decide +kernel
theorem xX0_addUp_68 : dcd mX0_addUp 68 = some (.iaload, 1, 0, 0) := by decide +kernel
theorem xX0_addUp_69 : dcd mX0_addUp 69 = some (.istore 3, 1, 0, 0) := by decide +kernel
theorem xX0_addUp_70 : dcd mX0_addUp 70 = some (.aload 0, 1, 0, 0) := by decide +kernel
theorem xX0_addUp_71 : dcd mX0_addUp 71 = some (.getfield 23, 3, 0, 0) := by decide +kernel
theorem xX0_addUp_74 : dcd mX0_addUp 74 = some (.getfield 55, 3, 0, 0) := by decide +kernel
theorem xX0_addUp_77 : dcd mX0_addUp 77 = some (.iload 1, 1, 0, 0) := by decide +kernel
theorem xX0_addUp_78 : dcd mX0_addUp 78 = some (.baload, 1, 0, 0) := by decide +kernel
theorem xX0_addUp_79 : dcd mX0_addUp 79 = some (.ifCond .eq 0, 3, 110, 0) := by decide +kernel
theorem xX0_addUp_82 : dcd mX0_addUp 82 = some (.iload 2, 1, 0, 0) := by decide +kernel
theorem xX0_addUp_83 : dcd mX0_addUp 83 = some (.iload 3, 1, 0, 0) := by decide +kernel
theorem xX0_addUp_84 : dcd mX0_addUp 84 = some (.invokestatic 59, 3, 0, 0) := by decide +kernel
theorem xX0_addUp_87 : dcd mX0_addUp 87 = some (.ifCond .eq 0, 3, 110, 0) := by decide +kernel
theorem xX0_addUp_90 : dcd mX0_addUp 90 = some (.aload 0, 1, 0, 0) := by decide +kernel
theorem xX0_addUp_91 : dcd mX0_addUp 91 = some (.getfield 11, 3, 0, 0) := by decide +kernel
theorem xX0_addUp_94 : dcd mX0_addUp 94 = some (.iload 2, 1, 0, 0) := by decide +kernel
theorem xX0_addUp_95 : dcd mX0_addUp 95 = some (.aaload, 1, 0, 0) := by decide +kernel
theorem xX0_addUp_96 : dcd mX0_addUp 96 = some (.iload 3, 1, 0, 0) := by decide +kernel
theorem xX0_addUp_97 : dcd mX0_addUp 97 = some (.dup2, 1, 0, 0) := by decide +kernel
theorem xX0_addUp_98 : dcd mX0_addUp 98 = some (.iaload, 1, 0, 0) := by decide +kernel
theorem xX0_addUp_99 : dcd mX0_addUp 99 = some (.aload 0, 1, 0, 0) := by decide +kernel
theorem xX0_addUp_100 : dcd mX0_addUp 100 = some (.getfield 23, 3, 0, 0) := by decide +kernel
theorem xX0_addUp_103 : dcd mX0_addUp 103 = some (.getfield 63, 3, 0, 0) := by decide +kernel
theorem xX0_addUp_106 : dcd mX0_addUp 106 = some (.iload 1, 1, 0, 0) := by decide +kernel
theorem xX0_addUp_107 : dcd mX0_addUp 107 = some (.iaload, 1, 0, 0) := by decide +kernel
theorem xX0_addUp_108 : dcd mX0_addUp 108 = some (.iadd, 1, 0, 0) := by decide +kernel
theorem xX0_addUp_109 : dcd mX0_addUp 109 = some (.iastore, 1, 0, 0) := by decide +kernel
theorem xX0_addUp_110 : dcd mX0_addUp 110 = some (.iinc 1 0, 3, 0, 1) := by decide +kernel
theorem xX0_addUp_113 : dcd mX0_addUp 113 = some (.goto 0, 3, 39, 0) := by decide +kernel
theorem xX0_addUp_116 : dcd mX0_addUp 116 = some (.return_, 1, 0, 0) := by decide +kernel
theorem xX0_goOn_0 : dcd mX0_goOn 0 = some (.iload 1, 1, 0, 0) := by decide +kernel
theorem xX0_goOn_1 : dcd mX0_goOn 1 = some (.iconst 0, 1, 0, 1) := by decide +kernel
theorem xX0_goOn_2 : dcd mX0_goOn 2 = some (.if_icmp .lt 0, 3, 22, 0) := by decide +kernel
theorem xX0_goOn_5 : dcd mX0_goOn 5 = some (.iload 1, 1, 0, 0) := by decide +kernel
theorem xX0_goOn_6 : dcd mX0_goOn 6 = some (.iconst 0, 2, 0, 8) := by decide +kernel
theorem xX0_goOn_8 : dcd mX0_goOn 8 = some (.if_icmp .gt 0, 3, 22, 0) := by decide +kernel
theorem xX0_goOn_11 : dcd mX0_goOn 11 = some (.iload 3, 1, 0, 0) := by decide +kernel
theorem xX0_goOn_12 : dcd mX0_goOn 12 = some (.iconst 0, 2, 0, 8) := by decide +kernel
theorem xX0_goOn_14 : dcd mX0_goOn 14 = some (.imul, 1, 0, 0) := by decide +kernel
theorem xX0_goOn_15 : dcd mX0_goOn 15 = some (.aload 0, 1, 0, 0) := by decide +kernel
theorem xX0_goOn_16 : dcd mX0_goOn 16 = some (.getfield 34, 3, 0, 0) := by decide +kernel
theorem xX0_goOn_19 : dcd mX0_goOn 19 = some (.if_icmp .gt 0, 3, 23, 0) := by decide +kernel
theorem xX0_goOn_22 : dcd mX0_goOn 22 = some (.return_, 1, 0, 0) := by decide +kernel
theorem xX0_goOn_23 : dcd mX0_goOn 23 = some (.aload 0, 1, 0, 0) := by decide +kernel
theorem xX0_goOn_24 : dcd mX0_goOn 24 = some (.getfield 16, 3, 0, 0) := by decide +kernel
theorem xX0_goOn_27 : dcd mX0_goOn 27 = some (.iload 1, 1, 0, 0) := by decide +kernel
theorem xX0_goOn_28 : dcd mX0_goOn 28 = some (.iconst 0, 1, 0, 1) := by decide +kernel
theorem xX0_goOn_29 : dcd mX0_goOn 29 = some (.isub, 1, 0, 0) := by decide +kernel
theorem xX0_goOn_30 : dcd mX0_goOn 30 = some (.iaload, 1, 0, 0) := by decide +kernel
theorem xX0_goOn_31 : dcd mX0_goOn 31 = some (.istore 4, 2, 0, 0) := by decide +kernel
theorem xX0_goOn_33 : dcd mX0_goOn 33 = some (.aload 0, 1, 0, 0) := by decide +kernel
theorem xX0_goOn_34 : dcd mX0_goOn 34 = some (.iload 1, 1, 0, 0) := by decide +kernel
theorem xX0_goOn_35 : dcd mX0_goOn 35 = some (.iload 3, 1, 0, 0) := by decide +kernel
theorem xX0_goOn_36 : dcd mX0_goOn 36 = some (.aload 0, 1, 0, 0) := by decide +kernel
theorem xX0_goOn_37 : dcd mX0_goOn 37 = some (.getfield 11, 3, 0, 0) := by decide +kernel
theorem xX0_goOn_40 : dcd mX0_goOn 40 = some (.iload 4, 2, 0, 0) := by decide +kernel
theorem xX0_goOn_42 : dcd mX0_goOn 42 = some (.aaload, 1, 0, 0) := by decide +kernel
theorem xX0_goOn_43 : dcd mX0_goOn 43 = some (.aload 0, 1, 0, 0) := by decide +kernel
theorem xX0_goOn_44 : dcd mX0_goOn 44 = some (.getfield 16, 3, 0, 0) := by decide +kernel
theorem xX0_goOn_47 : dcd mX0_goOn 47 = some (.iconst 0, 1, 0, 0) := by decide +kernel
theorem xX0_goOn_48 : dcd mX0_goOn 48 = some (.iaload, 1, 0, 0) := by decide +kernel
theorem xX0_goOn_49 : dcd mX0_goOn 49 = some (.iaload, 1, 0, 0) := by decide +kernel
theorem xX0_goOn_50 : dcd mX0_goOn 50 = some (.invokestatic 66, 3, 0, 0) := by decide +kernel
theorem xX0_goOn_53 : dcd mX0_goOn 53 = some (.invokevirtual 72, 3, 0, 0) := by decide +kernel
theorem xX0_goOn_56 : dcd mX0_goOn 56 = some (.aload 0, 1, 0, 0) := by decide +kernel
theorem xX0_goOn_57 : dcd mX0_goOn 57 = some (.getfield 16, 3, 0, 0) := by decide +kernel
theorem xX0_goOn_60 : dcd mX0_goOn 60 = some (.iconst 0, 1, 0, 0) := by decide +kernel
theorem xX0_goOn_61 : dcd mX0_goOn 61 = some (.iaload, 1, 0, 0) := by decide +kernel
theorem xX0_goOn_62 : dcd mX0_goOn 62 = some (.iconst 0, 1, 0, 1) := by decide +kernel
theorem xX0_goOn_63 : dcd mX0_goOn 63 = some (.iadd, 1, 0, 0) := by decide +kernel
theorem xX0_goOn_64 : dcd mX0_goOn 64 = some (.istore 5, 2, 0, 0) := by decide +kernel
theorem xX0_goOn_66 : dcd mX0_goOn 66 = some (.iload 5, 2, 0, 0) := by decide +kernel
theorem xX0_goOn_68 : dcd mX0_goOn 68 = some (.iconst 0, 2, 0, 8) := by decide +kernel
theorem xX0_goOn_70 : dcd mX0_goOn 70 = some (.if_icmp .ge 0, 3, 142, 0) := by decide +kernel
theorem xX0_goOn_73 : dcd mX0_goOn 73 = some (.iload 1, 1, 0, 0) := by decide +kernel
theorem xX0_goOn_74 : dcd mX0_goOn 74 = some (.iconst 0, 2, 0, 8) := by decide +kernel
theorem xX0_goOn_76 : dcd mX0_goOn 76 = some (.if_icmp .ge 0, 3, 142, 0) := by decide +kernel
theorem xX0_goOn_79 : dcd mX0_goOn 79 = some (.iload 2, 1, 0, 0) := by decide +kernel
theorem xX0_goOn_80 : dcd mX0_goOn 80 = some (.iload 5, 2, 0, 0) := by decide +kernel
theorem xX0_goOn_82 : dcd mX0_goOn 82 = some (.ishr, 1, 0, 0) := by decide +kernel
theorem xX0_goOn_83 : dcd mX0_goOn 83 = some (.iconst 0, 1, 0, 1) := by decide +kernel
theorem xX0_goOn_84 : dcd mX0_goOn 84 = some (.iand, 1, 0, 0) := by decide +kernel
theorem xX0_goOn_85 : dcd mX0_goOn 85 = some (.ifCond .ne 0, 3, 136, 0) := by decide +kernel
theorem xX0_goOn_88 : dcd mX0_goOn 88 = some (.aload 0, 1, 0, 0) := by decide +kernel
theorem xX0_goOn_89 : dcd mX0_goOn 89 = some (.getfield 11, 3, 0, 0) := by decide +kernel
theorem xX0_goOn_92 : dcd mX0_goOn 92 = some (.iload 4, 2, 0, 0) := by decide +kernel
theorem xX0_goOn_94 : dcd mX0_goOn 94 = some (.aaload, 1, 0, 0) := by decide +kernel
theorem xX0_goOn_95 : dcd mX0_goOn 95 = some (.iload 5, 2, 0, 0) := by decide +kernel
theorem xX0_goOn_97 : dcd mX0_goOn 97 = some (.iaload, 1, 0, 0) := by decide +kernel
theorem xX0_goOn_98 : dcd mX0_goOn 98 = some (.ifCond .le 0, 3, 136, 0) := by decide +kernel
theorem xX0_goOn_101 : dcd mX0_goOn 101 = some (.aload 0, 1, 0, 0) := by decide +kernel
theorem xX0_goOn_102 : dcd mX0_goOn 102 = some (.getfield 16, 3, 0, 0) := by decide +kernel
theorem xX0_goOn_105 : dcd mX0_goOn 105 = some (.iload 1, 1, 0, 0) := by decide +kernel
theorem xX0_goOn_106 : dcd mX0_goOn 106 = some (.iload 5, 2, 0, 0) := by decide +kernel
theorem xX0_goOn_108 : dcd mX0_goOn 108 = some (.iastore, 1, 0, 0) := by decide +kernel
theorem xX0_goOn_109 : dcd mX0_goOn 109 = some (.aload 0, 1, 0, 0) := by decide +kernel
theorem xX0_goOn_110 : dcd mX0_goOn 110 = some (.iload 1, 1, 0, 0) := by decide +kernel
theorem xX0_goOn_111 : dcd mX0_goOn 111 = some (.iconst 0, 1, 0, 1) := by decide +kernel
theorem xX0_goOn_112 : dcd mX0_goOn 112 = some (.iadd, 1, 0, 0) := by decide +kernel
theorem xX0_goOn_113 : dcd mX0_goOn 113 = some (.iload 2, 1, 0, 0) := by decide +kernel
theorem xX0_goOn_114 : dcd mX0_goOn 114 = some (.iconst 0, 1, 0, 1) := by decide +kernel
theorem xX0_goOn_115 : dcd mX0_goOn 115 = some (.iload 5, 2, 0, 0) := by decide +kernel
theorem xX0_goOn_117 : dcd mX0_goOn 117 = some (.ishl, 1, 0, 0) := by decide +kernel
theorem xX0_goOn_118 : dcd mX0_goOn 118 = some (.ior, 1, 0, 0) := by decide +kernel
theorem xX0_goOn_119 : dcd mX0_goOn 119 = some (.iload 3, 1, 0, 0) := by decide +kernel
theorem xX0_goOn_120 : dcd mX0_goOn 120 = some (.aload 0, 1, 0, 0) := by decide +kernel
theorem xX0_goOn_121 : dcd mX0_goOn 121 = some (.getfield 11, 3, 0, 0) := by decide +kernel
theorem xX0_goOn_124 : dcd mX0_goOn 124 = some (.iload 4, 2, 0, 0) := by decide +kernel
theorem xX0_goOn_126 : dcd mX0_goOn 126 = some (.aaload, 1, 0, 0) := by decide +kernel
theorem xX0_goOn_127 : dcd mX0_goOn 127 = some (.iload 5, 2, 0, 0) := by decide +kernel
theorem xX0_goOn_129 : dcd mX0_goOn 129 = some (.iaload, 1, 0, 0) := by decide +kernel
theorem xX0_goOn_130 : dcd mX0_goOn 130 = some (.invokestatic 66, 3, 0, 0) := by decide +kernel
theorem xX0_goOn_133 : dcd mX0_goOn 133 = some (.invokevirtual 40, 3, 0, 0) := by decide +kernel
theorem xX0_goOn_136 : dcd mX0_goOn 136 = some (.iinc 5 0, 3, 0, 1) := by decide +kernel
theorem xX0_goOn_139 : dcd mX0_goOn 139 = some (.goto 0, 3, 66, 0) := by decide +kernel
theorem xX0_goOn_142 : dcd mX0_goOn 142 = some (.return_, 1, 0, 0) := by decide +kernel
theorem xX0_compare_0 : dcd mX0_compare 0 = some (.iload 2, 1, 0, 0) := by decide +kernel
theorem xX0_compare_1 : dcd mX0_compare 1 = some (.iload 1, 1, 0, 0) := by decide +kernel
theorem xX0_compare_2 : dcd mX0_compare 2 = some (.imul, 1, 0, 0) := by decide +kernel
theorem xX0_compare_3 : dcd mX0_compare 3 = some (.istore 3, 1, 0, 0) := by decide +kernel
theorem xX0_compare_4 : dcd mX0_compare 4 = some (.iload 3, 1, 0, 0) := by decide +kernel
theorem xX0_compare_5 : dcd mX0_compare 5 = some (.aload 0, 1, 0, 0) := by decide +kernel
theorem xX0_compare_6 : dcd mX0_compare 6 = some (.getfield 34, 3, 0, 0) := by decide +kernel
theorem xX0_compare_9 : dcd mX0_compare 9 = some (.if_icmp .gt 0, 3, 32, 0) := by decide +kernel
theorem xX0_compare_12 : dcd mX0_compare 12 = some (.iload 3, 1, 0, 0) := by decide +kernel
theorem xX0_compare_13 : dcd mX0_compare 13 = some (.aload 0, 1, 0, 0) := by decide +kernel
theorem xX0_compare_14 : dcd mX0_compare 14 = some (.getfield 34, 3, 0, 0) := by decide +kernel
theorem xX0_compare_17 : dcd mX0_compare 17 = some (.if_icmp .ne 0, 3, 57, 0) := by decide +kernel
theorem xX0_compare_20 : dcd mX0_compare 20 = some (.iload 3, 1, 0, 0) := by decide +kernel
theorem xX0_compare_21 : dcd mX0_compare 21 = some (.ifCond .le 0, 3, 57, 0) := by decide +kernel
theorem xX0_compare_24 : dcd mX0_compare 24 = some (.iload 1, 1, 0, 0) := by decide +kernel
theorem xX0_compare_25 : dcd mX0_compare 25 = some (.aload 0, 1, 0, 0) := by decide +kernel
theorem xX0_compare_26 : dcd mX0_compare 26 = some (.getfield 30, 3, 0, 0) := by decide +kernel
theorem xX0_compare_29 : dcd mX0_compare 29 = some (.if_icmp .ge 0, 3, 57, 0) := by decide +kernel
theorem xX0_compare_32 : dcd mX0_compare 32 = some (.aload 0, 1, 0, 0) := by decide +kernel
theorem xX0_compare_33 : dcd mX0_compare 33 = some (.iload 3, 1, 0, 0) := by decide +kernel
theorem xX0_compare_34 : dcd mX0_compare 34 = some (.putfield 34, 3, 0, 0) := by decide +kernel
theorem xX0_compare_37 : dcd mX0_compare 37 = some (.aload 0, 1, 0, 0) := by decide +kernel
theorem xX0_compare_38 : dcd mX0_compare 38 = some (.iload 1, 1, 0, 0) := by decide +kernel
theorem xX0_compare_39 : dcd mX0_compare 39 = some (.putfield 30, 3, 0, 0) := by decide +kernel
theorem xX0_compare_42 : dcd mX0_compare 42 = some (.aload 0, 1, 0, 0) := by decide +kernel
theorem xX0_compare_43 : dcd mX0_compare 43 = some (.getfield 16, 3, 0, 0) := by decide +kernel
theorem xX0_compare_46 : dcd mX0_compare 46 = some (.iconst 0, 1, 0, 0) := by decide +kernel
theorem xX0_compare_47 : dcd mX0_compare 47 = some (.aload 0, 1, 0, 0) := by decide +kernel
theorem xX0_compare_48 : dcd mX0_compare 48 = some (.getfield 20, 3, 0, 0) := by decide +kernel
theorem xX0_compare_51 : dcd mX0_compare 51 = some (.iconst 0, 1, 0, 0) := by decide +kernel
theorem xX0_compare_52 : dcd mX0_compare 52 = some (.iconst 0, 2, 0, 8) := by decide +kernel
theorem xX0_compare_54 : dcd mX0_compare 54 = some (.invokestatic 76, 3, 0, 0) := by decide +kernel
theorem xX0_compare_57 : dcd mX0_compare 57 = some (.return_, 1, 0, 0) := by decide +kernel
theorem xX0_cutAll_0 : dcd mX0_cutAll 0 = some (.iconst 0, 1, 0, 0) := by decide +kernel
theorem xX0_cutAll_1 : dcd mX0_cutAll 1 = some (.istore 1, 1, 0, 0) := by decide +kernel
theorem xX0_cutAll_2 : dcd mX0_cutAll 2 = some (.iconst 0, 1, 0, 0) := by decide +kernel
theorem xX0_cutAll_3 : dcd mX0_cutAll 3 = some (.istore 2, 1, 0, 0) := by decide +kernel
theorem xX0_cutAll_4 : dcd mX0_cutAll 4 = some (.iload 2, 1, 0, 0) := by decide +kernel
theorem xX0_cutAll_5 : dcd mX0_cutAll 5 = some (.iconst 0, 2, 0, 64) := by decide +kernel
theorem xX0_cutAll_7 : dcd mX0_cutAll 7 = some (.if_icmp .ge 0, 3, 34, 0) := by decide +kernel
theorem xX0_cutAll_10 : dcd mX0_cutAll 10 = some (.aload 0, 1, 0, 0) := by decide +kernel
theorem xX0_cutAll_11 : dcd mX0_cutAll 11 = some (.invokevirtual 82, 3, 0, 0) := by decide +kernel
theorem xX0_cutAll_14 : dcd mX0_cutAll 14 = some (.ifCond .eq 0, 3, 34, 0) := by decide +kernel
theorem xX0_cutAll_17 : dcd mX0_cutAll 17 = some (.iload 1, 1, 0, 0) := by decide +kernel
theorem xX0_cutAll_18 : dcd mX0_cutAll 18 = some (.aload 0, 1, 0, 0) := by decide +kernel
theorem xX0_cutAll_19 : dcd mX0_cutAll 19 = some (.getfield 34, 3, 0, 0) := by decide +kernel
theorem xX0_cutAll_22 : dcd mX0_cutAll 22 = some (.iadd, 1, 0, 0) := by decide +kernel
theorem xX0_cutAll_23 : dcd mX0_cutAll 23 = some (.istore 1, 1, 0, 0) := by decide +kernel
theorem xX0_cutAll_24 : dcd mX0_cutAll 24 = some (.aload 0, 1, 0, 0) := by decide +kernel
theorem xX0_cutAll_25 : dcd mX0_cutAll 25 = some (.invokevirtual 86, 3, 0, 0) := by decide +kernel
theorem xX0_cutAll_28 : dcd mX0_cutAll 28 = some (.iinc 2 0, 3, 0, 1) := by decide +kernel
theorem xX0_cutAll_31 : dcd mX0_cutAll 31 = some (.goto 0, 3, 4, 0) := by decide +kernel
theorem xX0_cutAll_34 : dcd mX0_cutAll 34 = some (.iload 1, 1, 0, 0) := by decide +kernel
theorem xX0_cutAll_35 : dcd mX0_cutAll 35 = some (.ireturn, 1, 0, 0) := by decide +kernel
theorem xX0_cutRing_0 : dcd mX0_cutRing 0 = some (.aload 0, 1, 0, 0) := by decide +kernel
theorem xX0_cutRing_1 : dcd mX0_cutRing 1 = some (.getfield 30, 3, 0, 0) := by decide +kernel
theorem xX0_cutRing_4 : dcd mX0_cutRing 4 = some (.iconst 0, 1, 0, 2) := by decide +kernel
theorem xX0_cutRing_5 : dcd mX0_cutRing 5 = some (.if_icmp .lt 0, 3, 17, 0) := by decide +kernel
theorem xX0_cutRing_8 : dcd mX0_cutRing 8 = some (.aload 0, 1, 0, 0) := by decide +kernel
theorem xX0_cutRing_9 : dcd mX0_cutRing 9 = some (.getfield 30, 3, 0, 0) := by decide +kernel
theorem xX0_cutRing_12 : dcd mX0_cutRing 12 = some (.iconst 0, 2, 0, 8) := by decide +kernel
theorem xX0_cutRing_14 : dcd mX0_cutRing 14 = some (.if_icmp .le 0, 3, 18, 0) := by decide +kernel
theorem xX0_cutRing_17 : dcd mX0_cutRing 17 = some (.return_, 1, 0, 0) := by decide +kernel
theorem xX0_cutRing_18 : dcd mX0_cutRing 18 = some (.aload 0, 1, 0, 0) := by decide +kernel
theorem xX0_cutRing_19 : dcd mX0_cutRing 19 = some (.getfield 34, 3, 0, 0) := by decide +kernel
theorem xX0_cutRing_22 : dcd mX0_cutRing 22 = some (.aload 0, 1, 0, 0) := by decide +kernel
theorem xX0_cutRing_23 : dcd mX0_cutRing 23 = some (.getfield 30, 3, 0, 0) := by decide +kernel
theorem xX0_cutRing_26 : dcd mX0_cutRing 26 = some (.idiv, 1, 0, 0) := by decide +kernel
theorem xX0_cutRing_27 : dcd mX0_cutRing 27 = some (.istore 1, 1, 0, 0) := by decide +kernel
theorem xX0_cutRing_28 : dcd mX0_cutRing 28 = some (.iconst 0, 1, 0, 0) := by decide +kernel
theorem xX0_cutRing_29 : dcd mX0_cutRing 29 = some (.istore 2, 1, 0, 0) := by decide +kernel
theorem xX0_cutRing_30 : dcd mX0_cutRing 30 = some (.iload 2, 1, 0, 0) := by decide +kernel
theorem xX0_cutRing_31 : dcd mX0_cutRing 31 = some (.aload 0, 1, 0, 0) := by decide +kernel
theorem xX0_cutRing_32 : dcd mX0_cutRing 32 = some (.getfield 30, 3, 0, 0) := by decide +kernel
theorem xX0_cutRing_35 : dcd mX0_cutRing 35 = some (.if_icmp .ge 0, 3, 71, 0) := by decide +kernel
theorem xX0_cutRing_38 : dcd mX0_cutRing 38 = some (.aload 0, 1, 0, 0) := by decide +kernel
theorem xX0_cutRing_39 : dcd mX0_cutRing 39 = some (.getfield 23, 3, 0, 0) := by decide +kernel
theorem xX0_cutRing_42 : dcd mX0_cutRing 42 = some (.aload 0, 1, 0, 0) := by decide +kernel
theorem xX0_cutRing_43 : dcd mX0_cutRing 43 = some (.getfield 20, 3, 0, 0) := by decide +kernel
theorem xX0_cutRing_46 : dcd mX0_cutRing 46 = some (.iload 2, 1, 0, 0) := by decide +kernel
theorem xX0_cutRing_47 : dcd mX0_cutRing 47 = some (.iaload, 1, 0, 0) := by decide +kernel
theorem xX0_cutRing_48 : dcd mX0_cutRing 48 = some (.aload 0, 1, 0, 0) := by decide +kernel
theorem xX0_cutRing_49 : dcd mX0_cutRing 49 = some (.getfield 20, 3, 0, 0) := by decide +kernel
theorem xX0_cutRing_52 : dcd mX0_cutRing 52 = some (.iload 2, 1, 0, 0) := by decide +kernel
theorem xX0_cutRing_53 : dcd mX0_cutRing 53 = some (.iconst 0, 1, 0, 1) := by decide +kernel
theorem xX0_cutRing_54 : dcd mX0_cutRing 54 = some (.iadd, 1, 0, 0) := by decide +kernel
theorem xX0_cutRing_55 : dcd mX0_cutRing 55 = some (.aload 0, 1, 0, 0) := by decide +kernel
theorem xX0_cutRing_56 : dcd mX0_cutRing 56 = some (.getfield 30, 3, 0, 0) := by decide +kernel
theorem xX0_cutRing_59 : dcd mX0_cutRing 59 = some (.irem, 1, 0, 0) := by decide +kernel
theorem xX0_cutRing_60 : dcd mX0_cutRing 60 = some (.iaload, 1, 0, 0) := by decide +kernel
theorem xX0_cutRing_61 : dcd mX0_cutRing 61 = some (.iload 1, 1, 0, 0) := by decide +kernel
theorem xX0_cutRing_62 : dcd mX0_cutRing 62 = some (.invokevirtual 89, 3, 0, 0) := by decide +kernel
theorem xX0_cutRing_65 : dcd mX0_cutRing 65 = some (.iinc 2 0, 3, 0, 1) := by decide +kernel
theorem xX0_cutRing_68 : dcd mX0_cutRing 68 = some (.goto 0, 3, 30, 0) := by decide +kernel
theorem xX0_cutRing_71 : dcd mX0_cutRing 71 = some (.return_, 1, 0, 0) := by decide +kernel
theorem xX1_init_0 : dcd mX1_init 0 = some (.aload 0, 1, 0, 0) := by decide +kernel
theorem xX1_init_1 : dcd mX1_init 1 = some (.invokespecial 3, 3, 0, 0) := by decide +kernel
theorem xX1_init_4 : dcd mX1_init 4 = some (.aload 0, 1, 0, 0) := by decide +kernel
theorem xX1_init_5 : dcd mX1_init 5 = some (.iconst 0, 3, 0, 200) := by decide +kernel
theorem xX1_init_8 : dcd mX1_init 8 = some (.newarray .int, 2, 0, 0) := by decide +kernel
theorem xX1_init_10 : dcd mX1_init 10 = some (.putfield 11, 3, 0, 0) := by decide +kernel
theorem xX1_init_13 : dcd mX1_init 13 = some (.aload 0, 1, 0, 0) := by decide +kernel
theorem xX1_init_14 : dcd mX1_init 14 = some (.iconst 0, 3, 0, 200) := by decide +kernel
theorem xX1_init_17 : dcd mX1_init 17 = some (.newarray .int, 2, 0, 0) := by decide +kernel
theorem xX1_init_19 : dcd mX1_init 19 = some (.putfield 15, 3, 0, 0) := by decide +kernel
theorem xX1_init_22 : dcd mX1_init 22 = some (.aload 0, 1, 0, 0) := by decide +kernel
theorem xX1_init_23 : dcd mX1_init 23 = some (.iconst 0, 2, 0, 14) := by decide +kernel
theorem xX1_init_25 : dcd mX1_init 25 = some (.newarray .int, 2, 0, 0) := by decide +kernel
theorem xX1_init_27 : dcd mX1_init 27 = some (.putfield 18, 3, 0, 0) := by decide +kernel
theorem xX1_init_30 : dcd mX1_init 30 = some (.aload 0, 1, 0, 0) := by decide +kernel
theorem xX1_init_31 : dcd mX1_init 31 = some (.iconst 0, 2, 0, 14) := by decide +kernel
theorem xX1_init_33 : dcd mX1_init 33 = some (.newarray .int, 2, 0, 0) := by decide +kernel
theorem xX1_init_35 : dcd mX1_init 35 = some (.putfield 21, 3, 0, 0) := by decide +kernel
theorem xX1_init_38 : dcd mX1_init 38 = some (.aload 0, 1, 0, 0) := by decide +kernel
theorem xX1_init_39 : dcd mX1_init 39 = some (.iconst 0, 2, 0, 14) := by decide +kernel
theorem xX1_init_41 : dcd mX1_init 41 = some (.newarray .int, 2, 0, 0) := by decide +kernel
theorem xX1_init_43 : dcd mX1_init 43 = some (.putfield 24, 3, 0, 0) := by decide +kernel
theorem xX1_init_46 : dcd mX1_init 46 = some (.aload 0, 1, 0, 0) := by decide +kernel
theorem xX1_init_47 : dcd mX1_init 47 = some (.iconst 0, 2, 0, 7) := by decide +kernel
theorem xX1_init_49 : dcd mX1_init 49 = some (.newarray .int, 2, 0, 0) := by decide +kernel
theorem xX1_init_51 : dcd mX1_init 51 = some (.putfield 27, 3, 0, 0) := by decide +kernel
theorem xX1_init_54 : dcd mX1_init 54 = some (.aload 0, 1, 0, 0) := by decide +kernel
theorem xX1_init_55 : dcd mX1_init 55 = some (.iconst 0, 2, 0, 32) := by decide +kernel
theorem xX1_init_57 : dcd mX1_init 57 = some (.newarray .int, 2, 0, 0) := by decide +kernel
theorem xX1_init_59 : dcd mX1_init 59 = some (.putfield 30, 3, 0, 0) := by decide +kernel
theorem xX1_init_62 : dcd mX1_init 62 = some (.return_, 1, 0, 0) := by decide +kernel
theorem xX1_look_0 : dcd mX1_look 0 = some (.aload 1, 1, 0, 0) := by decide +kernel
theorem xX1_look_1 : dcd mX1_look 1 = some (.iload 2, 1, 0, 0) := by decide +kernel
theorem xX1_look_2 : dcd mX1_look 2 = some (.invokevirtual 33, 3, 0, 0) := by decide +kernel
theorem xX1_look_5 : dcd mX1_look 5 = some (.ifCond .eq 0, 3, 29, 0) := by decide +kernel
theorem xX1_look_8 : dcd mX1_look 8 = some (.aload 0, 1, 0, 0) := by decide +kernel
theorem xX1_look_9 : dcd mX1_look 9 = some (.aload 1, 1, 0, 0) := by decide +kernel
theorem xX1_look_10 : dcd mX1_look 10 = some (.iload 2, 1, 0, 0) := by decide +kernel
theorem xX1_look_11 : dcd mX1_look 11 = some (.iload 3, 1, 0, 0) := by decide +kernel
theorem xX1_look_12 : dcd mX1_look 12 = some (.aload 1, 1, 0, 0) := by decide +kernel
theorem xX1_look_13 : dcd mX1_look 13 = some (.getfield 39, 3, 0, 0) := by decide +kernel
theorem xX1_look_16 : dcd mX1_look 16 = some (.iload 2, 1, 0, 0) := by decide +kernel
theorem xX1_look_17 : dcd mX1_look 17 = some (.iaload, 1, 0, 0) := by decide +kernel
theorem xX1_look_18 : dcd mX1_look 18 = some (.aload 1, 1, 0, 0) := by decide +kernel
theorem xX1_look_19 : dcd mX1_look 19 = some (.getfield 42, 3, 0, 0) := by decide +kernel
theorem xX1_look_22 : dcd mX1_look 22 = some (.iload 2, 1, 0, 0) := by decide +kernel
theorem xX1_look_23 : dcd mX1_look 23 = some (.iaload, 1, 0, 0) := by decide +kernel
theorem xX1_look_24 : dcd mX1_look 24 = some (.iload 4, 2, 0, 0) := by decide +kernel
theorem xX1_look_26 : dcd mX1_look 26 = some (.invokevirtual 45, 3, 0, 0) := by decide +kernel
theorem xX1_look_29 : dcd mX1_look 29 = some (.return_, 1, 0, 0) := by decide +kernel
theorem xX1_lookAt_0 : dcd mX1_lookAt 0 = some (.aload 1, 1, 0, 0) := by decide +kernel
theorem xX1_lookAt_1 : dcd mX1_lookAt 1 = some (.iload 2, 1, 0, 0) := by decide +kernel
theorem xX1_lookAt_2 : dcd mX1_lookAt 2 = some (.invokevirtual 33, 3, 0, 0) := by decide +kernel
theorem xX1_lookAt_5 : dcd mX1_lookAt 5 = some (.ifCond .eq 0, 3, 17, 0) := by decide +kernel
theorem xX1_lookAt_8 : dcd mX1_lookAt 8 = some (.aload 1, 1, 0, 0) := by decide +kernel
theorem xX1_lookAt_9 : dcd mX1_lookAt 9 = some (.iload 4, 2, 0, 0) := by decide +kernel
theorem xX1_lookAt_11 : dcd mX1_lookAt 11 = some (.invokevirtual 49, 3, 0, 0) := by decide +kernel
theorem xX1_lookAt_14 : dcd mX1_lookAt 14 = some (.ifCond .ne 0, 3, 18, 0) := by decide +kernel
theorem xX1_lookAt_17 : dcd mX1_lookAt 17 = some (.return_, 1, 0, 0) := by decide +kernel
theorem xX1_lookAt_18 : dcd mX1_lookAt 18 = some (.aload 0, 1, 0, 0) := by decide +kernel
theorem xX1_lookAt_19 : dcd mX1_lookAt 19 = some (.getfield 27, 3, 0, 0) := by decide +kernel
theorem xX1_lookAt_22 : dcd mX1_lookAt 22 = some (.iconst 0, 1, 0, 0) := by decide +kernel
theorem xX1_lookAt_23 : dcd mX1_lookAt 23 = some (.iload 3, 1, 0, 0) := by decide +kernel
theorem xX1_lookAt_24 : dcd mX1_lookAt 24 = some (.iastore, 1, 0, 0) := by decide +kernel
theorem xX1_lookAt_25 : dcd mX1_lookAt 25 = some (.aload 0, 1, 0, 0) := by decide +kernel
theorem xX1_lookAt_26 : dcd mX1_lookAt 26 = some (.getfield 27, 3, 0, 0) := by decide +kernel
theorem xX1_lookAt_29 : dcd mX1_lookAt 29 = some (.iconst 0, 1, 0, 1) := by decide +kernel
theorem xX1_lookAt_30 : dcd mX1_lookAt 30 = some (.aload 1, 1, 0, 0) := by decide +kernel
theorem xX1_lookAt_31 : dcd mX1_lookAt 31 = some (.getfield 52, 3, 0, 0) := by decide +kernel
theorem xX1_lookAt_34 : dcd mX1_lookAt 34 = some (.iload 2, 1, 0, 0) := by decide +kernel
theorem xX1_lookAt_35 : dcd mX1_lookAt 35 = some (.iaload, 1, 0, 0) := by decide +kernel
theorem xX1_lookAt_36 : dcd mX1_lookAt 36 = some (.iastore, 1, 0, 0) := by decide +kernel
theorem xX1_lookAt_37 : dcd mX1_lookAt 37 = some (.aload 0, 1, 0, 0) := by decide +kernel
theorem xX1_lookAt_38 : dcd mX1_lookAt 38 = some (.getfield 27, 3, 0, 0) := by decide +kernel
theorem xX1_lookAt_41 : dcd mX1_lookAt 41 = some (.iconst 0, 1, 0, 2) := by decide +kernel
theorem xX1_lookAt_42 : dcd mX1_lookAt 42 = some (.aload 1, 1, 0, 0) := by decide +kernel
theorem xX1_lookAt_43 : dcd mX1_lookAt 43 = some (.getfield 55, 3, 0, 0) := by decide +kernel
theorem xX1_lookAt_46 : dcd mX1_lookAt 46 = some (.iload 2, 1, 0, 0) := by decide +kernel
theorem xX1_lookAt_47 : dcd mX1_lookAt 47 = some (.iaload, 1, 0, 0) := by decide +kernel
theorem xX1_lookAt_48 : dcd mX1_lookAt 48 = some (.iastore, 1, 0, 0) := by decide +kernel
theorem xX1_lookAt_49 : dcd mX1_lookAt 49 = some (.aload 0, 1, 0, 0) := by decide +kernel
theorem xX1_lookAt_50 : dcd mX1_lookAt 50 = some (.getfield 27, 3, 0, 0) := by decide +kernel
theorem xX1_lookAt_53 : dcd mX1_lookAt 53 = some (.iconst 0, 1, 0, 3) := by decide +kernel
theorem xX1_lookAt_54 : dcd mX1_lookAt 54 = some (.iload 5, 2, 0, 0) := by decide +kernel
theorem xX1_lookAt_56 : dcd mX1_lookAt 56 = some (.iastore, 1, 0, 0) := by decide +kernel
theorem xX1_lookAt_57 : dcd mX1_lookAt 57 = some (.aload 0, 1, 0, 0) := by decide +kernel
theorem xX1_lookAt_58 : dcd mX1_lookAt 58 = some (.getfield 27, 3, 0, 0) := by decide +kernel
theorem xX1_lookAt_61 : dcd mX1_lookAt 61 = some (.iconst 0, 1, 0, 4) := by decide +kernel
theorem xX1_lookAt_62 : dcd mX1_lookAt 62 = some (.iload 4, 2, 0, 0) := by decide +kernel
theorem xX1_lookAt_64 : dcd mX1_lookAt 64 = some (.iastore, 1, 0, 0) := by decide +kernel
theorem xX1_lookAt_65 : dcd mX1_lookAt 65 = some (.aload 0, 1, 0, 0) := by decide +kernel
theorem xX1_lookAt_66 : dcd mX1_lookAt 66 = some (.getfield 27, 3, 0, 0) := by decide +kernel
theorem xX1_lookAt_69 : dcd mX1_lookAt 69 = some (.iconst 0, 1, 0, 5) := by decide +kernel
theorem xX1_lookAt_70 : dcd mX1_lookAt 70 = some (.aload 1, 1, 0, 0) := by decide +kernel
theorem xX1_lookAt_71 : dcd mX1_lookAt 71 = some (.getfield 58, 3, 0, 0) := by decide +kernel
theorem xX1_lookAt_74 : dcd mX1_lookAt 74 = some (.iload 4, 2, 0, 0) := by decide +kernel
theorem xX1_lookAt_76 : dcd mX1_lookAt 76 = some (.baload, 1, 0, 0) := by decide +kernel
theorem xX1_lookAt_77 : dcd mX1_lookAt 77 = some (.ifCond .eq 0, 3, 84, 0) := by decide +kernel
theorem xX1_lookAt_80 : dcd mX1_lookAt 80 = some (.iconst 0, 1, 0, 1) := by decide +kernel
theorem xX1_lookAt_81 : dcd mX1_lookAt 81 = some (.goto 0, 3, 85, 0) := by decide +kernel
theorem xX1_lookAt_84 : dcd mX1_lookAt 84 = some (.iconst 0, 1, 0, 0) := by decide +kernel
theorem xX1_lookAt_85 : dcd mX1_lookAt 85 = some (.iastore, 1, 0, 0) := by decide +kernel
theorem xX1_lookAt_86 : dcd mX1_lookAt 86 = some (.aload 0, 1, 0, 0) := by decide +kernel
theorem xX1_lookAt_87 : dcd mX1_lookAt 87 = some (.getfield 27, 3, 0, 0) := by decide +kernel
theorem xX1_lookAt_90 : dcd mX1_lookAt 90 = some (.iconst 0, 2, 0, 6) := by decide +kernel
theorem xX1_lookAt_92 : dcd mX1_lookAt 92 = some (.iload 6, 2, 0, 0) := by decide +kernel
theorem xX1_lookAt_94 : dcd mX1_lookAt 94 = some (.iastore, 1, 0, 0) := by decide +kernel
theorem xX1_lookAt_95 : dcd mX1_lookAt 95 = some (.return_, 1, 0, 0) := by decide +kernel
theorem xX1_factOf_0 : dcd mX1_factOf 0 = some (.iload 0, 1, 0, 0) := by decide +kernel
theorem xX1_factOf_1 : dcd mX1_factOf 1 = some (.tableswitch 122 97 119 #[113, 122, 109, 122, 122, 122, 122, 122, 122, 122, 122, 107, 122, 122, 111, 122, 122, 115, 122, 122, 122, 119, 117], 107, 0, 0) := by decide +kernel
theorem xX1_factOf_108 : dcd mX1_factOf 108 = some (.iconst 0, 1, 0, 0) := by decide +kernel
theorem xX1_factOf_109 : dcd mX1_factOf 109 = some (.ireturn, 1, 0, 0) := by decide +kernel
theorem xX1_factOf_110 : dcd mX1_factOf 110 = some (.iconst 0, 1, 0, 1) := by decide +kernel
theorem xX1_factOf_111 : dcd mX1_factOf 111 = some (.ireturn, 1, 0, 0) := by decide +kernel
theorem xX1_factOf_112 : dcd mX1_factOf 112 = some (.iconst 0, 1, 0, 2) := by decide +kernel
theorem xX1_factOf_113 : dcd mX1_factOf 113 = some (.ireturn, 1, 0, 0) := by decide +kernel
theorem xX1_factOf_114 : dcd mX1_factOf 114 = some (.iconst 0, 1, 0, 3) := by decide +kernel
theorem xX1_factOf_115 : dcd mX1_factOf 115 = some (.ireturn, 1, 0, 0) := by decide +kernel
theorem xX1_factOf_116 : dcd mX1_factOf 116 = some (.iconst 0, 1, 0, 4) := by decide +kernel
theorem xX1_factOf_117 : dcd mX1_factOf 117 = some (.ireturn, 1, 0, 0) := by decide +kernel
theorem xX1_factOf_118 : dcd mX1_factOf 118 = some (.iconst 0, 1, 0, 5) := by decide +kernel
theorem xX1_factOf_119 : dcd mX1_factOf 119 = some (.ireturn, 1, 0, 0) := by decide +kernel
theorem xX1_factOf_120 : dcd mX1_factOf 120 = some (.iconst 0, 2, 0, 6) := by decide +kernel
theorem xX1_factOf_122 : dcd mX1_factOf 122 = some (.ireturn, 1, 0, 0) := by decide +kernel
theorem xX1_factOf_123 : dcd mX1_factOf 123 = some (.iconst 0, 1, 0, (-1)) := by decide +kernel
theorem xX1_factOf_124 : dcd mX1_factOf 124 = some (.ireturn, 1, 0, 0) := by decide +kernel
theorem xX1_ask_0 : dcd mX1_ask 0 = some (.iload 1, 1, 0, 0) := by decide +kernel
theorem xX1_ask_1 : dcd mX1_ask 1 = some (.iconst 0, 2, 0, 103) := by decide +kernel
theorem xX1_ask_3 : dcd mX1_ask 3 = some (.if_icmp .ne 0, 3, 10, 0) := by decide +kernel
theorem xX1_ask_6 : dcd mX1_ask 6 = some (.iconst 0, 1, 0, 1) := by decide +kernel
theorem xX1_ask_7 : dcd mX1_ask 7 = some (.goto 0, 3, 11, 0) := by decide +kernel
theorem xX1_ask_10 : dcd mX1_ask 10 = some (.iconst 0, 1, 0, 0) := by decide +kernel
theorem xX1_ask_11 : dcd mX1_ask 11 = some (.istore 2, 1, 0, 0) := by decide +kernel
theorem xX1_ask_12 : dcd mX1_ask 12 = some (.iconst 0, 1, 0, 0) := by decide +kernel
theorem xX1_ask_13 : dcd mX1_ask 13 = some (.istore 3, 1, 0, 0) := by decide +kernel
theorem xX1_ask_14 : dcd mX1_ask 14 = some (.iload 3, 1, 0, 0) := by decide +kernel
theorem xX1_ask_15 : dcd mX1_ask 15 = some (.aload 0, 1, 0, 0) := by decide +kernel
theorem xX1_ask_16 : dcd mX1_ask 16 = some (.getfield 62, 3, 0, 0) := by decide +kernel
theorem xX1_ask_19 : dcd mX1_ask 19 = some (.if_icmp .ge 0, 3, 139, 0) := by decide +kernel
theorem xX1_ask_22 : dcd mX1_ask 22 = some (.iload 3, 1, 0, 0) := by decide +kernel
theorem xX1_ask_23 : dcd mX1_ask 23 = some (.iconst 0, 2, 0, 14) := by decide +kernel
theorem xX1_ask_25 : dcd mX1_ask 25 = some (.if_icmp .ge 0, 3, 139, 0) := by decide +kernel
theorem xX1_ask_28 : dcd mX1_ask 28 = some (.aload 0, 1, 0, 0) := by decide +kernel
theorem xX1_ask_29 : dcd mX1_ask 29 = some (.getfield 18, 3, 0, 0) := by decide +kernel
theorem xX1_ask_32 : dcd mX1_ask 32 = some (.iload 3, 1, 0, 0) := by decide +kernel
theorem xX1_ask_33 : dcd mX1_ask 33 = some (.iaload, 1, 0, 0) := by decide +kernel
theorem xX1_ask_34 : dcd mX1_ask 34 = some (.iload 1, 1, 0, 0) := by decide +kernel
theorem xX1_ask_35 : dcd mX1_ask 35 = some (.if_icmp .ne 0, 3, 133, 0) := by decide +kernel
theorem xX1_ask_38 : dcd mX1_ask 38 = some (.aload 0, 1, 0, 0) := by decide +kernel
theorem xX1_ask_39 : dcd mX1_ask 39 = some (.aload 0, 1, 0, 0) := by decide +kernel
theorem xX1_ask_40 : dcd mX1_ask 40 = some (.getfield 24, 3, 0, 0) := by decide +kernel
theorem xX1_ask_43 : dcd mX1_ask 43 = some (.iload 3, 1, 0, 0) := by decide +kernel
theorem xX1_ask_44 : dcd mX1_ask 44 = some (.iaload, 1, 0, 0) := by decide +kernel
theorem xX1_ask_45 : dcd mX1_ask 45 = some (.invokevirtual 66, 3, 0, 0) := by decide +kernel
theorem xX1_ask_48 : dcd mX1_ask 48 = some (.aload 0, 1, 0, 0) := by decide +kernel
theorem xX1_ask_49 : dcd mX1_ask 49 = some (.getfield 70, 3, 0, 0) := by decide +kernel
theorem xX1_ask_52 : dcd mX1_ask 52 = some (.ifCond .eq 0, 3, 133, 0) := by decide +kernel
theorem xX1_ask_55 : dcd mX1_ask 55 = some (.aload 0, 1, 0, 0) := by decide +kernel
theorem xX1_ask_56 : dcd mX1_ask 56 = some (.getfield 74, 3, 0, 0) := by decide +kernel
theorem xX1_ask_59 : dcd mX1_ask 59 = some (.ifCond .ne 0, 3, 133, 0) := by decide +kernel
theorem xX1_ask_62 : dcd mX1_ask 62 = some (.aload 0, 1, 0, 0) := by decide +kernel
theorem xX1_ask_63 : dcd mX1_ask 63 = some (.aload 0, 1, 0, 0) := by decide +kernel
theorem xX1_ask_64 : dcd mX1_ask 64 = some (.getfield 21, 3, 0, 0) := by decide +kernel
theorem xX1_ask_67 : dcd mX1_ask 67 = some (.iload 3, 1, 0, 0) := by decide +kernel
theorem xX1_ask_68 : dcd mX1_ask 68 = some (.iaload, 1, 0, 0) := by decide +kernel
theorem xX1_ask_69 : dcd mX1_ask 69 = some (.invokevirtual 66, 3, 0, 0) := by decide +kernel
theorem xX1_ask_72 : dcd mX1_ask 72 = some (.aload 0, 1, 0, 0) := by decide +kernel
theorem xX1_ask_73 : dcd mX1_ask 73 = some (.getfield 74, 3, 0, 0) := by decide +kernel
theorem xX1_ask_76 : dcd mX1_ask 76 = some (.ifCond .ne 0, 3, 87, 0) := by decide +kernel
theorem xX1_ask_79 : dcd mX1_ask 79 = some (.aload 0, 1, 0, 0) := by decide +kernel
theorem xX1_ask_80 : dcd mX1_ask 80 = some (.getfield 77, 3, 0, 0) := by decide +kernel
theorem xX1_ask_83 : dcd mX1_ask 83 = some (.iconst 0, 1, 0, 1) := by decide +kernel
theorem xX1_ask_84 : dcd mX1_ask 84 = some (.if_icmp .ge 0, 3, 91, 0) := by decide +kernel
theorem xX1_ask_87 : dcd mX1_ask 87 = some (.iconst 0, 1, 0, 0) := by decide +kernel
theorem xX1_ask_88 : dcd mX1_ask 88 = some (.goto 0, 3, 97, 0) := by decide +kernel
theorem xX1_ask_91 : dcd mX1_ask 91 = some (.aload 0, 1, 0, 0) := by decide +kernel
theorem xX1_ask_92 : dcd mX1_ask 92 = some (.getfield 30, 3, 0, 0) := by decide +kernel
theorem xX1_ask_95 : dcd mX1_ask 95 = some (.iconst 0, 1, 0, 0) := by decide +kernel
theorem xX1_ask_96 : dcd mX1_ask 96 = some (.iaload, 1, 0, 0) := by decide +kernel
theorem xX1_ask_97 : dcd mX1_ask 97 = some (.istore 4, 2, 0, 0) := by decide +kernel
theorem xX1_ask_99 : dcd mX1_ask 99 = some (.iload 2, 1, 0, 0) := by decide +kernel
theorem xX1_ask_100 : dcd mX1_ask 100 = some (.ifCond .eq 0, 3, 118, 0) := by decide +kernel
theorem xX1_ask_103 : dcd mX1_ask 103 = some (.iconst 0, 1, 0, 0) := by decide +kernel
theorem xX1_ask_104 : dcd mX1_ask 104 = some (.iconst 0, 3, 0, 999) := by decide +kernel
theorem xX1_ask_107 : dcd mX1_ask 107 = some (.iload 4, 2, 0, 0) := by decide +kernel
theorem xX1_ask_109 : dcd mX1_ask 109 = some (.invokestatic 80, 3, 0, 0) := by decide +kernel
theorem xX1_ask_112 : dcd mX1_ask 112 = some (.invokestatic 86, 3, 0, 0) := by decide +kernel
theorem xX1_ask_115 : dcd mX1_ask 115 = some (.goto 0, 3, 132, 0) := by decide +kernel
theorem xX1_ask_118 : dcd mX1_ask 118 = some (.iconst 0, 3, 0, (-9999)) := by decide +kernel
theorem xX1_ask_121 : dcd mX1_ask 121 = some (.iconst 0, 3, 0, 9999) := by decide +kernel
theorem xX1_ask_124 : dcd mX1_ask 124 = some (.iload 4, 2, 0, 0) := by decide +kernel
theorem xX1_ask_126 : dcd mX1_ask 126 = some (.invokestatic 80, 3, 0, 0) := by decide +kernel
theorem xX1_ask_129 : dcd mX1_ask 129 = some (.invokestatic 86, 3, 0, 0) := by decide +kernel
theorem xX1_ask_132 : dcd mX1_ask 132 = some (.ireturn, 1, 0, 0) := by decide +kernel
theorem xX1_ask_133 : dcd mX1_ask 133 = some (.iinc 3 0, 3, 0, 1) := by decide +kernel
theorem xX1_ask_136 : dcd mX1_ask 136 = some (.goto 0, 3, 14, 0) := by decide +kernel
theorem xX1_ask_139 : dcd mX1_ask 139 = some (.iload 2, 1, 0, 0) := by decide +kernel
theorem xX1_ask_140 : dcd mX1_ask 140 = some (.ifCond .eq 0, 3, 152, 0) := by decide +kernel
theorem xX1_ask_143 : dcd mX1_ask 143 = some (.aload 0, 1, 0, 0) := by decide +kernel
theorem xX1_ask_144 : dcd mX1_ask 144 = some (.getfield 27, 3, 0, 0) := by decide +kernel
theorem xX1_ask_147 : dcd mX1_ask 147 = some (.iconst 0, 1, 0, 0) := by decide +kernel
theorem xX1_ask_148 : dcd mX1_ask 148 = some (.iaload, 1, 0, 0) := by decide +kernel
theorem xX1_ask_149 : dcd mX1_ask 149 = some (.goto 0, 3, 153, 0) := by decide +kernel
theorem xX1_ask_152 : dcd mX1_ask 152 = some (.iconst 0, 1, 0, 0) := by decide +kernel
theorem xX1_ask_153 : dcd mX1_ask 153 = some (.ireturn, 1, 0, 0) := by decide +kernel
theorem xX1_reckon_0 : dcd mX1_reckon 0 = some (.aload 0, 1, 0, 0) := by decide +kernel
theorem xX1_reckon_1 : dcd mX1_reckon 1 = some (.iconst 0, 1, 0, 0) := by decide +kernel
theorem xX1_reckon_2 : dcd mX1_reckon 2 = some (.putfield 77, 3, 0, 0) := by decide +kernel
theorem xX1_reckon_5 : dcd mX1_reckon 5 = some (.aload 0, 1, 0, 0) := by decide +kernel
theorem xX1_reckon_6 : dcd mX1_reckon 6 = some (.iconst 0, 1, 0, 0) := by decide +kernel
theorem xX1_reckon_7 : dcd mX1_reckon 7 = some (.putfield 70, 3, 0, 0) := by decide +kernel
theorem xX1_reckon_10 : dcd mX1_reckon 10 = some (.aload 0, 1, 0, 0) := by decide +kernel
theorem xX1_reckon_11 : dcd mX1_reckon 11 = some (.iconst 0, 1, 0, 0) := by decide +kernel
theorem xX1_reckon_12 : dcd mX1_reckon 12 = some (.putfield 74, 3, 0, 0) := by decide +kernel
theorem xX1_reckon_15 : dcd mX1_reckon 15 = some (.iconst 0, 1, 0, 0) := by decide +kernel
theorem xX1_reckon_16 : dcd mX1_reckon 16 = some (.iload 1, 1, 0, 0) := by decide +kernel
theorem xX1_reckon_17 : dcd mX1_reckon 17 = some (.invokestatic 86, 3, 0, 0) := by decide +kernel
theorem xX1_reckon_20 : dcd mX1_reckon 20 = some (.istore 2, 1, 0, 0) := by decide +kernel
theorem xX1_reckon_21 : dcd mX1_reckon 21 = some (.iload 2, 1, 0, 0) := by decide +kernel
theorem xX1_reckon_22 : dcd mX1_reckon 22 = some (.aload 0, 1, 0, 0) := by decide +kernel
theorem xX1_reckon_23 : dcd mX1_reckon 23 = some (.getfield 89, 3, 0, 0) := by decide +kernel
theorem xX1_reckon_26 : dcd mX1_reckon 26 = some (.if_icmp .ge 0, 3, 219, 0) := by decide +kernel
theorem xX1_reckon_29 : dcd mX1_reckon 29 = some (.iload 2, 1, 0, 0) := by decide +kernel
theorem xX1_reckon_30 : dcd mX1_reckon 30 = some (.iconst 0, 3, 0, 200) := by decide +kernel
theorem xX1_reckon_33 : dcd mX1_reckon 33 = some (.if_icmp .ge 0, 3, 219, 0) := by decide +kernel
theorem xX1_reckon_36 : dcd mX1_reckon 36 = some (.aload 0, 1, 0, 0) := by decide +kernel
theorem xX1_reckon_37 : dcd mX1_reckon 37 = some (.getfield 11, 3, 0, 0) := by decide +kernel
theorem xX1_reckon_40 : dcd mX1_reckon 40 = some (.iload 2, 1, 0, 0) := by decide +kernel
theorem xX1_reckon_41 : dcd mX1_reckon 41 = some (.iaload, 1, 0, 0) := by decide +kernel
theorem xX1_reckon_42 : dcd mX1_reckon 42 = some (.istore 3, 1, 0, 0) := by decide +kernel
theorem xX1_reckon_43 : dcd mX1_reckon 43 = some (.iload 3, 1, 0, 0) := by decide +kernel
theorem xX1_reckon_44 : dcd mX1_reckon 44 = some (.ifCond .eq 0, 3, 54, 0) := by decide +kernel
theorem xX1_reckon_47 : dcd mX1_reckon 47 = some (.aload 0, 1, 0, 0) := by decide +kernel
theorem xX1_reckon_48 : dcd mX1_reckon 48 = some (.getfield 74, 3, 0, 0) := by decide +kernel
theorem xX1_reckon_51 : dcd mX1_reckon 51 = some (.ifCond .eq 0, 3, 55, 0) := by decide +kernel
theorem xX1_reckon_54 : dcd mX1_reckon 54 = some (.return_, 1, 0, 0) := by decide +kernel
theorem xX1_reckon_55 : dcd mX1_reckon 55 = some (.iload 3, 1, 0, 0) := by decide +kernel
theorem xX1_reckon_56 : dcd mX1_reckon 56 = some (.iconst 0, 1, 0, 1) := by decide +kernel
theorem xX1_reckon_57 : dcd mX1_reckon 57 = some (.if_icmp .ne 0, 3, 73, 0) := by decide +kernel
theorem xX1_reckon_60 : dcd mX1_reckon 60 = some (.aload 0, 1, 0, 0) := by decide +kernel
theorem xX1_reckon_61 : dcd mX1_reckon 61 = some (.aload 0, 1, 0, 0) := by decide +kernel
theorem xX1_reckon_62 : dcd mX1_reckon 62 = some (.getfield 15, 3, 0, 0) := by decide +kernel
theorem xX1_reckon_65 : dcd mX1_reckon 65 = some (.iload 2, 1, 0, 0) := by decide +kernel
theorem xX1_reckon_66 : dcd mX1_reckon 66 = some (.iaload, 1, 0, 0) := by decide +kernel
theorem xX1_reckon_67 : dcd mX1_reckon 67 = some (.invokevirtual 92, 3, 0, 0) := by decide +kernel
theorem xX1_reckon_70 : dcd mX1_reckon 70 = some (.goto 0, 3, 213, 0) := by decide +kernel
theorem xX1_reckon_73 : dcd mX1_reckon 73 = some (.iload 3, 1, 0, 0) := by decide +kernel
theorem xX1_reckon_74 : dcd mX1_reckon 74 = some (.iconst 0, 1, 0, 2) := by decide +kernel
theorem xX1_reckon_75 : dcd mX1_reckon 75 = some (.if_icmp .ne 0, 3, 115, 0) := by decide +kernel
theorem xX1_reckon_78 : dcd mX1_reckon 78 = some (.aload 0, 1, 0, 0) := by decide +kernel
theorem xX1_reckon_79 : dcd mX1_reckon 79 = some (.iconst 0, 1, 0, 0) := by decide +kernel
theorem xX1_reckon_80 : dcd mX1_reckon 80 = some (.aload 0, 1, 0, 0) := by decide +kernel
theorem xX1_reckon_81 : dcd mX1_reckon 81 = some (.getfield 15, 3, 0, 0) := by decide +kernel
theorem xX1_reckon_84 : dcd mX1_reckon 84 = some (.iload 2, 1, 0, 0) := by decide +kernel
theorem xX1_reckon_85 : dcd mX1_reckon 85 = some (.iaload, 1, 0, 0) := by decide +kernel
theorem xX1_reckon_86 : dcd mX1_reckon 86 = some (.iconst 0, 2, 0, 6) := by decide +kernel
theorem xX1_reckon_88 : dcd mX1_reckon 88 = some (.invokestatic 95, 3, 0, 0) := by decide +kernel
theorem xX1_reckon_91 : dcd mX1_reckon 91 = some (.ifCond .eq 0, 3, 108, 0) := by decide +kernel
theorem xX1_reckon_94 : dcd mX1_reckon 94 = some (.aload 0, 1, 0, 0) := by decide +kernel
theorem xX1_reckon_95 : dcd mX1_reckon 95 = some (.getfield 27, 3, 0, 0) := by decide +kernel
theorem xX1_reckon_98 : dcd mX1_reckon 98 = some (.aload 0, 1, 0, 0) := by decide +kernel
theorem xX1_reckon_99 : dcd mX1_reckon 99 = some (.getfield 15, 3, 0, 0) := by decide +kernel
theorem xX1_reckon_102 : dcd mX1_reckon 102 = some (.iload 2, 1, 0, 0) := by decide +kernel
theorem xX1_reckon_103 : dcd mX1_reckon 103 = some (.iaload, 1, 0, 0) := by decide +kernel
theorem xX1_reckon_104 : dcd mX1_reckon 104 = some (.iaload, 1, 0, 0) := by decide +kernel
theorem xX1_reckon_105 : dcd mX1_reckon 105 = some (.goto 0, 3, 109, 0) := by decide +kernel
theorem xX1_reckon_108 : dcd mX1_reckon 108 = some (.iconst 0, 1, 0, 0) := by decide +kernel
theorem xX1_reckon_109 : dcd mX1_reckon 109 = some (.invokevirtual 92, 3, 0, 0) := by decide +kernel
theorem xX1_reckon_112 : dcd mX1_reckon 112 = some (.goto 0, 3, 213, 0) := by decide +kernel
theorem xX1_reckon_115 : dcd mX1_reckon 115 = some (.iload 3, 1, 0, 0) := by decide +kernel
theorem xX1_reckon_116 : dcd mX1_reckon 116 = some (.iconst 0, 1, 0, 3) := by decide +kernel
theorem xX1_reckon_117 : dcd mX1_reckon 117 = some (.if_icmp .ne 0, 3, 139, 0) := by decide +kernel
theorem xX1_reckon_120 : dcd mX1_reckon 120 = some (.aload 0, 1, 0, 0) := by decide +kernel
theorem xX1_reckon_121 : dcd mX1_reckon 121 = some (.aload 0, 1, 0, 0) := by decide +kernel
theorem xX1_reckon_122 : dcd mX1_reckon 122 = some (.getfield 70, 3, 0, 0) := by decide +kernel
theorem xX1_reckon_125 : dcd mX1_reckon 125 = some (.ifCond .ne 0, 3, 132, 0) := by decide +kernel
theorem xX1_reckon_128 : dcd mX1_reckon 128 = some (.iconst 0, 1, 0, 1) := by decide +kernel
theorem xX1_reckon_129 : dcd mX1_reckon 129 = some (.goto 0, 3, 133, 0) := by decide +kernel
theorem xX1_reckon_132 : dcd mX1_reckon 132 = some (.iconst 0, 1, 0, 0) := by decide +kernel
theorem xX1_reckon_133 : dcd mX1_reckon 133 = some (.putfield 70, 3, 0, 0) := by decide +kernel
theorem xX1_reckon_136 : dcd mX1_reckon 136 = some (.goto 0, 3, 213, 0) := by decide +kernel
theorem xX1_reckon_139 : dcd mX1_reckon 139 = some (.iload 3, 1, 0, 0) := by decide +kernel
theorem xX1_reckon_140 : dcd mX1_reckon 140 = some (.iconst 0, 1, 0, 4) := by decide +kernel
theorem xX1_reckon_141 : dcd mX1_reckon 141 = some (.if_icmp .eq 0, 3, 149, 0) := by decide +kernel
theorem xX1_reckon_144 : dcd mX1_reckon 144 = some (.iload 3, 1, 0, 0) := by decide +kernel
theorem xX1_reckon_145 : dcd mX1_reckon 145 = some (.iconst 0, 1, 0, 5) := by decide +kernel
theorem xX1_reckon_146 : dcd mX1_reckon 146 = some (.if_icmp .ne 0, 3, 182, 0) := by decide +kernel
theorem xX1_reckon_149 : dcd mX1_reckon 149 = some (.aload 0, 1, 0, 0) := by decide +kernel
theorem xX1_reckon_150 : dcd mX1_reckon 150 = some (.getfield 70, 3, 0, 0) := by decide +kernel
theorem xX1_reckon_153 : dcd mX1_reckon 153 = some (.iload 3, 1, 0, 0) := by decide +kernel
theorem xX1_reckon_154 : dcd mX1_reckon 154 = some (.iconst 0, 1, 0, 4) := by decide +kernel
theorem xX1_reckon_155 : dcd mX1_reckon 155 = some (.if_icmp .ne 0, 3, 162, 0) := by decide +kernel
theorem xX1_reckon_158 : dcd mX1_reckon 158 = some (.iconst 0, 1, 0, 1) := by decide +kernel
theorem xX1_reckon_159 : dcd mX1_reckon 159 = some (.goto 0, 3, 163, 0) := by decide +kernel
theorem xX1_reckon_162 : dcd mX1_reckon 162 = some (.iconst 0, 1, 0, 0) := by decide +kernel
theorem xX1_reckon_163 : dcd mX1_reckon 163 = some (.if_icmp .ne 0, 3, 213, 0) := by decide +kernel
theorem xX1_reckon_166 : dcd mX1_reckon 166 = some (.iload 2, 1, 0, 0) := by decide +kernel
theorem xX1_reckon_167 : dcd mX1_reckon 167 = some (.aload 0, 1, 0, 0) := by decide +kernel
theorem xX1_reckon_168 : dcd mX1_reckon 168 = some (.getfield 15, 3, 0, 0) := by decide +kernel
theorem xX1_reckon_171 : dcd mX1_reckon 171 = some (.iload 2, 1, 0, 0) := by decide +kernel
theorem xX1_reckon_172 : dcd mX1_reckon 172 = some (.iaload, 1, 0, 0) := by decide +kernel
theorem xX1_reckon_173 : dcd mX1_reckon 173 = some (.iconst 0, 1, 0, 1) := by decide +kernel
theorem xX1_reckon_174 : dcd mX1_reckon 174 = some (.isub, 1, 0, 0) := by decide +kernel
theorem xX1_reckon_175 : dcd mX1_reckon 175 = some (.invokestatic 86, 3, 0, 0) := by decide +kernel
theorem xX1_reckon_178 : dcd mX1_reckon 178 = some (.istore 2, 1, 0, 0) := by decide +kernel
theorem xX1_reckon_179 : dcd mX1_reckon 179 = some (.goto 0, 3, 213, 0) := by decide +kernel
theorem xX1_reckon_182 : dcd mX1_reckon 182 = some (.iload 3, 1, 0, 0) := by decide +kernel
theorem xX1_reckon_183 : dcd mX1_reckon 183 = some (.iconst 0, 2, 0, 60) := by decide +kernel
theorem xX1_reckon_185 : dcd mX1_reckon 185 = some (.if_icmp .eq 0, 3, 200, 0) := by decide +kernel
theorem xX1_reckon_188 : dcd mX1_reckon 188 = some (.iload 3, 1, 0, 0) := by decide +kernel
theorem xX1_reckon_189 : dcd mX1_reckon 189 = some (.iconst 0, 2, 0, 62) := by decide +kernel
theorem xX1_reckon_191 : dcd mX1_reckon 191 = some (.if_icmp .eq 0, 3, 200, 0) := by decide +kernel
theorem xX1_reckon_194 : dcd mX1_reckon 194 = some (.iload 3, 1, 0, 0) := by decide +kernel
theorem xX1_reckon_195 : dcd mX1_reckon 195 = some (.iconst 0, 2, 0, 61) := by decide +kernel
theorem xX1_reckon_197 : dcd mX1_reckon 197 = some (.if_icmp .ne 0, 3, 208, 0) := by decide +kernel
theorem xX1_reckon_200 : dcd mX1_reckon 200 = some (.aload 0, 1, 0, 0) := by decide +kernel
theorem xX1_reckon_201 : dcd mX1_reckon 201 = some (.iload 3, 1, 0, 0) := by decide +kernel
theorem xX1_reckon_202 : dcd mX1_reckon 202 = some (.invokevirtual 99, 3, 0, 0) := by decide +kernel
theorem xX1_reckon_205 : dcd mX1_reckon 205 = some (.goto 0, 3, 213, 0) := by decide +kernel
theorem xX1_reckon_208 : dcd mX1_reckon 208 = some (.aload 0, 1, 0, 0) := by decide +kernel
theorem xX1_reckon_209 : dcd mX1_reckon 209 = some (.iload 3, 1, 0, 0) := by decide +kernel
theorem xX1_reckon_210 : dcd mX1_reckon 210 = some (.invokevirtual 102, 3, 0, 0) := by decide +kernel
theorem xX1_reckon_213 : dcd mX1_reckon 213 = some (.iinc 2 0, 3, 0, 1) := by decide +kernel
theorem xX1_reckon_216 : dcd mX1_reckon 216 = some (.goto 0, 3, 21, 0) := by decide +kernel
theorem xX1_reckon_219 : dcd mX1_reckon 219 = some (.return_, 1, 0, 0) := by decide +kernel
theorem xX1_put_0 : dcd mX1_put 0 = some (.aload 0, 1, 0, 0) := by decide +kernel
theorem xX1_put_1 : dcd mX1_put 1 = some (.getfield 77, 3, 0, 0) := by decide +kernel
theorem xX1_put_4 : dcd mX1_put 4 = some (.ifCond .lt 0, 3, 36, 0) := by decide +kernel
theorem xX1_put_7 : dcd mX1_put 7 = some (.aload 0, 1, 0, 0) := by decide +kernel
theorem xX1_put_8 : dcd mX1_put 8 = some (.getfield 77, 3, 0, 0) := by decide +kernel
theorem xX1_put_11 : dcd mX1_put 11 = some (.iconst 0, 2, 0, 32) := by decide +kernel
theorem xX1_put_13 : dcd mX1_put 13 = some (.if_icmp .ge 0, 3, 36, 0) := by decide +kernel
theorem xX1_put_16 : dcd mX1_put 16 = some (.aload 0, 1, 0, 0) := by decide +kernel
theorem xX1_put_17 : dcd mX1_put 17 = some (.getfield 30, 3, 0, 0) := by decide +kernel
theorem xX1_put_20 : dcd mX1_put 20 = some (.aload 0, 1, 0, 0) := by decide +kernel
theorem xX1_put_21 : dcd mX1_put 21 = some (.getfield 77, 3, 0, 0) := by decide +kernel
theorem xX1_put_24 : dcd mX1_put 24 = some (.iload 1, 1, 0, 0) := by decide +kernel
theorem xX1_put_25 : dcd mX1_put 25 = some (.iastore, 1, 0, 0) := by decide +kernel
theorem xX1_put_26 : dcd mX1_put 26 = some (.aload 0, 1, 0, 0) := by decide +kernel
theorem xX1_put_27 : dcd mX1_put 27 = some (.dup, 1, 0, 0) := by decide +kernel
theorem xX1_put_28 : dcd mX1_put 28 = some (.getfield 77, 3, 0, 0) := by decide +kernel
theorem xX1_put_31 : dcd mX1_put 31 = some (.iconst 0, 1, 0, 1) := by decide +kernel
theorem xX1_put_32 : dcd mX1_put 32 = some (.iadd, 1, 0, 0) := by decide +kernel
theorem xX1_put_33 : dcd mX1_put 33 = some (.putfield 77, 3, 0, 0) := by decide +kernel
theorem xX1_put_36 : dcd mX1_put 36 = some (.return_, 1, 0, 0) := by decide +kernel
theorem xX1_combine_0 : dcd mX1_combine 0 = some (.aload 0, 1, 0, 0) := by decide +kernel
theorem xX1_combine_1 : dcd mX1_combine 1 = some (.getfield 77, 3, 0, 0) := by decide +kernel
theorem xX1_combine_4 : dcd mX1_combine 4 = some (.iconst 0, 1, 0, 2) := by decide +kernel
theorem xX1_combine_5 : dcd mX1_combine 5 = some (.if_icmp .lt 0, 3, 17, 0) := by decide +kernel
theorem xX1_combine_8 : dcd mX1_combine 8 = some (.aload 0, 1, 0, 0) := by decide +kernel
theorem xX1_combine_9 : dcd mX1_combine 9 = some (.getfield 77, 3, 0, 0) := by decide +kernel
theorem xX1_combine_12 : dcd mX1_combine 12 = some (.iconst 0, 2, 0, 32) := by decide +kernel
theorem xX1_combine_14 : dcd mX1_combine 14 = some (.if_icmp .le 0, 3, 18, 0) := by decide +kernel
theorem xX1_combine_17 : dcd mX1_combine 17 = some (.return_, 1, 0, 0) := by decide +kernel
theorem xX1_combine_18 : dcd mX1_combine 18 = some (.aload 0, 1, 0, 0) := by decide +kernel
theorem xX1_combine_19 : dcd mX1_combine 19 = some (.dup, 1, 0, 0) := by decide +kernel
theorem xX1_combine_20 : dcd mX1_combine 20 = some (.getfield 77, 3, 0, 0) := by decide +kernel
theorem xX1_combine_23 : dcd mX1_combine 23 = some (.iconst 0, 1, 0, 1) := by decide +kernel
theorem xX1_combine_24 : dcd mX1_combine 24 = some (.isub, 1, 0, 0) := by decide +kernel
theorem xX1_combine_25 : dcd mX1_combine 25 = some (.putfield 77, 3, 0, 0) := by decide +kernel
theorem xX1_combine_28 : dcd mX1_combine 28 = some (.aload 0, 1, 0, 0) := by decide +kernel
theorem xX1_combine_29 : dcd mX1_combine 29 = some (.getfield 30, 3, 0, 0) := by decide +kernel
theorem xX1_combine_32 : dcd mX1_combine 32 = some (.aload 0, 1, 0, 0) := by decide +kernel
theorem xX1_combine_33 : dcd mX1_combine 33 = some (.getfield 77, 3, 0, 0) := by decide +kernel
theorem xX1_combine_36 : dcd mX1_combine 36 = some (.iconst 0, 1, 0, 1) := by decide +kernel
theorem xX1_combine_37 : dcd mX1_combine 37 = some (.isub, 1, 0, 0) := by decide +kernel
theorem xX1_combine_38 : dcd mX1_combine 38 = some (.iaload, 1, 0, 0) := by decide +kernel
theorem xX1_combine_39 : dcd mX1_combine 39 = some (.istore 2, 1, 0, 0) := by decide +kernel
theorem xX1_combine_40 : dcd mX1_combine 40 = some (.aload 0, 1, 0, 0) := by decide +kernel
theorem xX1_combine_41 : dcd mX1_combine 41 = some (.getfield 30, 3, 0, 0) := by decide +kernel
theorem xX1_combine_44 : dcd mX1_combine 44 = some (.aload 0, 1, 0, 0) := by decide +kernel
theorem xX1_combine_45 : dcd mX1_combine 45 = some (.getfield 77, 3, 0, 0) := by decide +kernel
theorem xX1_combine_48 : dcd mX1_combine 48 = some (.iaload, 1, 0, 0) := by decide +kernel
theorem xX1_combine_49 : dcd mX1_combine 49 = some (.istore 3, 1, 0, 0) := by decide +kernel
theorem xX1_combine_50 : dcd mX1_combine 50 = some (.iload 1, 1, 0, 0) := by decide +kernel
theorem xX1_combine_51 : dcd mX1_combine 51 = some (.iconst 0, 2, 0, 43) := by decide +kernel
theorem xX1_combine_53 : dcd mX1_combine 53 = some (.if_icmp .ne 0, 3, 73, 0) := by decide +kernel
theorem xX1_combine_56 : dcd mX1_combine 56 = some (.aload 0, 1, 0, 0) := by decide +kernel
theorem xX1_combine_57 : dcd mX1_combine 57 = some (.getfield 30, 3, 0, 0) := by decide +kernel
theorem xX1_combine_60 : dcd mX1_combine 60 = some (.aload 0, 1, 0, 0) := by decide +kernel
theorem xX1_combine_61 : dcd mX1_combine 61 = some (.getfield 77, 3, 0, 0) := by decide +kernel
theorem xX1_combine_64 : dcd mX1_combine 64 = some (.iconst 0, 1, 0, 1) := by decide +kernel
theorem xX1_combine_65 : dcd mX1_combine 65 = some (.isub, 1, 0, 0) := by decide +kernel
theorem xX1_combine_66 : dcd mX1_combine 66 = some (.iload 2, 1, 0, 0) := by decide +kernel
theorem xX1_combine_67 : dcd mX1_combine 67 = some (.iload 3, 1, 0, 0) := by decide +kernel
theorem xX1_combine_68 : dcd mX1_combine 68 = some (.iadd, 1, 0, 0) := by decide +kernel
theorem xX1_combine_69 : dcd mX1_combine 69 = some (.iastore, 1, 0, 0) := by decide +kernel
theorem xX1_combine_70 : dcd mX1_combine 70 = some (.goto 0, 3, 157, 0) := by decide +kernel
theorem xX1_combine_73 : dcd mX1_combine 73 = some (.iload 1, 1, 0, 0) := by decide +kernel
theorem xX1_combine_74 : dcd mX1_combine 74 = some (.iconst 0, 2, 0, 45) := by decide +kernel
theorem xX1_combine_76 : dcd mX1_combine 76 = some (.if_icmp .ne 0, 3, 96, 0) := by decide +kernel
theorem xX1_combine_79 : dcd mX1_combine 79 = some (.aload 0, 1, 0, 0) := by decide +kernel
theorem xX1_combine_80 : dcd mX1_combine 80 = some (.getfield 30, 3, 0, 0) := by decide +kernel
theorem xX1_combine_83 : dcd mX1_combine 83 = some (.aload 0, 1, 0, 0) := by decide +kernel
theorem xX1_combine_84 : dcd mX1_combine 84 = some (.getfield 77, 3, 0, 0) := by decide +kernel
theorem xX1_combine_87 : dcd mX1_combine 87 = some (.iconst 0, 1, 0, 1) := by decide +kernel
theorem xX1_combine_88 : dcd mX1_combine 88 = some (.isub, 1, 0, 0) := by decide +kernel
theorem xX1_combine_89 : dcd mX1_combine 89 = some (.iload 2, 1, 0, 0) := by decide +kernel
theorem xX1_combine_90 : dcd mX1_combine 90 = some (.iload 3, 1, 0, 0) := by decide +kernel
theorem xX1_combine_91 : dcd mX1_combine 91 = some (.isub, 1, 0, 0) := by decide +kernel
theorem xX1_combine_92 : dcd mX1_combine 92 = some (.iastore, 1, 0, 0) := by decide +kernel
theorem xX1_combine_93 : dcd mX1_combine 93 = some (.goto 0, 3, 157, 0) := by decide +kernel
theorem xX1_combine_96 : dcd mX1_combine 96 = some (.iload 1, 1, 0, 0) := by decide +kernel
theorem xX1_combine_97 : dcd mX1_combine 97 = some (.iconst 0, 2, 0, 42) := by decide +kernel
theorem xX1_combine_99 : dcd mX1_combine 99 = some (.if_icmp .ne 0, 3, 119, 0) := by decide +kernel
theorem xX1_combine_102 : dcd mX1_combine 102 = some (.aload 0, 1, 0, 0) := by decide +kernel
theorem xX1_combine_103 : dcd mX1_combine 103 = some (.getfield 30, 3, 0, 0) := by decide +kernel
theorem xX1_combine_106 : dcd mX1_combine 106 = some (.aload 0, 1, 0, 0) := by decide +kernel
theorem xX1_combine_107 : dcd mX1_combine 107 = some (.getfield 77, 3, 0, 0) := by decide +kernel
theorem xX1_combine_110 : dcd mX1_combine 110 = some (.iconst 0, 1, 0, 1) := by decide +kernel
theorem xX1_combine_111 : dcd mX1_combine 111 = some (.isub, 1, 0, 0) := by decide +kernel
theorem xX1_combine_112 : dcd mX1_combine 112 = some (.iload 2, 1, 0, 0) := by decide +kernel
theorem xX1_combine_113 : dcd mX1_combine 113 = some (.iload 3, 1, 0, 0) := by decide +kernel
theorem xX1_combine_114 : dcd mX1_combine 114 = some (.imul, 1, 0, 0) := by decide +kernel
theorem xX1_combine_115 : dcd mX1_combine 115 = some (.iastore, 1, 0, 0) := by decide +kernel
theorem xX1_combine_116 : dcd mX1_combine 116 = some (.goto 0, 3, 157, 0) := by decide +kernel
theorem xX1_combine_119 : dcd mX1_combine 119 = some (.iload 3, 1, 0, 0) := by decide +kernel
theorem xX1_combine_120 : dcd mX1_combine 120 = some (.ifCond .ne 0, 3, 131, 0) := by decide +kernel
theorem xX1_combine_123 : dcd mX1_combine 123 = some (.aload 0, 1, 0, 0) := by decide +kernel
theorem xX1_combine_124 : dcd mX1_combine 124 = some (.iconst 0, 1, 0, 1) := by decide +kernel
theorem xX1_combine_125 : dcd mX1_combine 125 = some (.putfield 74, 3, 0, 0) := by decide +kernel
theorem xX1_combine_128 : dcd mX1_combine 128 = some (.goto 0, 3, 157, 0) := by decide +kernel
theorem xX1_combine_131 : dcd mX1_combine 131 = some (.aload 0, 1, 0, 0) := by decide +kernel
theorem xX1_combine_132 : dcd mX1_combine 132 = some (.getfield 30, 3, 0, 0) := by decide +kernel
theorem xX1_combine_135 : dcd mX1_combine 135 = some (.aload 0, 1, 0, 0) := by decide +kernel
theorem xX1_combine_136 : dcd mX1_combine 136 = some (.getfield 77, 3, 0, 0) := by decide +kernel
theorem xX1_combine_139 : dcd mX1_combine 139 = some (.iconst 0, 1, 0, 1) := by decide +kernel
theorem xX1_combine_140 : dcd mX1_combine 140 = some (.isub, 1, 0, 0) := by decide +kernel
theorem xX1_combine_141 : dcd mX1_combine 141 = some (.iload 1, 1, 0, 0) := by decide +kernel
theorem xX1_combine_142 : dcd mX1_combine 142 = some (.iconst 0, 2, 0, 47) := by decide +kernel
theorem xX1_combine_144 : dcd mX1_combine 144 = some (.if_icmp .ne 0, 3, 153, 0) := by decide +kernel
theorem xX1_combine_147 : dcd mX1_combine 147 = some (.iload 2, 1, 0, 0) := by decide +kernel
theorem xX1_combine_148 : dcd mX1_combine 148 = some (.iload 3, 1, 0, 0) := by decide +kernel
theorem xX1_combine_149 : dcd mX1_combine 149 = some (.idiv, 1, 0, 0) := by decide +kernel
theorem xX1_combine_150 : dcd mX1_combine 150 = some (.goto 0, 3, 156, 0) := by decide +kernel
theorem xX1_combine_153 : dcd mX1_combine 153 = some (.iload 2, 1, 0, 0) := by decide +kernel
theorem xX1_combine_154 : dcd mX1_combine 154 = some (.iload 3, 1, 0, 0) := by decide +kernel
theorem xX1_combine_155 : dcd mX1_combine 155 = some (.irem, 1, 0, 0) := by decide +kernel
theorem xX1_combine_156 : dcd mX1_combine 156 = some (.iastore, 1, 0, 0) := by decide +kernel
theorem xX1_combine_157 : dcd mX1_combine 157 = some (.return_, 1, 0, 0) := by decide +kernel
theorem xX1_compare_0 : dcd mX1_compare 0 = some (.aload 0, 1, 0, 0) := by decide +kernel
theorem xX1_compare_1 : dcd mX1_compare 1 = some (.getfield 77, 3, 0, 0) := by decide +kernel
theorem xX1_compare_4 : dcd mX1_compare 4 = some (.iconst 0, 1, 0, 2) := by decide +kernel
theorem xX1_compare_5 : dcd mX1_compare 5 = some (.if_icmp .lt 0, 3, 17, 0) := by decide +kernel
theorem xX1_compare_8 : dcd mX1_compare 8 = some (.aload 0, 1, 0, 0) := by decide +kernel
theorem xX1_compare_9 : dcd mX1_compare 9 = some (.getfield 77, 3, 0, 0) := by decide +kernel
theorem xX1_compare_12 : dcd mX1_compare 12 = some (.iconst 0, 2, 0, 32) := by decide +kernel
theorem xX1_compare_14 : dcd mX1_compare 14 = some (.if_icmp .le 0, 3, 18, 0) := by decide +kernel
theorem xX1_compare_17 : dcd mX1_compare 17 = some (.return_, 1, 0, 0) := by decide +kernel
theorem xX1_compare_18 : dcd mX1_compare 18 = some (.aload 0, 1, 0, 0) := by decide +kernel
theorem xX1_compare_19 : dcd mX1_compare 19 = some (.dup, 1, 0, 0) := by decide +kernel
theorem xX1_compare_20 : dcd mX1_compare 20 = some (.getfield 77, 3, 0, 0) := by decide +kernel
theorem xX1_compare_23 : dcd mX1_compare 23 = some (.iconst 0, 1, 0, 2) := by decide +kernel
theorem xX1_compare_24 : dcd mX1_compare 24 = some (.isub, 1, 0, 0) := by decide +kernel
theorem xX1_compare_25 : dcd mX1_compare 25 = some (.putfield 77, 3, 0, 0) := by decide +kernel
theorem xX1_compare_28 : dcd mX1_compare 28 = some (.aload 0, 1, 0, 0) := by decide +kernel
theorem xX1_compare_29 : dcd mX1_compare 29 = some (.getfield 30, 3, 0, 0) := by decide +kernel
theorem xX1_compare_32 : dcd mX1_compare 32 = some (.aload 0, 1, 0, 0) := by decide +kernel
theorem xX1_compare_33 : dcd mX1_compare 33 = some (.getfield 77, 3, 0, 0) := by decide +kernel
theorem xX1_compare_36 : dcd mX1_compare 36 = some (.iaload, 1, 0, 0) := by decide +kernel
theorem xX1_compare_37 : dcd mX1_compare 37 = some (.istore 2, 1, 0, 0) := by decide +kernel
theorem xX1_compare_38 : dcd mX1_compare 38 = some (.aload 0, 1, 0, 0) := by decide +kernel
theorem xX1_compare_39 : dcd mX1_compare 39 = some (.getfield 30, 3, 0, 0) := by decide +kernel
theorem xX1_compare_42 : dcd mX1_compare 42 = some (.aload 0, 1, 0, 0) := by decide +kernel
theorem xX1_compare_43 : dcd mX1_compare 43 = some (.getfield 77, 3, 0, 0) := by decide +kernel
theorem xX1_compare_46 : dcd mX1_compare 46 = some (.iconst 0, 1, 0, 1) := by decide +kernel
theorem xX1_compare_47 : dcd mX1_compare 47 = some (.iadd, 1, 0, 0) := by decide +kernel
theorem xX1_compare_48 : dcd mX1_compare 48 = some (.iaload, 1, 0, 0) := by decide +kernel
theorem xX1_compare_49 : dcd mX1_compare 49 = some (.istore 3, 1, 0, 0) := by decide +kernel
theorem xX1_compare_50 : dcd mX1_compare 50 = some (.aload 0, 1, 0, 0) := by decide +kernel
theorem xX1_compare_51 : dcd mX1_compare 51 = some (.iload 1, 1, 0, 0) := by decide +kernel
theorem xX1_compare_52 : dcd mX1_compare 52 = some (.iconst 0, 2, 0, 60) := by decide +kernel
theorem xX1_compare_54 : dcd mX1_compare 54 = some (.if_icmp .ne 0, 3, 70, 0) := by decide +kernel
theorem xX1_compare_57 : dcd mX1_compare 57 = some (.iload 2, 1, 0, 0) := by decide +kernel
theorem xX1_compare_58 : dcd mX1_compare 58 = some (.iload 3, 1, 0, 0) := by decide +kernel
theorem xX1_compare_59 : dcd mX1_compare 59 = some (.if_icmp .ge 0, 3, 66, 0) := by decide +kernel
theorem xX1_compare_62 : dcd mX1_compare 62 = some (.iconst 0, 1, 0, 1) := by decide +kernel
theorem xX1_compare_63 : dcd mX1_compare 63 = some (.goto 0, 3, 99, 0) := by decide +kernel
theorem xX1_compare_66 : dcd mX1_compare 66 = some (.iconst 0, 1, 0, 0) := by decide +kernel
theorem xX1_compare_67 : dcd mX1_compare 67 = some (.goto 0, 3, 99, 0) := by decide +kernel
theorem xX1_compare_70 : dcd mX1_compare 70 = some (.iload 1, 1, 0, 0) := by decide +kernel
theorem xX1_compare_71 : dcd mX1_compare 71 = some (.iconst 0, 2, 0, 62) := by decide +kernel
theorem xX1_compare_73 : dcd mX1_compare 73 = some (.if_icmp .ne 0, 3, 89, 0) := by decide +kernel
theorem xX1_compare_76 : dcd mX1_compare 76 = some (.iload 2, 1, 0, 0) := by decide +kernel
theorem xX1_compare_77 : dcd mX1_compare 77 = some (.iload 3, 1, 0, 0) := by decide +kernel
theorem xX1_compare_78 : dcd mX1_compare 78 = some (.if_icmp .le 0, 3, 85, 0) := by decide +kernel
theorem xX1_compare_81 : dcd mX1_compare 81 = some (.iconst 0, 1, 0, 1) := by decide +kernel
theorem xX1_compare_82 : dcd mX1_compare 82 = some (.goto 0, 3, 99, 0) := by decide +kernel
theorem xX1_compare_85 : dcd mX1_compare 85 = some (.iconst 0, 1, 0, 0) := by decide +kernel
theorem xX1_compare_86 : dcd mX1_compare 86 = some (.goto 0, 3, 99, 0) := by decide +kernel
theorem xX1_compare_89 : dcd mX1_compare 89 = some (.iload 2, 1, 0, 0) := by decide +kernel
theorem xX1_compare_90 : dcd mX1_compare 90 = some (.iload 3, 1, 0, 0) := by decide +kernel
theorem xX1_compare_91 : dcd mX1_compare 91 = some (.if_icmp .ne 0, 3, 98, 0) := by decide +kernel
theorem xX1_compare_94 : dcd mX1_compare 94 = some (.iconst 0, 1, 0, 1) := by decide +kernel
theorem xX1_compare_95 : dcd mX1_compare 95 = some (.goto 0, 3, 99, 0) := by decide +kernel
theorem xX1_compare_98 : dcd mX1_compare 98 = some (.iconst 0, 1, 0, 0) := by decide +kernel
theorem xX1_compare_99 : dcd mX1_compare 99 = some (.putfield 70, 3, 0, 0) := by decide +kernel
theorem xX1_compare_102 : dcd mX1_compare 102 = some (.return_, 1, 0, 0) := by decide +kernel
theorem xX1_forget_0 : dcd mX1_forget 0 = some (.aload 0, 1, 0, 0) := by decide +kernel
theorem xX1_forget_1 : dcd mX1_forget 1 = some (.iconst 0, 1, 0, 0) := by decide +kernel
theorem xX1_forget_2 : dcd mX1_forget 2 = some (.putfield 89, 3, 0, 0) := by decide +kernel
theorem xX1_forget_5 : dcd mX1_forget 5 = some (.aload 0, 1, 0, 0) := by decide +kernel
theorem xX1_forget_6 : dcd mX1_forget 6 = some (.iconst 0, 1, 0, 0) := by decide +kernel
theorem xX1_forget_7 : dcd mX1_forget 7 = some (.putfield 62, 3, 0, 0) := by decide +kernel
theorem xX1_forget_10 : dcd mX1_forget 10 = some (.return_, 1, 0, 0) := by decide +kernel
theorem xX1_startClause_0 : dcd mX1_startClause 0 = some (.aload 0, 1, 0, 0) := by decide +kernel
theorem xX1_startClause_1 : dcd mX1_startClause 1 = some (.getfield 62, 3, 0, 0) := by decide +kernel
theorem xX1_startClause_4 : dcd mX1_startClause 4 = some (.iconst 0, 2, 0, 14) := by decide +kernel
theorem xX1_startClause_6 : dcd mX1_startClause 6 = some (.if_icmp .ge 0, 3, 42, 0) := by decide +kernel
theorem xX1_startClause_9 : dcd mX1_startClause 9 = some (.aload 0, 1, 0, 0) := by decide +kernel
theorem xX1_startClause_10 : dcd mX1_startClause 10 = some (.getfield 18, 3, 0, 0) := by decide +kernel
theorem xX1_startClause_13 : dcd mX1_startClause 13 = some (.aload 0, 1, 0, 0) := by decide +kernel
theorem xX1_startClause_14 : dcd mX1_startClause 14 = some (.getfield 62, 3, 0, 0) := by decide +kernel
theorem xX1_startClause_17 : dcd mX1_startClause 17 = some (.iload 1, 1, 0, 0) := by decide +kernel
theorem xX1_startClause_18 : dcd mX1_startClause 18 = some (.iastore, 1, 0, 0) := by decide +kernel
theorem xX1_startClause_19 : dcd mX1_startClause 19 = some (.aload 0, 1, 0, 0) := by decide +kernel
theorem xX1_startClause_20 : dcd mX1_startClause 20 = some (.getfield 21, 3, 0, 0) := by decide +kernel
theorem xX1_startClause_23 : dcd mX1_startClause 23 = some (.aload 0, 1, 0, 0) := by decide +kernel
theorem xX1_startClause_24 : dcd mX1_startClause 24 = some (.getfield 62, 3, 0, 0) := by decide +kernel
theorem xX1_startClause_27 : dcd mX1_startClause 27 = some (.aload 0, 1, 0, 0) := by decide +kernel
theorem xX1_startClause_28 : dcd mX1_startClause 28 = some (.getfield 89, 3, 0, 0) := by decide +kernel
theorem xX1_startClause_31 : dcd mX1_startClause 31 = some (.iastore, 1, 0, 0) := by decide +kernel
theorem xX1_startClause_32 : dcd mX1_startClause 32 = some (.aload 0, 1, 0, 0) := by decide +kernel
theorem xX1_startClause_33 : dcd mX1_startClause 33 = some (.dup, 1, 0, 0) := by decide +kernel
theorem xX1_startClause_34 : dcd mX1_startClause 34 = some (.getfield 62, 3, 0, 0) := by decide +kernel
theorem xX1_startClause_37 : dcd mX1_startClause 37 = some (.iconst 0, 1, 0, 1) := by decide +kernel
theorem xX1_startClause_38 : dcd mX1_startClause 38 = some (.iadd, 1, 0, 0) := by decide +kernel
theorem xX1_startClause_39 : dcd mX1_startClause 39 = some (.putfield 62, 3, 0, 0) := by decide +kernel
theorem xX1_startClause_42 : dcd mX1_startClause 42 = some (.return_, 1, 0, 0) := by decide +kernel
theorem xX1_startCondition_0 : dcd mX1_startCondition 0 = some (.aload 0, 1, 0, 0) := by decide +kernel
theorem xX1_startCondition_1 : dcd mX1_startCondition 1 = some (.iconst 0, 1, 0, 0) := by decide +kernel
theorem xX1_startCondition_2 : dcd mX1_startCondition 2 = some (.iconst 0, 1, 0, 0) := by decide +kernel
theorem xX1_startCondition_3 : dcd mX1_startCondition 3 = some (.invokevirtual 105, 3, 0, 0) := by decide +kernel
theorem xX1_startCondition_6 : dcd mX1_startCondition 6 = some (.aload 0, 1, 0, 0) := by decide +kernel
theorem xX1_startCondition_7 : dcd mX1_startCondition 7 = some (.getfield 62, 3, 0, 0) := by decide +kernel
theorem xX1_startCondition_10 : dcd mX1_startCondition 10 = some (.ifCond .le 0, 3, 37, 0) := by decide +kernel
theorem xX1_startCondition_13 : dcd mX1_startCondition 13 = some (.aload 0, 1, 0, 0) := by decide +kernel
theorem xX1_startCondition_14 : dcd mX1_startCondition 14 = some (.getfield 62, 3, 0, 0) := by decide +kernel
theorem xX1_startCondition_17 : dcd mX1_startCondition 17 = some (.iconst 0, 2, 0, 14) := by decide +kernel
theorem xX1_startCondition_19 : dcd mX1_startCondition 19 = some (.if_icmp .gt 0, 3, 37, 0) := by decide +kernel
theorem xX1_startCondition_22 : dcd mX1_startCondition 22 = some (.aload 0, 1, 0, 0) := by decide +kernel
theorem xX1_startCondition_23 : dcd mX1_startCondition 23 = some (.getfield 24, 3, 0, 0) := by decide +kernel
theorem xX1_startCondition_26 : dcd mX1_startCondition 26 = some (.aload 0, 1, 0, 0) := by decide +kernel
theorem xX1_startCondition_27 : dcd mX1_startCondition 27 = some (.getfield 62, 3, 0, 0) := by decide +kernel
theorem xX1_startCondition_30 : dcd mX1_startCondition 30 = some (.iconst 0, 1, 0, 1) := by decide +kernel
theorem xX1_startCondition_31 : dcd mX1_startCondition 31 = some (.isub, 1, 0, 0) := by decide +kernel
theorem xX1_startCondition_32 : dcd mX1_startCondition 32 = some (.aload 0, 1, 0, 0) := by decide +kernel
theorem xX1_startCondition_33 : dcd mX1_startCondition 33 = some (.getfield 89, 3, 0, 0) := by decide +kernel
theorem xX1_startCondition_36 : dcd mX1_startCondition 36 = some (.iastore, 1, 0, 0) := by decide +kernel
theorem xX1_startCondition_37 : dcd mX1_startCondition 37 = some (.return_, 1, 0, 0) := by decide +kernel
theorem xX1_emit_0 : dcd mX1_emit 0 = some (.aload 0, 1, 0, 0) := by decide +kernel
theorem xX1_emit_1 : dcd mX1_emit 1 = some (.getfield 89, 3, 0, 0) := by decide +kernel
theorem xX1_emit_4 : dcd mX1_emit 4 = some (.iconst 0, 3, 0, 200) := by decide +kernel
theorem xX1_emit_7 : dcd mX1_emit 7 = some (.if_icmp .ge 0, 3, 40, 0) := by decide +kernel
theorem xX1_emit_10 : dcd mX1_emit 10 = some (.aload 0, 1, 0, 0) := by decide +kernel
theorem xX1_emit_11 : dcd mX1_emit 11 = some (.getfield 11, 3, 0, 0) := by decide +kernel
theorem xX1_emit_14 : dcd mX1_emit 14 = some (.aload 0, 1, 0, 0) := by decide +kernel
theorem xX1_emit_15 : dcd mX1_emit 15 = some (.getfield 89, 3, 0, 0) := by decide +kernel
theorem xX1_emit_18 : dcd mX1_emit 18 = some (.iload 1, 1, 0, 0) := by decide +kernel
theorem xX1_emit_19 : dcd mX1_emit 19 = some (.iastore, 1, 0, 0) := by decide +kernel
theorem xX1_emit_20 : dcd mX1_emit 20 = some (.aload 0, 1, 0, 0) := by decide +kernel
theorem xX1_emit_21 : dcd mX1_emit 21 = some (.getfield 15, 3, 0, 0) := by decide +kernel
theorem xX1_emit_24 : dcd mX1_emit 24 = some (.aload 0, 1, 0, 0) := by decide +kernel
theorem xX1_emit_25 : dcd mX1_emit 25 = some (.getfield 89, 3, 0, 0) := by decide +kernel
theorem xX1_emit_28 : dcd mX1_emit 28 = some (.iload 2, 1, 0, 0) := by decide +kernel
theorem xX1_emit_29 : dcd mX1_emit 29 = some (.iastore, 1, 0, 0) := by decide +kernel
theorem xX1_emit_30 : dcd mX1_emit 30 = some (.aload 0, 1, 0, 0) := by decide +kernel
theorem xX1_emit_31 : dcd mX1_emit 31 = some (.dup, 1, 0, 0) := by decide +kernel
theorem xX1_emit_32 : dcd mX1_emit 32 = some (.getfield 89, 3, 0, 0) := by decide +kernel
theorem xX1_emit_35 : dcd mX1_emit 35 = some (.iconst 0, 1, 0, 1) := by decide +kernel
theorem xX1_emit_36 : dcd mX1_emit 36 = some (.iadd, 1, 0, 0) := by decide +kernel
theorem xX1_emit_37 : dcd mX1_emit 37 = some (.putfield 89, 3, 0, 0) := by decide +kernel
theorem xX1_emit_40 : dcd mX1_emit 40 = some (.return_, 1, 0, 0) := by decide +kernel
theorem xX1_emitJump_0 : dcd mX1_emitJump 0 = some (.aload 0, 1, 0, 0) := by decide +kernel
theorem xX1_emitJump_1 : dcd mX1_emitJump 1 = some (.iload 1, 1, 0, 0) := by decide +kernel
theorem xX1_emitJump_2 : dcd mX1_emitJump 2 = some (.iload 2, 1, 0, 0) := by decide +kernel
theorem xX1_emitJump_3 : dcd mX1_emitJump 3 = some (.invokevirtual 105, 3, 0, 0) := by decide +kernel
theorem xX1_emitJump_6 : dcd mX1_emitJump 6 = some (.aload 0, 1, 0, 0) := by decide +kernel
theorem xX1_emitJump_7 : dcd mX1_emitJump 7 = some (.getfield 89, 3, 0, 0) := by decide +kernel
theorem xX1_emitJump_10 : dcd mX1_emitJump 10 = some (.iconst 0, 1, 0, 1) := by decide +kernel
theorem xX1_emitJump_11 : dcd mX1_emitJump 11 = some (.isub, 1, 0, 0) := by decide +kernel
theorem xX1_emitJump_12 : dcd mX1_emitJump 12 = some (.ireturn, 1, 0, 0) := by decide +kernel
theorem xX1_aimHere_0 : dcd mX1_aimHere 0 = some (.iload 1, 1, 0, 0) := by decide +kernel
theorem xX1_aimHere_1 : dcd mX1_aimHere 1 = some (.istore 2, 1, 0, 0) := by decide +kernel
theorem xX1_aimHere_2 : dcd mX1_aimHere 2 = some (.iconst 0, 1, 0, 0) := by decide +kernel
theorem xX1_aimHere_3 : dcd mX1_aimHere 3 = some (.istore 3, 1, 0, 0) := by decide +kernel
theorem xX1_aimHere_4 : dcd mX1_aimHere 4 = some (.iload 3, 1, 0, 0) := by decide +kernel
theorem xX1_aimHere_5 : dcd mX1_aimHere 5 = some (.iconst 0, 3, 0, 200) := by decide +kernel
theorem xX1_aimHere_8 : dcd mX1_aimHere 8 = some (.if_icmp .ge 0, 3, 50, 0) := by decide +kernel
theorem xX1_aimHere_11 : dcd mX1_aimHere 11 = some (.iload 2, 1, 0, 0) := by decide +kernel
theorem xX1_aimHere_12 : dcd mX1_aimHere 12 = some (.ifCond .lt 0, 3, 50, 0) := by decide +kernel
theorem xX1_aimHere_15 : dcd mX1_aimHere 15 = some (.iload 2, 1, 0, 0) := by decide +kernel
theorem xX1_aimHere_16 : dcd mX1_aimHere 16 = some (.aload 0, 1, 0, 0) := by decide +kernel
theorem xX1_aimHere_17 : dcd mX1_aimHere 17 = some (.getfield 89, 3, 0, 0) := by decide +kernel
theorem xX1_aimHere_20 : dcd mX1_aimHere 20 = some (.if_icmp .ge 0, 3, 50, 0) := by decide +kernel
theorem xX1_aimHere_23 : dcd mX1_aimHere 23 = some (.aload 0, 1, 0, 0) := by decide +kernel
theorem xX1_aimHere_24 : dcd mX1_aimHere 24 = some (.getfield 15, 3, 0, 0) := by decide +kernel
theorem xX1_aimHere_27 : dcd mX1_aimHere 27 = some (.iload 2, 1, 0, 0) := by decide +kernel
theorem xX1_aimHere_28 : dcd mX1_aimHere 28 = some (.iaload, 1, 0, 0) := by decide +kernel
theorem xX1_aimHere_29 : dcd mX1_aimHere 29 = some (.istore 4, 2, 0, 0) := by decide +kernel
theorem xX1_aimHere_31 : dcd mX1_aimHere 31 = some (.aload 0, 1, 0, 0) := by decide +kernel
theorem xX1_aimHere_32 : dcd mX1_aimHere 32 = some (.getfield 15, 3, 0, 0) := by decide +kernel
theorem xX1_aimHere_35 : dcd mX1_aimHere 35 = some (.iload 2, 1, 0, 0) := by decide +kernel
theorem xX1_aimHere_36 : dcd mX1_aimHere 36 = some (.aload 0, 1, 0, 0) := by decide +kernel
theorem xX1_aimHere_37 : dcd mX1_aimHere 37 = some (.getfield 89, 3, 0, 0) := by decide +kernel
theorem xX1_aimHere_40 : dcd mX1_aimHere 40 = some (.iastore, 1, 0, 0) := by decide +kernel
theorem xX1_aimHere_41 : dcd mX1_aimHere 41 = some (.iload 4, 2, 0, 0) := by decide +kernel
theorem xX1_aimHere_43 : dcd mX1_aimHere 43 = some (.istore 2, 1, 0, 0) := by decide +kernel
theorem xX1_aimHere_44 : dcd mX1_aimHere 44 = some (.iinc 3 0, 3, 0, 1) := by decide +kernel
theorem xX1_aimHere_47 : dcd mX1_aimHere 47 = some (.goto 0, 3, 4, 0) := by decide +kernel
theorem xX1_aimHere_50 : dcd mX1_aimHere 50 = some (.return_, 1, 0, 0) := by decide +kernel
theorem xX1_copyFrom_0 : dcd mX1_copyFrom 0 = some (.aload 1, 1, 0, 0) := by decide +kernel
theorem xX1_copyFrom_1 : dcd mX1_copyFrom 1 = some (.getfield 11, 3, 0, 0) := by decide +kernel
theorem xX1_copyFrom_4 : dcd mX1_copyFrom 4 = some (.iconst 0, 1, 0, 0) := by decide +kernel
theorem xX1_copyFrom_5 : dcd mX1_copyFrom 5 = some (.aload 0, 1, 0, 0) := by decide +kernel
theorem xX1_copyFrom_6 : dcd mX1_copyFrom 6 = some (.getfield 11, 3, 0, 0) := by decide +kernel
theorem xX1_copyFrom_9 : dcd mX1_copyFrom 9 = some (.iconst 0, 1, 0, 0) := by decide +kernel
theorem xX1_copyFrom_10 : dcd mX1_copyFrom 10 = some (.iconst 0, 3, 0, 200) := by decide +kernel
theorem xX1_copyFrom_13 : dcd mX1_copyFrom 13 = some (.invokestatic 109, 3, 0, 0) := by decide +kernel
theorem xX1_copyFrom_16 : dcd mX1_copyFrom 16 = some (.aload 1, 1, 0, 0) := by decide +kernel
theorem xX1_copyFrom_17 : dcd mX1_copyFrom 17 = some (.getfield 15, 3, 0, 0) := by decide +kernel
theorem xX1_copyFrom_20 : dcd mX1_copyFrom 20 = some (.iconst 0, 1, 0, 0) := by decide +kernel
theorem xX1_copyFrom_21 : dcd mX1_copyFrom 21 = some (.aload 0, 1, 0, 0) := by decide +kernel
theorem xX1_copyFrom_22 : dcd mX1_copyFrom 22 = some (.getfield 15, 3, 0, 0) := by decide +kernel
theorem xX1_copyFrom_25 : dcd mX1_copyFrom 25 = some (.iconst 0, 1, 0, 0) := by decide +kernel
theorem xX1_copyFrom_26 : dcd mX1_copyFrom 26 = some (.iconst 0, 3, 0, 200) := by decide +kernel
theorem xX1_copyFrom_29 : dcd mX1_copyFrom 29 = some (.invokestatic 109, 3, 0, 0) := by decide +kernel
theorem xX1_copyFrom_32 : dcd mX1_copyFrom 32 = some (.aload 1, 1, 0, 0) := by decide +kernel
theorem xX1_copyFrom_33 : dcd mX1_copyFrom 33 = some (.getfield 18, 3, 0, 0) := by decide +kernel
theorem xX1_copyFrom_36 : dcd mX1_copyFrom 36 = some (.iconst 0, 1, 0, 0) := by decide +kernel
theorem xX1_copyFrom_37 : dcd mX1_copyFrom 37 = some (.aload 0, 1, 0, 0) := by decide +kernel
theorem xX1_copyFrom_38 : dcd mX1_copyFrom 38 = some (.getfield 18, 3, 0, 0) := by decide +kernel
theorem xX1_copyFrom_41 : dcd mX1_copyFrom 41 = some (.iconst 0, 1, 0, 0) := by decide +kernel
theorem xX1_copyFrom_42 : dcd mX1_copyFrom 42 = some (.iconst 0, 2, 0, 14) := by decide +kernel
theorem xX1_copyFrom_44 : dcd mX1_copyFrom 44 = some (.invokestatic 109, 3, 0, 0) := by decide +kernel
theorem xX1_copyFrom_47 : dcd mX1_copyFrom 47 = some (.aload 1, 1, 0, 0) := by decide +kernel
theorem xX1_copyFrom_48 : dcd mX1_copyFrom 48 = some (.getfield 21, 3, 0, 0) := by decide +kernel
theorem xX1_copyFrom_51 : dcd mX1_copyFrom 51 = some (.iconst 0, 1, 0, 0) := by decide +kernel
theorem xX1_copyFrom_52 : dcd mX1_copyFrom 52 = some (.aload 0, 1, 0, 0) := by decide +kernel
theorem xX1_copyFrom_53 : dcd mX1_copyFrom 53 = some (.getfield 21, 3, 0, 0) := by decide +kernel
theorem xX1_copyFrom_56 : dcd mX1_copyFrom 56 = some (.iconst 0, 1, 0, 0) := by decide +kernel
theorem xX1_copyFrom_57 : dcd mX1_copyFrom 57 = some (.iconst 0, 2, 0, 14) := by decide +kernel
theorem xX1_copyFrom_59 : dcd mX1_copyFrom 59 = some (.invokestatic 109, 3, 0, 0) := by decide +kernel
theorem xX1_copyFrom_62 : dcd mX1_copyFrom 62 = some (.aload 1, 1, 0, 0) := by decide +kernel
theorem xX1_copyFrom_63 : dcd mX1_copyFrom 63 = some (.getfield 24, 3, 0, 0) := by decide +kernel
theorem xX1_copyFrom_66 : dcd mX1_copyFrom 66 = some (.iconst 0, 1, 0, 0) := by decide +kernel
theorem xX1_copyFrom_67 : dcd mX1_copyFrom 67 = some (.aload 0, 1, 0, 0) := by decide +kernel
theorem xX1_copyFrom_68 : dcd mX1_copyFrom 68 = some (.getfield 24, 3, 0, 0) := by decide +kernel
theorem xX1_copyFrom_71 : dcd mX1_copyFrom 71 = some (.iconst 0, 1, 0, 0) := by decide +kernel
theorem xX1_copyFrom_72 : dcd mX1_copyFrom 72 = some (.iconst 0, 2, 0, 14) := by decide +kernel
theorem xX1_copyFrom_74 : dcd mX1_copyFrom 74 = some (.invokestatic 109, 3, 0, 0) := by decide +kernel
theorem xX1_copyFrom_77 : dcd mX1_copyFrom 77 = some (.aload 0, 1, 0, 0) := by decide +kernel
theorem xX1_copyFrom_78 : dcd mX1_copyFrom 78 = some (.aload 1, 1, 0, 0) := by decide +kernel
theorem xX1_copyFrom_79 : dcd mX1_copyFrom 79 = some (.getfield 89, 3, 0, 0) := by decide +kernel
theorem xX1_copyFrom_82 : dcd mX1_copyFrom 82 = some (.putfield 89, 3, 0, 0) := by decide +kernel
theorem xX1_copyFrom_85 : dcd mX1_copyFrom 85 = some (.aload 0, 1, 0, 0) := by decide +kernel
theorem xX1_copyFrom_86 : dcd mX1_copyFrom 86 = some (.aload 1, 1, 0, 0) := by decide +kernel
theorem xX1_copyFrom_87 : dcd mX1_copyFrom 87 = some (.getfield 62, 3, 0, 0) := by decide +kernel
theorem xX1_copyFrom_90 : dcd mX1_copyFrom 90 = some (.putfield 62, 3, 0, 0) := by decide +kernel
theorem xX1_copyFrom_93 : dcd mX1_copyFrom 93 = some (.return_, 1, 0, 0) := by decide +kernel
theorem xX2_init_0 : dcd mX2_init 0 = some (.aload 0, 1, 0, 0) := by decide +kernel
theorem xX2_init_1 : dcd mX2_init 1 = some (.invokespecial 3, 3, 0, 0) := by decide +kernel
theorem xX2_init_4 : dcd mX2_init 4 = some (.aload 0, 1, 0, 0) := by decide +kernel
theorem xX2_init_5 : dcd mX2_init 5 = some (.new 9, 3, 0, 0) := by decide +kernel
theorem xX2_init_8 : dcd mX2_init 8 = some (.dup, 1, 0, 0) := by decide +kernel
theorem xX2_init_9 : dcd mX2_init 9 = some (.invokespecial 11, 3, 0, 0) := by decide +kernel
theorem xX2_init_12 : dcd mX2_init 12 = some (.putfield 12, 3, 0, 0) := by decide +kernel
theorem xX2_init_15 : dcd mX2_init 15 = some (.aload 0, 1, 0, 0) := by decide +kernel
theorem xX2_init_16 : dcd mX2_init 16 = some (.aload 1, 1, 0, 0) := by decide +kernel
theorem xX2_init_17 : dcd mX2_init 17 = some (.putfield 18, 3, 0, 0) := by decide +kernel
theorem xX2_init_20 : dcd mX2_init 20 = some (.return_, 1, 0, 0) := by decide +kernel
theorem xX2_read_0 : dcd mX2_read 0 = some (.aload 0, 1, 0, 0) := by decide +kernel
theorem xX2_read_1 : dcd mX2_read 1 = some (.iload 1, 1, 0, 0) := by decide +kernel
theorem xX2_read_2 : dcd mX2_read 2 = some (.putfield 22, 3, 0, 0) := by decide +kernel
theorem xX2_read_5 : dcd mX2_read 5 = some (.aload 0, 1, 0, 0) := by decide +kernel
theorem xX2_read_6 : dcd mX2_read 6 = some (.iconst 0, 1, 0, 0) := by decide +kernel
theorem xX2_read_7 : dcd mX2_read 7 = some (.putfield 26, 3, 0, 0) := by decide +kernel
theorem xX2_read_10 : dcd mX2_read 10 = some (.aload 0, 1, 0, 0) := by decide +kernel
theorem xX2_read_11 : dcd mX2_read 11 = some (.iconst 0, 1, 0, 0) := by decide +kernel
theorem xX2_read_12 : dcd mX2_read 12 = some (.putfield 29, 3, 0, 0) := by decide +kernel
theorem xX2_read_15 : dcd mX2_read 15 = some (.aload 0, 1, 0, 0) := by decide +kernel
theorem xX2_read_16 : dcd mX2_read 16 = some (.getfield 12, 3, 0, 0) := by decide +kernel
theorem xX2_read_19 : dcd mX2_read 19 = some (.invokevirtual 32, 3, 0, 0) := by decide +kernel
theorem xX2_read_22 : dcd mX2_read 22 = some (.aload 0, 1, 0, 0) := by decide +kernel
theorem xX2_read_23 : dcd mX2_read 23 = some (.invokevirtual 35, 3, 0, 0) := by decide +kernel
theorem xX2_read_26 : dcd mX2_read 26 = some (.istore 2, 1, 0, 0) := by decide +kernel
theorem xX2_read_27 : dcd mX2_read 27 = some (.iconst 0, 1, 0, 0) := by decide +kernel
theorem xX2_read_28 : dcd mX2_read 28 = some (.istore 3, 1, 0, 0) := by decide +kernel
theorem xX2_read_29 : dcd mX2_read 29 = some (.iload 3, 1, 0, 0) := by decide +kernel
theorem xX2_read_30 : dcd mX2_read 30 = some (.iconst 0, 2, 0, 14) := by decide +kernel
theorem xX2_read_32 : dcd mX2_read 32 = some (.if_icmp .ge 0, 3, 78, 0) := by decide +kernel
theorem xX2_read_35 : dcd mX2_read 35 = some (.iload 2, 1, 0, 0) := by decide +kernel
theorem xX2_read_36 : dcd mX2_read 36 = some (.ifCond .eq 0, 3, 78, 0) := by decide +kernel
theorem xX2_read_39 : dcd mX2_read 39 = some (.aload 0, 1, 0, 0) := by decide +kernel
theorem xX2_read_40 : dcd mX2_read 40 = some (.getfield 26, 3, 0, 0) := by decide +kernel
theorem xX2_read_43 : dcd mX2_read 43 = some (.aload 0, 1, 0, 0) := by decide +kernel
theorem xX2_read_44 : dcd mX2_read 44 = some (.getfield 22, 3, 0, 0) := by decide +kernel
theorem xX2_read_47 : dcd mX2_read 47 = some (.if_icmp .ge 0, 3, 78, 0) := by decide +kernel
theorem xX2_read_50 : dcd mX2_read 50 = some (.aload 0, 1, 0, 0) := by decide +kernel
theorem xX2_read_51 : dcd mX2_read 51 = some (.iconst 0, 2, 0, 59) := by decide +kernel
theorem xX2_read_53 : dcd mX2_read 53 = some (.invokevirtual 39, 3, 0, 0) := by decide +kernel
theorem xX2_read_56 : dcd mX2_read 56 = some (.ifCond .eq 0, 3, 70, 0) := by decide +kernel
theorem xX2_read_59 : dcd mX2_read 59 = some (.aload 0, 1, 0, 0) := by decide +kernel
theorem xX2_read_60 : dcd mX2_read 60 = some (.invokevirtual 35, 3, 0, 0) := by decide +kernel
theorem xX2_read_63 : dcd mX2_read 63 = some (.ifCond .eq 0, 3, 70, 0) := by decide +kernel
theorem xX2_read_66 : dcd mX2_read 66 = some (.iconst 0, 1, 0, 1) := by decide +kernel
theorem xX2_read_67 : dcd mX2_read 67 = some (.goto 0, 3, 71, 0) := by decide +kernel
theorem xX2_read_70 : dcd mX2_read 70 = some (.iconst 0, 1, 0, 0) := by decide +kernel
theorem xX2_read_71 : dcd mX2_read 71 = some (.istore 2, 1, 0, 0) := by decide +kernel
theorem xX2_read_72 : dcd mX2_read 72 = some (.iinc 3 0, 3, 0, 1) := by decide +kernel
theorem xX2_read_75 : dcd mX2_read 75 = some (.goto 0, 3, 29, 0) := by decide +kernel
theorem xX2_read_78 : dcd mX2_read 78 = some (.aload 0, 1, 0, 0) := by decide +kernel
theorem xX2_read_79 : dcd mX2_read 79 = some (.getfield 29, 3, 0, 0) := by decide +kernel
theorem xX2_read_82 : dcd mX2_read 82 = some (.ireturn, 1, 0, 0) := by decide +kernel
theorem xX2_next_0 : dcd mX2_next 0 = some (.aload 0, 1, 0, 0) := by decide +kernel
theorem xX2_next_1 : dcd mX2_next 1 = some (.getfield 26, 3, 0, 0) := by decide +kernel
theorem xX2_next_4 : dcd mX2_next 4 = some (.aload 0, 1, 0, 0) := by decide +kernel
theorem xX2_next_5 : dcd mX2_next 5 = some (.getfield 22, 3, 0, 0) := by decide +kernel
theorem xX2_next_8 : dcd mX2_next 8 = some (.if_icmp .ge 0, 3, 25, 0) := by decide +kernel
theorem xX2_next_11 : dcd mX2_next 11 = some (.aload 0, 1, 0, 0) := by decide +kernel
theorem xX2_next_12 : dcd mX2_next 12 = some (.getfield 18, 3, 0, 0) := by decide +kernel
theorem xX2_next_15 : dcd mX2_next 15 = some (.aload 0, 1, 0, 0) := by decide +kernel
theorem xX2_next_16 : dcd mX2_next 16 = some (.getfield 26, 3, 0, 0) := by decide +kernel
theorem xX2_next_19 : dcd mX2_next 19 = some (.invokevirtual 43, 3, 0, 0) := by decide +kernel
theorem xX2_next_22 : dcd mX2_next 22 = some (.goto 0, 3, 26, 0) := by decide +kernel
theorem xX2_next_25 : dcd mX2_next 25 = some (.iconst 0, 1, 0, (-1)) := by decide +kernel
theorem xX2_next_26 : dcd mX2_next 26 = some (.ireturn, 1, 0, 0) := by decide +kernel
theorem xX2_fail_0 : dcd mX2_fail 0 = some (.aload 0, 1, 0, 0) := by decide +kernel
theorem xX2_fail_1 : dcd mX2_fail 1 = some (.iconst 0, 3, 0, (-1000)) := by decide +kernel
theorem xX2_fail_4 : dcd mX2_fail 4 = some (.iload 1, 1, 0, 0) := by decide +kernel
theorem xX2_fail_5 : dcd mX2_fail 5 = some (.imul, 1, 0, 0) := by decide +kernel
theorem xX2_fail_6 : dcd mX2_fail 6 = some (.aload 0, 1, 0, 0) := by decide +kernel
theorem xX2_fail_7 : dcd mX2_fail 7 = some (.getfield 26, 3, 0, 0) := by decide +kernel
theorem xX2_fail_10 : dcd mX2_fail 10 = some (.isub, 1, 0, 0) := by decide +kernel
theorem xX2_fail_11 : dcd mX2_fail 11 = some (.putfield 29, 3, 0, 0) := by decide +kernel
theorem xX2_fail_14 : dcd mX2_fail 14 = some (.iconst 0, 1, 0, 0) := by decide +kernel
theorem xX2_fail_15 : dcd mX2_fail 15 = some (.ireturn, 1, 0, 0) := by decide +kernel
theorem xX2_take_0 : dcd mX2_take 0 = some (.aload 0, 1, 0, 0) := by decide +kernel
theorem xX2_take_1 : dcd mX2_take 1 = some (.invokevirtual 49, 3, 0, 0) := by decide +kernel
theorem xX2_take_4 : dcd mX2_take 4 = some (.iload 1, 1, 0, 0) := by decide +kernel
theorem xX2_take_5 : dcd mX2_take 5 = some (.if_icmp .eq 0, 3, 14, 0) := by decide +kernel
theorem xX2_take_8 : dcd mX2_take 8 = some (.aload 0, 1, 0, 0) := by decide +kernel
theorem xX2_take_9 : dcd mX2_take 9 = some (.iconst 0, 1, 0, 1) := by decide +kernel
theorem xX2_take_10 : dcd mX2_take 10 = some (.invokevirtual 53, 3, 0, 0) := by decide +kernel
theorem xX2_take_13 : dcd mX2_take 13 = some (.ireturn, 1, 0, 0) := by decide +kernel
theorem xX2_take_14 : dcd mX2_take 14 = some (.aload 0, 1, 0, 0) := by decide +kernel
theorem xX2_take_15 : dcd mX2_take 15 = some (.dup, 1, 0, 0) := by decide +kernel
theorem xX2_take_16 : dcd mX2_take 16 = some (.getfield 26, 3, 0, 0) := by decide +kernel
theorem xX2_take_19 : dcd mX2_take 19 = some (.iconst 0, 1, 0, 1) := by decide +kernel
theorem xX2_take_20 : dcd mX2_take 20 = some (.iadd, 1, 0, 0) := by decide +kernel
theorem xX2_take_21 : dcd mX2_take 21 = some (.putfield 26, 3, 0, 0) := by decide +kernel
theorem xX2_take_24 : dcd mX2_take 24 = some (.iconst 0, 1, 0, 1) := by decide +kernel
theorem xX2_take_25 : dcd mX2_take 25 = some (.ireturn, 1, 0, 0) := by decide +kernel
theorem xX2_open_0 : dcd mX2_open 0 = some (.iload 1, 1, 0, 0) := by decide +kernel
theorem xX2_open_1 : dcd mX2_open 1 = some (.iconst 0, 2, 0, 6) := by decide +kernel
theorem xX2_open_3 : dcd mX2_open 3 = some (.if_icmp .lt 0, 3, 12, 0) := by decide +kernel
theorem xX2_open_6 : dcd mX2_open 6 = some (.aload 0, 1, 0, 0) := by decide +kernel
theorem xX2_open_7 : dcd mX2_open 7 = some (.iconst 0, 1, 0, 5) := by decide +kernel
theorem xX2_open_8 : dcd mX2_open 8 = some (.invokevirtual 53, 3, 0, 0) := by decide +kernel
theorem xX2_open_11 : dcd mX2_open 11 = some (.ireturn, 1, 0, 0) := by decide +kernel
theorem xX2_open_12 : dcd mX2_open 12 = some (.aload 0, 1, 0, 0) := by decide +kernel
theorem xX2_open_13 : dcd mX2_open 13 = some (.dup, 1, 0, 0) := by decide +kernel
theorem xX2_open_14 : dcd mX2_open 14 = some (.getfield 26, 3, 0, 0) := by decide +kernel
theorem xX2_open_17 : dcd mX2_open 17 = some (.iconst 0, 1, 0, 1) := by decide +kernel
theorem xX2_open_18 : dcd mX2_open 18 = some (.iadd, 1, 0, 0) := by decide +kernel
theorem xX2_open_19 : dcd mX2_open 19 = some (.putfield 26, 3, 0, 0) := by decide +kernel
theorem xX2_open_22 : dcd mX2_open 22 = some (.iconst 0, 1, 0, 1) := by decide +kernel
theorem xX2_open_23 : dcd mX2_open 23 = some (.ireturn, 1, 0, 0) := by decide +kernel
theorem xX2_readClause_0 : dcd mX2_readClause 0 = some (.aload 0, 1, 0, 0) := by decide +kernel
theorem xX2_readClause_1 : dcd mX2_readClause 1 = some (.invokevirtual 49, 3, 0, 0) := by decide +kernel
theorem xX2_readClause_4 : dcd mX2_readClause 4 = some (.istore 1, 1, 0, 0) := by decide +kernel
theorem xX2_readClause_5 : dcd mX2_readClause 5 = some (.iload 1, 1, 0, 0) := by decide +kernel
theorem xX2_readClause_6 : dcd mX2_readClause 6 = some (.iconst 0, 2, 0, 103) := by decide +kernel
theorem xX2_readClause_8 : dcd mX2_readClause 8 = some (.if_icmp .eq 0, 3, 23, 0) := by decide +kernel
theorem xX2_readClause_11 : dcd mX2_readClause 11 = some (.iload 1, 1, 0, 0) := by decide +kernel
theorem xX2_readClause_12 : dcd mX2_readClause 12 = some (.iconst 0, 2, 0, 112) := by decide +kernel
theorem xX2_readClause_14 : dcd mX2_readClause 14 = some (.if_icmp .eq 0, 3, 23, 0) := by decide +kernel
theorem xX2_readClause_17 : dcd mX2_readClause 17 = some (.aload 0, 1, 0, 0) := by decide +kernel
theorem xX2_readClause_18 : dcd mX2_readClause 18 = some (.iconst 0, 1, 0, 1) := by decide +kernel
theorem xX2_readClause_19 : dcd mX2_readClause 19 = some (.invokevirtual 53, 3, 0, 0) := by decide +kernel
theorem xX2_readClause_22 : dcd mX2_readClause 22 = some (.ireturn, 1, 0, 0) := by decide +kernel
theorem xX2_readClause_23 : dcd mX2_readClause 23 = some (.aload 0, 1, 0, 0) := by decide +kernel
theorem xX2_readClause_24 : dcd mX2_readClause 24 = some (.getfield 12, 3, 0, 0) := by decide +kernel
theorem xX2_readClause_27 : dcd mX2_readClause 27 = some (.getfield 56, 3, 0, 0) := by decide +kernel
theorem xX2_readClause_30 : dcd mX2_readClause 30 = some (.iconst 0, 2, 0, 14) := by decide +kernel
theorem xX2_readClause_32 : dcd mX2_readClause 32 = some (.if_icmp .lt 0, 3, 41, 0) := by decide +kernel
theorem xX2_readClause_35 : dcd mX2_readClause 35 = some (.aload 0, 1, 0, 0) := by decide +kernel
theorem xX2_readClause_36 : dcd mX2_readClause 36 = some (.iconst 0, 1, 0, 4) := by decide +kernel
theorem xX2_readClause_37 : dcd mX2_readClause 37 = some (.invokevirtual 53, 3, 0, 0) := by decide +kernel
theorem xX2_readClause_40 : dcd mX2_readClause 40 = some (.ireturn, 1, 0, 0) := by decide +kernel
theorem xX2_readClause_41 : dcd mX2_readClause 41 = some (.aload 0, 1, 0, 0) := by decide +kernel
theorem xX2_readClause_42 : dcd mX2_readClause 42 = some (.dup, 1, 0, 0) := by decide +kernel
theorem xX2_readClause_43 : dcd mX2_readClause 43 = some (.getfield 26, 3, 0, 0) := by decide +kernel
theorem xX2_readClause_46 : dcd mX2_readClause 46 = some (.iconst 0, 1, 0, 1) := by decide +kernel
theorem xX2_readClause_47 : dcd mX2_readClause 47 = some (.iadd, 1, 0, 0) := by decide +kernel
theorem xX2_readClause_48 : dcd mX2_readClause 48 = some (.putfield 26, 3, 0, 0) := by decide +kernel
theorem xX2_readClause_51 : dcd mX2_readClause 51 = some (.aload 0, 1, 0, 0) := by decide +kernel
theorem xX2_readClause_52 : dcd mX2_readClause 52 = some (.getfield 12, 3, 0, 0) := by decide +kernel
theorem xX2_readClause_55 : dcd mX2_readClause 55 = some (.iload 1, 1, 0, 0) := by decide +kernel
theorem xX2_readClause_56 : dcd mX2_readClause 56 = some (.invokevirtual 59, 3, 0, 0) := by decide +kernel
theorem xX2_readClause_59 : dcd mX2_readClause 59 = some (.aload 0, 1, 0, 0) := by decide +kernel
theorem xX2_readClause_60 : dcd mX2_readClause 60 = some (.iconst 0, 1, 0, 0) := by decide +kernel
theorem xX2_readClause_61 : dcd mX2_readClause 61 = some (.invokevirtual 63, 3, 0, 0) := by decide +kernel
theorem xX2_readClause_64 : dcd mX2_readClause 64 = some (.ifCond .eq 0, 3, 76, 0) := by decide +kernel
theorem xX2_readClause_67 : dcd mX2_readClause 67 = some (.aload 0, 1, 0, 0) := by decide +kernel
theorem xX2_readClause_68 : dcd mX2_readClause 68 = some (.iconst 0, 2, 0, 40) := by decide +kernel
theorem xX2_readClause_70 : dcd mX2_readClause 70 = some (.invokevirtual 39, 3, 0, 0) := by decide +kernel
theorem xX2_readClause_73 : dcd mX2_readClause 73 = some (.ifCond .ne 0, 3, 78, 0) := by decide +kernel
theorem xX2_readClause_76 : dcd mX2_readClause 76 = some (.iconst 0, 1, 0, 0) := by decide +kernel
theorem xX2_readClause_77 : dcd mX2_readClause 77 = some (.ireturn, 1, 0, 0) := by decide +kernel
theorem xX2_readClause_78 : dcd mX2_readClause 78 = some (.aload 0, 1, 0, 0) := by decide +kernel
theorem xX2_readClause_79 : dcd mX2_readClause 79 = some (.getfield 12, 3, 0, 0) := by decide +kernel
theorem xX2_readClause_82 : dcd mX2_readClause 82 = some (.invokevirtual 66, 3, 0, 0) := by decide +kernel
theorem xX2_readClause_85 : dcd mX2_readClause 85 = some (.aload 0, 1, 0, 0) := by decide +kernel
theorem xX2_readClause_86 : dcd mX2_readClause 86 = some (.iconst 0, 1, 0, 1) := by decide +kernel
theorem xX2_readClause_87 : dcd mX2_readClause 87 = some (.invokevirtual 69, 3, 0, 0) := by decide +kernel
theorem xX2_readClause_90 : dcd mX2_readClause 90 = some (.ifCond .eq 0, 3, 102, 0) := by decide +kernel
theorem xX2_readClause_93 : dcd mX2_readClause 93 = some (.aload 0, 1, 0, 0) := by decide +kernel
theorem xX2_readClause_94 : dcd mX2_readClause 94 = some (.iconst 0, 2, 0, 41) := by decide +kernel
theorem xX2_readClause_96 : dcd mX2_readClause 96 = some (.invokevirtual 39, 3, 0, 0) := by decide +kernel
theorem xX2_readClause_99 : dcd mX2_readClause 99 = some (.ifCond .ne 0, 3, 104, 0) := by decide +kernel
theorem xX2_readClause_102 : dcd mX2_readClause 102 = some (.iconst 0, 1, 0, 0) := by decide +kernel
theorem xX2_readClause_103 : dcd mX2_readClause 103 = some (.ireturn, 1, 0, 0) := by decide +kernel
theorem xX2_readClause_104 : dcd mX2_readClause 104 = some (.aload 0, 1, 0, 0) := by decide +kernel
theorem xX2_readClause_105 : dcd mX2_readClause 105 = some (.getfield 12, 3, 0, 0) := by decide +kernel
theorem xX2_readClause_108 : dcd mX2_readClause 108 = some (.iconst 0, 1, 0, 0) := by decide +kernel
theorem xX2_readClause_109 : dcd mX2_readClause 109 = some (.iconst 0, 1, 0, 0) := by decide +kernel
theorem xX2_readClause_110 : dcd mX2_readClause 110 = some (.invokevirtual 72, 3, 0, 0) := by decide +kernel
theorem xX2_readClause_113 : dcd mX2_readClause 113 = some (.iconst 0, 1, 0, 1) := by decide +kernel
theorem xX2_readClause_114 : dcd mX2_readClause 114 = some (.ireturn, 1, 0, 0) := by decide +kernel
theorem xX2_readCondition_0 : dcd mX2_readCondition 0 = some (.aload 0, 1, 0, 0) := by decide +kernel
theorem xX2_readCondition_1 : dcd mX2_readCondition 1 = some (.iload 1, 1, 0, 0) := by decide +kernel
theorem xX2_readCondition_2 : dcd mX2_readCondition 2 = some (.invokevirtual 76, 3, 0, 0) := by decide +kernel
theorem xX2_readCondition_5 : dcd mX2_readCondition 5 = some (.ifCond .ne 0, 3, 10, 0) := by decide +kernel
theorem xX2_readCondition_8 : dcd mX2_readCondition 8 = some (.iconst 0, 1, 0, 0) := by decide +kernel
theorem xX2_readCondition_9 : dcd mX2_readCondition 9 = some (.ireturn, 1, 0, 0) := by decide +kernel
theorem xX2_readCondition_10 : dcd mX2_readCondition 10 = some (.iconst 0, 1, 0, (-1)) := by decide +kernel
theorem xX2_readCondition_11 : dcd mX2_readCondition 11 = some (.istore 2, 1, 0, 0) := by decide +kernel
theorem xX2_readCondition_12 : dcd mX2_readCondition 12 = some (.aload 0, 1, 0, 0) := by decide +kernel
theorem xX2_readCondition_13 : dcd mX2_readCondition 13 = some (.getfield 26, 3, 0, 0) := by decide +kernel
theorem xX2_readCondition_16 : dcd mX2_readCondition 16 = some (.aload 0, 1, 0, 0) := by decide +kernel
theorem xX2_readCondition_17 : dcd mX2_readCondition 17 = some (.getfield 22, 3, 0, 0) := by decide +kernel
theorem xX2_readCondition_20 : dcd mX2_readCondition 20 = some (.if_icmp .ge 0, 3, 62, 0) := by decide +kernel
theorem xX2_readCondition_23 : dcd mX2_readCondition 23 = some (.aload 0, 1, 0, 0) := by decide +kernel
theorem xX2_readCondition_24 : dcd mX2_readCondition 24 = some (.invokevirtual 49, 3, 0, 0) := by decide +kernel
theorem xX2_readCondition_27 : dcd mX2_readCondition 27 = some (.iconst 0, 2, 0, 124) := by decide +kernel
theorem xX2_readCondition_29 : dcd mX2_readCondition 29 = some (.if_icmp .ne 0, 3, 62, 0) := by decide +kernel
theorem xX2_readCondition_32 : dcd mX2_readCondition 32 = some (.aload 0, 1, 0, 0) := by decide +kernel
theorem xX2_readCondition_33 : dcd mX2_readCondition 33 = some (.dup, 1, 0, 0) := by decide +kernel
theorem xX2_readCondition_34 : dcd mX2_readCondition 34 = some (.getfield 26, 3, 0, 0) := by decide +kernel
theorem xX2_readCondition_37 : dcd mX2_readCondition 37 = some (.iconst 0, 1, 0, 1) := by decide +kernel
theorem xX2_readCondition_38 : dcd mX2_readCondition 38 = some (.iadd, 1, 0, 0) := by decide +kernel
theorem xX2_readCondition_39 : dcd mX2_readCondition 39 = some (.putfield 26, 3, 0, 0) := by decide +kernel
theorem xX2_readCondition_42 : dcd mX2_readCondition 42 = some (.aload 0, 1, 0, 0) := by decide +kernel
theorem xX2_readCondition_43 : dcd mX2_readCondition 43 = some (.getfield 12, 3, 0, 0) := by decide +kernel
theorem xX2_readCondition_46 : dcd mX2_readCondition 46 = some (.iconst 0, 1, 0, 4) := by decide +kernel
theorem xX2_readCondition_47 : dcd mX2_readCondition 47 = some (.iload 2, 1, 0, 0) := by decide +kernel
theorem xX2_readCondition_48 : dcd mX2_readCondition 48 = some (.invokevirtual 79, 3, 0, 0) := by decide +kernel
theorem xX2_readCondition_51 : dcd mX2_readCondition 51 = some (.istore 2, 1, 0, 0) := by decide +kernel
theorem xX2_readCondition_52 : dcd mX2_readCondition 52 = some (.aload 0, 1, 0, 0) := by decide +kernel
theorem xX2_readCondition_53 : dcd mX2_readCondition 53 = some (.iload 1, 1, 0, 0) := by decide +kernel
theorem xX2_readCondition_54 : dcd mX2_readCondition 54 = some (.invokevirtual 76, 3, 0, 0) := by decide +kernel
theorem xX2_readCondition_57 : dcd mX2_readCondition 57 = some (.ifCond .ne 0, 3, 12, 0) := by decide +kernel
theorem xX2_readCondition_60 : dcd mX2_readCondition 60 = some (.iconst 0, 1, 0, 0) := by decide +kernel
theorem xX2_readCondition_61 : dcd mX2_readCondition 61 = some (.ireturn, 1, 0, 0) := by decide +kernel
theorem xX2_readCondition_62 : dcd mX2_readCondition 62 = some (.aload 0, 1, 0, 0) := by decide +kernel
theorem xX2_readCondition_63 : dcd mX2_readCondition 63 = some (.getfield 12, 3, 0, 0) := by decide +kernel
theorem xX2_readCondition_66 : dcd mX2_readCondition 66 = some (.iload 2, 1, 0, 0) := by decide +kernel
theorem xX2_readCondition_67 : dcd mX2_readCondition 67 = some (.invokevirtual 83, 3, 0, 0) := by decide +kernel
theorem xX2_readCondition_70 : dcd mX2_readCondition 70 = some (.iconst 0, 1, 0, 1) := by decide +kernel
theorem xX2_readCondition_71 : dcd mX2_readCondition 71 = some (.ireturn, 1, 0, 0) := by decide +kernel
theorem xX2_readPart_0 : dcd mX2_readPart 0 = some (.aload 0, 1, 0, 0) := by decide +kernel
theorem xX2_readPart_1 : dcd mX2_readPart 1 = some (.iload 1, 1, 0, 0) := by decide +kernel
theorem xX2_readPart_2 : dcd mX2_readPart 2 = some (.invokevirtual 86, 3, 0, 0) := by decide +kernel
theorem xX2_readPart_5 : dcd mX2_readPart 5 = some (.ifCond .ne 0, 3, 10, 0) := by decide +kernel
theorem xX2_readPart_8 : dcd mX2_readPart 8 = some (.iconst 0, 1, 0, 0) := by decide +kernel
theorem xX2_readPart_9 : dcd mX2_readPart 9 = some (.ireturn, 1, 0, 0) := by decide +kernel
theorem xX2_readPart_10 : dcd mX2_readPart 10 = some (.iconst 0, 1, 0, (-1)) := by decide +kernel
theorem xX2_readPart_11 : dcd mX2_readPart 11 = some (.istore 2, 1, 0, 0) := by decide +kernel
theorem xX2_readPart_12 : dcd mX2_readPart 12 = some (.aload 0, 1, 0, 0) := by decide +kernel
theorem xX2_readPart_13 : dcd mX2_readPart 13 = some (.getfield 26, 3, 0, 0) := by decide +kernel
theorem xX2_readPart_16 : dcd mX2_readPart 16 = some (.aload 0, 1, 0, 0) := by decide +kernel
theorem xX2_readPart_17 : dcd mX2_readPart 17 = some (.getfield 22, 3, 0, 0) := by decide +kernel
theorem xX2_readPart_20 : dcd mX2_readPart 20 = some (.if_icmp .ge 0, 3, 62, 0) := by decide +kernel
theorem xX2_readPart_23 : dcd mX2_readPart 23 = some (.aload 0, 1, 0, 0) := by decide +kernel
theorem xX2_readPart_24 : dcd mX2_readPart 24 = some (.invokevirtual 49, 3, 0, 0) := by decide +kernel
theorem xX2_readPart_27 : dcd mX2_readPart 27 = some (.iconst 0, 2, 0, 38) := by decide +kernel
theorem xX2_readPart_29 : dcd mX2_readPart 29 = some (.if_icmp .ne 0, 3, 62, 0) := by decide +kernel
theorem xX2_readPart_32 : dcd mX2_readPart 32 = some (.aload 0, 1, 0, 0) := by decide +kernel
theorem xX2_readPart_33 : dcd mX2_readPart 33 = some (.dup, 1, 0, 0) := by decide +kernel
theorem xX2_readPart_34 : dcd mX2_readPart 34 = some (.getfield 26, 3, 0, 0) := by decide +kernel
theorem xX2_readPart_37 : dcd mX2_readPart 37 = some (.iconst 0, 1, 0, 1) := by decide +kernel
theorem xX2_readPart_38 : dcd mX2_readPart 38 = some (.iadd, 1, 0, 0) := by decide +kernel
theorem xX2_readPart_39 : dcd mX2_readPart 39 = some (.putfield 26, 3, 0, 0) := by decide +kernel
theorem xX2_readPart_42 : dcd mX2_readPart 42 = some (.aload 0, 1, 0, 0) := by decide +kernel
theorem xX2_readPart_43 : dcd mX2_readPart 43 = some (.getfield 12, 3, 0, 0) := by decide +kernel
theorem xX2_readPart_46 : dcd mX2_readPart 46 = some (.iconst 0, 1, 0, 5) := by decide +kernel
theorem xX2_readPart_47 : dcd mX2_readPart 47 = some (.iload 2, 1, 0, 0) := by decide +kernel
theorem xX2_readPart_48 : dcd mX2_readPart 48 = some (.invokevirtual 79, 3, 0, 0) := by decide +kernel
theorem xX2_readPart_51 : dcd mX2_readPart 51 = some (.istore 2, 1, 0, 0) := by decide +kernel
theorem xX2_readPart_52 : dcd mX2_readPart 52 = some (.aload 0, 1, 0, 0) := by decide +kernel
theorem xX2_readPart_53 : dcd mX2_readPart 53 = some (.iload 1, 1, 0, 0) := by decide +kernel
theorem xX2_readPart_54 : dcd mX2_readPart 54 = some (.invokevirtual 86, 3, 0, 0) := by decide +kernel
theorem xX2_readPart_57 : dcd mX2_readPart 57 = some (.ifCond .ne 0, 3, 12, 0) := by decide +kernel
theorem xX2_readPart_60 : dcd mX2_readPart 60 = some (.iconst 0, 1, 0, 0) := by decide +kernel
theorem xX2_readPart_61 : dcd mX2_readPart 61 = some (.ireturn, 1, 0, 0) := by decide +kernel
theorem xX2_readPart_62 : dcd mX2_readPart 62 = some (.aload 0, 1, 0, 0) := by decide +kernel
theorem xX2_readPart_63 : dcd mX2_readPart 63 = some (.getfield 12, 3, 0, 0) := by decide +kernel
theorem xX2_readPart_66 : dcd mX2_readPart 66 = some (.iload 2, 1, 0, 0) := by decide +kernel
theorem xX2_readPart_67 : dcd mX2_readPart 67 = some (.invokevirtual 83, 3, 0, 0) := by decide +kernel
theorem xX2_readPart_70 : dcd mX2_readPart 70 = some (.iconst 0, 1, 0, 1) := by decide +kernel
theorem xX2_readPart_71 : dcd mX2_readPart 71 = some (.ireturn, 1, 0, 0) := by decide +kernel
theorem xX2_readPiece_0 : dcd mX2_readPiece 0 = some (.aload 0, 1, 0, 0) := by decide +kernel
theorem xX2_readPiece_1 : dcd mX2_readPiece 1 = some (.invokevirtual 49, 3, 0, 0) := by decide +kernel
theorem xX2_readPiece_4 : dcd mX2_readPiece 4 = some (.istore 2, 1, 0, 0) := by decide +kernel
theorem xX2_readPiece_5 : dcd mX2_readPiece 5 = some (.iload 2, 1, 0, 0) := by decide +kernel
theorem xX2_readPiece_6 : dcd mX2_readPiece 6 = some (.iconst 0, 2, 0, 33) := by decide +kernel
theorem xX2_readPiece_8 : dcd mX2_readPiece 8 = some (.if_icmp .ne 0, 3, 42, 0) := by decide +kernel
theorem xX2_readPiece_11 : dcd mX2_readPiece 11 = some (.aload 0, 1, 0, 0) := by decide +kernel
theorem xX2_readPiece_12 : dcd mX2_readPiece 12 = some (.iload 1, 1, 0, 0) := by decide +kernel
theorem xX2_readPiece_13 : dcd mX2_readPiece 13 = some (.invokevirtual 89, 3, 0, 0) := by decide +kernel
theorem xX2_readPiece_16 : dcd mX2_readPiece 16 = some (.ifCond .eq 0, 3, 29, 0) := by decide +kernel
theorem xX2_readPiece_19 : dcd mX2_readPiece 19 = some (.aload 0, 1, 0, 0) := by decide +kernel
theorem xX2_readPiece_20 : dcd mX2_readPiece 20 = some (.iload 1, 1, 0, 0) := by decide +kernel
theorem xX2_readPiece_21 : dcd mX2_readPiece 21 = some (.iconst 0, 1, 0, 1) := by decide +kernel
theorem xX2_readPiece_22 : dcd mX2_readPiece 22 = some (.iadd, 1, 0, 0) := by decide +kernel
theorem xX2_readPiece_23 : dcd mX2_readPiece 23 = some (.invokevirtual 86, 3, 0, 0) := by decide +kernel
theorem xX2_readPiece_26 : dcd mX2_readPiece 26 = some (.ifCond .ne 0, 3, 31, 0) := by decide +kernel
theorem xX2_readPiece_29 : dcd mX2_readPiece 29 = some (.iconst 0, 1, 0, 0) := by decide +kernel
theorem xX2_readPiece_30 : dcd mX2_readPiece 30 = some (.ireturn, 1, 0, 0) := by decide +kernel
theorem xX2_readPiece_31 : dcd mX2_readPiece 31 = some (.aload 0, 1, 0, 0) := by decide +kernel
theorem xX2_readPiece_32 : dcd mX2_readPiece 32 = some (.getfield 12, 3, 0, 0) := by decide +kernel
theorem xX2_readPiece_35 : dcd mX2_readPiece 35 = some (.iconst 0, 1, 0, 3) := by decide +kernel
theorem xX2_readPiece_36 : dcd mX2_readPiece 36 = some (.iconst 0, 1, 0, 0) := by decide +kernel
theorem xX2_readPiece_37 : dcd mX2_readPiece 37 = some (.invokevirtual 72, 3, 0, 0) := by decide +kernel
theorem xX2_readPiece_40 : dcd mX2_readPiece 40 = some (.iconst 0, 1, 0, 1) := by decide +kernel
theorem xX2_readPiece_41 : dcd mX2_readPiece 41 = some (.ireturn, 1, 0, 0) := by decide +kernel
theorem xX2_readPiece_42 : dcd mX2_readPiece 42 = some (.iload 2, 1, 0, 0) := by decide +kernel
theorem xX2_readPiece_43 : dcd mX2_readPiece 43 = some (.iconst 0, 2, 0, 40) := by decide +kernel
theorem xX2_readPiece_45 : dcd mX2_readPiece 45 = some (.if_icmp .ne 0, 3, 81, 0) := by decide +kernel
theorem xX2_readPiece_48 : dcd mX2_readPiece 48 = some (.aload 0, 1, 0, 0) := by decide +kernel
theorem xX2_readPiece_49 : dcd mX2_readPiece 49 = some (.iload 1, 1, 0, 0) := by decide +kernel
theorem xX2_readPiece_50 : dcd mX2_readPiece 50 = some (.invokevirtual 89, 3, 0, 0) := by decide +kernel
theorem xX2_readPiece_53 : dcd mX2_readPiece 53 = some (.ifCond .eq 0, 3, 79, 0) := by decide +kernel
theorem xX2_readPiece_56 : dcd mX2_readPiece 56 = some (.aload 0, 1, 0, 0) := by decide +kernel
theorem xX2_readPiece_57 : dcd mX2_readPiece 57 = some (.iload 1, 1, 0, 0) := by decide +kernel
theorem xX2_readPiece_58 : dcd mX2_readPiece 58 = some (.iconst 0, 1, 0, 1) := by decide +kernel
theorem xX2_readPiece_59 : dcd mX2_readPiece 59 = some (.iadd, 1, 0, 0) := by decide +kernel
theorem xX2_readPiece_60 : dcd mX2_readPiece 60 = some (.invokevirtual 69, 3, 0, 0) := by decide +kernel
theorem xX2_readPiece_63 : dcd mX2_readPiece 63 = some (.ifCond .eq 0, 3, 79, 0) := by decide +kernel
theorem xX2_readPiece_66 : dcd mX2_readPiece 66 = some (.aload 0, 1, 0, 0) := by decide +kernel
theorem xX2_readPiece_67 : dcd mX2_readPiece 67 = some (.iconst 0, 2, 0, 41) := by decide +kernel
theorem xX2_readPiece_69 : dcd mX2_readPiece 69 = some (.invokevirtual 39, 3, 0, 0) := by decide +kernel
theorem xX2_readPiece_72 : dcd mX2_readPiece 72 = some (.ifCond .eq 0, 3, 79, 0) := by decide +kernel
theorem xX2_readPiece_75 : dcd mX2_readPiece 75 = some (.iconst 0, 1, 0, 1) := by decide +kernel
theorem xX2_readPiece_76 : dcd mX2_readPiece 76 = some (.goto 0, 3, 80, 0) := by decide +kernel
theorem xX2_readPiece_79 : dcd mX2_readPiece 79 = some (.iconst 0, 1, 0, 0) := by decide +kernel
theorem xX2_readPiece_80 : dcd mX2_readPiece 80 = some (.ireturn, 1, 0, 0) := by decide +kernel
theorem xX2_readPiece_81 : dcd mX2_readPiece 81 = some (.aload 0, 1, 0, 0) := by decide +kernel
theorem xX2_readPiece_82 : dcd mX2_readPiece 82 = some (.iload 1, 1, 0, 0) := by decide +kernel
theorem xX2_readPiece_83 : dcd mX2_readPiece 83 = some (.invokevirtual 63, 3, 0, 0) := by decide +kernel
theorem xX2_readPiece_86 : dcd mX2_readPiece 86 = some (.ifCond .ne 0, 3, 91, 0) := by decide +kernel
theorem xX2_readPiece_89 : dcd mX2_readPiece 89 = some (.iconst 0, 1, 0, 0) := by decide +kernel
theorem xX2_readPiece_90 : dcd mX2_readPiece 90 = some (.ireturn, 1, 0, 0) := by decide +kernel
theorem xX2_readPiece_91 : dcd mX2_readPiece 91 = some (.aload 0, 1, 0, 0) := by decide +kernel
theorem xX2_readPiece_92 : dcd mX2_readPiece 92 = some (.invokevirtual 49, 3, 0, 0) := by decide +kernel
theorem xX2_readPiece_95 : dcd mX2_readPiece 95 = some (.istore 3, 1, 0, 0) := by decide +kernel
theorem xX2_readPiece_96 : dcd mX2_readPiece 96 = some (.iload 3, 1, 0, 0) := by decide +kernel
theorem xX2_readPiece_97 : dcd mX2_readPiece 97 = some (.iconst 0, 2, 0, 60) := by decide +kernel
theorem xX2_readPiece_99 : dcd mX2_readPiece 99 = some (.if_icmp .eq 0, 3, 120, 0) := by decide +kernel
theorem xX2_readPiece_102 : dcd mX2_readPiece 102 = some (.iload 3, 1, 0, 0) := by decide +kernel
theorem xX2_readPiece_103 : dcd mX2_readPiece 103 = some (.iconst 0, 2, 0, 62) := by decide +kernel
theorem xX2_readPiece_105 : dcd mX2_readPiece 105 = some (.if_icmp .eq 0, 3, 120, 0) := by decide +kernel
theorem xX2_readPiece_108 : dcd mX2_readPiece 108 = some (.iload 3, 1, 0, 0) := by decide +kernel
theorem xX2_readPiece_109 : dcd mX2_readPiece 109 = some (.iconst 0, 2, 0, 61) := by decide +kernel
theorem xX2_readPiece_111 : dcd mX2_readPiece 111 = some (.if_icmp .eq 0, 3, 120, 0) := by decide +kernel
theorem xX2_readPiece_114 : dcd mX2_readPiece 114 = some (.aload 0, 1, 0, 0) := by decide +kernel
theorem xX2_readPiece_115 : dcd mX2_readPiece 115 = some (.iconst 0, 1, 0, 1) := by decide +kernel
theorem xX2_readPiece_116 : dcd mX2_readPiece 116 = some (.invokevirtual 53, 3, 0, 0) := by decide +kernel
theorem xX2_readPiece_119 : dcd mX2_readPiece 119 = some (.ireturn, 1, 0, 0) := by decide +kernel
theorem xX2_readPiece_120 : dcd mX2_readPiece 120 = some (.aload 0, 1, 0, 0) := by decide +kernel
theorem xX2_readPiece_121 : dcd mX2_readPiece 121 = some (.dup, 1, 0, 0) := by decide +kernel
theorem xX2_readPiece_122 : dcd mX2_readPiece 122 = some (.getfield 26, 3, 0, 0) := by decide +kernel
theorem xX2_readPiece_125 : dcd mX2_readPiece 125 = some (.iconst 0, 1, 0, 1) := by decide +kernel
theorem xX2_readPiece_126 : dcd mX2_readPiece 126 = some (.iadd, 1, 0, 0) := by decide +kernel
theorem xX2_readPiece_127 : dcd mX2_readPiece 127 = some (.putfield 26, 3, 0, 0) := by decide +kernel
theorem xX2_readPiece_130 : dcd mX2_readPiece 130 = some (.aload 0, 1, 0, 0) := by decide +kernel
theorem xX2_readPiece_131 : dcd mX2_readPiece 131 = some (.iload 1, 1, 0, 0) := by decide +kernel
theorem xX2_readPiece_132 : dcd mX2_readPiece 132 = some (.invokevirtual 63, 3, 0, 0) := by decide +kernel
theorem xX2_readPiece_135 : dcd mX2_readPiece 135 = some (.ifCond .ne 0, 3, 140, 0) := by decide +kernel
theorem xX2_readPiece_138 : dcd mX2_readPiece 138 = some (.iconst 0, 1, 0, 0) := by decide +kernel
theorem xX2_readPiece_139 : dcd mX2_readPiece 139 = some (.ireturn, 1, 0, 0) := by decide +kernel
theorem xX2_readPiece_140 : dcd mX2_readPiece 140 = some (.aload 0, 1, 0, 0) := by decide +kernel
theorem xX2_readPiece_141 : dcd mX2_readPiece 141 = some (.getfield 12, 3, 0, 0) := by decide +kernel
theorem xX2_readPiece_144 : dcd mX2_readPiece 144 = some (.iload 3, 1, 0, 0) := by decide +kernel
theorem xX2_readPiece_145 : dcd mX2_readPiece 145 = some (.iconst 0, 1, 0, 0) := by decide +kernel
theorem xX2_readPiece_146 : dcd mX2_readPiece 146 = some (.invokevirtual 72, 3, 0, 0) := by decide +kernel
theorem xX2_readPiece_149 : dcd mX2_readPiece 149 = some (.iconst 0, 1, 0, 1) := by decide +kernel
theorem xX2_readPiece_150 : dcd mX2_readPiece 150 = some (.ireturn, 1, 0, 0) := by decide +kernel
