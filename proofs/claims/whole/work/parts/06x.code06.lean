theorem xX11_tells_0 : dcd mX11_tells 0 = some (.aload 0, 1, 0, 0) := by decide +kernel
theorem xX11_tells_1 : dcd mX11_tells 1 = some (.iload 2, 1, 0, 0) := by decide +kernel
theorem xX11_tells_2 : dcd mX11_tells 2 = some (.putfield 354, 3, 0, 0) := by decide +kernel
theorem xX11_tells_5 : dcd mX11_tells 5 = some (.iconst 0, 1, 0, 0) := by decide +kernel
theorem xX11_tells_6 : dcd mX11_tells 6 = some (.istore 6, 2, 0, 0) := by decide +kernel
theorem xX11_tells_8 : dcd mX11_tells 8 = some (.iload 6, 2, 0, 0) := by decide +kernel
theorem xX11_tells_10 : dcd mX11_tells 10 = some (.aload 0, 1, 0, 0) := by decide +kernel
theorem xX11_tells_11 : dcd mX11_tells 11 = some (.getfield 351, 3, 0, 0) := by decide +kernel
theorem xX11_tells_14 : dcd mX11_tells 14 = some (.if_icmp .ge 0, 3, 141, 0) := by decide +kernel
theorem xX11_tells_17 : dcd mX11_tells 17 = some (.aload 0, 1, 0, 0) := by decide +kernel
theorem xX11_tells_18 : dcd mX11_tells 18 = some (.getfield 58, 3, 0, 0) := by decide +kernel
theorem xX11_tells_21 : dcd mX11_tells 21 = some (.iload 6, 2, 0, 0) := by decide +kernel
theorem xX11_tells_23 : dcd mX11_tells 23 = some (.iaload, 1, 0, 0) := by decide +kernel
theorem xX11_tells_24 : dcd mX11_tells 24 = some (.iload 1, 1, 0, 0) := by decide +kernel
theorem xX11_tells_25 : dcd mX11_tells 25 = some (.if_icmp .eq 0, 3, 31, 0) := by decide +kernel
theorem xX11_tells_28 : dcd mX11_tells 28 = some (.goto 0, 3, 135, 0) := by decide +kernel
theorem xX11_tells_31 : dcd mX11_tells 31 = some (.aload 0, 1, 0, 0) := by decide +kernel
theorem xX11_tells_32 : dcd mX11_tells 32 = some (.aload 0, 1, 0, 0) := by decide +kernel
theorem xX11_tells_33 : dcd mX11_tells 33 = some (.getfield 64, 3, 0, 0) := by decide +kernel
theorem xX11_tells_36 : dcd mX11_tells 36 = some (.iload 6, 2, 0, 0) := by decide +kernel
theorem xX11_tells_38 : dcd mX11_tells 38 = some (.iaload, 1, 0, 0) := by decide +kernel
theorem xX11_tells_39 : dcd mX11_tells 39 = some (.aload 0, 1, 0, 0) := by decide +kernel
theorem xX11_tells_40 : dcd mX11_tells 40 = some (.getfield 67, 3, 0, 0) := by decide +kernel
theorem xX11_tells_43 : dcd mX11_tells 43 = some (.iload 6, 2, 0, 0) := by decide +kernel
theorem xX11_tells_45 : dcd mX11_tells 45 = some (.iaload, 1, 0, 0) := by decide +kernel
theorem xX11_tells_46 : dcd mX11_tells 46 = some (.invokevirtual 368, 3, 0, 0) := by decide +kernel
theorem xX11_tells_49 : dcd mX11_tells 49 = some (.aload 0, 1, 0, 0) := by decide +kernel
theorem xX11_tells_50 : dcd mX11_tells 50 = some (.getfield 100, 3, 0, 0) := by decide +kernel
theorem xX11_tells_53 : dcd mX11_tells 53 = some (.iconst 0, 1, 0, 0) := by decide +kernel
theorem xX11_tells_54 : dcd mX11_tells 54 = some (.baload, 1, 0, 0) := by decide +kernel
theorem xX11_tells_55 : dcd mX11_tells 55 = some (.ifCond .ne 0, 3, 135, 0) := by decide +kernel
theorem xX11_tells_58 : dcd mX11_tells 58 = some (.aload 0, 1, 0, 0) := by decide +kernel
theorem xX11_tells_59 : dcd mX11_tells 59 = some (.getfield 97, 3, 0, 0) := by decide +kernel
theorem xX11_tells_62 : dcd mX11_tells 62 = some (.iconst 0, 1, 0, 0) := by decide +kernel
theorem xX11_tells_63 : dcd mX11_tells 63 = some (.iaload, 1, 0, 0) := by decide +kernel
theorem xX11_tells_64 : dcd mX11_tells 64 = some (.iconst 0, 1, 0, 1) := by decide +kernel
theorem xX11_tells_65 : dcd mX11_tells 65 = some (.if_icmp .eq 0, 3, 71, 0) := by decide +kernel
theorem xX11_tells_68 : dcd mX11_tells 68 = some (.goto 0, 3, 135, 0) := by decide +kernel
theorem xX11_tells_71 : dcd mX11_tells 71 = some (.aload 0, 1, 0, 0) := by decide +kernel
theorem xX11_tells_72 : dcd mX11_tells 72 = some (.aload 0, 1, 0, 0) := by decide +kernel
theorem xX11_tells_73 : dcd mX11_tells 73 = some (.getfield 61, 3, 0, 0) := by decide +kernel
theorem xX11_tells_76 : dcd mX11_tells 76 = some (.iload 6, 2, 0, 0) := by decide +kernel
theorem xX11_tells_78 : dcd mX11_tells 78 = some (.iaload, 1, 0, 0) := by decide +kernel
theorem xX11_tells_79 : dcd mX11_tells 79 = some (.aload 0, 1, 0, 0) := by decide +kernel
theorem xX11_tells_80 : dcd mX11_tells 80 = some (.getfield 64, 3, 0, 0) := by decide +kernel
theorem xX11_tells_83 : dcd mX11_tells 83 = some (.iload 6, 2, 0, 0) := by decide +kernel
theorem xX11_tells_85 : dcd mX11_tells 85 = some (.iaload, 1, 0, 0) := by decide +kernel
theorem xX11_tells_86 : dcd mX11_tells 86 = some (.invokevirtual 368, 3, 0, 0) := by decide +kernel
theorem xX11_tells_89 : dcd mX11_tells 89 = some (.aload 0, 1, 0, 0) := by decide +kernel
theorem xX11_tells_90 : dcd mX11_tells 90 = some (.getfield 100, 3, 0, 0) := by decide +kernel
theorem xX11_tells_93 : dcd mX11_tells 93 = some (.iconst 0, 1, 0, 0) := by decide +kernel
theorem xX11_tells_94 : dcd mX11_tells 94 = some (.baload, 1, 0, 0) := by decide +kernel
theorem xX11_tells_95 : dcd mX11_tells 95 = some (.ifCond .eq 0, 3, 102, 0) := by decide +kernel
theorem xX11_tells_98 : dcd mX11_tells 98 = some (.iconst 0, 1, 0, 0) := by decide +kernel
theorem xX11_tells_99 : dcd mX11_tells 99 = some (.goto 0, 3, 108, 0) := by decide +kernel
theorem xX11_tells_102 : dcd mX11_tells 102 = some (.aload 0, 1, 0, 0) := by decide +kernel
theorem xX11_tells_103 : dcd mX11_tells 103 = some (.getfield 97, 3, 0, 0) := by decide +kernel
theorem xX11_tells_106 : dcd mX11_tells 106 = some (.iconst 0, 1, 0, 0) := by decide +kernel
theorem xX11_tells_107 : dcd mX11_tells 107 = some (.iaload, 1, 0, 0) := by decide +kernel
theorem xX11_tells_108 : dcd mX11_tells 108 = some (.istore 7, 2, 0, 0) := by decide +kernel
theorem xX11_tells_110 : dcd mX11_tells 110 = some (.iload 7, 2, 0, 0) := by decide +kernel
theorem xX11_tells_112 : dcd mX11_tells 112 = some (.iload 3, 1, 0, 0) := by decide +kernel
theorem xX11_tells_113 : dcd mX11_tells 113 = some (.if_icmp .ge 0, 3, 120, 0) := by decide +kernel
theorem xX11_tells_116 : dcd mX11_tells 116 = some (.iload 3, 1, 0, 0) := by decide +kernel
theorem xX11_tells_117 : dcd mX11_tells 117 = some (.goto 0, 3, 134, 0) := by decide +kernel
theorem xX11_tells_120 : dcd mX11_tells 120 = some (.iload 7, 2, 0, 0) := by decide +kernel
theorem xX11_tells_122 : dcd mX11_tells 122 = some (.iload 4, 2, 0, 0) := by decide +kernel
theorem xX11_tells_124 : dcd mX11_tells 124 = some (.if_icmp .le 0, 3, 132, 0) := by decide +kernel
theorem xX11_tells_127 : dcd mX11_tells 127 = some (.iload 4, 2, 0, 0) := by decide +kernel
theorem xX11_tells_129 : dcd mX11_tells 129 = some (.goto 0, 3, 134, 0) := by decide +kernel
theorem xX11_tells_132 : dcd mX11_tells 132 = some (.iload 7, 2, 0, 0) := by decide +kernel
theorem xX11_tells_134 : dcd mX11_tells 134 = some (.ireturn, 1, 0, 0) := by decide +kernel
theorem xX11_tells_135 : dcd mX11_tells 135 = some (.iinc 6 0, 3, 0, 1) := by decide +kernel
theorem xX11_tells_138 : dcd mX11_tells 138 = some (.goto 0, 3, 8, 0) := by decide +kernel
theorem xX11_tells_141 : dcd mX11_tells 141 = some (.iload 5, 2, 0, 0) := by decide +kernel
theorem xX11_tells_143 : dcd mX11_tells 143 = some (.ireturn, 1, 0, 0) := by decide +kernel
theorem xX11_heavy_0 : dcd mX11_heavy 0 = some (.aload 0, 1, 0, 0) := by decide +kernel
theorem xX11_heavy_1 : dcd mX11_heavy 1 = some (.iconst 0, 2, 0, 103) := by decide +kernel
theorem xX11_heavy_3 : dcd mX11_heavy 3 = some (.iload 1, 1, 0, 0) := by decide +kernel
theorem xX11_heavy_4 : dcd mX11_heavy 4 = some (.iconst 0, 1, 0, 0) := by decide +kernel
theorem xX11_heavy_5 : dcd mX11_heavy 5 = some (.iconst 0, 3, 0, 999) := by decide +kernel
theorem xX11_heavy_8 : dcd mX11_heavy 8 = some (.aload 0, 1, 0, 0) := by decide +kernel
theorem xX11_heavy_9 : dcd mX11_heavy 9 = some (.getfield 43, 3, 0, 0) := by decide +kernel
theorem xX11_heavy_12 : dcd mX11_heavy 12 = some (.iload 1, 1, 0, 0) := by decide +kernel
theorem xX11_heavy_13 : dcd mX11_heavy 13 = some (.iaload, 1, 0, 0) := by decide +kernel
theorem xX11_heavy_14 : dcd mX11_heavy 14 = some (.invokevirtual 371, 3, 0, 0) := by decide +kernel
theorem xX11_heavy_17 : dcd mX11_heavy 17 = some (.ireturn, 1, 0, 0) := by decide +kernel
theorem xX11_pushed_0 : dcd mX11_pushed 0 = some (.aload 0, 1, 0, 0) := by decide +kernel
theorem xX11_pushed_1 : dcd mX11_pushed 1 = some (.iconst 0, 2, 0, 112) := by decide +kernel
theorem xX11_pushed_3 : dcd mX11_pushed 3 = some (.iload 1, 1, 0, 0) := by decide +kernel
theorem xX11_pushed_4 : dcd mX11_pushed 4 = some (.iconst 0, 3, 0, (-9999)) := by decide +kernel
theorem xX11_pushed_7 : dcd mX11_pushed 7 = some (.iconst 0, 3, 0, 9999) := by decide +kernel
theorem xX11_pushed_10 : dcd mX11_pushed 10 = some (.iconst 0, 1, 0, 0) := by decide +kernel
theorem xX11_pushed_11 : dcd mX11_pushed 11 = some (.invokevirtual 371, 3, 0, 0) := by decide +kernel
theorem xX11_pushed_14 : dcd mX11_pushed 14 = some (.ireturn, 1, 0, 0) := by decide +kernel
theorem xX11_laysLeans_0 : dcd mX11_laysLeans 0 = some (.iconst 0, 1, 0, 0) := by decide +kernel
theorem xX11_laysLeans_1 : dcd mX11_laysLeans 1 = some (.istore 1, 1, 0, 0) := by decide +kernel
theorem xX11_laysLeans_2 : dcd mX11_laysLeans 2 = some (.iload 1, 1, 0, 0) := by decide +kernel
theorem xX11_laysLeans_3 : dcd mX11_laysLeans 3 = some (.aload 0, 1, 0, 0) := by decide +kernel
theorem xX11_laysLeans_4 : dcd mX11_laysLeans 4 = some (.getfield 13, 3, 0, 0) := by decide +kernel
theorem xX11_laysLeans_7 : dcd mX11_laysLeans 7 = some (.if_icmp .ge 0, 3, 30, 0) := by decide +kernel
theorem xX11_laysLeans_10 : dcd mX11_laysLeans 10 = some (.aload 0, 1, 0, 0) := by decide +kernel
theorem xX11_laysLeans_11 : dcd mX11_laysLeans 11 = some (.getfield 103, 3, 0, 0) := by decide +kernel
theorem xX11_laysLeans_14 : dcd mX11_laysLeans 14 = some (.iload 1, 1, 0, 0) := by decide +kernel
theorem xX11_laysLeans_15 : dcd mX11_laysLeans 15 = some (.iconst 0, 1, 0, 0) := by decide +kernel
theorem xX11_laysLeans_16 : dcd mX11_laysLeans 16 = some (.iastore, 1, 0, 0) := by decide +kernel
theorem xX11_laysLeans_17 : dcd mX11_laysLeans 17 = some (.aload 0, 1, 0, 0) := by decide +kernel
theorem xX11_laysLeans_18 : dcd mX11_laysLeans 18 = some (.getfield 106, 3, 0, 0) := by decide +kernel
theorem xX11_laysLeans_21 : dcd mX11_laysLeans 21 = some (.iload 1, 1, 0, 0) := by decide +kernel
theorem xX11_laysLeans_22 : dcd mX11_laysLeans 22 = some (.iconst 0, 1, 0, 0) := by decide +kernel
theorem xX11_laysLeans_23 : dcd mX11_laysLeans 23 = some (.iastore, 1, 0, 0) := by decide +kernel
theorem xX11_laysLeans_24 : dcd mX11_laysLeans 24 = some (.iinc 1 0, 3, 0, 1) := by decide +kernel
theorem xX11_laysLeans_27 : dcd mX11_laysLeans 27 = some (.goto 0, 3, 2, 0) := by decide +kernel
theorem xX11_laysLeans_30 : dcd mX11_laysLeans 30 = some (.iconst 0, 1, 0, 0) := by decide +kernel
theorem xX11_laysLeans_31 : dcd mX11_laysLeans 31 = some (.istore 1, 1, 0, 0) := by decide +kernel
theorem xX11_laysLeans_32 : dcd mX11_laysLeans 32 = some (.iload 1, 1, 0, 0) := by decide +kernel
theorem xX11_laysLeans_33 : dcd mX11_laysLeans 33 = some (.aload 0, 1, 0, 0) := by decide +kernel
theorem xX11_laysLeans_34 : dcd mX11_laysLeans 34 = some (.getfield 213, 3, 0, 0) := by decide +kernel
theorem xX11_laysLeans_37 : dcd mX11_laysLeans 37 = some (.if_icmp .ge 0, 3, 107, 0) := by decide +kernel
theorem xX11_laysLeans_40 : dcd mX11_laysLeans 40 = some (.aload 0, 1, 0, 0) := by decide +kernel
theorem xX11_laysLeans_41 : dcd mX11_laysLeans 41 = some (.getfield 55, 3, 0, 0) := by decide +kernel
theorem xX11_laysLeans_44 : dcd mX11_laysLeans 44 = some (.iload 1, 1, 0, 0) := by decide +kernel
theorem xX11_laysLeans_45 : dcd mX11_laysLeans 45 = some (.baload, 1, 0, 0) := by decide +kernel
theorem xX11_laysLeans_46 : dcd mX11_laysLeans 46 = some (.ifCond .ne 0, 3, 52, 0) := by decide +kernel
theorem xX11_laysLeans_49 : dcd mX11_laysLeans 49 = some (.goto 0, 3, 101, 0) := by decide +kernel
theorem xX11_laysLeans_52 : dcd mX11_laysLeans 52 = some (.aload 0, 1, 0, 0) := by decide +kernel
theorem xX11_laysLeans_53 : dcd mX11_laysLeans 53 = some (.iload 1, 1, 0, 0) := by decide +kernel
theorem xX11_laysLeans_54 : dcd mX11_laysLeans 54 = some (.invokevirtual 375, 3, 0, 0) := by decide +kernel
theorem xX11_laysLeans_57 : dcd mX11_laysLeans 57 = some (.istore 2, 1, 0, 0) := by decide +kernel
theorem xX11_laysLeans_58 : dcd mX11_laysLeans 58 = some (.aload 0, 1, 0, 0) := by decide +kernel
theorem xX11_laysLeans_59 : dcd mX11_laysLeans 59 = some (.getfield 103, 3, 0, 0) := by decide +kernel
theorem xX11_laysLeans_62 : dcd mX11_laysLeans 62 = some (.aload 0, 1, 0, 0) := by decide +kernel
theorem xX11_laysLeans_63 : dcd mX11_laysLeans 63 = some (.getfield 37, 3, 0, 0) := by decide +kernel
theorem xX11_laysLeans_66 : dcd mX11_laysLeans 66 = some (.iload 1, 1, 0, 0) := by decide +kernel
theorem xX11_laysLeans_67 : dcd mX11_laysLeans 67 = some (.iaload, 1, 0, 0) := by decide +kernel
theorem xX11_laysLeans_68 : dcd mX11_laysLeans 68 = some (.dup2, 1, 0, 0) := by decide +kernel
theorem xX11_laysLeans_69 : dcd mX11_laysLeans 69 = some (.iaload, 1, 0, 0) := by decide +kernel
theorem xX11_laysLeans_70 : dcd mX11_laysLeans 70 = some (.iload 2, 1, 0, 0) := by decide +kernel
theorem xX11_laysLeans_71 : dcd mX11_laysLeans 71 = some (.iadd, 1, 0, 0) := by decide +kernel
theorem xX11_laysLeans_72 : dcd mX11_laysLeans 72 = some (.iastore, 1, 0, 0) := by decide +kernel
theorem xX11_laysLeans_73 : dcd mX11_laysLeans 73 = some (.aload 0, 1, 0, 0) := by decide +kernel
theorem xX11_laysLeans_74 : dcd mX11_laysLeans 74 = some (.getfield 106, 3, 0, 0) := by decide +kernel
theorem xX11_laysLeans_77 : dcd mX11_laysLeans 77 = some (.aload 0, 1, 0, 0) := by decide +kernel
theorem xX11_laysLeans_78 : dcd mX11_laysLeans 78 = some (.getfield 37, 3, 0, 0) := by decide +kernel
theorem xX11_laysLeans_81 : dcd mX11_laysLeans 81 = some (.iload 1, 1, 0, 0) := by decide +kernel
theorem xX11_laysLeans_82 : dcd mX11_laysLeans 82 = some (.iaload, 1, 0, 0) := by decide +kernel
theorem xX11_laysLeans_83 : dcd mX11_laysLeans 83 = some (.dup2, 1, 0, 0) := by decide +kernel
theorem xX11_laysLeans_84 : dcd mX11_laysLeans 84 = some (.iaload, 1, 0, 0) := by decide +kernel
theorem xX11_laysLeans_85 : dcd mX11_laysLeans 85 = some (.aload 0, 1, 0, 0) := by decide +kernel
theorem xX11_laysLeans_86 : dcd mX11_laysLeans 86 = some (.getfield 40, 3, 0, 0) := by decide +kernel
theorem xX11_laysLeans_89 : dcd mX11_laysLeans 89 = some (.iload 1, 1, 0, 0) := by decide +kernel
theorem xX11_laysLeans_90 : dcd mX11_laysLeans 90 = some (.iaload, 1, 0, 0) := by decide +kernel
theorem xX11_laysLeans_91 : dcd mX11_laysLeans 91 = some (.iload 2, 1, 0, 0) := by decide +kernel
theorem xX11_laysLeans_92 : dcd mX11_laysLeans 92 = some (.imul, 1, 0, 0) := by decide +kernel
theorem xX11_laysLeans_93 : dcd mX11_laysLeans 93 = some (.aload 0, 1, 0, 0) := by decide +kernel
theorem xX11_laysLeans_94 : dcd mX11_laysLeans 94 = some (.iload 1, 1, 0, 0) := by decide +kernel
theorem xX11_laysLeans_95 : dcd mX11_laysLeans 95 = some (.invokevirtual 378, 3, 0, 0) := by decide +kernel
theorem xX11_laysLeans_98 : dcd mX11_laysLeans 98 = some (.iadd, 1, 0, 0) := by decide +kernel
theorem xX11_laysLeans_99 : dcd mX11_laysLeans 99 = some (.iadd, 1, 0, 0) := by decide +kernel
theorem xX11_laysLeans_100 : dcd mX11_laysLeans 100 = some (.iastore, 1, 0, 0) := by decide +kernel
theorem xX11_laysLeans_101 : dcd mX11_laysLeans 101 = some (.iinc 1 0, 3, 0, 1) := by decide +kernel
theorem xX11_laysLeans_104 : dcd mX11_laysLeans 104 = some (.goto 0, 3, 32, 0) := by decide +kernel
theorem xX11_laysLeans_107 : dcd mX11_laysLeans 107 = some (.aload 0, 1, 0, 0) := by decide +kernel
theorem xX11_laysLeans_108 : dcd mX11_laysLeans 108 = some (.getfield 13, 3, 0, 0) := by decide +kernel
theorem xX11_laysLeans_111 : dcd mX11_laysLeans 111 = some (.iconst 0, 1, 0, 1) := by decide +kernel
theorem xX11_laysLeans_112 : dcd mX11_laysLeans 112 = some (.isub, 1, 0, 0) := by decide +kernel
theorem xX11_laysLeans_113 : dcd mX11_laysLeans 113 = some (.istore 1, 1, 0, 0) := by decide +kernel
theorem xX11_laysLeans_114 : dcd mX11_laysLeans 114 = some (.iload 1, 1, 0, 0) := by decide +kernel
theorem xX11_laysLeans_115 : dcd mX11_laysLeans 115 = some (.ifCond .lt 0, 3, 221, 0) := by decide +kernel
theorem xX11_laysLeans_118 : dcd mX11_laysLeans 118 = some (.aload 0, 1, 0, 0) := by decide +kernel
theorem xX11_laysLeans_119 : dcd mX11_laysLeans 119 = some (.getfield 106, 3, 0, 0) := by decide +kernel
theorem xX11_laysLeans_122 : dcd mX11_laysLeans 122 = some (.iload 1, 1, 0, 0) := by decide +kernel
theorem xX11_laysLeans_123 : dcd mX11_laysLeans 123 = some (.iaload, 1, 0, 0) := by decide +kernel
theorem xX11_laysLeans_124 : dcd mX11_laysLeans 124 = some (.aload 0, 1, 0, 0) := by decide +kernel
theorem xX11_laysLeans_125 : dcd mX11_laysLeans 125 = some (.getfield 27, 3, 0, 0) := by decide +kernel
theorem xX11_laysLeans_128 : dcd mX11_laysLeans 128 = some (.iload 1, 1, 0, 0) := by decide +kernel
theorem xX11_laysLeans_129 : dcd mX11_laysLeans 129 = some (.iaload, 1, 0, 0) := by decide +kernel
theorem xX11_laysLeans_130 : dcd mX11_laysLeans 130 = some (.idiv, 1, 0, 0) := by decide +kernel
theorem xX11_laysLeans_131 : dcd mX11_laysLeans 131 = some (.istore 2, 1, 0, 0) := by decide +kernel
theorem xX11_laysLeans_132 : dcd mX11_laysLeans 132 = some (.aload 0, 1, 0, 0) := by decide +kernel
theorem xX11_laysLeans_133 : dcd mX11_laysLeans 133 = some (.getfield 109, 3, 0, 0) := by decide +kernel
theorem xX11_laysLeans_136 : dcd mX11_laysLeans 136 = some (.iload 1, 1, 0, 0) := by decide +kernel
theorem xX11_laysLeans_137 : dcd mX11_laysLeans 137 = some (.iload 2, 1, 0, 0) := by decide +kernel
theorem xX11_laysLeans_138 : dcd mX11_laysLeans 138 = some (.iconst 0, 2, 0, (-9)) := by decide +kernel
theorem xX11_laysLeans_140 : dcd mX11_laysLeans 140 = some (.if_icmp .ge 0, 3, 148, 0) := by decide +kernel
theorem xX11_laysLeans_143 : dcd mX11_laysLeans 143 = some (.iconst 0, 2, 0, (-9)) := by decide +kernel
theorem xX11_laysLeans_145 : dcd mX11_laysLeans 145 = some (.goto 0, 3, 160, 0) := by decide +kernel
theorem xX11_laysLeans_148 : dcd mX11_laysLeans 148 = some (.iload 2, 1, 0, 0) := by decide +kernel
theorem xX11_laysLeans_149 : dcd mX11_laysLeans 149 = some (.iconst 0, 2, 0, 9) := by decide +kernel
theorem xX11_laysLeans_151 : dcd mX11_laysLeans 151 = some (.if_icmp .le 0, 3, 159, 0) := by decide +kernel
theorem xX11_laysLeans_154 : dcd mX11_laysLeans 154 = some (.iconst 0, 2, 0, 9) := by decide +kernel
theorem xX11_laysLeans_156 : dcd mX11_laysLeans 156 = some (.goto 0, 3, 160, 0) := by decide +kernel
theorem xX11_laysLeans_159 : dcd mX11_laysLeans 159 = some (.iload 2, 1, 0, 0) := by decide +kernel
theorem xX11_laysLeans_160 : dcd mX11_laysLeans 160 = some (.iastore, 1, 0, 0) := by decide +kernel
theorem xX11_laysLeans_161 : dcd mX11_laysLeans 161 = some (.iload 1, 1, 0, 0) := by decide +kernel
theorem xX11_laysLeans_162 : dcd mX11_laysLeans 162 = some (.ifCond .ne 0, 3, 168, 0) := by decide +kernel
theorem xX11_laysLeans_165 : dcd mX11_laysLeans 165 = some (.goto 0, 3, 215, 0) := by decide +kernel
theorem xX11_laysLeans_168 : dcd mX11_laysLeans 168 = some (.aload 0, 1, 0, 0) := by decide +kernel
theorem xX11_laysLeans_169 : dcd mX11_laysLeans 169 = some (.getfield 103, 3, 0, 0) := by decide +kernel
theorem xX11_laysLeans_172 : dcd mX11_laysLeans 172 = some (.aload 0, 1, 0, 0) := by decide +kernel
theorem xX11_laysLeans_173 : dcd mX11_laysLeans 173 = some (.getfield 20, 3, 0, 0) := by decide +kernel
theorem xX11_laysLeans_176 : dcd mX11_laysLeans 176 = some (.iload 1, 1, 0, 0) := by decide +kernel
theorem xX11_laysLeans_177 : dcd mX11_laysLeans 177 = some (.iaload, 1, 0, 0) := by decide +kernel
theorem xX11_laysLeans_178 : dcd mX11_laysLeans 178 = some (.dup2, 1, 0, 0) := by decide +kernel
theorem xX11_laysLeans_179 : dcd mX11_laysLeans 179 = some (.iaload, 1, 0, 0) := by decide +kernel
theorem xX11_laysLeans_180 : dcd mX11_laysLeans 180 = some (.aload 0, 1, 0, 0) := by decide +kernel
theorem xX11_laysLeans_181 : dcd mX11_laysLeans 181 = some (.getfield 103, 3, 0, 0) := by decide +kernel
theorem xX11_laysLeans_184 : dcd mX11_laysLeans 184 = some (.iload 1, 1, 0, 0) := by decide +kernel
theorem xX11_laysLeans_185 : dcd mX11_laysLeans 185 = some (.iaload, 1, 0, 0) := by decide +kernel
theorem xX11_laysLeans_186 : dcd mX11_laysLeans 186 = some (.iadd, 1, 0, 0) := by decide +kernel
theorem xX11_laysLeans_187 : dcd mX11_laysLeans 187 = some (.iastore, 1, 0, 0) := by decide +kernel
theorem xX11_laysLeans_188 : dcd mX11_laysLeans 188 = some (.aload 0, 1, 0, 0) := by decide +kernel
theorem xX11_laysLeans_189 : dcd mX11_laysLeans 189 = some (.getfield 106, 3, 0, 0) := by decide +kernel
theorem xX11_laysLeans_192 : dcd mX11_laysLeans 192 = some (.aload 0, 1, 0, 0) := by decide +kernel
theorem xX11_laysLeans_193 : dcd mX11_laysLeans 193 = some (.getfield 20, 3, 0, 0) := by decide +kernel
theorem xX11_laysLeans_196 : dcd mX11_laysLeans 196 = some (.iload 1, 1, 0, 0) := by decide +kernel
theorem xX11_laysLeans_197 : dcd mX11_laysLeans 197 = some (.iaload, 1, 0, 0) := by decide +kernel
theorem xX11_laysLeans_198 : dcd mX11_laysLeans 198 = some (.dup2, 1, 0, 0) := by decide +kernel
theorem xX11_laysLeans_199 : dcd mX11_laysLeans 199 = some (.iaload, 1, 0, 0) := by decide +kernel
theorem xX11_laysLeans_200 : dcd mX11_laysLeans 200 = some (.aload 0, 1, 0, 0) := by decide +kernel
theorem xX11_laysLeans_201 : dcd mX11_laysLeans 201 = some (.getfield 24, 3, 0, 0) := by decide +kernel
theorem xX11_laysLeans_204 : dcd mX11_laysLeans 204 = some (.iload 1, 1, 0, 0) := by decide +kernel
theorem xX11_laysLeans_205 : dcd mX11_laysLeans 205 = some (.iaload, 1, 0, 0) := by decide +kernel
theorem xX11_laysLeans_206 : dcd mX11_laysLeans 206 = some (.aload 0, 1, 0, 0) := by decide +kernel
theorem xX11_laysLeans_207 : dcd mX11_laysLeans 207 = some (.getfield 103, 3, 0, 0) := by decide +kernel
theorem xX11_laysLeans_210 : dcd mX11_laysLeans 210 = some (.iload 1, 1, 0, 0) := by decide +kernel
theorem xX11_laysLeans_211 : dcd mX11_laysLeans 211 = some (.iaload, 1, 0, 0) := by decide +kernel
theorem xX11_laysLeans_212 : dcd mX11_laysLeans 212 = some (.imul, 1, 0, 0) := by decide +kernel
theorem xX11_laysLeans_213 : dcd mX11_laysLeans 213 = some (.iadd, 1, 0, 0) := by decide +kernel
theorem xX11_laysLeans_214 : dcd mX11_laysLeans 214 = some (.iastore, 1, 0, 0) := by decide +kernel
theorem xX11_laysLeans_215 : dcd mX11_laysLeans 215 = some (.iinc 1 0, 3, 0, (-1)) := by decide +kernel
theorem xX11_laysLeans_218 : dcd mX11_laysLeans 218 = some (.goto 0, 3, 114, 0) := by decide +kernel
theorem xX11_laysLeans_221 : dcd mX11_laysLeans 221 = some (.return_, 1, 0, 0) := by decide +kernel
theorem xX11_picture_0 : dcd mX11_picture 0 = some (.aload 0, 1, 0, 0) := by decide +kernel
theorem xX11_picture_1 : dcd mX11_picture 1 = some (.invokevirtual 381, 3, 0, 0) := by decide +kernel
theorem xX11_picture_4 : dcd mX11_picture 4 = some (.lconst 0, 1, 0, 0) := by decide +kernel
theorem xX11_picture_5 : dcd mX11_picture 5 = some (.lstore 1, 1, 0, 0) := by decide +kernel
theorem xX11_picture_6 : dcd mX11_picture 6 = some (.iconst 0, 1, 0, 0) := by decide +kernel
theorem xX11_picture_7 : dcd mX11_picture 7 = some (.istore 3, 1, 0, 0) := by decide +kernel
theorem xX11_picture_8 : dcd mX11_picture 8 = some (.iload 3, 1, 0, 0) := by decide +kernel
theorem xX11_picture_9 : dcd mX11_picture 9 = some (.aload 0, 1, 0, 0) := by decide +kernel
theorem xX11_picture_10 : dcd mX11_picture 10 = some (.getfield 13, 3, 0, 0) := by decide +kernel
theorem xX11_picture_13 : dcd mX11_picture 13 = some (.if_icmp .ge 0, 3, 49, 0) := by decide +kernel
theorem xX11_picture_16 : dcd mX11_picture 16 = some (.aload 0, 1, 0, 0) := by decide +kernel
theorem xX11_picture_17 : dcd mX11_picture 17 = some (.getfield 30, 3, 0, 0) := by decide +kernel
theorem xX11_picture_20 : dcd mX11_picture 20 = some (.iload 3, 1, 0, 0) := by decide +kernel
theorem xX11_picture_21 : dcd mX11_picture 21 = some (.baload, 1, 0, 0) := by decide +kernel
theorem xX11_picture_22 : dcd mX11_picture 22 = some (.ifCond .eq 0, 3, 43, 0) := by decide +kernel
theorem xX11_picture_25 : dcd mX11_picture 25 = some (.ldc2_w 384, 3, 0, 0) := by decide +kernel
theorem xX11_picture_28 : dcd mX11_picture 28 = some (.lload 1, 1, 0, 0) := by decide +kernel
theorem xX11_picture_29 : dcd mX11_picture 29 = some (.lmul, 1, 0, 0) := by decide +kernel
theorem xX11_picture_30 : dcd mX11_picture 30 = some (.aload 0, 1, 0, 0) := by decide +kernel
theorem xX11_picture_31 : dcd mX11_picture 31 = some (.getfield 109, 3, 0, 0) := by decide +kernel
theorem xX11_picture_34 : dcd mX11_picture 34 = some (.iload 3, 1, 0, 0) := by decide +kernel
theorem xX11_picture_35 : dcd mX11_picture 35 = some (.iaload, 1, 0, 0) := by decide +kernel
theorem xX11_picture_36 : dcd mX11_picture 36 = some (.i2l, 1, 0, 0) := by decide +kernel
theorem xX11_picture_37 : dcd mX11_picture 37 = some (.ladd, 1, 0, 0) := by decide +kernel
theorem xX11_picture_38 : dcd mX11_picture 38 = some (.ldc2_w 209, 3, 0, 0) := by decide +kernel
theorem xX11_picture_41 : dcd mX11_picture 41 = some (.ladd, 1, 0, 0) := by decide +kernel
theorem xX11_picture_42 : dcd mX11_picture 42 = some (.lstore 1, 1, 0, 0) := by decide +kernel
theorem xX11_picture_43 : dcd mX11_picture 43 = some (.iinc 3 0, 3, 0, 1) := by decide +kernel
theorem xX11_picture_46 : dcd mX11_picture 46 = some (.goto 0, 3, 8, 0) := by decide +kernel
theorem xX11_picture_49 : dcd mX11_picture 49 = some (.lload 1, 1, 0, 0) := by decide +kernel
theorem xX11_picture_50 : dcd mX11_picture 50 = some (.lreturn, 1, 0, 0) := by decide +kernel
theorem xX11_rodIs_0 : dcd mX11_rodIs 0 = some (.aload 0, 1, 0, 0) := by decide +kernel
theorem xX11_rodIs_1 : dcd mX11_rodIs 1 = some (.iload 1, 1, 0, 0) := by decide +kernel
theorem xX11_rodIs_2 : dcd mX11_rodIs 2 = some (.invokevirtual 216, 3, 0, 0) := by decide +kernel
theorem xX11_rodIs_5 : dcd mX11_rodIs 5 = some (.ifCond .ne 0, 3, 12, 0) := by decide +kernel
theorem xX11_rodIs_8 : dcd mX11_rodIs 8 = some (.ldc 386, 3, 0, 0) := by decide +kernel
theorem xX11_rodIs_11 : dcd mX11_rodIs 11 = some (.ireturn, 1, 0, 0) := by decide +kernel
theorem xX11_rodIs_12 : dcd mX11_rodIs 12 = some (.aload 0, 1, 0, 0) := by decide +kernel
theorem xX11_rodIs_13 : dcd mX11_rodIs 13 = some (.invokevirtual 381, 3, 0, 0) := by decide +kernel
theorem xX11_rodIs_16 : dcd mX11_rodIs 16 = some (.iload 2, 1, 0, 0) := by decide +kernel
theorem xX11_rodIs_17 : dcd mX11_rodIs 17 = some (.tableswitch 119 0 7 #[47, 54, 61, 68, 75, 82, 89, 104], 47, 0, 0) := by decide +kernel
theorem xX11_rodIs_64 : dcd mX11_rodIs 64 = some (.aload 0, 1, 0, 0) := by decide +kernel
theorem xX11_rodIs_65 : dcd mX11_rodIs 65 = some (.getfield 103, 3, 0, 0) := by decide +kernel
theorem xX11_rodIs_68 : dcd mX11_rodIs 68 = some (.iload 1, 1, 0, 0) := by decide +kernel
theorem xX11_rodIs_69 : dcd mX11_rodIs 69 = some (.iaload, 1, 0, 0) := by decide +kernel
theorem xX11_rodIs_70 : dcd mX11_rodIs 70 = some (.ireturn, 1, 0, 0) := by decide +kernel
theorem xX11_rodIs_71 : dcd mX11_rodIs 71 = some (.aload 0, 1, 0, 0) := by decide +kernel
theorem xX11_rodIs_72 : dcd mX11_rodIs 72 = some (.getfield 106, 3, 0, 0) := by decide +kernel
theorem xX11_rodIs_75 : dcd mX11_rodIs 75 = some (.iload 1, 1, 0, 0) := by decide +kernel
theorem xX11_rodIs_76 : dcd mX11_rodIs 76 = some (.iaload, 1, 0, 0) := by decide +kernel
theorem xX11_rodIs_77 : dcd mX11_rodIs 77 = some (.ireturn, 1, 0, 0) := by decide +kernel
theorem xX11_rodIs_78 : dcd mX11_rodIs 78 = some (.aload 0, 1, 0, 0) := by decide +kernel
theorem xX11_rodIs_79 : dcd mX11_rodIs 79 = some (.getfield 109, 3, 0, 0) := by decide +kernel
theorem xX11_rodIs_82 : dcd mX11_rodIs 82 = some (.iload 1, 1, 0, 0) := by decide +kernel
theorem xX11_rodIs_83 : dcd mX11_rodIs 83 = some (.iaload, 1, 0, 0) := by decide +kernel
theorem xX11_rodIs_84 : dcd mX11_rodIs 84 = some (.ireturn, 1, 0, 0) := by decide +kernel
theorem xX11_rodIs_85 : dcd mX11_rodIs 85 = some (.aload 0, 1, 0, 0) := by decide +kernel
theorem xX11_rodIs_86 : dcd mX11_rodIs 86 = some (.getfield 20, 3, 0, 0) := by decide +kernel
theorem xX11_rodIs_89 : dcd mX11_rodIs 89 = some (.iload 1, 1, 0, 0) := by decide +kernel
theorem xX11_rodIs_90 : dcd mX11_rodIs 90 = some (.iaload, 1, 0, 0) := by decide +kernel
theorem xX11_rodIs_91 : dcd mX11_rodIs 91 = some (.ireturn, 1, 0, 0) := by decide +kernel
theorem xX11_rodIs_92 : dcd mX11_rodIs 92 = some (.aload 0, 1, 0, 0) := by decide +kernel
theorem xX11_rodIs_93 : dcd mX11_rodIs 93 = some (.getfield 24, 3, 0, 0) := by decide +kernel
theorem xX11_rodIs_96 : dcd mX11_rodIs 96 = some (.iload 1, 1, 0, 0) := by decide +kernel
theorem xX11_rodIs_97 : dcd mX11_rodIs 97 = some (.iaload, 1, 0, 0) := by decide +kernel
theorem xX11_rodIs_98 : dcd mX11_rodIs 98 = some (.ireturn, 1, 0, 0) := by decide +kernel
theorem xX11_rodIs_99 : dcd mX11_rodIs 99 = some (.aload 0, 1, 0, 0) := by decide +kernel
theorem xX11_rodIs_100 : dcd mX11_rodIs 100 = some (.getfield 27, 3, 0, 0) := by decide +kernel
theorem xX11_rodIs_103 : dcd mX11_rodIs 103 = some (.iload 1, 1, 0, 0) := by decide +kernel
theorem xX11_rodIs_104 : dcd mX11_rodIs 104 = some (.iaload, 1, 0, 0) := by decide +kernel
theorem xX11_rodIs_105 : dcd mX11_rodIs 105 = some (.ireturn, 1, 0, 0) := by decide +kernel
theorem xX11_rodIs_106 : dcd mX11_rodIs 106 = some (.aload 0, 1, 0, 0) := by decide +kernel
theorem xX11_rodIs_107 : dcd mX11_rodIs 107 = some (.getfield 30, 3, 0, 0) := by decide +kernel
theorem xX11_rodIs_110 : dcd mX11_rodIs 110 = some (.iload 1, 1, 0, 0) := by decide +kernel
theorem xX11_rodIs_111 : dcd mX11_rodIs 111 = some (.baload, 1, 0, 0) := by decide +kernel
theorem xX11_rodIs_112 : dcd mX11_rodIs 112 = some (.ifCond .eq 0, 3, 119, 0) := by decide +kernel
theorem xX11_rodIs_115 : dcd mX11_rodIs 115 = some (.iconst 0, 1, 0, 1) := by decide +kernel
theorem xX11_rodIs_116 : dcd mX11_rodIs 116 = some (.goto 0, 3, 120, 0) := by decide +kernel
theorem xX11_rodIs_119 : dcd mX11_rodIs 119 = some (.iconst 0, 1, 0, 0) := by decide +kernel
theorem xX11_rodIs_120 : dcd mX11_rodIs 120 = some (.ireturn, 1, 0, 0) := by decide +kernel
theorem xX11_rodIs_121 : dcd mX11_rodIs 121 = some (.aload 0, 1, 0, 0) := by decide +kernel
theorem xX11_rodIs_122 : dcd mX11_rodIs 122 = some (.getfield 34, 3, 0, 0) := by decide +kernel
theorem xX11_rodIs_125 : dcd mX11_rodIs 125 = some (.iload 1, 1, 0, 0) := by decide +kernel
theorem xX11_rodIs_126 : dcd mX11_rodIs 126 = some (.baload, 1, 0, 0) := by decide +kernel
theorem xX11_rodIs_127 : dcd mX11_rodIs 127 = some (.ifCond .eq 0, 3, 134, 0) := by decide +kernel
theorem xX11_rodIs_130 : dcd mX11_rodIs 130 = some (.iconst 0, 1, 0, 1) := by decide +kernel
theorem xX11_rodIs_131 : dcd mX11_rodIs 131 = some (.goto 0, 3, 135, 0) := by decide +kernel
theorem xX11_rodIs_134 : dcd mX11_rodIs 134 = some (.iconst 0, 1, 0, 0) := by decide +kernel
theorem xX11_rodIs_135 : dcd mX11_rodIs 135 = some (.ireturn, 1, 0, 0) := by decide +kernel
theorem xX11_rodIs_136 : dcd mX11_rodIs 136 = some (.ldc 386, 3, 0, 0) := by decide +kernel
theorem xX11_rodIs_139 : dcd mX11_rodIs 139 = some (.ireturn, 1, 0, 0) := by decide +kernel
theorem xX11_ribbon_0 : dcd mX11_ribbon 0 = some (.aload 0, 1, 0, 0) := by decide +kernel
theorem xX11_ribbon_1 : dcd mX11_ribbon 1 = some (.iload 1, 1, 0, 0) := by decide +kernel
theorem xX11_ribbon_2 : dcd mX11_ribbon 2 = some (.invokevirtual 387, 3, 0, 0) := by decide +kernel
theorem xX11_ribbon_5 : dcd mX11_ribbon 5 = some (.ifCond .ne 0, 3, 12, 0) := by decide +kernel
theorem xX11_ribbon_8 : dcd mX11_ribbon 8 = some (.ldc 386, 3, 0, 0) := by decide +kernel
theorem xX11_ribbon_11 : dcd mX11_ribbon 11 = some (.ireturn, 1, 0, 0) := by decide +kernel
theorem xX11_ribbon_12 : dcd mX11_ribbon 12 = some (.iload 2, 1, 0, 0) := by decide +kernel
theorem xX11_ribbon_13 : dcd mX11_ribbon 13 = some (.tableswitch 120 0 8 #[51, 58, 65, 72, 79, 86, 93, 108, 114], 51, 0, 0) := by decide +kernel
theorem xX11_ribbon_64 : dcd mX11_ribbon 64 = some (.aload 0, 1, 0, 0) := by decide +kernel
theorem xX11_ribbon_65 : dcd mX11_ribbon 65 = some (.getfield 37, 3, 0, 0) := by decide +kernel
theorem xX11_ribbon_68 : dcd mX11_ribbon 68 = some (.iload 1, 1, 0, 0) := by decide +kernel
theorem xX11_ribbon_69 : dcd mX11_ribbon 69 = some (.iaload, 1, 0, 0) := by decide +kernel
theorem xX11_ribbon_70 : dcd mX11_ribbon 70 = some (.ireturn, 1, 0, 0) := by decide +kernel
theorem xX11_ribbon_71 : dcd mX11_ribbon 71 = some (.aload 0, 1, 0, 0) := by decide +kernel
theorem xX11_ribbon_72 : dcd mX11_ribbon 72 = some (.getfield 40, 3, 0, 0) := by decide +kernel
theorem xX11_ribbon_75 : dcd mX11_ribbon 75 = some (.iload 1, 1, 0, 0) := by decide +kernel
theorem xX11_ribbon_76 : dcd mX11_ribbon 76 = some (.iaload, 1, 0, 0) := by decide +kernel
theorem xX11_ribbon_77 : dcd mX11_ribbon 77 = some (.ireturn, 1, 0, 0) := by decide +kernel
theorem xX11_ribbon_78 : dcd mX11_ribbon 78 = some (.aload 0, 1, 0, 0) := by decide +kernel
theorem xX11_ribbon_79 : dcd mX11_ribbon 79 = some (.getfield 43, 3, 0, 0) := by decide +kernel
theorem xX11_ribbon_82 : dcd mX11_ribbon 82 = some (.iload 1, 1, 0, 0) := by decide +kernel
theorem xX11_ribbon_83 : dcd mX11_ribbon 83 = some (.iaload, 1, 0, 0) := by decide +kernel
theorem xX11_ribbon_84 : dcd mX11_ribbon 84 = some (.ireturn, 1, 0, 0) := by decide +kernel
theorem xX11_ribbon_85 : dcd mX11_ribbon 85 = some (.aload 0, 1, 0, 0) := by decide +kernel
theorem xX11_ribbon_86 : dcd mX11_ribbon 86 = some (.getfield 46, 3, 0, 0) := by decide +kernel
theorem xX11_ribbon_89 : dcd mX11_ribbon 89 = some (.iload 1, 1, 0, 0) := by decide +kernel
theorem xX11_ribbon_90 : dcd mX11_ribbon 90 = some (.iaload, 1, 0, 0) := by decide +kernel
theorem xX11_ribbon_91 : dcd mX11_ribbon 91 = some (.ireturn, 1, 0, 0) := by decide +kernel
theorem xX11_ribbon_92 : dcd mX11_ribbon 92 = some (.aload 0, 1, 0, 0) := by decide +kernel
theorem xX11_ribbon_93 : dcd mX11_ribbon 93 = some (.getfield 49, 3, 0, 0) := by decide +kernel
theorem xX11_ribbon_96 : dcd mX11_ribbon 96 = some (.iload 1, 1, 0, 0) := by decide +kernel
theorem xX11_ribbon_97 : dcd mX11_ribbon 97 = some (.iaload, 1, 0, 0) := by decide +kernel
theorem xX11_ribbon_98 : dcd mX11_ribbon 98 = some (.ireturn, 1, 0, 0) := by decide +kernel
theorem xX11_ribbon_99 : dcd mX11_ribbon 99 = some (.aload 0, 1, 0, 0) := by decide +kernel
theorem xX11_ribbon_100 : dcd mX11_ribbon 100 = some (.getfield 52, 3, 0, 0) := by decide +kernel
theorem xX11_ribbon_103 : dcd mX11_ribbon 103 = some (.iload 1, 1, 0, 0) := by decide +kernel
theorem xX11_ribbon_104 : dcd mX11_ribbon 104 = some (.iaload, 1, 0, 0) := by decide +kernel
theorem xX11_ribbon_105 : dcd mX11_ribbon 105 = some (.ireturn, 1, 0, 0) := by decide +kernel
theorem xX11_ribbon_106 : dcd mX11_ribbon 106 = some (.aload 0, 1, 0, 0) := by decide +kernel
theorem xX11_ribbon_107 : dcd mX11_ribbon 107 = some (.getfield 55, 3, 0, 0) := by decide +kernel
theorem xX11_ribbon_110 : dcd mX11_ribbon 110 = some (.iload 1, 1, 0, 0) := by decide +kernel
theorem xX11_ribbon_111 : dcd mX11_ribbon 111 = some (.baload, 1, 0, 0) := by decide +kernel
theorem xX11_ribbon_112 : dcd mX11_ribbon 112 = some (.ifCond .eq 0, 3, 119, 0) := by decide +kernel
theorem xX11_ribbon_115 : dcd mX11_ribbon 115 = some (.iconst 0, 1, 0, 1) := by decide +kernel
theorem xX11_ribbon_116 : dcd mX11_ribbon 116 = some (.goto 0, 3, 120, 0) := by decide +kernel
theorem xX11_ribbon_119 : dcd mX11_ribbon 119 = some (.iconst 0, 1, 0, 0) := by decide +kernel
theorem xX11_ribbon_120 : dcd mX11_ribbon 120 = some (.ireturn, 1, 0, 0) := by decide +kernel
theorem xX11_ribbon_121 : dcd mX11_ribbon 121 = some (.aload 0, 1, 0, 0) := by decide +kernel
theorem xX11_ribbon_122 : dcd mX11_ribbon 122 = some (.iload 1, 1, 0, 0) := by decide +kernel
theorem xX11_ribbon_123 : dcd mX11_ribbon 123 = some (.invokevirtual 375, 3, 0, 0) := by decide +kernel
theorem xX11_ribbon_126 : dcd mX11_ribbon 126 = some (.ireturn, 1, 0, 0) := by decide +kernel
theorem xX11_ribbon_127 : dcd mX11_ribbon 127 = some (.aload 0, 1, 0, 0) := by decide +kernel
theorem xX11_ribbon_128 : dcd mX11_ribbon 128 = some (.iload 1, 1, 0, 0) := by decide +kernel
theorem xX11_ribbon_129 : dcd mX11_ribbon 129 = some (.invokevirtual 378, 3, 0, 0) := by decide +kernel
theorem xX11_ribbon_132 : dcd mX11_ribbon 132 = some (.ireturn, 1, 0, 0) := by decide +kernel
theorem xX11_ribbon_133 : dcd mX11_ribbon 133 = some (.ldc 386, 3, 0, 0) := by decide +kernel
theorem xX11_ribbon_136 : dcd mX11_ribbon 136 = some (.ireturn, 1, 0, 0) := by decide +kernel
theorem xX11_balance_0 : dcd mX11_balance 0 = some (.iload 1, 1, 0, 0) := by decide +kernel
theorem xX11_balance_1 : dcd mX11_balance 1 = some (.invokestatic 227, 3, 0, 0) := by decide +kernel
theorem xX11_balance_4 : dcd mX11_balance 4 = some (.ifCond .ne 0, 3, 11, 0) := by decide +kernel
theorem xX11_balance_7 : dcd mX11_balance 7 = some (.ldc 386, 3, 0, 0) := by decide +kernel
theorem xX11_balance_10 : dcd mX11_balance 10 = some (.ireturn, 1, 0, 0) := by decide +kernel
theorem xX11_balance_11 : dcd mX11_balance 11 = some (.iconst 0, 1, 0, 0) := by decide +kernel
theorem xX11_balance_12 : dcd mX11_balance 12 = some (.istore 2, 1, 0, 0) := by decide +kernel
theorem xX11_balance_13 : dcd mX11_balance 13 = some (.iconst 0, 1, 0, 0) := by decide +kernel
theorem xX11_balance_14 : dcd mX11_balance 14 = some (.istore 3, 1, 0, 0) := by decide +kernel
theorem xX11_balance_15 : dcd mX11_balance 15 = some (.iload 3, 1, 0, 0) := by decide +kernel
theorem xX11_balance_16 : dcd mX11_balance 16 = some (.aload 0, 1, 0, 0) := by decide +kernel
theorem xX11_balance_17 : dcd mX11_balance 17 = some (.getfield 213, 3, 0, 0) := by decide +kernel
theorem xX11_balance_20 : dcd mX11_balance 20 = some (.if_icmp .ge 0, 3, 119, 0) := by decide +kernel
theorem xX11_balance_23 : dcd mX11_balance 23 = some (.aload 0, 1, 0, 0) := by decide +kernel
theorem xX11_balance_24 : dcd mX11_balance 24 = some (.getfield 55, 3, 0, 0) := by decide +kernel
theorem xX11_balance_27 : dcd mX11_balance 27 = some (.iload 3, 1, 0, 0) := by decide +kernel
theorem xX11_balance_28 : dcd mX11_balance 28 = some (.baload, 1, 0, 0) := by decide +kernel
theorem xX11_balance_29 : dcd mX11_balance 29 = some (.ifCond .ne 0, 3, 35, 0) := by decide +kernel
theorem xX11_balance_32 : dcd mX11_balance 32 = some (.goto 0, 3, 113, 0) := by decide +kernel
theorem xX11_balance_35 : dcd mX11_balance 35 = some (.aload 0, 1, 0, 0) := by decide +kernel
theorem xX11_balance_36 : dcd mX11_balance 36 = some (.getfield 46, 3, 0, 0) := by decide +kernel
theorem xX11_balance_39 : dcd mX11_balance 39 = some (.iload 3, 1, 0, 0) := by decide +kernel
theorem xX11_balance_40 : dcd mX11_balance 40 = some (.iaload, 1, 0, 0) := by decide +kernel
theorem xX11_balance_41 : dcd mX11_balance 41 = some (.ifCond .ne 0, 3, 70, 0) := by decide +kernel
theorem xX11_balance_44 : dcd mX11_balance 44 = some (.iload 2, 1, 0, 0) := by decide +kernel
theorem xX11_balance_45 : dcd mX11_balance 45 = some (.aload 0, 1, 0, 0) := by decide +kernel
theorem xX11_balance_46 : dcd mX11_balance 46 = some (.getfield 49, 3, 0, 0) := by decide +kernel
theorem xX11_balance_49 : dcd mX11_balance 49 = some (.iload 3, 1, 0, 0) := by decide +kernel
theorem xX11_balance_50 : dcd mX11_balance 50 = some (.iaload, 1, 0, 0) := by decide +kernel
theorem xX11_balance_51 : dcd mX11_balance 51 = some (.iload 1, 1, 0, 0) := by decide +kernel
theorem xX11_balance_52 : dcd mX11_balance 52 = some (.if_icmp .ne 0, 3, 64, 0) := by decide +kernel
theorem xX11_balance_55 : dcd mX11_balance 55 = some (.aload 0, 1, 0, 0) := by decide +kernel
theorem xX11_balance_56 : dcd mX11_balance 56 = some (.getfield 43, 3, 0, 0) := by decide +kernel
theorem xX11_balance_59 : dcd mX11_balance 59 = some (.iload 3, 1, 0, 0) := by decide +kernel
theorem xX11_balance_60 : dcd mX11_balance 60 = some (.iaload, 1, 0, 0) := by decide +kernel
theorem xX11_balance_61 : dcd mX11_balance 61 = some (.goto 0, 3, 65, 0) := by decide +kernel
theorem xX11_balance_64 : dcd mX11_balance 64 = some (.iconst 0, 1, 0, 0) := by decide +kernel
theorem xX11_balance_65 : dcd mX11_balance 65 = some (.iadd, 1, 0, 0) := by decide +kernel
theorem xX11_balance_66 : dcd mX11_balance 66 = some (.istore 2, 1, 0, 0) := by decide +kernel
theorem xX11_balance_67 : dcd mX11_balance 67 = some (.goto 0, 3, 113, 0) := by decide +kernel
theorem xX11_balance_70 : dcd mX11_balance 70 = some (.iload 2, 1, 0, 0) := by decide +kernel
theorem xX11_balance_71 : dcd mX11_balance 71 = some (.aload 0, 1, 0, 0) := by decide +kernel
theorem xX11_balance_72 : dcd mX11_balance 72 = some (.getfield 52, 3, 0, 0) := by decide +kernel
theorem xX11_balance_75 : dcd mX11_balance 75 = some (.iload 3, 1, 0, 0) := by decide +kernel
theorem xX11_balance_76 : dcd mX11_balance 76 = some (.iaload, 1, 0, 0) := by decide +kernel
theorem xX11_balance_77 : dcd mX11_balance 77 = some (.iload 1, 1, 0, 0) := by decide +kernel
theorem xX11_balance_78 : dcd mX11_balance 78 = some (.if_icmp .ne 0, 3, 90, 0) := by decide +kernel
theorem xX11_balance_81 : dcd mX11_balance 81 = some (.aload 0, 1, 0, 0) := by decide +kernel
theorem xX11_balance_82 : dcd mX11_balance 82 = some (.getfield 43, 3, 0, 0) := by decide +kernel
theorem xX11_balance_85 : dcd mX11_balance 85 = some (.iload 3, 1, 0, 0) := by decide +kernel
theorem xX11_balance_86 : dcd mX11_balance 86 = some (.iaload, 1, 0, 0) := by decide +kernel
theorem xX11_balance_87 : dcd mX11_balance 87 = some (.goto 0, 3, 111, 0) := by decide +kernel
theorem xX11_balance_90 : dcd mX11_balance 90 = some (.aload 0, 1, 0, 0) := by decide +kernel
theorem xX11_balance_91 : dcd mX11_balance 91 = some (.getfield 49, 3, 0, 0) := by decide +kernel
theorem xX11_balance_94 : dcd mX11_balance 94 = some (.iload 3, 1, 0, 0) := by decide +kernel
theorem xX11_balance_95 : dcd mX11_balance 95 = some (.iaload, 1, 0, 0) := by decide +kernel
theorem xX11_balance_96 : dcd mX11_balance 96 = some (.iload 1, 1, 0, 0) := by decide +kernel
theorem xX11_balance_97 : dcd mX11_balance 97 = some (.if_icmp .ne 0, 3, 110, 0) := by decide +kernel
theorem xX11_balance_100 : dcd mX11_balance 100 = some (.aload 0, 1, 0, 0) := by decide +kernel
theorem xX11_balance_101 : dcd mX11_balance 101 = some (.getfield 43, 3, 0, 0) := by decide +kernel
theorem xX11_balance_104 : dcd mX11_balance 104 = some (.iload 3, 1, 0, 0) := by decide +kernel
theorem xX11_balance_105 : dcd mX11_balance 105 = some (.iaload, 1, 0, 0) := by decide +kernel
theorem xX11_balance_106 : dcd mX11_balance 106 = some (.ineg, 1, 0, 0) := by decide +kernel
theorem xX11_balance_107 : dcd mX11_balance 107 = some (.goto 0, 3, 111, 0) := by decide +kernel
theorem xX11_balance_110 : dcd mX11_balance 110 = some (.iconst 0, 1, 0, 0) := by decide +kernel
theorem xX11_balance_111 : dcd mX11_balance 111 = some (.iadd, 1, 0, 0) := by decide +kernel
theorem xX11_balance_112 : dcd mX11_balance 112 = some (.istore 2, 1, 0, 0) := by decide +kernel
theorem xX11_balance_113 : dcd mX11_balance 113 = some (.iinc 3 0, 3, 0, 1) := by decide +kernel
theorem xX11_balance_116 : dcd mX11_balance 116 = some (.goto 0, 3, 15, 0) := by decide +kernel
theorem xX11_balance_119 : dcd mX11_balance 119 = some (.iload 2, 1, 0, 0) := by decide +kernel
theorem xX11_balance_120 : dcd mX11_balance 120 = some (.ireturn, 1, 0, 0) := by decide +kernel
theorem xX11_move_0 : dcd mX11_move 0 = some (.aload 0, 1, 0, 0) := by decide +kernel
theorem xX11_move_1 : dcd mX11_move 1 = some (.iload 1, 1, 0, 0) := by decide +kernel
theorem xX11_move_2 : dcd mX11_move 2 = some (.invokevirtual 387, 3, 0, 0) := by decide +kernel
theorem xX11_move_5 : dcd mX11_move 5 = some (.ifCond .eq 0, 3, 32, 0) := by decide +kernel
theorem xX11_move_8 : dcd mX11_move 8 = some (.aload 0, 1, 0, 0) := by decide +kernel
theorem xX11_move_9 : dcd mX11_move 9 = some (.getfield 55, 3, 0, 0) := by decide +kernel
theorem xX11_move_12 : dcd mX11_move 12 = some (.iload 1, 1, 0, 0) := by decide +kernel
theorem xX11_move_13 : dcd mX11_move 13 = some (.baload, 1, 0, 0) := by decide +kernel
theorem xX11_move_14 : dcd mX11_move 14 = some (.ifCond .eq 0, 3, 32, 0) := by decide +kernel
theorem xX11_move_17 : dcd mX11_move 17 = some (.aload 0, 1, 0, 0) := by decide +kernel
theorem xX11_move_18 : dcd mX11_move 18 = some (.iload 2, 1, 0, 0) := by decide +kernel
theorem xX11_move_19 : dcd mX11_move 19 = some (.invokevirtual 216, 3, 0, 0) := by decide +kernel
theorem xX11_move_22 : dcd mX11_move 22 = some (.ifCond .eq 0, 3, 32, 0) := by decide +kernel
theorem xX11_move_25 : dcd mX11_move 25 = some (.iload 3, 1, 0, 0) := by decide +kernel
theorem xX11_move_26 : dcd mX11_move 26 = some (.invokestatic 220, 3, 0, 0) := by decide +kernel
theorem xX11_move_29 : dcd mX11_move 29 = some (.ifCond .ne 0, 3, 34, 0) := by decide +kernel
theorem xX11_move_32 : dcd mX11_move 32 = some (.iconst 0, 1, 0, 0) := by decide +kernel
theorem xX11_move_33 : dcd mX11_move 33 = some (.ireturn, 1, 0, 0) := by decide +kernel
theorem xX11_move_34 : dcd mX11_move 34 = some (.aload 0, 1, 0, 0) := by decide +kernel
theorem xX11_move_35 : dcd mX11_move 35 = some (.getfield 37, 3, 0, 0) := by decide +kernel
theorem xX11_move_38 : dcd mX11_move 38 = some (.iload 1, 1, 0, 0) := by decide +kernel
theorem xX11_move_39 : dcd mX11_move 39 = some (.iload 2, 1, 0, 0) := by decide +kernel
theorem xX11_move_40 : dcd mX11_move 40 = some (.iastore, 1, 0, 0) := by decide +kernel
theorem xX11_move_41 : dcd mX11_move 41 = some (.aload 0, 1, 0, 0) := by decide +kernel
theorem xX11_move_42 : dcd mX11_move 42 = some (.getfield 40, 3, 0, 0) := by decide +kernel
theorem xX11_move_45 : dcd mX11_move 45 = some (.iload 1, 1, 0, 0) := by decide +kernel
theorem xX11_move_46 : dcd mX11_move 46 = some (.iload 3, 1, 0, 0) := by decide +kernel
theorem xX11_move_47 : dcd mX11_move 47 = some (.iastore, 1, 0, 0) := by decide +kernel
theorem xX11_move_48 : dcd mX11_move 48 = some (.iconst 0, 1, 0, 1) := by decide +kernel
theorem xX11_move_49 : dcd mX11_move 49 = some (.ireturn, 1, 0, 0) := by decide +kernel
theorem xX11_fall_0 : dcd mX11_fall 0 = some (.aload 0, 1, 0, 0) := by decide +kernel
theorem xX11_fall_1 : dcd mX11_fall 1 = some (.iload 1, 1, 0, 0) := by decide +kernel
theorem xX11_fall_2 : dcd mX11_fall 2 = some (.invokevirtual 387, 3, 0, 0) := by decide +kernel
theorem xX11_fall_5 : dcd mX11_fall 5 = some (.ifCond .eq 0, 3, 17, 0) := by decide +kernel
theorem xX11_fall_8 : dcd mX11_fall 8 = some (.aload 0, 1, 0, 0) := by decide +kernel
theorem xX11_fall_9 : dcd mX11_fall 9 = some (.getfield 55, 3, 0, 0) := by decide +kernel
theorem xX11_fall_12 : dcd mX11_fall 12 = some (.iload 1, 1, 0, 0) := by decide +kernel
theorem xX11_fall_13 : dcd mX11_fall 13 = some (.baload, 1, 0, 0) := by decide +kernel
theorem xX11_fall_14 : dcd mX11_fall 14 = some (.ifCond .ne 0, 3, 19, 0) := by decide +kernel
theorem xX11_fall_17 : dcd mX11_fall 17 = some (.iconst 0, 1, 0, 0) := by decide +kernel
theorem xX11_fall_18 : dcd mX11_fall 18 = some (.ireturn, 1, 0, 0) := by decide +kernel
theorem xX11_fall_19 : dcd mX11_fall 19 = some (.aload 0, 1, 0, 0) := by decide +kernel
theorem xX11_fall_20 : dcd mX11_fall 20 = some (.getfield 55, 3, 0, 0) := by decide +kernel
theorem xX11_fall_23 : dcd mX11_fall 23 = some (.iload 1, 1, 0, 0) := by decide +kernel
theorem xX11_fall_24 : dcd mX11_fall 24 = some (.iconst 0, 1, 0, 0) := by decide +kernel
theorem xX11_fall_25 : dcd mX11_fall 25 = some (.bastore, 1, 0, 0) := by decide +kernel
theorem xX11_fall_26 : dcd mX11_fall 26 = some (.iconst 0, 1, 0, 1) := by decide +kernel
theorem xX11_fall_27 : dcd mX11_fall 27 = some (.ireturn, 1, 0, 0) := by decide +kernel
theorem xX11_isWhiteOf_0 : dcd mX11_isWhiteOf 0 = some (.aload 0, 1, 0, 0) := by decide +kernel
theorem xX11_isWhiteOf_1 : dcd mX11_isWhiteOf 1 = some (.getfield 55, 3, 0, 0) := by decide +kernel
theorem xX11_isWhiteOf_4 : dcd mX11_isWhiteOf 4 = some (.iload 1, 1, 0, 0) := by decide +kernel
theorem xX11_isWhiteOf_5 : dcd mX11_isWhiteOf 5 = some (.baload, 1, 0, 0) := by decide +kernel
theorem xX11_isWhiteOf_6 : dcd mX11_isWhiteOf 6 = some (.ifCond .eq 0, 3, 32, 0) := by decide +kernel
theorem xX11_isWhiteOf_9 : dcd mX11_isWhiteOf 9 = some (.aload 0, 1, 0, 0) := by decide +kernel
theorem xX11_isWhiteOf_10 : dcd mX11_isWhiteOf 10 = some (.getfield 46, 3, 0, 0) := by decide +kernel
theorem xX11_isWhiteOf_13 : dcd mX11_isWhiteOf 13 = some (.iload 1, 1, 0, 0) := by decide +kernel
theorem xX11_isWhiteOf_14 : dcd mX11_isWhiteOf 14 = some (.iaload, 1, 0, 0) := by decide +kernel
theorem xX11_isWhiteOf_15 : dcd mX11_isWhiteOf 15 = some (.ifCond .ne 0, 3, 32, 0) := by decide +kernel
theorem xX11_isWhiteOf_18 : dcd mX11_isWhiteOf 18 = some (.aload 0, 1, 0, 0) := by decide +kernel
theorem xX11_isWhiteOf_19 : dcd mX11_isWhiteOf 19 = some (.getfield 49, 3, 0, 0) := by decide +kernel
theorem xX11_isWhiteOf_22 : dcd mX11_isWhiteOf 22 = some (.iload 1, 1, 0, 0) := by decide +kernel
theorem xX11_isWhiteOf_23 : dcd mX11_isWhiteOf 23 = some (.iaload, 1, 0, 0) := by decide +kernel
theorem xX11_isWhiteOf_24 : dcd mX11_isWhiteOf 24 = some (.iload 2, 1, 0, 0) := by decide +kernel
theorem xX11_isWhiteOf_25 : dcd mX11_isWhiteOf 25 = some (.if_icmp .ne 0, 3, 32, 0) := by decide +kernel
theorem xX11_isWhiteOf_28 : dcd mX11_isWhiteOf 28 = some (.iconst 0, 1, 0, 1) := by decide +kernel
theorem xX11_isWhiteOf_29 : dcd mX11_isWhiteOf 29 = some (.goto 0, 3, 33, 0) := by decide +kernel
theorem xX11_isWhiteOf_32 : dcd mX11_isWhiteOf 32 = some (.iconst 0, 1, 0, 0) := by decide +kernel
theorem xX11_isWhiteOf_33 : dcd mX11_isWhiteOf 33 = some (.ireturn, 1, 0, 0) := by decide +kernel
theorem xX11_canKnot_0 : dcd mX11_canKnot 0 = some (.aload 0, 1, 0, 0) := by decide +kernel
theorem xX11_canKnot_1 : dcd mX11_canKnot 1 = some (.iload 1, 1, 0, 0) := by decide +kernel
theorem xX11_canKnot_2 : dcd mX11_canKnot 2 = some (.iload 3, 1, 0, 0) := by decide +kernel
theorem xX11_canKnot_3 : dcd mX11_canKnot 3 = some (.invokevirtual 390, 3, 0, 0) := by decide +kernel
theorem xX11_canKnot_6 : dcd mX11_canKnot 6 = some (.ifCond .eq 0, 3, 48, 0) := by decide +kernel
theorem xX11_canKnot_9 : dcd mX11_canKnot 9 = some (.aload 0, 1, 0, 0) := by decide +kernel
theorem xX11_canKnot_10 : dcd mX11_canKnot 10 = some (.iload 2, 1, 0, 0) := by decide +kernel
theorem xX11_canKnot_11 : dcd mX11_canKnot 11 = some (.iload 4, 2, 0, 0) := by decide +kernel
theorem xX11_canKnot_13 : dcd mX11_canKnot 13 = some (.invokevirtual 390, 3, 0, 0) := by decide +kernel
theorem xX11_canKnot_16 : dcd mX11_canKnot 16 = some (.ifCond .eq 0, 3, 48, 0) := by decide +kernel
theorem xX11_canKnot_19 : dcd mX11_canKnot 19 = some (.aload 0, 1, 0, 0) := by decide +kernel
theorem xX11_canKnot_20 : dcd mX11_canKnot 20 = some (.getfield 43, 3, 0, 0) := by decide +kernel
theorem xX11_canKnot_23 : dcd mX11_canKnot 23 = some (.iload 1, 1, 0, 0) := by decide +kernel
theorem xX11_canKnot_24 : dcd mX11_canKnot 24 = some (.iaload, 1, 0, 0) := by decide +kernel
theorem xX11_canKnot_25 : dcd mX11_canKnot 25 = some (.iload 5, 2, 0, 0) := by decide +kernel
theorem xX11_canKnot_27 : dcd mX11_canKnot 27 = some (.if_icmp .le 0, 3, 48, 0) := by decide +kernel
theorem xX11_canKnot_30 : dcd mX11_canKnot 30 = some (.aload 0, 1, 0, 0) := by decide +kernel
theorem xX11_canKnot_31 : dcd mX11_canKnot 31 = some (.getfield 43, 3, 0, 0) := by decide +kernel
theorem xX11_canKnot_34 : dcd mX11_canKnot 34 = some (.iload 2, 1, 0, 0) := by decide +kernel
theorem xX11_canKnot_35 : dcd mX11_canKnot 35 = some (.iaload, 1, 0, 0) := by decide +kernel
theorem xX11_canKnot_36 : dcd mX11_canKnot 36 = some (.iload 5, 2, 0, 0) := by decide +kernel
theorem xX11_canKnot_38 : dcd mX11_canKnot 38 = some (.iadd, 1, 0, 0) := by decide +kernel
theorem xX11_canKnot_39 : dcd mX11_canKnot 39 = some (.iconst 0, 2, 0, 99) := by decide +kernel
theorem xX11_canKnot_41 : dcd mX11_canKnot 41 = some (.if_icmp .gt 0, 3, 48, 0) := by decide +kernel
theorem xX11_canKnot_44 : dcd mX11_canKnot 44 = some (.iconst 0, 1, 0, 1) := by decide +kernel
theorem xX11_canKnot_45 : dcd mX11_canKnot 45 = some (.goto 0, 3, 49, 0) := by decide +kernel
theorem xX11_canKnot_48 : dcd mX11_canKnot 48 = some (.iconst 0, 1, 0, 0) := by decide +kernel
theorem xX11_canKnot_49 : dcd mX11_canKnot 49 = some (.ireturn, 1, 0, 0) := by decide +kernel
theorem xX11_knots_0 : dcd mX11_knots 0 = some (.aload 0, 1, 0, 0) := by decide +kernel
theorem xX11_knots_1 : dcd mX11_knots 1 = some (.getfield 43, 3, 0, 0) := by decide +kernel
theorem xX11_knots_4 : dcd mX11_knots 4 = some (.iload 1, 1, 0, 0) := by decide +kernel
theorem xX11_knots_5 : dcd mX11_knots 5 = some (.dup2, 1, 0, 0) := by decide +kernel
theorem xX11_knots_6 : dcd mX11_knots 6 = some (.iaload, 1, 0, 0) := by decide +kernel
theorem xX11_knots_7 : dcd mX11_knots 7 = some (.iload 3, 1, 0, 0) := by decide +kernel
theorem xX11_knots_8 : dcd mX11_knots 8 = some (.isub, 1, 0, 0) := by decide +kernel
theorem xX11_knots_9 : dcd mX11_knots 9 = some (.iastore, 1, 0, 0) := by decide +kernel
theorem xX11_knots_10 : dcd mX11_knots 10 = some (.aload 0, 1, 0, 0) := by decide +kernel
theorem xX11_knots_11 : dcd mX11_knots 11 = some (.getfield 43, 3, 0, 0) := by decide +kernel
theorem xX11_knots_14 : dcd mX11_knots 14 = some (.iload 2, 1, 0, 0) := by decide +kernel
theorem xX11_knots_15 : dcd mX11_knots 15 = some (.dup2, 1, 0, 0) := by decide +kernel
theorem xX11_knots_16 : dcd mX11_knots 16 = some (.iaload, 1, 0, 0) := by decide +kernel
theorem xX11_knots_17 : dcd mX11_knots 17 = some (.iload 3, 1, 0, 0) := by decide +kernel
theorem xX11_knots_18 : dcd mX11_knots 18 = some (.iadd, 1, 0, 0) := by decide +kernel
theorem xX11_knots_19 : dcd mX11_knots 19 = some (.iastore, 1, 0, 0) := by decide +kernel
theorem xX11_knots_20 : dcd mX11_knots 20 = some (.return_, 1, 0, 0) := by decide +kernel
theorem xX11_othersBy_0 : dcd mX11_othersBy 0 = some (.aload 0, 1, 0, 0) := by decide +kernel
theorem xX11_othersBy_1 : dcd mX11_othersBy 1 = some (.iload 1, 1, 0, 0) := by decide +kernel
theorem xX11_othersBy_2 : dcd mX11_othersBy 2 = some (.iload 2, 1, 0, 0) := by decide +kernel
theorem xX11_othersBy_3 : dcd mX11_othersBy 3 = some (.iload 3, 1, 0, 0) := by decide +kernel
theorem xX11_othersBy_4 : dcd mX11_othersBy 4 = some (.invokevirtual 394, 3, 0, 0) := by decide +kernel
theorem xX11_othersBy_7 : dcd mX11_othersBy 7 = some (.aload 0, 1, 0, 0) := by decide +kernel
theorem xX11_othersBy_8 : dcd mX11_othersBy 8 = some (.invokevirtual 381, 3, 0, 0) := by decide +kernel
theorem xX11_othersBy_11 : dcd mX11_othersBy 11 = some (.iconst 0, 1, 0, 0) := by decide +kernel
theorem xX11_othersBy_12 : dcd mX11_othersBy 12 = some (.istore 4, 2, 0, 0) := by decide +kernel
theorem xX11_othersBy_14 : dcd mX11_othersBy 14 = some (.iconst 0, 1, 0, 0) := by decide +kernel
theorem xX11_othersBy_15 : dcd mX11_othersBy 15 = some (.istore 5, 2, 0, 0) := by decide +kernel
theorem xX11_othersBy_17 : dcd mX11_othersBy 17 = some (.iload 5, 2, 0, 0) := by decide +kernel
theorem xX11_othersBy_19 : dcd mX11_othersBy 19 = some (.aload 0, 1, 0, 0) := by decide +kernel
theorem xX11_othersBy_20 : dcd mX11_othersBy 20 = some (.getfield 13, 3, 0, 0) := by decide +kernel
theorem xX11_othersBy_23 : dcd mX11_othersBy 23 = some (.if_icmp .ge 0, 3, 59, 0) := by decide +kernel
theorem xX11_othersBy_26 : dcd mX11_othersBy 26 = some (.iload 4, 2, 0, 0) := by decide +kernel
theorem xX11_othersBy_28 : dcd mX11_othersBy 28 = some (.aload 0, 1, 0, 0) := by decide +kernel
theorem xX11_othersBy_29 : dcd mX11_othersBy 29 = some (.getfield 109, 3, 0, 0) := by decide +kernel
theorem xX11_othersBy_32 : dcd mX11_othersBy 32 = some (.iload 5, 2, 0, 0) := by decide +kernel
theorem xX11_othersBy_34 : dcd mX11_othersBy 34 = some (.iaload, 1, 0, 0) := by decide +kernel
theorem xX11_othersBy_35 : dcd mX11_othersBy 35 = some (.aload 0, 1, 0, 0) := by decide +kernel
theorem xX11_othersBy_36 : dcd mX11_othersBy 36 = some (.getfield 112, 3, 0, 0) := by decide +kernel
theorem xX11_othersBy_39 : dcd mX11_othersBy 39 = some (.iload 5, 2, 0, 0) := by decide +kernel
theorem xX11_othersBy_41 : dcd mX11_othersBy 41 = some (.iaload, 1, 0, 0) := by decide +kernel
theorem xX11_othersBy_42 : dcd mX11_othersBy 42 = some (.if_icmp .eq 0, 3, 49, 0) := by decide +kernel
theorem xX11_othersBy_45 : dcd mX11_othersBy 45 = some (.iconst 0, 1, 0, 1) := by decide +kernel
theorem xX11_othersBy_46 : dcd mX11_othersBy 46 = some (.goto 0, 3, 50, 0) := by decide +kernel
theorem xX11_othersBy_49 : dcd mX11_othersBy 49 = some (.iconst 0, 1, 0, 0) := by decide +kernel
theorem xX11_othersBy_50 : dcd mX11_othersBy 50 = some (.iadd, 1, 0, 0) := by decide +kernel
theorem xX11_othersBy_51 : dcd mX11_othersBy 51 = some (.istore 4, 2, 0, 0) := by decide +kernel
theorem xX11_othersBy_53 : dcd mX11_othersBy 53 = some (.iinc 5 0, 3, 0, 1) := by decide +kernel
theorem xX11_othersBy_56 : dcd mX11_othersBy 56 = some (.goto 0, 3, 17, 0) := by decide +kernel
theorem xX11_othersBy_59 : dcd mX11_othersBy 59 = some (.aload 0, 1, 0, 0) := by decide +kernel
theorem xX11_othersBy_60 : dcd mX11_othersBy 60 = some (.iload 1, 1, 0, 0) := by decide +kernel
theorem xX11_othersBy_61 : dcd mX11_othersBy 61 = some (.iload 2, 1, 0, 0) := by decide +kernel
theorem xX11_othersBy_62 : dcd mX11_othersBy 62 = some (.iload 3, 1, 0, 0) := by decide +kernel
theorem xX11_othersBy_63 : dcd mX11_othersBy 63 = some (.ineg, 1, 0, 0) := by decide +kernel
theorem xX11_othersBy_64 : dcd mX11_othersBy 64 = some (.invokevirtual 394, 3, 0, 0) := by decide +kernel
theorem xX11_othersBy_67 : dcd mX11_othersBy 67 = some (.iload 4, 2, 0, 0) := by decide +kernel
theorem xX11_othersBy_69 : dcd mX11_othersBy 69 = some (.ireturn, 1, 0, 0) := by decide +kernel
theorem xX11_pay_0 : dcd mX11_pay 0 = some (.iload 1, 1, 0, 0) := by decide +kernel
theorem xX11_pay_1 : dcd mX11_pay 1 = some (.invokestatic 227, 3, 0, 0) := by decide +kernel
theorem xX11_pay_4 : dcd mX11_pay 4 = some (.ifCond .eq 0, 3, 46, 0) := by decide +kernel
theorem xX11_pay_7 : dcd mX11_pay 7 = some (.iload 2, 1, 0, 0) := by decide +kernel
theorem xX11_pay_8 : dcd mX11_pay 8 = some (.invokestatic 227, 3, 0, 0) := by decide +kernel
theorem xX11_pay_11 : dcd mX11_pay 11 = some (.ifCond .eq 0, 3, 46, 0) := by decide +kernel
theorem xX11_pay_14 : dcd mX11_pay 14 = some (.iload 1, 1, 0, 0) := by decide +kernel
theorem xX11_pay_15 : dcd mX11_pay 15 = some (.iload 2, 1, 0, 0) := by decide +kernel
theorem xX11_pay_16 : dcd mX11_pay 16 = some (.if_icmp .eq 0, 3, 46, 0) := by decide +kernel
theorem xX11_pay_19 : dcd mX11_pay 19 = some (.iload 3, 1, 0, 0) := by decide +kernel
theorem xX11_pay_20 : dcd mX11_pay 20 = some (.i2l, 1, 0, 0) := by decide +kernel
theorem xX11_pay_21 : dcd mX11_pay 21 = some (.lconst 1, 1, 0, 0) := by decide +kernel
theorem xX11_pay_22 : dcd mX11_pay 22 = some (.ldc2_w 398, 3, 0, 0) := by decide +kernel
theorem xX11_pay_25 : dcd mX11_pay 25 = some (.invokestatic 203, 3, 0, 0) := by decide +kernel
theorem xX11_pay_28 : dcd mX11_pay 28 = some (.ifCond .eq 0, 3, 46, 0) := by decide +kernel
theorem xX11_pay_31 : dcd mX11_pay 31 = some (.iload 4, 2, 0, 0) := by decide +kernel
theorem xX11_pay_33 : dcd mX11_pay 33 = some (.i2l, 1, 0, 0) := by decide +kernel
theorem xX11_pay_34 : dcd mX11_pay 34 = some (.ldc2_w 400, 3, 0, 0) := by decide +kernel
theorem xX11_pay_37 : dcd mX11_pay 37 = some (.ldc2_w 402, 3, 0, 0) := by decide +kernel
theorem xX11_pay_40 : dcd mX11_pay 40 = some (.invokestatic 203, 3, 0, 0) := by decide +kernel
theorem xX11_pay_43 : dcd mX11_pay 43 = some (.ifCond .ne 0, 3, 49, 0) := by decide +kernel
theorem xX11_pay_46 : dcd mX11_pay 46 = some (.iconst 0, 2, 0, (-3)) := by decide +kernel
theorem xX11_pay_48 : dcd mX11_pay 48 = some (.ireturn, 1, 0, 0) := by decide +kernel
theorem xX11_pay_49 : dcd mX11_pay 49 = some (.aload 0, 1, 0, 0) := by decide +kernel
theorem xX11_pay_50 : dcd mX11_pay 50 = some (.invokevirtual 381, 3, 0, 0) := by decide +kernel
theorem xX11_pay_53 : dcd mX11_pay 53 = some (.iconst 0, 1, 0, 0) := by decide +kernel
theorem xX11_pay_54 : dcd mX11_pay 54 = some (.istore 5, 2, 0, 0) := by decide +kernel
theorem xX11_pay_56 : dcd mX11_pay 56 = some (.iload 5, 2, 0, 0) := by decide +kernel
theorem xX11_pay_58 : dcd mX11_pay 58 = some (.aload 0, 1, 0, 0) := by decide +kernel
theorem xX11_pay_59 : dcd mX11_pay 59 = some (.getfield 13, 3, 0, 0) := by decide +kernel
theorem xX11_pay_62 : dcd mX11_pay 62 = some (.if_icmp .ge 0, 3, 85, 0) := by decide +kernel
theorem xX11_pay_65 : dcd mX11_pay 65 = some (.aload 0, 1, 0, 0) := by decide +kernel
theorem xX11_pay_66 : dcd mX11_pay 66 = some (.getfield 112, 3, 0, 0) := by decide +kernel
theorem xX11_pay_69 : dcd mX11_pay 69 = some (.iload 5, 2, 0, 0) := by decide +kernel
theorem xX11_pay_71 : dcd mX11_pay 71 = some (.aload 0, 1, 0, 0) := by decide +kernel
theorem xX11_pay_72 : dcd mX11_pay 72 = some (.getfield 109, 3, 0, 0) := by decide +kernel
theorem xX11_pay_75 : dcd mX11_pay 75 = some (.iload 5, 2, 0, 0) := by decide +kernel
theorem xX11_pay_77 : dcd mX11_pay 77 = some (.iaload, 1, 0, 0) := by decide +kernel
theorem xX11_pay_78 : dcd mX11_pay 78 = some (.iastore, 1, 0, 0) := by decide +kernel
theorem xX11_pay_79 : dcd mX11_pay 79 = some (.iinc 5 0, 3, 0, 1) := by decide +kernel
theorem xX11_pay_82 : dcd mX11_pay 82 = some (.goto 0, 3, 56, 0) := by decide +kernel
theorem xX11_pay_85 : dcd mX11_pay 85 = some (.iconst 0, 2, 0, (-2)) := by decide +kernel
theorem xX11_pay_87 : dcd mX11_pay 87 = some (.istore 5, 2, 0, 0) := by decide +kernel
theorem xX11_pay_89 : dcd mX11_pay 89 = some (.iconst 0, 2, 0, (-2)) := by decide +kernel
theorem xX11_pay_91 : dcd mX11_pay 91 = some (.istore 6, 2, 0, 0) := by decide +kernel
theorem xX11_pay_93 : dcd mX11_pay 93 = some (.iconst 0, 2, 0, (-2)) := by decide +kernel
theorem xX11_pay_95 : dcd mX11_pay 95 = some (.istore 7, 2, 0, 0) := by decide +kernel
theorem xX11_pay_97 : dcd mX11_pay 97 = some (.iconst 0, 1, 0, 0) := by decide +kernel
theorem xX11_pay_98 : dcd mX11_pay 98 = some (.istore 8, 2, 0, 0) := by decide +kernel
theorem xX11_pay_100 : dcd mX11_pay 100 = some (.iload 8, 2, 0, 0) := by decide +kernel
theorem xX11_pay_102 : dcd mX11_pay 102 = some (.aload 0, 1, 0, 0) := by decide +kernel
theorem xX11_pay_103 : dcd mX11_pay 103 = some (.getfield 213, 3, 0, 0) := by decide +kernel
theorem xX11_pay_106 : dcd mX11_pay 106 = some (.if_icmp .ge 0, 3, 190, 0) := by decide +kernel
theorem xX11_pay_109 : dcd mX11_pay 109 = some (.iconst 0, 1, 0, 0) := by decide +kernel
theorem xX11_pay_110 : dcd mX11_pay 110 = some (.istore 9, 2, 0, 0) := by decide +kernel
theorem xX11_pay_112 : dcd mX11_pay 112 = some (.iload 9, 2, 0, 0) := by decide +kernel
theorem xX11_pay_114 : dcd mX11_pay 114 = some (.aload 0, 1, 0, 0) := by decide +kernel
theorem xX11_pay_115 : dcd mX11_pay 115 = some (.getfield 213, 3, 0, 0) := by decide +kernel
theorem xX11_pay_118 : dcd mX11_pay 118 = some (.if_icmp .ge 0, 3, 184, 0) := by decide +kernel
theorem xX11_pay_121 : dcd mX11_pay 121 = some (.aload 0, 1, 0, 0) := by decide +kernel
theorem xX11_pay_122 : dcd mX11_pay 122 = some (.iload 8, 2, 0, 0) := by decide +kernel
theorem xX11_pay_124 : dcd mX11_pay 124 = some (.iload 9, 2, 0, 0) := by decide +kernel
theorem xX11_pay_126 : dcd mX11_pay 126 = some (.iload 1, 1, 0, 0) := by decide +kernel
theorem xX11_pay_127 : dcd mX11_pay 127 = some (.iload 2, 1, 0, 0) := by decide +kernel
theorem xX11_pay_128 : dcd mX11_pay 128 = some (.iload 3, 1, 0, 0) := by decide +kernel
theorem xX11_pay_129 : dcd mX11_pay 129 = some (.invokevirtual 404, 3, 0, 0) := by decide +kernel
theorem xX11_pay_132 : dcd mX11_pay 132 = some (.ifCond .ne 0, 3, 138, 0) := by decide +kernel
theorem xX11_pay_135 : dcd mX11_pay 135 = some (.goto 0, 3, 178, 0) := by decide +kernel
theorem xX11_pay_138 : dcd mX11_pay 138 = some (.aload 0, 1, 0, 0) := by decide +kernel
theorem xX11_pay_139 : dcd mX11_pay 139 = some (.iload 8, 2, 0, 0) := by decide +kernel
theorem xX11_pay_141 : dcd mX11_pay 141 = some (.iload 9, 2, 0, 0) := by decide +kernel
theorem xX11_pay_143 : dcd mX11_pay 143 = some (.iload 3, 1, 0, 0) := by decide +kernel
theorem xX11_pay_144 : dcd mX11_pay 144 = some (.invokevirtual 408, 3, 0, 0) := by decide +kernel
theorem xX11_pay_147 : dcd mX11_pay 147 = some (.istore 10, 2, 0, 0) := by decide +kernel
theorem xX11_pay_149 : dcd mX11_pay 149 = some (.iload 5, 2, 0, 0) := by decide +kernel
theorem xX11_pay_151 : dcd mX11_pay 151 = some (.iconst 0, 2, 0, (-2)) := by decide +kernel
theorem xX11_pay_153 : dcd mX11_pay 153 = some (.if_icmp .eq 0, 3, 166, 0) := by decide +kernel
theorem xX11_pay_156 : dcd mX11_pay 156 = some (.iload 10, 2, 0, 0) := by decide +kernel
theorem xX11_pay_158 : dcd mX11_pay 158 = some (.iload 7, 2, 0, 0) := by decide +kernel
theorem xX11_pay_160 : dcd mX11_pay 160 = some (.if_icmp .lt 0, 3, 166, 0) := by decide +kernel
theorem xX11_pay_163 : dcd mX11_pay 163 = some (.goto 0, 3, 178, 0) := by decide +kernel
theorem xX11_pay_166 : dcd mX11_pay 166 = some (.iload 8, 2, 0, 0) := by decide +kernel
theorem xX11_pay_168 : dcd mX11_pay 168 = some (.istore 5, 2, 0, 0) := by decide +kernel
theorem xX11_pay_170 : dcd mX11_pay 170 = some (.iload 9, 2, 0, 0) := by decide +kernel
theorem xX11_pay_172 : dcd mX11_pay 172 = some (.istore 6, 2, 0, 0) := by decide +kernel
theorem xX11_pay_174 : dcd mX11_pay 174 = some (.iload 10, 2, 0, 0) := by decide +kernel
theorem xX11_pay_176 : dcd mX11_pay 176 = some (.istore 7, 2, 0, 0) := by decide +kernel
theorem xX11_pay_178 : dcd mX11_pay 178 = some (.iinc 9 0, 3, 0, 1) := by decide +kernel
theorem xX11_pay_181 : dcd mX11_pay 181 = some (.goto 0, 3, 112, 0) := by decide +kernel
theorem xX11_pay_184 : dcd mX11_pay 184 = some (.iinc 8 0, 3, 0, 1) := by decide +kernel
theorem xX11_pay_187 : dcd mX11_pay 187 = some (.goto 0, 3, 100, 0) := by decide +kernel
theorem xX11_pay_190 : dcd mX11_pay 190 = some (.iload 5, 2, 0, 0) := by decide +kernel
theorem xX11_pay_192 : dcd mX11_pay 192 = some (.iconst 0, 2, 0, (-2)) := by decide +kernel
theorem xX11_pay_194 : dcd mX11_pay 194 = some (.if_icmp .eq 0, 3, 212, 0) := by decide +kernel
theorem xX11_pay_197 : dcd mX11_pay 197 = some (.iload 4, 2, 0, 0) := by decide +kernel
theorem xX11_pay_199 : dcd mX11_pay 199 = some (.iconst 0, 1, 0, 2) := by decide +kernel
theorem xX11_pay_200 : dcd mX11_pay 200 = some (.if_icmp .ne 0, 3, 212, 0) := by decide +kernel
theorem xX11_pay_203 : dcd mX11_pay 203 = some (.aload 0, 1, 0, 0) := by decide +kernel
theorem xX11_pay_204 : dcd mX11_pay 204 = some (.iload 5, 2, 0, 0) := by decide +kernel
theorem xX11_pay_206 : dcd mX11_pay 206 = some (.iload 6, 2, 0, 0) := by decide +kernel
theorem xX11_pay_208 : dcd mX11_pay 208 = some (.iload 3, 1, 0, 0) := by decide +kernel
theorem xX11_pay_209 : dcd mX11_pay 209 = some (.invokevirtual 394, 3, 0, 0) := by decide +kernel
theorem xX11_pay_212 : dcd mX11_pay 212 = some (.iload 4, 2, 0, 0) := by decide +kernel
theorem xX11_pay_214 : dcd mX11_pay 214 = some (.ifCond .ne 0, 3, 222, 0) := by decide +kernel
theorem xX11_pay_217 : dcd mX11_pay 217 = some (.iload 5, 2, 0, 0) := by decide +kernel
theorem xX11_pay_219 : dcd mX11_pay 219 = some (.goto 0, 3, 235, 0) := by decide +kernel
theorem xX11_pay_222 : dcd mX11_pay 222 = some (.iload 4, 2, 0, 0) := by decide +kernel
theorem xX11_pay_224 : dcd mX11_pay 224 = some (.iconst 0, 1, 0, 1) := by decide +kernel
theorem xX11_pay_225 : dcd mX11_pay 225 = some (.if_icmp .ne 0, 3, 233, 0) := by decide +kernel
theorem xX11_pay_228 : dcd mX11_pay 228 = some (.iload 6, 2, 0, 0) := by decide +kernel
theorem xX11_pay_230 : dcd mX11_pay 230 = some (.goto 0, 3, 235, 0) := by decide +kernel
theorem xX11_pay_233 : dcd mX11_pay 233 = some (.iload 7, 2, 0, 0) := by decide +kernel
theorem xX11_pay_235 : dcd mX11_pay 235 = some (.ireturn, 1, 0, 0) := by decide +kernel
theorem xX11_takesPlaces_0 : dcd mX11_takesPlaces 0 = some (.iconst 0, 1, 0, 1) := by decide +kernel
theorem xX11_takesPlaces_1 : dcd mX11_takesPlaces 1 = some (.istore 2, 1, 0, 0) := by decide +kernel
theorem xX11_takesPlaces_2 : dcd mX11_takesPlaces 2 = some (.iconst 0, 1, 0, 0) := by decide +kernel
theorem xX11_takesPlaces_3 : dcd mX11_takesPlaces 3 = some (.istore 3, 1, 0, 0) := by decide +kernel
theorem xX11_takesPlaces_4 : dcd mX11_takesPlaces 4 = some (.iload 3, 1, 0, 0) := by decide +kernel
theorem xX11_takesPlaces_5 : dcd mX11_takesPlaces 5 = some (.iload 1, 1, 0, 0) := by decide +kernel
theorem xX11_takesPlaces_6 : dcd mX11_takesPlaces 6 = some (.if_icmp .ge 0, 3, 196, 0) := by decide +kernel
theorem xX11_takesPlaces_9 : dcd mX11_takesPlaces 9 = some (.aload 0, 1, 0, 0) := by decide +kernel
theorem xX11_takesPlaces_10 : dcd mX11_takesPlaces 10 = some (.getfield 115, 3, 0, 0) := by decide +kernel
theorem xX11_takesPlaces_13 : dcd mX11_takesPlaces 13 = some (.iload 3, 1, 0, 0) := by decide +kernel
theorem xX11_takesPlaces_14 : dcd mX11_takesPlaces 14 = some (.aload 0, 1, 0, 0) := by decide +kernel
theorem xX11_takesPlaces_15 : dcd mX11_takesPlaces 15 = some (.iconst 0, 1, 0, 3) := by decide +kernel
theorem xX11_takesPlaces_16 : dcd mX11_takesPlaces 16 = some (.iload 3, 1, 0, 0) := by decide +kernel
theorem xX11_takesPlaces_17 : dcd mX11_takesPlaces 17 = some (.imul, 1, 0, 0) := by decide +kernel
theorem xX11_takesPlaces_18 : dcd mX11_takesPlaces 18 = some (.invokevirtual 411, 3, 0, 0) := by decide +kernel
theorem xX11_takesPlaces_21 : dcd mX11_takesPlaces 21 = some (.iastore, 1, 0, 0) := by decide +kernel
theorem xX11_takesPlaces_22 : dcd mX11_takesPlaces 22 = some (.aload 0, 1, 0, 0) := by decide +kernel
theorem xX11_takesPlaces_23 : dcd mX11_takesPlaces 23 = some (.getfield 118, 3, 0, 0) := by decide +kernel
theorem xX11_takesPlaces_26 : dcd mX11_takesPlaces 26 = some (.iload 3, 1, 0, 0) := by decide +kernel
theorem xX11_takesPlaces_27 : dcd mX11_takesPlaces 27 = some (.aload 0, 1, 0, 0) := by decide +kernel
theorem xX11_takesPlaces_28 : dcd mX11_takesPlaces 28 = some (.iconst 0, 1, 0, 3) := by decide +kernel
theorem xX11_takesPlaces_29 : dcd mX11_takesPlaces 29 = some (.iload 3, 1, 0, 0) := by decide +kernel
theorem xX11_takesPlaces_30 : dcd mX11_takesPlaces 30 = some (.imul, 1, 0, 0) := by decide +kernel
theorem xX11_takesPlaces_31 : dcd mX11_takesPlaces 31 = some (.iconst 0, 1, 0, 1) := by decide +kernel
theorem xX11_takesPlaces_32 : dcd mX11_takesPlaces 32 = some (.iadd, 1, 0, 0) := by decide +kernel
theorem xX11_takesPlaces_33 : dcd mX11_takesPlaces 33 = some (.invokevirtual 411, 3, 0, 0) := by decide +kernel
theorem xX11_takesPlaces_36 : dcd mX11_takesPlaces 36 = some (.iastore, 1, 0, 0) := by decide +kernel
theorem xX11_takesPlaces_37 : dcd mX11_takesPlaces 37 = some (.aload 0, 1, 0, 0) := by decide +kernel
theorem xX11_takesPlaces_38 : dcd mX11_takesPlaces 38 = some (.getfield 121, 3, 0, 0) := by decide +kernel
theorem xX11_takesPlaces_41 : dcd mX11_takesPlaces 41 = some (.iload 3, 1, 0, 0) := by decide +kernel
theorem xX11_takesPlaces_42 : dcd mX11_takesPlaces 42 = some (.aload 0, 1, 0, 0) := by decide +kernel
theorem xX11_takesPlaces_43 : dcd mX11_takesPlaces 43 = some (.iconst 0, 1, 0, 3) := by decide +kernel
theorem xX11_takesPlaces_44 : dcd mX11_takesPlaces 44 = some (.iload 3, 1, 0, 0) := by decide +kernel
theorem xX11_takesPlaces_45 : dcd mX11_takesPlaces 45 = some (.imul, 1, 0, 0) := by decide +kernel
theorem xX11_takesPlaces_46 : dcd mX11_takesPlaces 46 = some (.iconst 0, 1, 0, 2) := by decide +kernel
theorem xX11_takesPlaces_47 : dcd mX11_takesPlaces 47 = some (.iadd, 1, 0, 0) := by decide +kernel
theorem xX11_takesPlaces_48 : dcd mX11_takesPlaces 48 = some (.invokevirtual 411, 3, 0, 0) := by decide +kernel
theorem xX11_takesPlaces_51 : dcd mX11_takesPlaces 51 = some (.iconst 0, 2, 0, 9) := by decide +kernel
theorem xX11_takesPlaces_53 : dcd mX11_takesPlaces 53 = some (.isub, 1, 0, 0) := by decide +kernel
theorem xX11_takesPlaces_54 : dcd mX11_takesPlaces 54 = some (.iastore, 1, 0, 0) := by decide +kernel
theorem xX11_takesPlaces_55 : dcd mX11_takesPlaces 55 = some (.iload 2, 1, 0, 0) := by decide +kernel
theorem xX11_takesPlaces_56 : dcd mX11_takesPlaces 56 = some (.ifCond .eq 0, 3, 115, 0) := by decide +kernel
theorem xX11_takesPlaces_59 : dcd mX11_takesPlaces 59 = some (.aload 0, 1, 0, 0) := by decide +kernel
theorem xX11_takesPlaces_60 : dcd mX11_takesPlaces 60 = some (.aload 0, 1, 0, 0) := by decide +kernel
theorem xX11_takesPlaces_61 : dcd mX11_takesPlaces 61 = some (.getfield 115, 3, 0, 0) := by decide +kernel
theorem xX11_takesPlaces_64 : dcd mX11_takesPlaces 64 = some (.iload 3, 1, 0, 0) := by decide +kernel
theorem xX11_takesPlaces_65 : dcd mX11_takesPlaces 65 = some (.iaload, 1, 0, 0) := by decide +kernel
theorem xX11_takesPlaces_66 : dcd mX11_takesPlaces 66 = some (.invokevirtual 387, 3, 0, 0) := by decide +kernel
theorem xX11_takesPlaces_69 : dcd mX11_takesPlaces 69 = some (.ifCond .eq 0, 3, 115, 0) := by decide +kernel
theorem xX11_takesPlaces_72 : dcd mX11_takesPlaces 72 = some (.aload 0, 1, 0, 0) := by decide +kernel
theorem xX11_takesPlaces_73 : dcd mX11_takesPlaces 73 = some (.getfield 55, 3, 0, 0) := by decide +kernel
theorem xX11_takesPlaces_76 : dcd mX11_takesPlaces 76 = some (.aload 0, 1, 0, 0) := by decide +kernel
theorem xX11_takesPlaces_77 : dcd mX11_takesPlaces 77 = some (.getfield 115, 3, 0, 0) := by decide +kernel
theorem xX11_takesPlaces_80 : dcd mX11_takesPlaces 80 = some (.iload 3, 1, 0, 0) := by decide +kernel
theorem xX11_takesPlaces_81 : dcd mX11_takesPlaces 81 = some (.iaload, 1, 0, 0) := by decide +kernel
theorem xX11_takesPlaces_82 : dcd mX11_takesPlaces 82 = some (.baload, 1, 0, 0) := by decide +kernel
theorem xX11_takesPlaces_83 : dcd mX11_takesPlaces 83 = some (.ifCond .eq 0, 3, 115, 0) := by decide +kernel
theorem xX11_takesPlaces_86 : dcd mX11_takesPlaces 86 = some (.aload 0, 1, 0, 0) := by decide +kernel
theorem xX11_takesPlaces_87 : dcd mX11_takesPlaces 87 = some (.aload 0, 1, 0, 0) := by decide +kernel
theorem xX11_takesPlaces_88 : dcd mX11_takesPlaces 88 = some (.getfield 118, 3, 0, 0) := by decide +kernel
theorem xX11_takesPlaces_91 : dcd mX11_takesPlaces 91 = some (.iload 3, 1, 0, 0) := by decide +kernel
theorem xX11_takesPlaces_92 : dcd mX11_takesPlaces 92 = some (.iaload, 1, 0, 0) := by decide +kernel
theorem xX11_takesPlaces_93 : dcd mX11_takesPlaces 93 = some (.invokevirtual 216, 3, 0, 0) := by decide +kernel
theorem xX11_takesPlaces_96 : dcd mX11_takesPlaces 96 = some (.ifCond .eq 0, 3, 115, 0) := by decide +kernel
theorem xX11_takesPlaces_99 : dcd mX11_takesPlaces 99 = some (.aload 0, 1, 0, 0) := by decide +kernel
theorem xX11_takesPlaces_100 : dcd mX11_takesPlaces 100 = some (.getfield 121, 3, 0, 0) := by decide +kernel
theorem xX11_takesPlaces_103 : dcd mX11_takesPlaces 103 = some (.iload 3, 1, 0, 0) := by decide +kernel
theorem xX11_takesPlaces_104 : dcd mX11_takesPlaces 104 = some (.iaload, 1, 0, 0) := by decide +kernel
theorem xX11_takesPlaces_105 : dcd mX11_takesPlaces 105 = some (.invokestatic 220, 3, 0, 0) := by decide +kernel
theorem xX11_takesPlaces_108 : dcd mX11_takesPlaces 108 = some (.ifCond .eq 0, 3, 115, 0) := by decide +kernel
theorem xX11_takesPlaces_111 : dcd mX11_takesPlaces 111 = some (.iconst 0, 1, 0, 1) := by decide +kernel
theorem xX11_takesPlaces_112 : dcd mX11_takesPlaces 112 = some (.goto 0, 3, 116, 0) := by decide +kernel
theorem xX11_takesPlaces_115 : dcd mX11_takesPlaces 115 = some (.iconst 0, 1, 0, 0) := by decide +kernel
theorem xX11_takesPlaces_116 : dcd mX11_takesPlaces 116 = some (.istore 2, 1, 0, 0) := by decide +kernel
theorem xX11_takesPlaces_117 : dcd mX11_takesPlaces 117 = some (.iconst 0, 1, 0, 0) := by decide +kernel
theorem xX11_takesPlaces_118 : dcd mX11_takesPlaces 118 = some (.istore 4, 2, 0, 0) := by decide +kernel
theorem xX11_takesPlaces_120 : dcd mX11_takesPlaces 120 = some (.iload 4, 2, 0, 0) := by decide +kernel
theorem xX11_takesPlaces_122 : dcd mX11_takesPlaces 122 = some (.iload 3, 1, 0, 0) := by decide +kernel
theorem xX11_takesPlaces_123 : dcd mX11_takesPlaces 123 = some (.if_icmp .ge 0, 3, 190, 0) := by decide +kernel
theorem xX11_takesPlaces_126 : dcd mX11_takesPlaces 126 = some (.iload 2, 1, 0, 0) := by decide +kernel
theorem xX11_takesPlaces_127 : dcd mX11_takesPlaces 127 = some (.ifCond .eq 0, 3, 182, 0) := by decide +kernel
theorem xX11_takesPlaces_130 : dcd mX11_takesPlaces 130 = some (.aload 0, 1, 0, 0) := by decide +kernel
theorem xX11_takesPlaces_131 : dcd mX11_takesPlaces 131 = some (.getfield 115, 3, 0, 0) := by decide +kernel
theorem xX11_takesPlaces_134 : dcd mX11_takesPlaces 134 = some (.iload 4, 2, 0, 0) := by decide +kernel
theorem xX11_takesPlaces_136 : dcd mX11_takesPlaces 136 = some (.iaload, 1, 0, 0) := by decide +kernel
theorem xX11_takesPlaces_137 : dcd mX11_takesPlaces 137 = some (.aload 0, 1, 0, 0) := by decide +kernel
theorem xX11_takesPlaces_138 : dcd mX11_takesPlaces 138 = some (.getfield 115, 3, 0, 0) := by decide +kernel
theorem xX11_takesPlaces_141 : dcd mX11_takesPlaces 141 = some (.iload 3, 1, 0, 0) := by decide +kernel
theorem xX11_takesPlaces_142 : dcd mX11_takesPlaces 142 = some (.iaload, 1, 0, 0) := by decide +kernel
theorem xX11_takesPlaces_143 : dcd mX11_takesPlaces 143 = some (.if_icmp .eq 0, 3, 182, 0) := by decide +kernel
theorem xX11_takesPlaces_146 : dcd mX11_takesPlaces 146 = some (.aload 0, 1, 0, 0) := by decide +kernel
theorem xX11_takesPlaces_147 : dcd mX11_takesPlaces 147 = some (.getfield 118, 3, 0, 0) := by decide +kernel
theorem xX11_takesPlaces_150 : dcd mX11_takesPlaces 150 = some (.iload 4, 2, 0, 0) := by decide +kernel
theorem xX11_takesPlaces_152 : dcd mX11_takesPlaces 152 = some (.iaload, 1, 0, 0) := by decide +kernel
theorem xX11_takesPlaces_153 : dcd mX11_takesPlaces 153 = some (.aload 0, 1, 0, 0) := by decide +kernel
theorem xX11_takesPlaces_154 : dcd mX11_takesPlaces 154 = some (.getfield 118, 3, 0, 0) := by decide +kernel
theorem xX11_takesPlaces_157 : dcd mX11_takesPlaces 157 = some (.iload 3, 1, 0, 0) := by decide +kernel
theorem xX11_takesPlaces_158 : dcd mX11_takesPlaces 158 = some (.iaload, 1, 0, 0) := by decide +kernel
theorem xX11_takesPlaces_159 : dcd mX11_takesPlaces 159 = some (.if_icmp .ne 0, 3, 178, 0) := by decide +kernel
theorem xX11_takesPlaces_162 : dcd mX11_takesPlaces 162 = some (.aload 0, 1, 0, 0) := by decide +kernel
theorem xX11_takesPlaces_163 : dcd mX11_takesPlaces 163 = some (.getfield 121, 3, 0, 0) := by decide +kernel
theorem xX11_takesPlaces_166 : dcd mX11_takesPlaces 166 = some (.iload 4, 2, 0, 0) := by decide +kernel
theorem xX11_takesPlaces_168 : dcd mX11_takesPlaces 168 = some (.iaload, 1, 0, 0) := by decide +kernel
theorem xX11_takesPlaces_169 : dcd mX11_takesPlaces 169 = some (.aload 0, 1, 0, 0) := by decide +kernel
theorem xX11_takesPlaces_170 : dcd mX11_takesPlaces 170 = some (.getfield 121, 3, 0, 0) := by decide +kernel
theorem xX11_takesPlaces_173 : dcd mX11_takesPlaces 173 = some (.iload 3, 1, 0, 0) := by decide +kernel
theorem xX11_takesPlaces_174 : dcd mX11_takesPlaces 174 = some (.iaload, 1, 0, 0) := by decide +kernel
theorem xX11_takesPlaces_175 : dcd mX11_takesPlaces 175 = some (.if_icmp .eq 0, 3, 182, 0) := by decide +kernel
theorem xX11_takesPlaces_178 : dcd mX11_takesPlaces 178 = some (.iconst 0, 1, 0, 1) := by decide +kernel
theorem xX11_takesPlaces_179 : dcd mX11_takesPlaces 179 = some (.goto 0, 3, 183, 0) := by decide +kernel
theorem xX11_takesPlaces_182 : dcd mX11_takesPlaces 182 = some (.iconst 0, 1, 0, 0) := by decide +kernel
theorem xX11_takesPlaces_183 : dcd mX11_takesPlaces 183 = some (.istore 2, 1, 0, 0) := by decide +kernel
theorem xX11_takesPlaces_184 : dcd mX11_takesPlaces 184 = some (.iinc 4 0, 3, 0, 1) := by decide +kernel
theorem xX11_takesPlaces_187 : dcd mX11_takesPlaces 187 = some (.goto 0, 3, 120, 0) := by decide +kernel
theorem xX11_takesPlaces_190 : dcd mX11_takesPlaces 190 = some (.iinc 3 0, 3, 0, 1) := by decide +kernel
theorem xX11_takesPlaces_193 : dcd mX11_takesPlaces 193 = some (.goto 0, 3, 4, 0) := by decide +kernel
theorem xX11_takesPlaces_196 : dcd mX11_takesPlaces 196 = some (.iload 2, 1, 0, 0) := by decide +kernel
theorem xX11_takesPlaces_197 : dcd mX11_takesPlaces 197 = some (.ireturn, 1, 0, 0) := by decide +kernel
theorem xX11_hangsBy_0 : dcd mX11_hangsBy 0 = some (.aload 0, 1, 0, 0) := by decide +kernel
theorem xX11_hangsBy_1 : dcd mX11_hangsBy 1 = some (.getfield 37, 3, 0, 0) := by decide +kernel
theorem xX11_hangsBy_4 : dcd mX11_hangsBy 4 = some (.aload 0, 1, 0, 0) := by decide +kernel
theorem xX11_hangsBy_5 : dcd mX11_hangsBy 5 = some (.getfield 115, 3, 0, 0) := by decide +kernel
theorem xX11_hangsBy_8 : dcd mX11_hangsBy 8 = some (.iload 1, 1, 0, 0) := by decide +kernel
theorem xX11_hangsBy_9 : dcd mX11_hangsBy 9 = some (.iaload, 1, 0, 0) := by decide +kernel
theorem xX11_hangsBy_10 : dcd mX11_hangsBy 10 = some (.aload 0, 1, 0, 0) := by decide +kernel
theorem xX11_hangsBy_11 : dcd mX11_hangsBy 11 = some (.getfield 118, 3, 0, 0) := by decide +kernel
theorem xX11_hangsBy_14 : dcd mX11_hangsBy 14 = some (.iload 2, 1, 0, 0) := by decide +kernel
theorem xX11_hangsBy_15 : dcd mX11_hangsBy 15 = some (.iaload, 1, 0, 0) := by decide +kernel
theorem xX11_hangsBy_16 : dcd mX11_hangsBy 16 = some (.iastore, 1, 0, 0) := by decide +kernel
theorem xX11_hangsBy_17 : dcd mX11_hangsBy 17 = some (.aload 0, 1, 0, 0) := by decide +kernel
theorem xX11_hangsBy_18 : dcd mX11_hangsBy 18 = some (.getfield 40, 3, 0, 0) := by decide +kernel
theorem xX11_hangsBy_21 : dcd mX11_hangsBy 21 = some (.aload 0, 1, 0, 0) := by decide +kernel
theorem xX11_hangsBy_22 : dcd mX11_hangsBy 22 = some (.getfield 115, 3, 0, 0) := by decide +kernel
theorem xX11_hangsBy_25 : dcd mX11_hangsBy 25 = some (.iload 1, 1, 0, 0) := by decide +kernel
theorem xX11_hangsBy_26 : dcd mX11_hangsBy 26 = some (.iaload, 1, 0, 0) := by decide +kernel
theorem xX11_hangsBy_27 : dcd mX11_hangsBy 27 = some (.aload 0, 1, 0, 0) := by decide +kernel
theorem xX11_hangsBy_28 : dcd mX11_hangsBy 28 = some (.getfield 121, 3, 0, 0) := by decide +kernel
theorem xX11_hangsBy_31 : dcd mX11_hangsBy 31 = some (.iload 2, 1, 0, 0) := by decide +kernel
theorem xX11_hangsBy_32 : dcd mX11_hangsBy 32 = some (.iaload, 1, 0, 0) := by decide +kernel
theorem xX11_hangsBy_33 : dcd mX11_hangsBy 33 = some (.iastore, 1, 0, 0) := by decide +kernel
theorem xX11_hangsBy_34 : dcd mX11_hangsBy 34 = some (.return_, 1, 0, 0) := by decide +kernel
theorem xX11_size_0 : dcd mX11_size 0 = some (.iload 0, 1, 0, 0) := by decide +kernel
theorem xX11_size_1 : dcd mX11_size 1 = some (.ifCond .ge 0, 3, 9, 0) := by decide +kernel
theorem xX11_size_4 : dcd mX11_size 4 = some (.iload 0, 1, 0, 0) := by decide +kernel
theorem xX11_size_5 : dcd mX11_size 5 = some (.ineg, 1, 0, 0) := by decide +kernel
theorem xX11_size_6 : dcd mX11_size 6 = some (.goto 0, 3, 10, 0) := by decide +kernel
theorem xX11_size_9 : dcd mX11_size 9 = some (.iload 0, 1, 0, 0) := by decide +kernel
theorem xX11_size_10 : dcd mX11_size 10 = some (.ireturn, 1, 0, 0) := by decide +kernel
theorem xX11_sumOfLeans_0 : dcd mX11_sumOfLeans 0 = some (.aload 0, 1, 0, 0) := by decide +kernel
theorem xX11_sumOfLeans_1 : dcd mX11_sumOfLeans 1 = some (.invokevirtual 381, 3, 0, 0) := by decide +kernel
theorem xX11_sumOfLeans_4 : dcd mX11_sumOfLeans 4 = some (.iconst 0, 1, 0, 0) := by decide +kernel
theorem xX11_sumOfLeans_5 : dcd mX11_sumOfLeans 5 = some (.istore 1, 1, 0, 0) := by decide +kernel
theorem xX11_sumOfLeans_6 : dcd mX11_sumOfLeans 6 = some (.iconst 0, 1, 0, 0) := by decide +kernel
theorem xX11_sumOfLeans_7 : dcd mX11_sumOfLeans 7 = some (.istore 2, 1, 0, 0) := by decide +kernel
theorem xX11_sumOfLeans_8 : dcd mX11_sumOfLeans 8 = some (.iload 2, 1, 0, 0) := by decide +kernel
theorem xX11_sumOfLeans_9 : dcd mX11_sumOfLeans 9 = some (.aload 0, 1, 0, 0) := by decide +kernel
theorem xX11_sumOfLeans_10 : dcd mX11_sumOfLeans 10 = some (.getfield 13, 3, 0, 0) := by decide +kernel
theorem xX11_sumOfLeans_13 : dcd mX11_sumOfLeans 13 = some (.if_icmp .ge 0, 3, 34, 0) := by decide +kernel
theorem xX11_sumOfLeans_16 : dcd mX11_sumOfLeans 16 = some (.iload 1, 1, 0, 0) := by decide +kernel
theorem xX11_sumOfLeans_17 : dcd mX11_sumOfLeans 17 = some (.aload 0, 1, 0, 0) := by decide +kernel
theorem xX11_sumOfLeans_18 : dcd mX11_sumOfLeans 18 = some (.getfield 109, 3, 0, 0) := by decide +kernel
theorem xX11_sumOfLeans_21 : dcd mX11_sumOfLeans 21 = some (.iload 2, 1, 0, 0) := by decide +kernel
theorem xX11_sumOfLeans_22 : dcd mX11_sumOfLeans 22 = some (.iaload, 1, 0, 0) := by decide +kernel
theorem xX11_sumOfLeans_23 : dcd mX11_sumOfLeans 23 = some (.invokestatic 414, 3, 0, 0) := by decide +kernel
theorem xX11_sumOfLeans_26 : dcd mX11_sumOfLeans 26 = some (.iadd, 1, 0, 0) := by decide +kernel
theorem xX11_sumOfLeans_27 : dcd mX11_sumOfLeans 27 = some (.istore 1, 1, 0, 0) := by decide +kernel
theorem xX11_sumOfLeans_28 : dcd mX11_sumOfLeans 28 = some (.iinc 2 0, 3, 0, 1) := by decide +kernel
theorem xX11_sumOfLeans_31 : dcd mX11_sumOfLeans 31 = some (.goto 0, 3, 8, 0) := by decide +kernel
theorem xX11_sumOfLeans_34 : dcd mX11_sumOfLeans 34 = some (.iload 1, 1, 0, 0) := by decide +kernel
theorem xX11_sumOfLeans_35 : dcd mX11_sumOfLeans 35 = some (.ireturn, 1, 0, 0) := by decide +kernel
theorem xX11_goesOn_0 : dcd mX11_goesOn 0 = some (.iload 1, 1, 0, 0) := by decide +kernel
theorem xX11_goesOn_1 : dcd mX11_goesOn 1 = some (.iconst 0, 1, 0, 2) := by decide +kernel
theorem xX11_goesOn_2 : dcd mX11_goesOn 2 = some (.isub, 1, 0, 0) := by decide +kernel
theorem xX11_goesOn_3 : dcd mX11_goesOn 3 = some (.istore 2, 1, 0, 0) := by decide +kernel
theorem xX11_goesOn_4 : dcd mX11_goesOn 4 = some (.iload 2, 1, 0, 0) := by decide +kernel
theorem xX11_goesOn_5 : dcd mX11_goesOn 5 = some (.ifCond .lt 0, 3, 31, 0) := by decide +kernel
theorem xX11_goesOn_8 : dcd mX11_goesOn 8 = some (.aload 0, 1, 0, 0) := by decide +kernel
theorem xX11_goesOn_9 : dcd mX11_goesOn 9 = some (.getfield 124, 3, 0, 0) := by decide +kernel
theorem xX11_goesOn_12 : dcd mX11_goesOn 12 = some (.iload 2, 1, 0, 0) := by decide +kernel
theorem xX11_goesOn_13 : dcd mX11_goesOn 13 = some (.iaload, 1, 0, 0) := by decide +kernel
theorem xX11_goesOn_14 : dcd mX11_goesOn 14 = some (.aload 0, 1, 0, 0) := by decide +kernel
theorem xX11_goesOn_15 : dcd mX11_goesOn 15 = some (.getfield 124, 3, 0, 0) := by decide +kernel
theorem xX11_goesOn_18 : dcd mX11_goesOn 18 = some (.iload 2, 1, 0, 0) := by decide +kernel
theorem xX11_goesOn_19 : dcd mX11_goesOn 19 = some (.iconst 0, 1, 0, 1) := by decide +kernel
theorem xX11_goesOn_20 : dcd mX11_goesOn 20 = some (.iadd, 1, 0, 0) := by decide +kernel
theorem xX11_goesOn_21 : dcd mX11_goesOn 21 = some (.iaload, 1, 0, 0) := by decide +kernel
theorem xX11_goesOn_22 : dcd mX11_goesOn 22 = some (.if_icmp .le 0, 3, 31, 0) := by decide +kernel
theorem xX11_goesOn_25 : dcd mX11_goesOn 25 = some (.iinc 2 0, 3, 0, (-1)) := by decide +kernel
theorem xX11_goesOn_28 : dcd mX11_goesOn 28 = some (.goto 0, 3, 4, 0) := by decide +kernel
theorem xX11_goesOn_31 : dcd mX11_goesOn 31 = some (.iload 2, 1, 0, 0) := by decide +kernel
theorem xX11_goesOn_32 : dcd mX11_goesOn 32 = some (.ifCond .ge 0, 3, 37, 0) := by decide +kernel
theorem xX11_goesOn_35 : dcd mX11_goesOn 35 = some (.iconst 0, 1, 0, 0) := by decide +kernel
theorem xX11_goesOn_36 : dcd mX11_goesOn 36 = some (.ireturn, 1, 0, 0) := by decide +kernel
theorem xX11_goesOn_37 : dcd mX11_goesOn 37 = some (.iload 1, 1, 0, 0) := by decide +kernel
theorem xX11_goesOn_38 : dcd mX11_goesOn 38 = some (.iconst 0, 1, 0, 1) := by decide +kernel
theorem xX11_goesOn_39 : dcd mX11_goesOn 39 = some (.isub, 1, 0, 0) := by decide +kernel
theorem xX11_goesOn_40 : dcd mX11_goesOn 40 = some (.istore 3, 1, 0, 0) := by decide +kernel
theorem xX11_goesOn_41 : dcd mX11_goesOn 41 = some (.aload 0, 1, 0, 0) := by decide +kernel
theorem xX11_goesOn_42 : dcd mX11_goesOn 42 = some (.getfield 124, 3, 0, 0) := by decide +kernel
theorem xX11_goesOn_45 : dcd mX11_goesOn 45 = some (.iload 3, 1, 0, 0) := by decide +kernel
theorem xX11_goesOn_46 : dcd mX11_goesOn 46 = some (.iaload, 1, 0, 0) := by decide +kernel
theorem xX11_goesOn_47 : dcd mX11_goesOn 47 = some (.aload 0, 1, 0, 0) := by decide +kernel
theorem xX11_goesOn_48 : dcd mX11_goesOn 48 = some (.getfield 124, 3, 0, 0) := by decide +kernel
theorem xX11_goesOn_51 : dcd mX11_goesOn 51 = some (.iload 2, 1, 0, 0) := by decide +kernel
theorem xX11_goesOn_52 : dcd mX11_goesOn 52 = some (.iaload, 1, 0, 0) := by decide +kernel
theorem xX11_goesOn_53 : dcd mX11_goesOn 53 = some (.if_icmp .ge 0, 3, 62, 0) := by decide +kernel
theorem xX11_goesOn_56 : dcd mX11_goesOn 56 = some (.iinc 3 0, 3, 0, (-1)) := by decide +kernel
theorem xX11_goesOn_59 : dcd mX11_goesOn 59 = some (.goto 0, 3, 41, 0) := by decide +kernel
theorem xX11_goesOn_62 : dcd mX11_goesOn 62 = some (.aload 0, 1, 0, 0) := by decide +kernel
theorem xX11_goesOn_63 : dcd mX11_goesOn 63 = some (.getfield 124, 3, 0, 0) := by decide +kernel
theorem xX11_goesOn_66 : dcd mX11_goesOn 66 = some (.iload 2, 1, 0, 0) := by decide +kernel
theorem xX11_goesOn_67 : dcd mX11_goesOn 67 = some (.iaload, 1, 0, 0) := by decide +kernel
theorem xX11_goesOn_68 : dcd mX11_goesOn 68 = some (.istore 4, 2, 0, 0) := by decide +kernel
theorem xX11_goesOn_70 : dcd mX11_goesOn 70 = some (.aload 0, 1, 0, 0) := by decide +kernel
theorem xX11_goesOn_71 : dcd mX11_goesOn 71 = some (.getfield 124, 3, 0, 0) := by decide +kernel
theorem xX11_goesOn_74 : dcd mX11_goesOn 74 = some (.iload 2, 1, 0, 0) := by decide +kernel
theorem xX11_goesOn_75 : dcd mX11_goesOn 75 = some (.aload 0, 1, 0, 0) := by decide +kernel
theorem xX11_goesOn_76 : dcd mX11_goesOn 76 = some (.getfield 124, 3, 0, 0) := by decide +kernel
theorem xX11_goesOn_79 : dcd mX11_goesOn 79 = some (.iload 3, 1, 0, 0) := by decide +kernel
theorem xX11_goesOn_80 : dcd mX11_goesOn 80 = some (.iaload, 1, 0, 0) := by decide +kernel
theorem xX11_goesOn_81 : dcd mX11_goesOn 81 = some (.iastore, 1, 0, 0) := by decide +kernel
theorem xX11_goesOn_82 : dcd mX11_goesOn 82 = some (.aload 0, 1, 0, 0) := by decide +kernel
theorem xX11_goesOn_83 : dcd mX11_goesOn 83 = some (.getfield 124, 3, 0, 0) := by decide +kernel
theorem xX11_goesOn_86 : dcd mX11_goesOn 86 = some (.iload 3, 1, 0, 0) := by decide +kernel
theorem xX11_goesOn_87 : dcd mX11_goesOn 87 = some (.iload 4, 2, 0, 0) := by decide +kernel
theorem xX11_goesOn_89 : dcd mX11_goesOn 89 = some (.iastore, 1, 0, 0) := by decide +kernel
theorem xX11_goesOn_90 : dcd mX11_goesOn 90 = some (.iload 2, 1, 0, 0) := by decide +kernel
theorem xX11_goesOn_91 : dcd mX11_goesOn 91 = some (.iconst 0, 1, 0, 1) := by decide +kernel
theorem xX11_goesOn_92 : dcd mX11_goesOn 92 = some (.iadd, 1, 0, 0) := by decide +kernel
theorem xX11_goesOn_93 : dcd mX11_goesOn 93 = some (.istore 5, 2, 0, 0) := by decide +kernel
theorem xX11_goesOn_95 : dcd mX11_goesOn 95 = some (.iload 1, 1, 0, 0) := by decide +kernel
theorem xX11_goesOn_96 : dcd mX11_goesOn 96 = some (.iconst 0, 1, 0, 1) := by decide +kernel
theorem xX11_goesOn_97 : dcd mX11_goesOn 97 = some (.isub, 1, 0, 0) := by decide +kernel
theorem xX11_goesOn_98 : dcd mX11_goesOn 98 = some (.istore 6, 2, 0, 0) := by decide +kernel
theorem xX11_goesOn_100 : dcd mX11_goesOn 100 = some (.iload 5, 2, 0, 0) := by decide +kernel
theorem xX11_goesOn_102 : dcd mX11_goesOn 102 = some (.iload 6, 2, 0, 0) := by decide +kernel
theorem xX11_goesOn_104 : dcd mX11_goesOn 104 = some (.if_icmp .ge 0, 3, 148, 0) := by decide +kernel
theorem xX11_goesOn_107 : dcd mX11_goesOn 107 = some (.aload 0, 1, 0, 0) := by decide +kernel
theorem xX11_goesOn_108 : dcd mX11_goesOn 108 = some (.getfield 124, 3, 0, 0) := by decide +kernel
theorem xX11_goesOn_111 : dcd mX11_goesOn 111 = some (.iload 5, 2, 0, 0) := by decide +kernel
theorem xX11_goesOn_113 : dcd mX11_goesOn 113 = some (.iaload, 1, 0, 0) := by decide +kernel
theorem xX11_goesOn_114 : dcd mX11_goesOn 114 = some (.istore 4, 2, 0, 0) := by decide +kernel
theorem xX11_goesOn_116 : dcd mX11_goesOn 116 = some (.aload 0, 1, 0, 0) := by decide +kernel
theorem xX11_goesOn_117 : dcd mX11_goesOn 117 = some (.getfield 124, 3, 0, 0) := by decide +kernel
theorem xX11_goesOn_120 : dcd mX11_goesOn 120 = some (.iload 5, 2, 0, 0) := by decide +kernel
theorem xX11_goesOn_122 : dcd mX11_goesOn 122 = some (.aload 0, 1, 0, 0) := by decide +kernel
theorem xX11_goesOn_123 : dcd mX11_goesOn 123 = some (.getfield 124, 3, 0, 0) := by decide +kernel
theorem xX11_goesOn_126 : dcd mX11_goesOn 126 = some (.iload 6, 2, 0, 0) := by decide +kernel
theorem xX11_goesOn_128 : dcd mX11_goesOn 128 = some (.iaload, 1, 0, 0) := by decide +kernel
theorem xX11_goesOn_129 : dcd mX11_goesOn 129 = some (.iastore, 1, 0, 0) := by decide +kernel
theorem xX11_goesOn_130 : dcd mX11_goesOn 130 = some (.aload 0, 1, 0, 0) := by decide +kernel
theorem xX11_goesOn_131 : dcd mX11_goesOn 131 = some (.getfield 124, 3, 0, 0) := by decide +kernel
theorem xX11_goesOn_134 : dcd mX11_goesOn 134 = some (.iload 6, 2, 0, 0) := by decide +kernel
theorem xX11_goesOn_136 : dcd mX11_goesOn 136 = some (.iload 4, 2, 0, 0) := by decide +kernel
theorem xX11_goesOn_138 : dcd mX11_goesOn 138 = some (.iastore, 1, 0, 0) := by decide +kernel
theorem xX11_goesOn_139 : dcd mX11_goesOn 139 = some (.iinc 5 0, 3, 0, 1) := by decide +kernel
theorem xX11_goesOn_142 : dcd mX11_goesOn 142 = some (.iinc 6 0, 3, 0, (-1)) := by decide +kernel
theorem xX11_goesOn_145 : dcd mX11_goesOn 145 = some (.goto 0, 3, 100, 0) := by decide +kernel
theorem xX11_goesOn_148 : dcd mX11_goesOn 148 = some (.iconst 0, 1, 0, 1) := by decide +kernel
theorem xX11_goesOn_149 : dcd mX11_goesOn 149 = some (.ireturn, 1, 0, 0) := by decide +kernel
theorem xX11_level_0 : dcd mX11_level 0 = some (.iload 1, 1, 0, 0) := by decide +kernel
theorem xX11_level_1 : dcd mX11_level 1 = some (.i2l, 1, 0, 0) := by decide +kernel
theorem xX11_level_2 : dcd mX11_level 2 = some (.lconst 1, 1, 0, 0) := by decide +kernel
theorem xX11_level_3 : dcd mX11_level 3 = some (.ldc2_w 417, 3, 0, 0) := by decide +kernel
theorem xX11_level_6 : dcd mX11_level 6 = some (.invokestatic 203, 3, 0, 0) := by decide +kernel
theorem xX11_level_9 : dcd mX11_level 9 = some (.ifCond .eq 0, 3, 46, 0) := by decide +kernel
theorem xX11_level_12 : dcd mX11_level 12 = some (.iload 2, 1, 0, 0) := by decide +kernel
theorem xX11_level_13 : dcd mX11_level 13 = some (.iconst 0, 1, 0, (-1)) := by decide +kernel
theorem xX11_level_14 : dcd mX11_level 14 = some (.if_icmp .eq 0, 3, 36, 0) := by decide +kernel
theorem xX11_level_17 : dcd mX11_level 17 = some (.iload 2, 1, 0, 0) := by decide +kernel
theorem xX11_level_18 : dcd mX11_level 18 = some (.iconst 0, 2, 0, 6) := by decide +kernel
theorem xX11_level_20 : dcd mX11_level 20 = some (.if_icmp .eq 0, 3, 36, 0) := by decide +kernel
theorem xX11_level_23 : dcd mX11_level 23 = some (.iload 2, 1, 0, 0) := by decide +kernel
theorem xX11_level_24 : dcd mX11_level 24 = some (.i2l, 1, 0, 0) := by decide +kernel
theorem xX11_level_25 : dcd mX11_level 25 = some (.lconst 0, 1, 0, 0) := by decide +kernel
theorem xX11_level_26 : dcd mX11_level 26 = some (.iload 1, 1, 0, 0) := by decide +kernel
theorem xX11_level_27 : dcd mX11_level 27 = some (.iconst 0, 1, 0, 1) := by decide +kernel
theorem xX11_level_28 : dcd mX11_level 28 = some (.isub, 1, 0, 0) := by decide +kernel
theorem xX11_level_29 : dcd mX11_level 29 = some (.i2l, 1, 0, 0) := by decide +kernel
theorem xX11_level_30 : dcd mX11_level 30 = some (.invokestatic 203, 3, 0, 0) := by decide +kernel
theorem xX11_level_33 : dcd mX11_level 33 = some (.ifCond .eq 0, 3, 46, 0) := by decide +kernel
theorem xX11_level_36 : dcd mX11_level 36 = some (.iconst 0, 1, 0, 3) := by decide +kernel
theorem xX11_level_37 : dcd mX11_level 37 = some (.iload 1, 1, 0, 0) := by decide +kernel
theorem xX11_level_38 : dcd mX11_level 38 = some (.imul, 1, 0, 0) := by decide +kernel
theorem xX11_level_39 : dcd mX11_level 39 = some (.aload 0, 1, 0, 0) := by decide +kernel
theorem xX11_level_40 : dcd mX11_level 40 = some (.getfield 237, 3, 0, 0) := by decide +kernel
theorem xX11_level_43 : dcd mX11_level 43 = some (.if_icmp .le 0, 3, 49, 0) := by decide +kernel
theorem xX11_level_46 : dcd mX11_level 46 = some (.iconst 0, 2, 0, (-3)) := by decide +kernel
theorem xX11_level_48 : dcd mX11_level 48 = some (.ireturn, 1, 0, 0) := by decide +kernel
theorem xX11_level_49 : dcd mX11_level 49 = some (.aload 0, 1, 0, 0) := by decide +kernel
theorem xX11_level_50 : dcd mX11_level 50 = some (.iconst 0, 1, 0, 0) := by decide +kernel
theorem xX11_level_51 : dcd mX11_level 51 = some (.putfield 237, 3, 0, 0) := by decide +kernel
theorem xX11_level_54 : dcd mX11_level 54 = some (.aload 0, 1, 0, 0) := by decide +kernel
theorem xX11_level_55 : dcd mX11_level 55 = some (.iload 1, 1, 0, 0) := by decide +kernel
theorem xX11_level_56 : dcd mX11_level 56 = some (.invokevirtual 419, 3, 0, 0) := by decide +kernel
theorem xX11_level_59 : dcd mX11_level 59 = some (.ifCond .ne 0, 3, 65, 0) := by decide +kernel
theorem xX11_level_62 : dcd mX11_level 62 = some (.iconst 0, 2, 0, (-2)) := by decide +kernel
theorem xX11_level_64 : dcd mX11_level 64 = some (.ireturn, 1, 0, 0) := by decide +kernel
theorem xX11_level_65 : dcd mX11_level 65 = some (.iconst 0, 1, 0, 0) := by decide +kernel
theorem xX11_level_66 : dcd mX11_level 66 = some (.istore 3, 1, 0, 0) := by decide +kernel
theorem xX11_level_67 : dcd mX11_level 67 = some (.iload 3, 1, 0, 0) := by decide +kernel
theorem xX11_level_68 : dcd mX11_level 68 = some (.iload 1, 1, 0, 0) := by decide +kernel
theorem xX11_level_69 : dcd mX11_level 69 = some (.if_icmp .ge 0, 3, 119, 0) := by decide +kernel
theorem xX11_level_72 : dcd mX11_level 72 = some (.aload 0, 1, 0, 0) := by decide +kernel
theorem xX11_level_73 : dcd mX11_level 73 = some (.getfield 130, 3, 0, 0) := by decide +kernel
theorem xX11_level_76 : dcd mX11_level 76 = some (.iload 3, 1, 0, 0) := by decide +kernel
theorem xX11_level_77 : dcd mX11_level 77 = some (.aload 0, 1, 0, 0) := by decide +kernel
theorem xX11_level_78 : dcd mX11_level 78 = some (.getfield 37, 3, 0, 0) := by decide +kernel
theorem xX11_level_81 : dcd mX11_level 81 = some (.aload 0, 1, 0, 0) := by decide +kernel
theorem xX11_level_82 : dcd mX11_level 82 = some (.getfield 115, 3, 0, 0) := by decide +kernel
theorem xX11_level_85 : dcd mX11_level 85 = some (.iload 3, 1, 0, 0) := by decide +kernel
theorem xX11_level_86 : dcd mX11_level 86 = some (.iaload, 1, 0, 0) := by decide +kernel
theorem xX11_level_87 : dcd mX11_level 87 = some (.iaload, 1, 0, 0) := by decide +kernel
theorem xX11_level_88 : dcd mX11_level 88 = some (.iastore, 1, 0, 0) := by decide +kernel
theorem xX11_level_89 : dcd mX11_level 89 = some (.aload 0, 1, 0, 0) := by decide +kernel
theorem xX11_level_90 : dcd mX11_level 90 = some (.getfield 133, 3, 0, 0) := by decide +kernel
theorem xX11_level_93 : dcd mX11_level 93 = some (.iload 3, 1, 0, 0) := by decide +kernel
theorem xX11_level_94 : dcd mX11_level 94 = some (.aload 0, 1, 0, 0) := by decide +kernel
theorem xX11_level_95 : dcd mX11_level 95 = some (.getfield 40, 3, 0, 0) := by decide +kernel
theorem xX11_level_98 : dcd mX11_level 98 = some (.aload 0, 1, 0, 0) := by decide +kernel
theorem xX11_level_99 : dcd mX11_level 99 = some (.getfield 115, 3, 0, 0) := by decide +kernel
theorem xX11_level_102 : dcd mX11_level 102 = some (.iload 3, 1, 0, 0) := by decide +kernel
theorem xX11_level_103 : dcd mX11_level 103 = some (.iaload, 1, 0, 0) := by decide +kernel
theorem xX11_level_104 : dcd mX11_level 104 = some (.iaload, 1, 0, 0) := by decide +kernel
theorem xX11_level_105 : dcd mX11_level 105 = some (.iastore, 1, 0, 0) := by decide +kernel
theorem xX11_level_106 : dcd mX11_level 106 = some (.aload 0, 1, 0, 0) := by decide +kernel
theorem xX11_level_107 : dcd mX11_level 107 = some (.getfield 124, 3, 0, 0) := by decide +kernel
theorem xX11_level_110 : dcd mX11_level 110 = some (.iload 3, 1, 0, 0) := by decide +kernel
theorem xX11_level_111 : dcd mX11_level 111 = some (.iload 3, 1, 0, 0) := by decide +kernel
theorem xX11_level_112 : dcd mX11_level 112 = some (.iastore, 1, 0, 0) := by decide +kernel
theorem xX11_level_113 : dcd mX11_level 113 = some (.iinc 3 0, 3, 0, 1) := by decide +kernel
theorem xX11_level_116 : dcd mX11_level 116 = some (.goto 0, 3, 67, 0) := by decide +kernel
theorem xX11_level_119 : dcd mX11_level 119 = some (.ldc 422, 3, 0, 0) := by decide +kernel
theorem xX11_level_122 : dcd mX11_level 122 = some (.istore 3, 1, 0, 0) := by decide +kernel
theorem xX11_level_123 : dcd mX11_level 123 = some (.iconst 0, 1, 0, 1) := by decide +kernel
theorem xX11_level_124 : dcd mX11_level 124 = some (.istore 4, 2, 0, 0) := by decide +kernel
theorem xX11_level_126 : dcd mX11_level 126 = some (.iload 4, 2, 0, 0) := by decide +kernel
theorem xX11_level_128 : dcd mX11_level 128 = some (.ifCond .eq 0, 3, 213, 0) := by decide +kernel
theorem xX11_level_131 : dcd mX11_level 131 = some (.iconst 0, 1, 0, 0) := by decide +kernel
theorem xX11_level_132 : dcd mX11_level 132 = some (.istore 5, 2, 0, 0) := by decide +kernel
theorem xX11_level_134 : dcd mX11_level 134 = some (.iload 5, 2, 0, 0) := by decide +kernel
theorem xX11_level_136 : dcd mX11_level 136 = some (.iload 1, 1, 0, 0) := by decide +kernel
theorem xX11_level_137 : dcd mX11_level 137 = some (.if_icmp .ge 0, 3, 159, 0) := by decide +kernel
theorem xX11_level_140 : dcd mX11_level 140 = some (.aload 0, 1, 0, 0) := by decide +kernel
theorem xX11_level_141 : dcd mX11_level 141 = some (.iload 5, 2, 0, 0) := by decide +kernel
theorem xX11_level_143 : dcd mX11_level 143 = some (.aload 0, 1, 0, 0) := by decide +kernel
theorem xX11_level_144 : dcd mX11_level 144 = some (.getfield 124, 3, 0, 0) := by decide +kernel
theorem xX11_level_147 : dcd mX11_level 147 = some (.iload 5, 2, 0, 0) := by decide +kernel
theorem xX11_level_149 : dcd mX11_level 149 = some (.iaload, 1, 0, 0) := by decide +kernel
theorem xX11_level_150 : dcd mX11_level 150 = some (.invokevirtual 423, 3, 0, 0) := by decide +kernel
theorem xX11_level_153 : dcd mX11_level 153 = some (.iinc 5 0, 3, 0, 1) := by decide +kernel
theorem xX11_level_156 : dcd mX11_level 156 = some (.goto 0, 3, 134, 0) := by decide +kernel
theorem xX11_level_159 : dcd mX11_level 159 = some (.aload 0, 1, 0, 0) := by decide +kernel
theorem xX11_level_160 : dcd mX11_level 160 = some (.invokevirtual 426, 3, 0, 0) := by decide +kernel
theorem xX11_level_163 : dcd mX11_level 163 = some (.istore 5, 2, 0, 0) := by decide +kernel
theorem xX11_level_165 : dcd mX11_level 165 = some (.iload 5, 2, 0, 0) := by decide +kernel
theorem xX11_level_167 : dcd mX11_level 167 = some (.iload 3, 1, 0, 0) := by decide +kernel
theorem xX11_level_168 : dcd mX11_level 168 = some (.if_icmp .ge 0, 3, 203, 0) := by decide +kernel
theorem xX11_level_171 : dcd mX11_level 171 = some (.iload 5, 2, 0, 0) := by decide +kernel
theorem xX11_level_173 : dcd mX11_level 173 = some (.istore 3, 1, 0, 0) := by decide +kernel
theorem xX11_level_174 : dcd mX11_level 174 = some (.iconst 0, 1, 0, 0) := by decide +kernel
theorem xX11_level_175 : dcd mX11_level 175 = some (.istore 6, 2, 0, 0) := by decide +kernel
theorem xX11_level_177 : dcd mX11_level 177 = some (.iload 6, 2, 0, 0) := by decide +kernel
theorem xX11_level_179 : dcd mX11_level 179 = some (.iload 1, 1, 0, 0) := by decide +kernel
theorem xX11_level_180 : dcd mX11_level 180 = some (.if_icmp .ge 0, 3, 203, 0) := by decide +kernel
theorem xX11_level_183 : dcd mX11_level 183 = some (.aload 0, 1, 0, 0) := by decide +kernel
theorem xX11_level_184 : dcd mX11_level 184 = some (.getfield 127, 3, 0, 0) := by decide +kernel
theorem xX11_level_187 : dcd mX11_level 187 = some (.iload 6, 2, 0, 0) := by decide +kernel
theorem xX11_level_189 : dcd mX11_level 189 = some (.aload 0, 1, 0, 0) := by decide +kernel
theorem xX11_level_190 : dcd mX11_level 190 = some (.getfield 124, 3, 0, 0) := by decide +kernel
theorem xX11_level_193 : dcd mX11_level 193 = some (.iload 6, 2, 0, 0) := by decide +kernel
theorem xX11_level_195 : dcd mX11_level 195 = some (.iaload, 1, 0, 0) := by decide +kernel
theorem xX11_level_196 : dcd mX11_level 196 = some (.iastore, 1, 0, 0) := by decide +kernel
theorem xX11_level_197 : dcd mX11_level 197 = some (.iinc 6 0, 3, 0, 1) := by decide +kernel
theorem xX11_level_200 : dcd mX11_level 200 = some (.goto 0, 3, 177, 0) := by decide +kernel
theorem xX11_level_203 : dcd mX11_level 203 = some (.aload 0, 1, 0, 0) := by decide +kernel
theorem xX11_level_204 : dcd mX11_level 204 = some (.iload 1, 1, 0, 0) := by decide +kernel
theorem xX11_level_205 : dcd mX11_level 205 = some (.invokevirtual 429, 3, 0, 0) := by decide +kernel
theorem xX11_level_208 : dcd mX11_level 208 = some (.istore 4, 2, 0, 0) := by decide +kernel
theorem xX11_level_210 : dcd mX11_level 210 = some (.goto 0, 3, 126, 0) := by decide +kernel
theorem xX11_level_213 : dcd mX11_level 213 = some (.iconst 0, 1, 0, 0) := by decide +kernel
theorem xX11_level_214 : dcd mX11_level 214 = some (.istore 5, 2, 0, 0) := by decide +kernel
theorem xX11_level_216 : dcd mX11_level 216 = some (.iload 5, 2, 0, 0) := by decide +kernel
theorem xX11_level_218 : dcd mX11_level 218 = some (.iload 1, 1, 0, 0) := by decide +kernel
theorem xX11_level_219 : dcd mX11_level 219 = some (.if_icmp .ge 0, 3, 327, 0) := by decide +kernel
theorem xX11_level_222 : dcd mX11_level 222 = some (.iload 2, 1, 0, 0) := by decide +kernel
theorem xX11_level_223 : dcd mX11_level 223 = some (.iconst 0, 2, 0, 6) := by decide +kernel
theorem xX11_level_225 : dcd mX11_level 225 = some (.if_icmp .ne 0, 3, 241, 0) := by decide +kernel
theorem xX11_level_228 : dcd mX11_level 228 = some (.aload 0, 1, 0, 0) := by decide +kernel
theorem xX11_level_229 : dcd mX11_level 229 = some (.iload 5, 2, 0, 0) := by decide +kernel
theorem xX11_level_231 : dcd mX11_level 231 = some (.aload 0, 1, 0, 0) := by decide +kernel
theorem xX11_level_232 : dcd mX11_level 232 = some (.getfield 127, 3, 0, 0) := by decide +kernel
theorem xX11_level_235 : dcd mX11_level 235 = some (.iload 5, 2, 0, 0) := by decide +kernel
theorem xX11_level_237 : dcd mX11_level 237 = some (.iaload, 1, 0, 0) := by decide +kernel
theorem xX11_level_238 : dcd mX11_level 238 = some (.invokevirtual 423, 3, 0, 0) := by decide +kernel
theorem xX11_level_241 : dcd mX11_level 241 = some (.aload 0, 1, 0, 0) := by decide +kernel
theorem xX11_level_242 : dcd mX11_level 242 = some (.getfield 37, 3, 0, 0) := by decide +kernel
theorem xX11_level_245 : dcd mX11_level 245 = some (.aload 0, 1, 0, 0) := by decide +kernel
theorem xX11_level_246 : dcd mX11_level 246 = some (.getfield 115, 3, 0, 0) := by decide +kernel
theorem xX11_level_249 : dcd mX11_level 249 = some (.iload 5, 2, 0, 0) := by decide +kernel
theorem xX11_level_251 : dcd mX11_level 251 = some (.iaload, 1, 0, 0) := by decide +kernel
theorem xX11_level_252 : dcd mX11_level 252 = some (.iload 2, 1, 0, 0) := by decide +kernel
theorem xX11_level_253 : dcd mX11_level 253 = some (.iconst 0, 2, 0, 6) := by decide +kernel
theorem xX11_level_255 : dcd mX11_level 255 = some (.if_icmp .ne 0, 3, 273, 0) := by decide +kernel
theorem xX11_level_258 : dcd mX11_level 258 = some (.aload 0, 1, 0, 0) := by decide +kernel
theorem xX11_level_259 : dcd mX11_level 259 = some (.getfield 37, 3, 0, 0) := by decide +kernel
theorem xX11_level_262 : dcd mX11_level 262 = some (.aload 0, 1, 0, 0) := by decide +kernel
theorem xX11_level_263 : dcd mX11_level 263 = some (.getfield 115, 3, 0, 0) := by decide +kernel
theorem xX11_level_266 : dcd mX11_level 266 = some (.iload 5, 2, 0, 0) := by decide +kernel
theorem xX11_level_268 : dcd mX11_level 268 = some (.iaload, 1, 0, 0) := by decide +kernel
theorem xX11_level_269 : dcd mX11_level 269 = some (.iaload, 1, 0, 0) := by decide +kernel
theorem xX11_level_270 : dcd mX11_level 270 = some (.goto 0, 3, 280, 0) := by decide +kernel
theorem xX11_level_273 : dcd mX11_level 273 = some (.aload 0, 1, 0, 0) := by decide +kernel
theorem xX11_level_274 : dcd mX11_level 274 = some (.getfield 130, 3, 0, 0) := by decide +kernel
theorem xX11_level_277 : dcd mX11_level 277 = some (.iload 5, 2, 0, 0) := by decide +kernel
theorem xX11_level_279 : dcd mX11_level 279 = some (.iaload, 1, 0, 0) := by decide +kernel
theorem xX11_level_280 : dcd mX11_level 280 = some (.iastore, 1, 0, 0) := by decide +kernel
theorem xX11_level_281 : dcd mX11_level 281 = some (.aload 0, 1, 0, 0) := by decide +kernel
theorem xX11_level_282 : dcd mX11_level 282 = some (.getfield 40, 3, 0, 0) := by decide +kernel
theorem xX11_level_285 : dcd mX11_level 285 = some (.aload 0, 1, 0, 0) := by decide +kernel
theorem xX11_level_286 : dcd mX11_level 286 = some (.getfield 115, 3, 0, 0) := by decide +kernel
theorem xX11_level_289 : dcd mX11_level 289 = some (.iload 5, 2, 0, 0) := by decide +kernel
theorem xX11_level_291 : dcd mX11_level 291 = some (.iaload, 1, 0, 0) := by decide +kernel
theorem xX11_level_292 : dcd mX11_level 292 = some (.iload 2, 1, 0, 0) := by decide +kernel
theorem xX11_level_293 : dcd mX11_level 293 = some (.iconst 0, 2, 0, 6) := by decide +kernel
theorem xX11_level_295 : dcd mX11_level 295 = some (.if_icmp .ne 0, 3, 313, 0) := by decide +kernel
theorem xX11_level_298 : dcd mX11_level 298 = some (.aload 0, 1, 0, 0) := by decide +kernel
theorem xX11_level_299 : dcd mX11_level 299 = some (.getfield 40, 3, 0, 0) := by decide +kernel
theorem xX11_level_302 : dcd mX11_level 302 = some (.aload 0, 1, 0, 0) := by decide +kernel
theorem xX11_level_303 : dcd mX11_level 303 = some (.getfield 115, 3, 0, 0) := by decide +kernel
theorem xX11_level_306 : dcd mX11_level 306 = some (.iload 5, 2, 0, 0) := by decide +kernel
theorem xX11_level_308 : dcd mX11_level 308 = some (.iaload, 1, 0, 0) := by decide +kernel
theorem xX11_level_309 : dcd mX11_level 309 = some (.iaload, 1, 0, 0) := by decide +kernel
theorem xX11_level_310 : dcd mX11_level 310 = some (.goto 0, 3, 320, 0) := by decide +kernel
theorem xX11_level_313 : dcd mX11_level 313 = some (.aload 0, 1, 0, 0) := by decide +kernel
theorem xX11_level_314 : dcd mX11_level 314 = some (.getfield 133, 3, 0, 0) := by decide +kernel
theorem xX11_level_317 : dcd mX11_level 317 = some (.iload 5, 2, 0, 0) := by decide +kernel
theorem xX11_level_319 : dcd mX11_level 319 = some (.iaload, 1, 0, 0) := by decide +kernel
theorem xX11_level_320 : dcd mX11_level 320 = some (.iastore, 1, 0, 0) := by decide +kernel
theorem xX11_level_321 : dcd mX11_level 321 = some (.iinc 5 0, 3, 0, 1) := by decide +kernel
theorem xX11_level_324 : dcd mX11_level 324 = some (.goto 0, 3, 216, 0) := by decide +kernel
theorem xX11_level_327 : dcd mX11_level 327 = some (.iload 2, 1, 0, 0) := by decide +kernel
theorem xX11_level_328 : dcd mX11_level 328 = some (.iconst 0, 1, 0, (-1)) := by decide +kernel
theorem xX11_level_329 : dcd mX11_level 329 = some (.if_icmp .eq 0, 3, 338, 0) := by decide +kernel
theorem xX11_level_332 : dcd mX11_level 332 = some (.iload 2, 1, 0, 0) := by decide +kernel
theorem xX11_level_333 : dcd mX11_level 333 = some (.iconst 0, 2, 0, 6) := by decide +kernel
theorem xX11_level_335 : dcd mX11_level 335 = some (.if_icmp .ne 0, 3, 342, 0) := by decide +kernel
theorem xX11_level_338 : dcd mX11_level 338 = some (.iload 3, 1, 0, 0) := by decide +kernel
theorem xX11_level_339 : dcd mX11_level 339 = some (.goto 0, 3, 348, 0) := by decide +kernel
theorem xX11_level_342 : dcd mX11_level 342 = some (.aload 0, 1, 0, 0) := by decide +kernel
theorem xX11_level_343 : dcd mX11_level 343 = some (.getfield 127, 3, 0, 0) := by decide +kernel
theorem xX11_level_346 : dcd mX11_level 346 = some (.iload 2, 1, 0, 0) := by decide +kernel
theorem xX11_level_347 : dcd mX11_level 347 = some (.iaload, 1, 0, 0) := by decide +kernel
theorem xX11_level_348 : dcd mX11_level 348 = some (.ireturn, 1, 0, 0) := by decide +kernel
theorem xX11_seenMany_0 : dcd mX11_seenMany 0 = some (.iconst 0, 1, 0, 0) := by decide +kernel
theorem xX11_seenMany_1 : dcd mX11_seenMany 1 = some (.istore 1, 1, 0, 0) := by decide +kernel
theorem xX11_seenMany_2 : dcd mX11_seenMany 2 = some (.iconst 0, 1, 0, 0) := by decide +kernel
theorem xX11_seenMany_3 : dcd mX11_seenMany 3 = some (.istore 2, 1, 0, 0) := by decide +kernel
theorem xX11_seenMany_4 : dcd mX11_seenMany 4 = some (.iload 2, 1, 0, 0) := by decide +kernel
theorem xX11_seenMany_5 : dcd mX11_seenMany 5 = some (.aload 0, 1, 0, 0) := by decide +kernel
theorem xX11_seenMany_6 : dcd mX11_seenMany 6 = some (.getfield 13, 3, 0, 0) := by decide +kernel
theorem xX11_seenMany_9 : dcd mX11_seenMany 9 = some (.if_icmp .ge 0, 3, 35, 0) := by decide +kernel
theorem xX11_seenMany_12 : dcd mX11_seenMany 12 = some (.iload 1, 1, 0, 0) := by decide +kernel
theorem xX11_seenMany_13 : dcd mX11_seenMany 13 = some (.aload 0, 1, 0, 0) := by decide +kernel
theorem xX11_seenMany_14 : dcd mX11_seenMany 14 = some (.getfield 30, 3, 0, 0) := by decide +kernel
theorem xX11_seenMany_17 : dcd mX11_seenMany 17 = some (.iload 2, 1, 0, 0) := by decide +kernel
theorem xX11_seenMany_18 : dcd mX11_seenMany 18 = some (.baload, 1, 0, 0) := by decide +kernel
theorem xX11_seenMany_19 : dcd mX11_seenMany 19 = some (.ifCond .eq 0, 3, 26, 0) := by decide +kernel
theorem xX11_seenMany_22 : dcd mX11_seenMany 22 = some (.iconst 0, 1, 0, 1) := by decide +kernel
theorem xX11_seenMany_23 : dcd mX11_seenMany 23 = some (.goto 0, 3, 27, 0) := by decide +kernel
theorem xX11_seenMany_26 : dcd mX11_seenMany 26 = some (.iconst 0, 1, 0, 0) := by decide +kernel
theorem xX11_seenMany_27 : dcd mX11_seenMany 27 = some (.iadd, 1, 0, 0) := by decide +kernel
theorem xX11_seenMany_28 : dcd mX11_seenMany 28 = some (.istore 1, 1, 0, 0) := by decide +kernel
theorem xX11_seenMany_29 : dcd mX11_seenMany 29 = some (.iinc 2 0, 3, 0, 1) := by decide +kernel
theorem xX11_seenMany_32 : dcd mX11_seenMany 32 = some (.goto 0, 3, 4, 0) := by decide +kernel
theorem xX11_seenMany_35 : dcd mX11_seenMany 35 = some (.iload 1, 1, 0, 0) := by decide +kernel
theorem xX11_seenMany_36 : dcd mX11_seenMany 36 = some (.ireturn, 1, 0, 0) := by decide +kernel
theorem xX11_toldPicture_0 : dcd mX11_toldPicture 0 = some (.lconst 0, 1, 0, 0) := by decide +kernel
theorem xX11_toldPicture_1 : dcd mX11_toldPicture 1 = some (.lstore 2, 1, 0, 0) := by decide +kernel
theorem xX11_toldPicture_2 : dcd mX11_toldPicture 2 = some (.iconst 0, 1, 0, 0) := by decide +kernel
theorem xX11_toldPicture_3 : dcd mX11_toldPicture 3 = some (.istore 4, 2, 0, 0) := by decide +kernel
theorem xX11_toldPicture_5 : dcd mX11_toldPicture 5 = some (.iload 4, 2, 0, 0) := by decide +kernel
theorem xX11_toldPicture_7 : dcd mX11_toldPicture 7 = some (.iload 1, 1, 0, 0) := by decide +kernel
theorem xX11_toldPicture_8 : dcd mX11_toldPicture 8 = some (.if_icmp .ge 0, 3, 46, 0) := by decide +kernel
theorem xX11_toldPicture_11 : dcd mX11_toldPicture 11 = some (.aload 0, 1, 0, 0) := by decide +kernel
theorem xX11_toldPicture_12 : dcd mX11_toldPicture 12 = some (.iload 4, 2, 0, 0) := by decide +kernel
theorem xX11_toldPicture_14 : dcd mX11_toldPicture 14 = some (.invokevirtual 411, 3, 0, 0) := by decide +kernel
theorem xX11_toldPicture_17 : dcd mX11_toldPicture 17 = some (.iconst 0, 2, 0, 18) := by decide +kernel
theorem xX11_toldPicture_19 : dcd mX11_toldPicture 19 = some (.if_icmp .le 0, 3, 26, 0) := by decide +kernel
theorem xX11_toldPicture_22 : dcd mX11_toldPicture 22 = some (.ldc2_w 400, 3, 0, 0) := by decide +kernel
theorem xX11_toldPicture_25 : dcd mX11_toldPicture 25 = some (.lreturn, 1, 0, 0) := by decide +kernel
theorem xX11_toldPicture_26 : dcd mX11_toldPicture 26 = some (.ldc2_w 384, 3, 0, 0) := by decide +kernel
theorem xX11_toldPicture_29 : dcd mX11_toldPicture 29 = some (.lload 2, 1, 0, 0) := by decide +kernel
theorem xX11_toldPicture_30 : dcd mX11_toldPicture 30 = some (.lmul, 1, 0, 0) := by decide +kernel
theorem xX11_toldPicture_31 : dcd mX11_toldPicture 31 = some (.aload 0, 1, 0, 0) := by decide +kernel
theorem xX11_toldPicture_32 : dcd mX11_toldPicture 32 = some (.iload 4, 2, 0, 0) := by decide +kernel
theorem xX11_toldPicture_34 : dcd mX11_toldPicture 34 = some (.invokevirtual 411, 3, 0, 0) := by decide +kernel
theorem xX11_toldPicture_37 : dcd mX11_toldPicture 37 = some (.i2l, 1, 0, 0) := by decide +kernel
theorem xX11_toldPicture_38 : dcd mX11_toldPicture 38 = some (.ladd, 1, 0, 0) := by decide +kernel
theorem xX11_toldPicture_39 : dcd mX11_toldPicture 39 = some (.lstore 2, 1, 0, 0) := by decide +kernel
theorem xX11_toldPicture_40 : dcd mX11_toldPicture 40 = some (.iinc 4 0, 3, 0, 1) := by decide +kernel
theorem xX11_toldPicture_43 : dcd mX11_toldPicture 43 = some (.goto 0, 3, 5, 0) := by decide +kernel
theorem xX11_toldPicture_46 : dcd mX11_toldPicture 46 = some (.lload 2, 1, 0, 0) := by decide +kernel
theorem xX11_toldPicture_47 : dcd mX11_toldPicture 47 = some (.lreturn, 1, 0, 0) := by decide +kernel
theorem xX11_canBe_0 : dcd mX11_canBe 0 = some (.aload 0, 1, 0, 0) := by decide +kernel
theorem xX11_canBe_1 : dcd mX11_canBe 1 = some (.getfield 43, 3, 0, 0) := by decide +kernel
theorem xX11_canBe_4 : dcd mX11_canBe 4 = some (.iload 1, 1, 0, 0) := by decide +kernel
theorem xX11_canBe_5 : dcd mX11_canBe 5 = some (.iaload, 1, 0, 0) := by decide +kernel
theorem xX11_canBe_6 : dcd mX11_canBe 6 = some (.istore 5, 2, 0, 0) := by decide +kernel
theorem xX11_canBe_8 : dcd mX11_canBe 8 = some (.aload 0, 1, 0, 0) := by decide +kernel
theorem xX11_canBe_9 : dcd mX11_canBe 9 = some (.getfield 43, 3, 0, 0) := by decide +kernel
theorem xX11_canBe_12 : dcd mX11_canBe 12 = some (.iload 1, 1, 0, 0) := by decide +kernel
theorem xX11_canBe_13 : dcd mX11_canBe 13 = some (.iload 2, 1, 0, 0) := by decide +kernel
theorem xX11_canBe_14 : dcd mX11_canBe 14 = some (.iastore, 1, 0, 0) := by decide +kernel
theorem xX11_canBe_15 : dcd mX11_canBe 15 = some (.aload 0, 1, 0, 0) := by decide +kernel
theorem xX11_canBe_16 : dcd mX11_canBe 16 = some (.invokevirtual 432, 3, 0, 0) := by decide +kernel
theorem xX11_canBe_19 : dcd mX11_canBe 19 = some (.lload 3, 1, 0, 0) := by decide +kernel
theorem xX11_canBe_20 : dcd mX11_canBe 20 = some (.lcmp, 1, 0, 0) := by decide +kernel
theorem xX11_canBe_21 : dcd mX11_canBe 21 = some (.ifCond .ne 0, 3, 28, 0) := by decide +kernel
theorem xX11_canBe_24 : dcd mX11_canBe 24 = some (.iconst 0, 1, 0, 1) := by decide +kernel
theorem xX11_canBe_25 : dcd mX11_canBe 25 = some (.goto 0, 3, 29, 0) := by decide +kernel
theorem xX11_canBe_28 : dcd mX11_canBe 28 = some (.iconst 0, 1, 0, 0) := by decide +kernel
theorem xX11_canBe_29 : dcd mX11_canBe 29 = some (.istore 6, 2, 0, 0) := by decide +kernel
theorem xX11_canBe_31 : dcd mX11_canBe 31 = some (.aload 0, 1, 0, 0) := by decide +kernel
theorem xX11_canBe_32 : dcd mX11_canBe 32 = some (.getfield 43, 3, 0, 0) := by decide +kernel
theorem xX11_canBe_35 : dcd mX11_canBe 35 = some (.iload 1, 1, 0, 0) := by decide +kernel
theorem xX11_canBe_36 : dcd mX11_canBe 36 = some (.iload 5, 2, 0, 0) := by decide +kernel
theorem xX11_canBe_38 : dcd mX11_canBe 38 = some (.iastore, 1, 0, 0) := by decide +kernel
theorem xX11_canBe_39 : dcd mX11_canBe 39 = some (.iload 6, 2, 0, 0) := by decide +kernel
theorem xX11_canBe_41 : dcd mX11_canBe 41 = some (.ifCond .eq 0, 3, 54, 0) := by decide +kernel
theorem xX11_canBe_44 : dcd mX11_canBe 44 = some (.iload 2, 1, 0, 0) := by decide +kernel
theorem xX11_canBe_45 : dcd mX11_canBe 45 = some (.iload 5, 2, 0, 0) := by decide +kernel
theorem xX11_canBe_47 : dcd mX11_canBe 47 = some (.if_icmp .eq 0, 3, 54, 0) := by decide +kernel
theorem xX11_canBe_50 : dcd mX11_canBe 50 = some (.iconst 0, 1, 0, 1) := by decide +kernel
theorem xX11_canBe_51 : dcd mX11_canBe 51 = some (.goto 0, 3, 55, 0) := by decide +kernel
theorem xX11_canBe_54 : dcd mX11_canBe 54 = some (.iconst 0, 1, 0, 0) := by decide +kernel
theorem xX11_canBe_55 : dcd mX11_canBe 55 = some (.ireturn, 1, 0, 0) := by decide +kernel
theorem xX11_lengthsOf_0 : dcd mX11_lengthsOf 0 = some (.iconst 0, 1, 0, 0) := by decide +kernel
theorem xX11_lengthsOf_1 : dcd mX11_lengthsOf 1 = some (.istore 4, 2, 0, 0) := by decide +kernel
theorem xX11_lengthsOf_3 : dcd mX11_lengthsOf 3 = some (.iconst 0, 1, 0, 1) := by decide +kernel
theorem xX11_lengthsOf_4 : dcd mX11_lengthsOf 4 = some (.istore 5, 2, 0, 0) := by decide +kernel
theorem xX11_lengthsOf_6 : dcd mX11_lengthsOf 6 = some (.iload 5, 2, 0, 0) := by decide +kernel
theorem xX11_lengthsOf_8 : dcd mX11_lengthsOf 8 = some (.iconst 0, 2, 0, 99) := by decide +kernel
theorem xX11_lengthsOf_10 : dcd mX11_lengthsOf 10 = some (.if_icmp .gt 0, 3, 49, 0) := by decide +kernel
theorem xX11_lengthsOf_13 : dcd mX11_lengthsOf 13 = some (.aload 0, 1, 0, 0) := by decide +kernel
theorem xX11_lengthsOf_14 : dcd mX11_lengthsOf 14 = some (.getfield 55, 3, 0, 0) := by decide +kernel
theorem xX11_lengthsOf_17 : dcd mX11_lengthsOf 17 = some (.iload 1, 1, 0, 0) := by decide +kernel
theorem xX11_lengthsOf_18 : dcd mX11_lengthsOf 18 = some (.baload, 1, 0, 0) := by decide +kernel
theorem xX11_lengthsOf_19 : dcd mX11_lengthsOf 19 = some (.ifCond .eq 0, 3, 49, 0) := by decide +kernel
theorem xX11_lengthsOf_22 : dcd mX11_lengthsOf 22 = some (.iload 4, 2, 0, 0) := by decide +kernel
theorem xX11_lengthsOf_24 : dcd mX11_lengthsOf 24 = some (.aload 0, 1, 0, 0) := by decide +kernel
theorem xX11_lengthsOf_25 : dcd mX11_lengthsOf 25 = some (.iload 1, 1, 0, 0) := by decide +kernel
theorem xX11_lengthsOf_26 : dcd mX11_lengthsOf 26 = some (.iload 5, 2, 0, 0) := by decide +kernel
theorem xX11_lengthsOf_28 : dcd mX11_lengthsOf 28 = some (.lload 2, 1, 0, 0) := by decide +kernel
theorem xX11_lengthsOf_29 : dcd mX11_lengthsOf 29 = some (.invokevirtual 436, 3, 0, 0) := by decide +kernel
theorem xX11_lengthsOf_32 : dcd mX11_lengthsOf 32 = some (.ifCond .eq 0, 3, 39, 0) := by decide +kernel
theorem xX11_lengthsOf_35 : dcd mX11_lengthsOf 35 = some (.iconst 0, 1, 0, 1) := by decide +kernel
theorem xX11_lengthsOf_36 : dcd mX11_lengthsOf 36 = some (.goto 0, 3, 40, 0) := by decide +kernel
theorem xX11_lengthsOf_39 : dcd mX11_lengthsOf 39 = some (.iconst 0, 1, 0, 0) := by decide +kernel
theorem xX11_lengthsOf_40 : dcd mX11_lengthsOf 40 = some (.iadd, 1, 0, 0) := by decide +kernel
theorem xX11_lengthsOf_41 : dcd mX11_lengthsOf 41 = some (.istore 4, 2, 0, 0) := by decide +kernel
theorem xX11_lengthsOf_43 : dcd mX11_lengthsOf 43 = some (.iinc 5 0, 3, 0, 1) := by decide +kernel
theorem xX11_lengthsOf_46 : dcd mX11_lengthsOf 46 = some (.goto 0, 3, 6, 0) := by decide +kernel
theorem xX11_lengthsOf_49 : dcd mX11_lengthsOf 49 = some (.iload 4, 2, 0, 0) := by decide +kernel
theorem xX11_lengthsOf_51 : dcd mX11_lengthsOf 51 = some (.ireturn, 1, 0, 0) := by decide +kernel
