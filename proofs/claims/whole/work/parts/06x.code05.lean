theorem xX11_wet_0 : dcd mX11_wet 0 = some (.aload 0, 1, 0, 0) := by decide +kernel
theorem xX11_wet_1 : dcd mX11_wet 1 = some (.iload 1, 1, 0, 0) := by decide +kernel
theorem xX11_wet_2 : dcd mX11_wet 2 = some (.invokevirtual 216, 3, 0, 0) := by decide +kernel
theorem xX11_wet_5 : dcd mX11_wet 5 = some (.ifCond .eq 0, 3, 18, 0) := by decide +kernel
theorem xX11_wet_8 : dcd mX11_wet 8 = some (.aload 0, 1, 0, 0) := by decide +kernel
theorem xX11_wet_9 : dcd mX11_wet 9 = some (.getfield 34, 3, 0, 0) := by decide +kernel
theorem xX11_wet_12 : dcd mX11_wet 12 = some (.iload 1, 1, 0, 0) := by decide +kernel
theorem xX11_wet_13 : dcd mX11_wet 13 = some (.baload, 1, 0, 0) := by decide +kernel
theorem xX11_wet_14 : dcd mX11_wet 14 = some (.iload 2, 1, 0, 0) := by decide +kernel
theorem xX11_wet_15 : dcd mX11_wet 15 = some (.if_icmp .ne 0, 3, 20, 0) := by decide +kernel
theorem xX11_wet_18 : dcd mX11_wet 18 = some (.iconst 0, 1, 0, 0) := by decide +kernel
theorem xX11_wet_19 : dcd mX11_wet 19 = some (.ireturn, 1, 0, 0) := by decide +kernel
theorem xX11_wet_20 : dcd mX11_wet 20 = some (.aload 0, 1, 0, 0) := by decide +kernel
theorem xX11_wet_21 : dcd mX11_wet 21 = some (.getfield 34, 3, 0, 0) := by decide +kernel
theorem xX11_wet_24 : dcd mX11_wet 24 = some (.iload 1, 1, 0, 0) := by decide +kernel
theorem xX11_wet_25 : dcd mX11_wet 25 = some (.iload 2, 1, 0, 0) := by decide +kernel
theorem xX11_wet_26 : dcd mX11_wet 26 = some (.bastore, 1, 0, 0) := by decide +kernel
theorem xX11_wet_27 : dcd mX11_wet 27 = some (.iconst 0, 1, 0, 1) := by decide +kernel
theorem xX11_wet_28 : dcd mX11_wet 28 = some (.ireturn, 1, 0, 0) := by decide +kernel
theorem xX11_adds_0 : dcd mX11_adds 0 = some (.aload 0, 1, 0, 0) := by decide +kernel
theorem xX11_adds_1 : dcd mX11_adds 1 = some (.iload 1, 1, 0, 0) := by decide +kernel
theorem xX11_adds_2 : dcd mX11_adds 2 = some (.invokevirtual 216, 3, 0, 0) := by decide +kernel
theorem xX11_adds_5 : dcd mX11_adds 5 = some (.ifCond .eq 0, 3, 44, 0) := by decide +kernel
theorem xX11_adds_8 : dcd mX11_adds 8 = some (.iload 2, 1, 0, 0) := by decide +kernel
theorem xX11_adds_9 : dcd mX11_adds 9 = some (.invokestatic 220, 3, 0, 0) := by decide +kernel
theorem xX11_adds_12 : dcd mX11_adds 12 = some (.ifCond .eq 0, 3, 44, 0) := by decide +kernel
theorem xX11_adds_15 : dcd mX11_adds 15 = some (.iload 3, 1, 0, 0) := by decide +kernel
theorem xX11_adds_16 : dcd mX11_adds 16 = some (.i2l, 1, 0, 0) := by decide +kernel
theorem xX11_adds_17 : dcd mX11_adds 17 = some (.lconst 1, 1, 0, 0) := by decide +kernel
theorem xX11_adds_18 : dcd mX11_adds 18 = some (.ldc2_w 225, 3, 0, 0) := by decide +kernel
theorem xX11_adds_21 : dcd mX11_adds 21 = some (.invokestatic 203, 3, 0, 0) := by decide +kernel
theorem xX11_adds_24 : dcd mX11_adds 24 = some (.ifCond .eq 0, 3, 44, 0) := by decide +kernel
theorem xX11_adds_27 : dcd mX11_adds 27 = some (.iload 5, 2, 0, 0) := by decide +kernel
theorem xX11_adds_29 : dcd mX11_adds 29 = some (.invokestatic 227, 3, 0, 0) := by decide +kernel
theorem xX11_adds_32 : dcd mX11_adds 32 = some (.ifCond .eq 0, 3, 44, 0) := by decide +kernel
theorem xX11_adds_35 : dcd mX11_adds 35 = some (.aload 0, 1, 0, 0) := by decide +kernel
theorem xX11_adds_36 : dcd mX11_adds 36 = some (.getfield 213, 3, 0, 0) := by decide +kernel
theorem xX11_adds_39 : dcd mX11_adds 39 = some (.iconst 0, 2, 0, 40) := by decide +kernel
theorem xX11_adds_41 : dcd mX11_adds 41 = some (.if_icmp .ne 0, 3, 46, 0) := by decide +kernel
theorem xX11_adds_44 : dcd mX11_adds 44 = some (.iconst 0, 1, 0, (-1)) := by decide +kernel
theorem xX11_adds_45 : dcd mX11_adds 45 = some (.ireturn, 1, 0, 0) := by decide +kernel
theorem xX11_adds_46 : dcd mX11_adds 46 = some (.aload 0, 1, 0, 0) := by decide +kernel
theorem xX11_adds_47 : dcd mX11_adds 47 = some (.getfield 37, 3, 0, 0) := by decide +kernel
theorem xX11_adds_50 : dcd mX11_adds 50 = some (.aload 0, 1, 0, 0) := by decide +kernel
theorem xX11_adds_51 : dcd mX11_adds 51 = some (.getfield 213, 3, 0, 0) := by decide +kernel
theorem xX11_adds_54 : dcd mX11_adds 54 = some (.iload 1, 1, 0, 0) := by decide +kernel
theorem xX11_adds_55 : dcd mX11_adds 55 = some (.iastore, 1, 0, 0) := by decide +kernel
theorem xX11_adds_56 : dcd mX11_adds 56 = some (.aload 0, 1, 0, 0) := by decide +kernel
theorem xX11_adds_57 : dcd mX11_adds 57 = some (.getfield 40, 3, 0, 0) := by decide +kernel
theorem xX11_adds_60 : dcd mX11_adds 60 = some (.aload 0, 1, 0, 0) := by decide +kernel
theorem xX11_adds_61 : dcd mX11_adds 61 = some (.getfield 213, 3, 0, 0) := by decide +kernel
theorem xX11_adds_64 : dcd mX11_adds 64 = some (.iload 2, 1, 0, 0) := by decide +kernel
theorem xX11_adds_65 : dcd mX11_adds 65 = some (.iastore, 1, 0, 0) := by decide +kernel
theorem xX11_adds_66 : dcd mX11_adds 66 = some (.aload 0, 1, 0, 0) := by decide +kernel
theorem xX11_adds_67 : dcd mX11_adds 67 = some (.getfield 43, 3, 0, 0) := by decide +kernel
theorem xX11_adds_70 : dcd mX11_adds 70 = some (.aload 0, 1, 0, 0) := by decide +kernel
theorem xX11_adds_71 : dcd mX11_adds 71 = some (.getfield 213, 3, 0, 0) := by decide +kernel
theorem xX11_adds_74 : dcd mX11_adds 74 = some (.iload 3, 1, 0, 0) := by decide +kernel
theorem xX11_adds_75 : dcd mX11_adds 75 = some (.iastore, 1, 0, 0) := by decide +kernel
theorem xX11_adds_76 : dcd mX11_adds 76 = some (.aload 0, 1, 0, 0) := by decide +kernel
theorem xX11_adds_77 : dcd mX11_adds 77 = some (.getfield 46, 3, 0, 0) := by decide +kernel
theorem xX11_adds_80 : dcd mX11_adds 80 = some (.aload 0, 1, 0, 0) := by decide +kernel
theorem xX11_adds_81 : dcd mX11_adds 81 = some (.getfield 213, 3, 0, 0) := by decide +kernel
theorem xX11_adds_84 : dcd mX11_adds 84 = some (.iload 4, 2, 0, 0) := by decide +kernel
theorem xX11_adds_86 : dcd mX11_adds 86 = some (.iastore, 1, 0, 0) := by decide +kernel
theorem xX11_adds_87 : dcd mX11_adds 87 = some (.aload 0, 1, 0, 0) := by decide +kernel
theorem xX11_adds_88 : dcd mX11_adds 88 = some (.getfield 49, 3, 0, 0) := by decide +kernel
theorem xX11_adds_91 : dcd mX11_adds 91 = some (.aload 0, 1, 0, 0) := by decide +kernel
theorem xX11_adds_92 : dcd mX11_adds 92 = some (.getfield 213, 3, 0, 0) := by decide +kernel
theorem xX11_adds_95 : dcd mX11_adds 95 = some (.iload 5, 2, 0, 0) := by decide +kernel
theorem xX11_adds_97 : dcd mX11_adds 97 = some (.iastore, 1, 0, 0) := by decide +kernel
theorem xX11_adds_98 : dcd mX11_adds 98 = some (.aload 0, 1, 0, 0) := by decide +kernel
theorem xX11_adds_99 : dcd mX11_adds 99 = some (.getfield 52, 3, 0, 0) := by decide +kernel
theorem xX11_adds_102 : dcd mX11_adds 102 = some (.aload 0, 1, 0, 0) := by decide +kernel
theorem xX11_adds_103 : dcd mX11_adds 103 = some (.getfield 213, 3, 0, 0) := by decide +kernel
theorem xX11_adds_106 : dcd mX11_adds 106 = some (.iload 6, 2, 0, 0) := by decide +kernel
theorem xX11_adds_108 : dcd mX11_adds 108 = some (.iastore, 1, 0, 0) := by decide +kernel
theorem xX11_adds_109 : dcd mX11_adds 109 = some (.aload 0, 1, 0, 0) := by decide +kernel
theorem xX11_adds_110 : dcd mX11_adds 110 = some (.getfield 55, 3, 0, 0) := by decide +kernel
theorem xX11_adds_113 : dcd mX11_adds 113 = some (.aload 0, 1, 0, 0) := by decide +kernel
theorem xX11_adds_114 : dcd mX11_adds 114 = some (.getfield 213, 3, 0, 0) := by decide +kernel
theorem xX11_adds_117 : dcd mX11_adds 117 = some (.iconst 0, 1, 0, 1) := by decide +kernel
theorem xX11_adds_118 : dcd mX11_adds 118 = some (.bastore, 1, 0, 0) := by decide +kernel
theorem xX11_adds_119 : dcd mX11_adds 119 = some (.aload 0, 1, 0, 0) := by decide +kernel
theorem xX11_adds_120 : dcd mX11_adds 120 = some (.dup, 1, 0, 0) := by decide +kernel
theorem xX11_adds_121 : dcd mX11_adds 121 = some (.getfield 213, 3, 0, 0) := by decide +kernel
theorem xX11_adds_124 : dcd mX11_adds 124 = some (.iconst 0, 1, 0, 1) := by decide +kernel
theorem xX11_adds_125 : dcd mX11_adds 125 = some (.iadd, 1, 0, 0) := by decide +kernel
theorem xX11_adds_126 : dcd mX11_adds 126 = some (.putfield 213, 3, 0, 0) := by decide +kernel
theorem xX11_adds_129 : dcd mX11_adds 129 = some (.aload 0, 1, 0, 0) := by decide +kernel
theorem xX11_adds_130 : dcd mX11_adds 130 = some (.getfield 213, 3, 0, 0) := by decide +kernel
theorem xX11_adds_133 : dcd mX11_adds 133 = some (.iconst 0, 1, 0, 1) := by decide +kernel
theorem xX11_adds_134 : dcd mX11_adds 134 = some (.isub, 1, 0, 0) := by decide +kernel
theorem xX11_adds_135 : dcd mX11_adds 135 = some (.ireturn, 1, 0, 0) := by decide +kernel
theorem xX11_white_0 : dcd mX11_white 0 = some (.aload 0, 1, 0, 0) := by decide +kernel
theorem xX11_white_1 : dcd mX11_white 1 = some (.iload 1, 1, 0, 0) := by decide +kernel
theorem xX11_white_2 : dcd mX11_white 2 = some (.iload 2, 1, 0, 0) := by decide +kernel
theorem xX11_white_3 : dcd mX11_white 3 = some (.iload 3, 1, 0, 0) := by decide +kernel
theorem xX11_white_4 : dcd mX11_white 4 = some (.iconst 0, 1, 0, 0) := by decide +kernel
theorem xX11_white_5 : dcd mX11_white 5 = some (.iload 4, 2, 0, 0) := by decide +kernel
theorem xX11_white_7 : dcd mX11_white 7 = some (.iconst 0, 1, 0, (-1)) := by decide +kernel
theorem xX11_white_8 : dcd mX11_white 8 = some (.invokevirtual 230, 3, 0, 0) := by decide +kernel
theorem xX11_white_11 : dcd mX11_white 11 = some (.ireturn, 1, 0, 0) := by decide +kernel
theorem xX11_red_0 : dcd mX11_red 0 = some (.iload 5, 2, 0, 0) := by decide +kernel
theorem xX11_red_2 : dcd mX11_red 2 = some (.invokestatic 227, 3, 0, 0) := by decide +kernel
theorem xX11_red_5 : dcd mX11_red 5 = some (.ifCond .eq 0, 3, 30, 0) := by decide +kernel
theorem xX11_red_8 : dcd mX11_red 8 = some (.iload 4, 2, 0, 0) := by decide +kernel
theorem xX11_red_10 : dcd mX11_red 10 = some (.iload 5, 2, 0, 0) := by decide +kernel
theorem xX11_red_12 : dcd mX11_red 12 = some (.if_icmp .eq 0, 3, 30, 0) := by decide +kernel
theorem xX11_red_15 : dcd mX11_red 15 = some (.aload 0, 1, 0, 0) := by decide +kernel
theorem xX11_red_16 : dcd mX11_red 16 = some (.iload 1, 1, 0, 0) := by decide +kernel
theorem xX11_red_17 : dcd mX11_red 17 = some (.iload 2, 1, 0, 0) := by decide +kernel
theorem xX11_red_18 : dcd mX11_red 18 = some (.iload 3, 1, 0, 0) := by decide +kernel
theorem xX11_red_19 : dcd mX11_red 19 = some (.iconst 0, 1, 0, 1) := by decide +kernel
theorem xX11_red_20 : dcd mX11_red 20 = some (.iload 4, 2, 0, 0) := by decide +kernel
theorem xX11_red_22 : dcd mX11_red 22 = some (.iload 5, 2, 0, 0) := by decide +kernel
theorem xX11_red_24 : dcd mX11_red 24 = some (.invokevirtual 230, 3, 0, 0) := by decide +kernel
theorem xX11_red_27 : dcd mX11_red 27 = some (.goto 0, 3, 31, 0) := by decide +kernel
theorem xX11_red_30 : dcd mX11_red 30 = some (.iconst 0, 1, 0, (-1)) := by decide +kernel
theorem xX11_red_31 : dcd mX11_red 31 = some (.ireturn, 1, 0, 0) := by decide +kernel
theorem xX11_wind_0 : dcd mX11_wind 0 = some (.iload 1, 1, 0, 0) := by decide +kernel
theorem xX11_wind_1 : dcd mX11_wind 1 = some (.i2l, 1, 0, 0) := by decide +kernel
theorem xX11_wind_2 : dcd mX11_wind 2 = some (.ldc2_w 207, 3, 0, 0) := by decide +kernel
theorem xX11_wind_5 : dcd mX11_wind 5 = some (.ldc2_w 209, 3, 0, 0) := by decide +kernel
theorem xX11_wind_8 : dcd mX11_wind 8 = some (.invokestatic 203, 3, 0, 0) := by decide +kernel
theorem xX11_wind_11 : dcd mX11_wind 11 = some (.ifCond .ne 0, 3, 16, 0) := by decide +kernel
theorem xX11_wind_14 : dcd mX11_wind 14 = some (.iconst 0, 1, 0, 0) := by decide +kernel
theorem xX11_wind_15 : dcd mX11_wind 15 = some (.ireturn, 1, 0, 0) := by decide +kernel
theorem xX11_wind_16 : dcd mX11_wind 16 = some (.aload 0, 1, 0, 0) := by decide +kernel
theorem xX11_wind_17 : dcd mX11_wind 17 = some (.iload 1, 1, 0, 0) := by decide +kernel
theorem xX11_wind_18 : dcd mX11_wind 18 = some (.putfield 234, 3, 0, 0) := by decide +kernel
theorem xX11_wind_21 : dcd mX11_wind 21 = some (.iconst 0, 1, 0, 1) := by decide +kernel
theorem xX11_wind_22 : dcd mX11_wind 22 = some (.ireturn, 1, 0, 0) := by decide +kernel
theorem xX11_push_0 : dcd mX11_push 0 = some (.iconst 0, 2, 0, 24) := by decide +kernel
theorem xX11_push_2 : dcd mX11_push 2 = some (.istore 2, 1, 0, 0) := by decide +kernel
theorem xX11_push_3 : dcd mX11_push 3 = some (.iload 2, 1, 0, 0) := by decide +kernel
theorem xX11_push_4 : dcd mX11_push 4 = some (.ifCond .lt 0, 3, 36, 0) := by decide +kernel
theorem xX11_push_7 : dcd mX11_push 7 = some (.aload 0, 1, 0, 0) := by decide +kernel
theorem xX11_push_8 : dcd mX11_push 8 = some (.getfield 7, 3, 0, 0) := by decide +kernel
theorem xX11_push_11 : dcd mX11_push 11 = some (.aload 0, 1, 0, 0) := by decide +kernel
theorem xX11_push_12 : dcd mX11_push 12 = some (.getfield 237, 3, 0, 0) := by decide +kernel
theorem xX11_push_15 : dcd mX11_push 15 = some (.iload 1, 1, 0, 0) := by decide +kernel
theorem xX11_push_16 : dcd mX11_push 16 = some (.iload 2, 1, 0, 0) := by decide +kernel
theorem xX11_push_17 : dcd mX11_push 17 = some (.ishr, 1, 0, 0) := by decide +kernel
theorem xX11_push_18 : dcd mX11_push 18 = some (.i2b, 1, 0, 0) := by decide +kernel
theorem xX11_push_19 : dcd mX11_push 19 = some (.bastore, 1, 0, 0) := by decide +kernel
theorem xX11_push_20 : dcd mX11_push 20 = some (.aload 0, 1, 0, 0) := by decide +kernel
theorem xX11_push_21 : dcd mX11_push 21 = some (.dup, 1, 0, 0) := by decide +kernel
theorem xX11_push_22 : dcd mX11_push 22 = some (.getfield 237, 3, 0, 0) := by decide +kernel
theorem xX11_push_25 : dcd mX11_push 25 = some (.iconst 0, 1, 0, 1) := by decide +kernel
theorem xX11_push_26 : dcd mX11_push 26 = some (.iadd, 1, 0, 0) := by decide +kernel
theorem xX11_push_27 : dcd mX11_push 27 = some (.putfield 237, 3, 0, 0) := by decide +kernel
theorem xX11_push_30 : dcd mX11_push 30 = some (.iinc 2 0, 3, 0, (-8)) := by decide +kernel
theorem xX11_push_33 : dcd mX11_push 33 = some (.goto 0, 3, 3, 0) := by decide +kernel
theorem xX11_push_36 : dcd mX11_push 36 = some (.return_, 1, 0, 0) := by decide +kernel
theorem xX11_feed_0 : dcd mX11_feed 0 = some (.aload 0, 1, 0, 0) := by decide +kernel
theorem xX11_feed_1 : dcd mX11_feed 1 = some (.getfield 237, 3, 0, 0) := by decide +kernel
theorem xX11_feed_4 : dcd mX11_feed 4 = some (.iconst 0, 2, 0, 20) := by decide +kernel
theorem xX11_feed_6 : dcd mX11_feed 6 = some (.iadd, 1, 0, 0) := by decide +kernel
theorem xX11_feed_7 : dcd mX11_feed 7 = some (.iconst 0, 3, 0, 220) := by decide +kernel
theorem xX11_feed_10 : dcd mX11_feed 10 = some (.if_icmp .le 0, 3, 15, 0) := by decide +kernel
theorem xX11_feed_13 : dcd mX11_feed 13 = some (.iconst 0, 1, 0, (-1)) := by decide +kernel
theorem xX11_feed_14 : dcd mX11_feed 14 = some (.ireturn, 1, 0, 0) := by decide +kernel
theorem xX11_feed_15 : dcd mX11_feed 15 = some (.aload 0, 1, 0, 0) := by decide +kernel
theorem xX11_feed_16 : dcd mX11_feed 16 = some (.iload 1, 1, 0, 0) := by decide +kernel
theorem xX11_feed_17 : dcd mX11_feed 17 = some (.invokevirtual 240, 3, 0, 0) := by decide +kernel
theorem xX11_feed_20 : dcd mX11_feed 20 = some (.aload 0, 1, 0, 0) := by decide +kernel
theorem xX11_feed_21 : dcd mX11_feed 21 = some (.iload 2, 1, 0, 0) := by decide +kernel
theorem xX11_feed_22 : dcd mX11_feed 22 = some (.invokevirtual 240, 3, 0, 0) := by decide +kernel
theorem xX11_feed_25 : dcd mX11_feed 25 = some (.aload 0, 1, 0, 0) := by decide +kernel
theorem xX11_feed_26 : dcd mX11_feed 26 = some (.iload 3, 1, 0, 0) := by decide +kernel
theorem xX11_feed_27 : dcd mX11_feed 27 = some (.invokevirtual 240, 3, 0, 0) := by decide +kernel
theorem xX11_feed_30 : dcd mX11_feed 30 = some (.aload 0, 1, 0, 0) := by decide +kernel
theorem xX11_feed_31 : dcd mX11_feed 31 = some (.iload 4, 2, 0, 0) := by decide +kernel
theorem xX11_feed_33 : dcd mX11_feed 33 = some (.invokevirtual 240, 3, 0, 0) := by decide +kernel
theorem xX11_feed_36 : dcd mX11_feed 36 = some (.aload 0, 1, 0, 0) := by decide +kernel
theorem xX11_feed_37 : dcd mX11_feed 37 = some (.iload 5, 2, 0, 0) := by decide +kernel
theorem xX11_feed_39 : dcd mX11_feed 39 = some (.invokevirtual 240, 3, 0, 0) := by decide +kernel
theorem xX11_feed_42 : dcd mX11_feed 42 = some (.aload 0, 1, 0, 0) := by decide +kernel
theorem xX11_feed_43 : dcd mX11_feed 43 = some (.getfield 237, 3, 0, 0) := by decide +kernel
theorem xX11_feed_46 : dcd mX11_feed 46 = some (.ireturn, 1, 0, 0) := by decide +kernel
theorem xX11_byteAt_0 : dcd mX11_byteAt 0 = some (.aload 0, 1, 0, 0) := by decide +kernel
theorem xX11_byteAt_1 : dcd mX11_byteAt 1 = some (.getfield 7, 3, 0, 0) := by decide +kernel
theorem xX11_byteAt_4 : dcd mX11_byteAt 4 = some (.iload 1, 1, 0, 0) := by decide +kernel
theorem xX11_byteAt_5 : dcd mX11_byteAt 5 = some (.baload, 1, 0, 0) := by decide +kernel
theorem xX11_byteAt_6 : dcd mX11_byteAt 6 = some (.iconst 0, 3, 0, 255) := by decide +kernel
theorem xX11_byteAt_9 : dcd mX11_byteAt 9 = some (.iand, 1, 0, 0) := by decide +kernel
theorem xX11_byteAt_10 : dcd mX11_byteAt 10 = some (.ireturn, 1, 0, 0) := by decide +kernel
theorem xX11_here_0 : dcd mX11_here 0 = some (.aload 0, 1, 0, 0) := by decide +kernel
theorem xX11_here_1 : dcd mX11_here 1 = some (.getfield 244, 3, 0, 0) := by decide +kernel
theorem xX11_here_4 : dcd mX11_here 4 = some (.aload 0, 1, 0, 0) := by decide +kernel
theorem xX11_here_5 : dcd mX11_here 5 = some (.getfield 247, 3, 0, 0) := by decide +kernel
theorem xX11_here_8 : dcd mX11_here 8 = some (.if_icmp .ge 0, 3, 27, 0) := by decide +kernel
theorem xX11_here_11 : dcd mX11_here 11 = some (.aload 0, 1, 0, 0) := by decide +kernel
theorem xX11_here_12 : dcd mX11_here 12 = some (.getfield 7, 3, 0, 0) := by decide +kernel
theorem xX11_here_15 : dcd mX11_here 15 = some (.aload 0, 1, 0, 0) := by decide +kernel
theorem xX11_here_16 : dcd mX11_here 16 = some (.getfield 244, 3, 0, 0) := by decide +kernel
theorem xX11_here_19 : dcd mX11_here 19 = some (.baload, 1, 0, 0) := by decide +kernel
theorem xX11_here_20 : dcd mX11_here 20 = some (.iconst 0, 3, 0, 255) := by decide +kernel
theorem xX11_here_23 : dcd mX11_here 23 = some (.iand, 1, 0, 0) := by decide +kernel
theorem xX11_here_24 : dcd mX11_here 24 = some (.goto 0, 3, 28, 0) := by decide +kernel
theorem xX11_here_27 : dcd mX11_here 27 = some (.iconst 0, 1, 0, 0) := by decide +kernel
theorem xX11_here_28 : dcd mX11_here 28 = some (.ireturn, 1, 0, 0) := by decide +kernel
theorem xX11_wrongs_0 : dcd mX11_wrongs 0 = some (.aload 0, 1, 0, 0) := by decide +kernel
theorem xX11_wrongs_1 : dcd mX11_wrongs 1 = some (.aload 0, 1, 0, 0) := by decide +kernel
theorem xX11_wrongs_2 : dcd mX11_wrongs 2 = some (.getfield 250, 3, 0, 0) := by decide +kernel
theorem xX11_wrongs_5 : dcd mX11_wrongs 5 = some (.ifCond .ge 0, 3, 15, 0) := by decide +kernel
theorem xX11_wrongs_8 : dcd mX11_wrongs 8 = some (.aload 0, 1, 0, 0) := by decide +kernel
theorem xX11_wrongs_9 : dcd mX11_wrongs 9 = some (.getfield 250, 3, 0, 0) := by decide +kernel
theorem xX11_wrongs_12 : dcd mX11_wrongs 12 = some (.goto 0, 3, 22, 0) := by decide +kernel
theorem xX11_wrongs_15 : dcd mX11_wrongs 15 = some (.iconst 0, 3, 0, (-1000)) := by decide +kernel
theorem xX11_wrongs_18 : dcd mX11_wrongs 18 = some (.iload 1, 1, 0, 0) := by decide +kernel
theorem xX11_wrongs_19 : dcd mX11_wrongs 19 = some (.imul, 1, 0, 0) := by decide +kernel
theorem xX11_wrongs_20 : dcd mX11_wrongs 20 = some (.iload 2, 1, 0, 0) := by decide +kernel
theorem xX11_wrongs_21 : dcd mX11_wrongs 21 = some (.isub, 1, 0, 0) := by decide +kernel
theorem xX11_wrongs_22 : dcd mX11_wrongs 22 = some (.putfield 250, 3, 0, 0) := by decide +kernel
theorem xX11_wrongs_25 : dcd mX11_wrongs 25 = some (.return_, 1, 0, 0) := by decide +kernel
theorem xX11_isGood_0 : dcd mX11_isGood 0 = some (.aload 0, 1, 0, 0) := by decide +kernel
theorem xX11_isGood_1 : dcd mX11_isGood 1 = some (.getfield 250, 3, 0, 0) := by decide +kernel
theorem xX11_isGood_4 : dcd mX11_isGood 4 = some (.ifCond .ne 0, 3, 11, 0) := by decide +kernel
theorem xX11_isGood_7 : dcd mX11_isGood 7 = some (.iconst 0, 1, 0, 1) := by decide +kernel
theorem xX11_isGood_8 : dcd mX11_isGood 8 = some (.goto 0, 3, 12, 0) := by decide +kernel
theorem xX11_isGood_11 : dcd mX11_isGood 11 = some (.iconst 0, 1, 0, 0) := by decide +kernel
theorem xX11_isGood_12 : dcd mX11_isGood 12 = some (.ireturn, 1, 0, 0) := by decide +kernel
theorem xX11_emit_0 : dcd mX11_emit 0 = some (.aload 0, 1, 0, 0) := by decide +kernel
theorem xX11_emit_1 : dcd mX11_emit 1 = some (.invokevirtual 253, 3, 0, 0) := by decide +kernel
theorem xX11_emit_4 : dcd mX11_emit 4 = some (.ifCond .ne 0, 3, 8, 0) := by decide +kernel
theorem xX11_emit_7 : dcd mX11_emit 7 = some (.return_, 1, 0, 0) := by decide +kernel
theorem xX11_emit_8 : dcd mX11_emit 8 = some (.aload 0, 1, 0, 0) := by decide +kernel
theorem xX11_emit_9 : dcd mX11_emit 9 = some (.getfield 88, 3, 0, 0) := by decide +kernel
theorem xX11_emit_12 : dcd mX11_emit 12 = some (.aload 0, 1, 0, 0) := by decide +kernel
theorem xX11_emit_13 : dcd mX11_emit 13 = some (.getfield 257, 3, 0, 0) := by decide +kernel
theorem xX11_emit_16 : dcd mX11_emit 16 = some (.iload 1, 1, 0, 0) := by decide +kernel
theorem xX11_emit_17 : dcd mX11_emit 17 = some (.iastore, 1, 0, 0) := by decide +kernel
theorem xX11_emit_18 : dcd mX11_emit 18 = some (.aload 0, 1, 0, 0) := by decide +kernel
theorem xX11_emit_19 : dcd mX11_emit 19 = some (.getfield 91, 3, 0, 0) := by decide +kernel
theorem xX11_emit_22 : dcd mX11_emit 22 = some (.aload 0, 1, 0, 0) := by decide +kernel
theorem xX11_emit_23 : dcd mX11_emit 23 = some (.getfield 257, 3, 0, 0) := by decide +kernel
theorem xX11_emit_26 : dcd mX11_emit 26 = some (.iload 2, 1, 0, 0) := by decide +kernel
theorem xX11_emit_27 : dcd mX11_emit 27 = some (.iastore, 1, 0, 0) := by decide +kernel
theorem xX11_emit_28 : dcd mX11_emit 28 = some (.aload 0, 1, 0, 0) := by decide +kernel
theorem xX11_emit_29 : dcd mX11_emit 29 = some (.dup, 1, 0, 0) := by decide +kernel
theorem xX11_emit_30 : dcd mX11_emit 30 = some (.getfield 257, 3, 0, 0) := by decide +kernel
theorem xX11_emit_33 : dcd mX11_emit 33 = some (.iconst 0, 1, 0, 1) := by decide +kernel
theorem xX11_emit_34 : dcd mX11_emit 34 = some (.iadd, 1, 0, 0) := by decide +kernel
theorem xX11_emit_35 : dcd mX11_emit 35 = some (.putfield 257, 3, 0, 0) := by decide +kernel
theorem xX11_emit_38 : dcd mX11_emit 38 = some (.return_, 1, 0, 0) := by decide +kernel
theorem xX11_top_0 : dcd mX11_top 0 = some (.aload 0, 1, 0, 0) := by decide +kernel
theorem xX11_top_1 : dcd mX11_top 1 = some (.getfield 260, 3, 0, 0) := by decide +kernel
theorem xX11_top_4 : dcd mX11_top 4 = some (.ifCond .le 0, 3, 21, 0) := by decide +kernel
theorem xX11_top_7 : dcd mX11_top 7 = some (.aload 0, 1, 0, 0) := by decide +kernel
theorem xX11_top_8 : dcd mX11_top 8 = some (.getfield 94, 3, 0, 0) := by decide +kernel
theorem xX11_top_11 : dcd mX11_top 11 = some (.aload 0, 1, 0, 0) := by decide +kernel
theorem xX11_top_12 : dcd mX11_top 12 = some (.getfield 260, 3, 0, 0) := by decide +kernel
theorem xX11_top_15 : dcd mX11_top 15 = some (.iconst 0, 1, 0, 1) := by decide +kernel
theorem xX11_top_16 : dcd mX11_top 16 = some (.isub, 1, 0, 0) := by decide +kernel
theorem xX11_top_17 : dcd mX11_top 17 = some (.iaload, 1, 0, 0) := by decide +kernel
theorem xX11_top_18 : dcd mX11_top 18 = some (.goto 0, 3, 22, 0) := by decide +kernel
theorem xX11_top_21 : dcd mX11_top 21 = some (.iconst 0, 1, 0, 0) := by decide +kernel
theorem xX11_top_22 : dcd mX11_top 22 = some (.ireturn, 1, 0, 0) := by decide +kernel
theorem xX11_puts_0 : dcd mX11_puts 0 = some (.aload 0, 1, 0, 0) := by decide +kernel
theorem xX11_puts_1 : dcd mX11_puts 1 = some (.getfield 94, 3, 0, 0) := by decide +kernel
theorem xX11_puts_4 : dcd mX11_puts 4 = some (.aload 0, 1, 0, 0) := by decide +kernel
theorem xX11_puts_5 : dcd mX11_puts 5 = some (.getfield 260, 3, 0, 0) := by decide +kernel
theorem xX11_puts_8 : dcd mX11_puts 8 = some (.iload 1, 1, 0, 0) := by decide +kernel
theorem xX11_puts_9 : dcd mX11_puts 9 = some (.iastore, 1, 0, 0) := by decide +kernel
theorem xX11_puts_10 : dcd mX11_puts 10 = some (.aload 0, 1, 0, 0) := by decide +kernel
theorem xX11_puts_11 : dcd mX11_puts 11 = some (.dup, 1, 0, 0) := by decide +kernel
theorem xX11_puts_12 : dcd mX11_puts 12 = some (.getfield 260, 3, 0, 0) := by decide +kernel
theorem xX11_puts_15 : dcd mX11_puts 15 = some (.iconst 0, 1, 0, 1) := by decide +kernel
theorem xX11_puts_16 : dcd mX11_puts 16 = some (.iadd, 1, 0, 0) := by decide +kernel
theorem xX11_puts_17 : dcd mX11_puts 17 = some (.putfield 260, 3, 0, 0) := by decide +kernel
theorem xX11_puts_20 : dcd mX11_puts 20 = some (.aload 0, 1, 0, 0) := by decide +kernel
theorem xX11_puts_21 : dcd mX11_puts 21 = some (.dup, 1, 0, 0) := by decide +kernel
theorem xX11_puts_22 : dcd mX11_puts 22 = some (.getfield 244, 3, 0, 0) := by decide +kernel
theorem xX11_puts_25 : dcd mX11_puts 25 = some (.iconst 0, 1, 0, 1) := by decide +kernel
theorem xX11_puts_26 : dcd mX11_puts 26 = some (.iadd, 1, 0, 0) := by decide +kernel
theorem xX11_puts_27 : dcd mX11_puts 27 = some (.putfield 244, 3, 0, 0) := by decide +kernel
theorem xX11_puts_30 : dcd mX11_puts 30 = some (.return_, 1, 0, 0) := by decide +kernel
theorem xX11_opens_0 : dcd mX11_opens 0 = some (.aload 0, 1, 0, 0) := by decide +kernel
theorem xX11_opens_1 : dcd mX11_opens 1 = some (.getfield 263, 3, 0, 0) := by decide +kernel
theorem xX11_opens_4 : dcd mX11_opens 4 = some (.iconst 0, 2, 0, 6) := by decide +kernel
theorem xX11_opens_6 : dcd mX11_opens 6 = some (.if_icmp .ne 0, 3, 18, 0) := by decide +kernel
theorem xX11_opens_9 : dcd mX11_opens 9 = some (.aload 0, 1, 0, 0) := by decide +kernel
theorem xX11_opens_10 : dcd mX11_opens 10 = some (.iconst 0, 1, 0, 5) := by decide +kernel
theorem xX11_opens_11 : dcd mX11_opens 11 = some (.aload 0, 1, 0, 0) := by decide +kernel
theorem xX11_opens_12 : dcd mX11_opens 12 = some (.getfield 244, 3, 0, 0) := by decide +kernel
theorem xX11_opens_15 : dcd mX11_opens 15 = some (.invokevirtual 266, 3, 0, 0) := by decide +kernel
theorem xX11_opens_18 : dcd mX11_opens 18 = some (.aload 0, 1, 0, 0) := by decide +kernel
theorem xX11_opens_19 : dcd mX11_opens 19 = some (.dup, 1, 0, 0) := by decide +kernel
theorem xX11_opens_20 : dcd mX11_opens 20 = some (.getfield 263, 3, 0, 0) := by decide +kernel
theorem xX11_opens_23 : dcd mX11_opens 23 = some (.iconst 0, 1, 0, 1) := by decide +kernel
theorem xX11_opens_24 : dcd mX11_opens 24 = some (.iadd, 1, 0, 0) := by decide +kernel
theorem xX11_opens_25 : dcd mX11_opens 25 = some (.putfield 263, 3, 0, 0) := by decide +kernel
theorem xX11_opens_28 : dcd mX11_opens 28 = some (.aload 0, 1, 0, 0) := by decide +kernel
theorem xX11_opens_29 : dcd mX11_opens 29 = some (.aload 0, 1, 0, 0) := by decide +kernel
theorem xX11_opens_30 : dcd mX11_opens 30 = some (.invokevirtual 270, 3, 0, 0) := by decide +kernel
theorem xX11_opens_33 : dcd mX11_opens 33 = some (.invokevirtual 274, 3, 0, 0) := by decide +kernel
theorem xX11_opens_36 : dcd mX11_opens 36 = some (.return_, 1, 0, 0) := by decide +kernel
theorem xX11_seesDigit_0 : dcd mX11_seesDigit 0 = some (.aload 0, 1, 0, 0) := by decide +kernel
theorem xX11_seesDigit_1 : dcd mX11_seesDigit 1 = some (.invokevirtual 270, 3, 0, 0) := by decide +kernel
theorem xX11_seesDigit_4 : dcd mX11_seesDigit 4 = some (.i2l, 1, 0, 0) := by decide +kernel
theorem xX11_seesDigit_5 : dcd mX11_seesDigit 5 = some (.ldc2_w 277, 3, 0, 0) := by decide +kernel
theorem xX11_seesDigit_8 : dcd mX11_seesDigit 8 = some (.ldc2_w 279, 3, 0, 0) := by decide +kernel
theorem xX11_seesDigit_11 : dcd mX11_seesDigit 11 = some (.invokestatic 203, 3, 0, 0) := by decide +kernel
theorem xX11_seesDigit_14 : dcd mX11_seesDigit 14 = some (.ireturn, 1, 0, 0) := by decide +kernel
theorem xX11_reads_0 : dcd mX11_reads 0 = some (.aload 0, 1, 0, 0) := by decide +kernel
theorem xX11_reads_1 : dcd mX11_reads 1 = some (.getfield 244, 3, 0, 0) := by decide +kernel
theorem xX11_reads_4 : dcd mX11_reads 4 = some (.istore 1, 1, 0, 0) := by decide +kernel
theorem xX11_reads_5 : dcd mX11_reads 5 = some (.iconst 0, 1, 0, 0) := by decide +kernel
theorem xX11_reads_6 : dcd mX11_reads 6 = some (.istore 2, 1, 0, 0) := by decide +kernel
theorem xX11_reads_7 : dcd mX11_reads 7 = some (.aload 0, 1, 0, 0) := by decide +kernel
theorem xX11_reads_8 : dcd mX11_reads 8 = some (.invokevirtual 253, 3, 0, 0) := by decide +kernel
theorem xX11_reads_11 : dcd mX11_reads 11 = some (.ifCond .eq 0, 3, 66, 0) := by decide +kernel
theorem xX11_reads_14 : dcd mX11_reads 14 = some (.aload 0, 1, 0, 0) := by decide +kernel
theorem xX11_reads_15 : dcd mX11_reads 15 = some (.invokevirtual 281, 3, 0, 0) := by decide +kernel
theorem xX11_reads_18 : dcd mX11_reads 18 = some (.ifCond .eq 0, 3, 66, 0) := by decide +kernel
theorem xX11_reads_21 : dcd mX11_reads 21 = some (.aload 0, 1, 0, 0) := by decide +kernel
theorem xX11_reads_22 : dcd mX11_reads 22 = some (.getfield 244, 3, 0, 0) := by decide +kernel
theorem xX11_reads_25 : dcd mX11_reads 25 = some (.iload 1, 1, 0, 0) := by decide +kernel
theorem xX11_reads_26 : dcd mX11_reads 26 = some (.iconst 0, 1, 0, 5) := by decide +kernel
theorem xX11_reads_27 : dcd mX11_reads 27 = some (.iadd, 1, 0, 0) := by decide +kernel
theorem xX11_reads_28 : dcd mX11_reads 28 = some (.if_icmp .ne 0, 3, 40, 0) := by decide +kernel
theorem xX11_reads_31 : dcd mX11_reads 31 = some (.aload 0, 1, 0, 0) := by decide +kernel
theorem xX11_reads_32 : dcd mX11_reads 32 = some (.iconst 0, 1, 0, 2) := by decide +kernel
theorem xX11_reads_33 : dcd mX11_reads 33 = some (.aload 0, 1, 0, 0) := by decide +kernel
theorem xX11_reads_34 : dcd mX11_reads 34 = some (.getfield 244, 3, 0, 0) := by decide +kernel
theorem xX11_reads_37 : dcd mX11_reads 37 = some (.invokevirtual 266, 3, 0, 0) := by decide +kernel
theorem xX11_reads_40 : dcd mX11_reads 40 = some (.iconst 0, 2, 0, 10) := by decide +kernel
theorem xX11_reads_42 : dcd mX11_reads 42 = some (.iload 2, 1, 0, 0) := by decide +kernel
theorem xX11_reads_43 : dcd mX11_reads 43 = some (.imul, 1, 0, 0) := by decide +kernel
theorem xX11_reads_44 : dcd mX11_reads 44 = some (.aload 0, 1, 0, 0) := by decide +kernel
theorem xX11_reads_45 : dcd mX11_reads 45 = some (.invokevirtual 270, 3, 0, 0) := by decide +kernel
theorem xX11_reads_48 : dcd mX11_reads 48 = some (.iadd, 1, 0, 0) := by decide +kernel
theorem xX11_reads_49 : dcd mX11_reads 49 = some (.iconst 0, 2, 0, 48) := by decide +kernel
theorem xX11_reads_51 : dcd mX11_reads 51 = some (.isub, 1, 0, 0) := by decide +kernel
theorem xX11_reads_52 : dcd mX11_reads 52 = some (.istore 2, 1, 0, 0) := by decide +kernel
theorem xX11_reads_53 : dcd mX11_reads 53 = some (.aload 0, 1, 0, 0) := by decide +kernel
theorem xX11_reads_54 : dcd mX11_reads 54 = some (.dup, 1, 0, 0) := by decide +kernel
theorem xX11_reads_55 : dcd mX11_reads 55 = some (.getfield 244, 3, 0, 0) := by decide +kernel
theorem xX11_reads_58 : dcd mX11_reads 58 = some (.iconst 0, 1, 0, 1) := by decide +kernel
theorem xX11_reads_59 : dcd mX11_reads 59 = some (.iadd, 1, 0, 0) := by decide +kernel
theorem xX11_reads_60 : dcd mX11_reads 60 = some (.putfield 244, 3, 0, 0) := by decide +kernel
theorem xX11_reads_63 : dcd mX11_reads 63 = some (.goto 0, 3, 7, 0) := by decide +kernel
theorem xX11_reads_66 : dcd mX11_reads 66 = some (.iload 2, 1, 0, 0) := by decide +kernel
theorem xX11_reads_67 : dcd mX11_reads 67 = some (.ireturn, 1, 0, 0) := by decide +kernel
theorem xX11_isTimes_0 : dcd mX11_isTimes 0 = some (.iload 0, 1, 0, 0) := by decide +kernel
theorem xX11_isTimes_1 : dcd mX11_isTimes 1 = some (.iconst 0, 2, 0, 42) := by decide +kernel
theorem xX11_isTimes_3 : dcd mX11_isTimes 3 = some (.if_icmp .eq 0, 3, 18, 0) := by decide +kernel
theorem xX11_isTimes_6 : dcd mX11_isTimes 6 = some (.iload 0, 1, 0, 0) := by decide +kernel
theorem xX11_isTimes_7 : dcd mX11_isTimes 7 = some (.iconst 0, 2, 0, 47) := by decide +kernel
theorem xX11_isTimes_9 : dcd mX11_isTimes 9 = some (.if_icmp .eq 0, 3, 18, 0) := by decide +kernel
theorem xX11_isTimes_12 : dcd mX11_isTimes 12 = some (.iload 0, 1, 0, 0) := by decide +kernel
theorem xX11_isTimes_13 : dcd mX11_isTimes 13 = some (.iconst 0, 2, 0, 37) := by decide +kernel
theorem xX11_isTimes_15 : dcd mX11_isTimes 15 = some (.if_icmp .ne 0, 3, 22, 0) := by decide +kernel
theorem xX11_isTimes_18 : dcd mX11_isTimes 18 = some (.iconst 0, 1, 0, 1) := by decide +kernel
theorem xX11_isTimes_19 : dcd mX11_isTimes 19 = some (.goto 0, 3, 23, 0) := by decide +kernel
theorem xX11_isTimes_22 : dcd mX11_isTimes 22 = some (.iconst 0, 1, 0, 0) := by decide +kernel
theorem xX11_isTimes_23 : dcd mX11_isTimes 23 = some (.ireturn, 1, 0, 0) := by decide +kernel
theorem xX11_isPlus_0 : dcd mX11_isPlus 0 = some (.iload 0, 1, 0, 0) := by decide +kernel
theorem xX11_isPlus_1 : dcd mX11_isPlus 1 = some (.iconst 0, 2, 0, 43) := by decide +kernel
theorem xX11_isPlus_3 : dcd mX11_isPlus 3 = some (.if_icmp .eq 0, 3, 12, 0) := by decide +kernel
theorem xX11_isPlus_6 : dcd mX11_isPlus 6 = some (.iload 0, 1, 0, 0) := by decide +kernel
theorem xX11_isPlus_7 : dcd mX11_isPlus 7 = some (.iconst 0, 2, 0, 45) := by decide +kernel
theorem xX11_isPlus_9 : dcd mX11_isPlus 9 = some (.if_icmp .ne 0, 3, 16, 0) := by decide +kernel
theorem xX11_isPlus_12 : dcd mX11_isPlus 12 = some (.iconst 0, 1, 0, 1) := by decide +kernel
theorem xX11_isPlus_13 : dcd mX11_isPlus 13 = some (.goto 0, 3, 17, 0) := by decide +kernel
theorem xX11_isPlus_16 : dcd mX11_isPlus 16 = some (.iconst 0, 1, 0, 0) := by decide +kernel
theorem xX11_isPlus_17 : dcd mX11_isPlus 17 = some (.ireturn, 1, 0, 0) := by decide +kernel
theorem xX11_isSign_0 : dcd mX11_isSign 0 = some (.iload 0, 1, 0, 0) := by decide +kernel
theorem xX11_isSign_1 : dcd mX11_isSign 1 = some (.iconst 0, 2, 0, 60) := by decide +kernel
theorem xX11_isSign_3 : dcd mX11_isSign 3 = some (.if_icmp .eq 0, 3, 18, 0) := by decide +kernel
theorem xX11_isSign_6 : dcd mX11_isSign 6 = some (.iload 0, 1, 0, 0) := by decide +kernel
theorem xX11_isSign_7 : dcd mX11_isSign 7 = some (.iconst 0, 2, 0, 62) := by decide +kernel
theorem xX11_isSign_9 : dcd mX11_isSign 9 = some (.if_icmp .eq 0, 3, 18, 0) := by decide +kernel
theorem xX11_isSign_12 : dcd mX11_isSign 12 = some (.iload 0, 1, 0, 0) := by decide +kernel
theorem xX11_isSign_13 : dcd mX11_isSign 13 = some (.iconst 0, 2, 0, 61) := by decide +kernel
theorem xX11_isSign_15 : dcd mX11_isSign 15 = some (.if_icmp .ne 0, 3, 22, 0) := by decide +kernel
theorem xX11_isSign_18 : dcd mX11_isSign 18 = some (.iconst 0, 1, 0, 1) := by decide +kernel
theorem xX11_isSign_19 : dcd mX11_isSign 19 = some (.goto 0, 3, 23, 0) := by decide +kernel
theorem xX11_isSign_22 : dcd mX11_isSign 22 = some (.iconst 0, 1, 0, 0) := by decide +kernel
theorem xX11_isSign_23 : dcd mX11_isSign 23 = some (.ireturn, 1, 0, 0) := by decide +kernel
theorem xX11_isValue_0 : dcd mX11_isValue 0 = some (.iload 0, 1, 0, 0) := by decide +kernel
theorem xX11_isValue_1 : dcd mX11_isValue 1 = some (.iconst 0, 2, 0, 108) := by decide +kernel
theorem xX11_isValue_3 : dcd mX11_isValue 3 = some (.if_icmp .eq 0, 3, 42, 0) := by decide +kernel
theorem xX11_isValue_6 : dcd mX11_isValue 6 = some (.iload 0, 1, 0, 0) := by decide +kernel
theorem xX11_isValue_7 : dcd mX11_isValue 7 = some (.iconst 0, 2, 0, 99) := by decide +kernel
theorem xX11_isValue_9 : dcd mX11_isValue 9 = some (.if_icmp .eq 0, 3, 42, 0) := by decide +kernel
theorem xX11_isValue_12 : dcd mX11_isValue 12 = some (.iload 0, 1, 0, 0) := by decide +kernel
theorem xX11_isValue_13 : dcd mX11_isValue 13 = some (.iconst 0, 2, 0, 111) := by decide +kernel
theorem xX11_isValue_15 : dcd mX11_isValue 15 = some (.if_icmp .eq 0, 3, 42, 0) := by decide +kernel
theorem xX11_isValue_18 : dcd mX11_isValue 18 = some (.iload 0, 1, 0, 0) := by decide +kernel
theorem xX11_isValue_19 : dcd mX11_isValue 19 = some (.iconst 0, 2, 0, 97) := by decide +kernel
theorem xX11_isValue_21 : dcd mX11_isValue 21 = some (.if_icmp .eq 0, 3, 42, 0) := by decide +kernel
theorem xX11_isValue_24 : dcd mX11_isValue 24 = some (.iload 0, 1, 0, 0) := by decide +kernel
theorem xX11_isValue_25 : dcd mX11_isValue 25 = some (.iconst 0, 2, 0, 114) := by decide +kernel
theorem xX11_isValue_27 : dcd mX11_isValue 27 = some (.if_icmp .eq 0, 3, 42, 0) := by decide +kernel
theorem xX11_isValue_30 : dcd mX11_isValue 30 = some (.iload 0, 1, 0, 0) := by decide +kernel
theorem xX11_isValue_31 : dcd mX11_isValue 31 = some (.iconst 0, 2, 0, 119) := by decide +kernel
theorem xX11_isValue_33 : dcd mX11_isValue 33 = some (.if_icmp .eq 0, 3, 42, 0) := by decide +kernel
theorem xX11_isValue_36 : dcd mX11_isValue 36 = some (.iload 0, 1, 0, 0) := by decide +kernel
theorem xX11_isValue_37 : dcd mX11_isValue 37 = some (.iconst 0, 2, 0, 118) := by decide +kernel
theorem xX11_isValue_39 : dcd mX11_isValue 39 = some (.if_icmp .ne 0, 3, 46, 0) := by decide +kernel
theorem xX11_isValue_42 : dcd mX11_isValue 42 = some (.iconst 0, 1, 0, 1) := by decide +kernel
theorem xX11_isValue_43 : dcd mX11_isValue 43 = some (.goto 0, 3, 47, 0) := by decide +kernel
theorem xX11_isValue_46 : dcd mX11_isValue 46 = some (.iconst 0, 1, 0, 0) := by decide +kernel
theorem xX11_isValue_47 : dcd mX11_isValue 47 = some (.ireturn, 1, 0, 0) := by decide +kernel
theorem xX11_sums_0 : dcd mX11_sums 0 = some (.aload 0, 1, 0, 0) := by decide +kernel
theorem xX11_sums_1 : dcd mX11_sums 1 = some (.invokevirtual 284, 3, 0, 0) := by decide +kernel
theorem xX11_sums_4 : dcd mX11_sums 4 = some (.invokestatic 287, 3, 0, 0) := by decide +kernel
theorem xX11_sums_7 : dcd mX11_sums 7 = some (.ifCond .ne 0, 3, 24, 0) := by decide +kernel
theorem xX11_sums_10 : dcd mX11_sums 10 = some (.iload 1, 1, 0, 0) := by decide +kernel
theorem xX11_sums_11 : dcd mX11_sums 11 = some (.ifCond .eq 0, 3, 46, 0) := by decide +kernel
theorem xX11_sums_14 : dcd mX11_sums 14 = some (.aload 0, 1, 0, 0) := by decide +kernel
theorem xX11_sums_15 : dcd mX11_sums 15 = some (.invokevirtual 284, 3, 0, 0) := by decide +kernel
theorem xX11_sums_18 : dcd mX11_sums 18 = some (.invokestatic 290, 3, 0, 0) := by decide +kernel
theorem xX11_sums_21 : dcd mX11_sums 21 = some (.ifCond .eq 0, 3, 46, 0) := by decide +kernel
theorem xX11_sums_24 : dcd mX11_sums 24 = some (.aload 0, 1, 0, 0) := by decide +kernel
theorem xX11_sums_25 : dcd mX11_sums 25 = some (.aload 0, 1, 0, 0) := by decide +kernel
theorem xX11_sums_26 : dcd mX11_sums 26 = some (.invokevirtual 284, 3, 0, 0) := by decide +kernel
theorem xX11_sums_29 : dcd mX11_sums 29 = some (.iconst 0, 1, 0, 0) := by decide +kernel
theorem xX11_sums_30 : dcd mX11_sums 30 = some (.invokevirtual 293, 3, 0, 0) := by decide +kernel
theorem xX11_sums_33 : dcd mX11_sums 33 = some (.aload 0, 1, 0, 0) := by decide +kernel
theorem xX11_sums_34 : dcd mX11_sums 34 = some (.dup, 1, 0, 0) := by decide +kernel
theorem xX11_sums_35 : dcd mX11_sums 35 = some (.getfield 260, 3, 0, 0) := by decide +kernel
theorem xX11_sums_38 : dcd mX11_sums 38 = some (.iconst 0, 1, 0, 1) := by decide +kernel
theorem xX11_sums_39 : dcd mX11_sums 39 = some (.isub, 1, 0, 0) := by decide +kernel
theorem xX11_sums_40 : dcd mX11_sums 40 = some (.putfield 260, 3, 0, 0) := by decide +kernel
theorem xX11_sums_43 : dcd mX11_sums 43 = some (.goto 0, 3, 0, 0) := by decide +kernel
theorem xX11_sums_46 : dcd mX11_sums 46 = some (.return_, 1, 0, 0) := by decide +kernel
theorem xX11_joins_0 : dcd mX11_joins 0 = some (.aload 0, 1, 0, 0) := by decide +kernel
theorem xX11_joins_1 : dcd mX11_joins 1 = some (.invokevirtual 284, 3, 0, 0) := by decide +kernel
theorem xX11_joins_4 : dcd mX11_joins 4 = some (.iconst 0, 2, 0, 38) := by decide +kernel
theorem xX11_joins_6 : dcd mX11_joins 6 = some (.if_icmp .eq 0, 3, 22, 0) := by decide +kernel
theorem xX11_joins_9 : dcd mX11_joins 9 = some (.iload 1, 1, 0, 0) := by decide +kernel
theorem xX11_joins_10 : dcd mX11_joins 10 = some (.ifCond .eq 0, 3, 44, 0) := by decide +kernel
theorem xX11_joins_13 : dcd mX11_joins 13 = some (.aload 0, 1, 0, 0) := by decide +kernel
theorem xX11_joins_14 : dcd mX11_joins 14 = some (.invokevirtual 284, 3, 0, 0) := by decide +kernel
theorem xX11_joins_17 : dcd mX11_joins 17 = some (.iconst 0, 2, 0, 124) := by decide +kernel
theorem xX11_joins_19 : dcd mX11_joins 19 = some (.if_icmp .ne 0, 3, 44, 0) := by decide +kernel
theorem xX11_joins_22 : dcd mX11_joins 22 = some (.aload 0, 1, 0, 0) := by decide +kernel
theorem xX11_joins_23 : dcd mX11_joins 23 = some (.aload 0, 1, 0, 0) := by decide +kernel
theorem xX11_joins_24 : dcd mX11_joins 24 = some (.invokevirtual 284, 3, 0, 0) := by decide +kernel
theorem xX11_joins_27 : dcd mX11_joins 27 = some (.iconst 0, 1, 0, 0) := by decide +kernel
theorem xX11_joins_28 : dcd mX11_joins 28 = some (.invokevirtual 293, 3, 0, 0) := by decide +kernel
theorem xX11_joins_31 : dcd mX11_joins 31 = some (.aload 0, 1, 0, 0) := by decide +kernel
theorem xX11_joins_32 : dcd mX11_joins 32 = some (.dup, 1, 0, 0) := by decide +kernel
theorem xX11_joins_33 : dcd mX11_joins 33 = some (.getfield 260, 3, 0, 0) := by decide +kernel
theorem xX11_joins_36 : dcd mX11_joins 36 = some (.iconst 0, 1, 0, 1) := by decide +kernel
theorem xX11_joins_37 : dcd mX11_joins 37 = some (.isub, 1, 0, 0) := by decide +kernel
theorem xX11_joins_38 : dcd mX11_joins 38 = some (.putfield 260, 3, 0, 0) := by decide +kernel
theorem xX11_joins_41 : dcd mX11_joins 41 = some (.goto 0, 3, 0, 0) := by decide +kernel
theorem xX11_joins_44 : dcd mX11_joins 44 = some (.return_, 1, 0, 0) := by decide +kernel
theorem xX11_ends_0 : dcd mX11_ends 0 = some (.aload 0, 1, 0, 0) := by decide +kernel
theorem xX11_ends_1 : dcd mX11_ends 1 = some (.invokevirtual 284, 3, 0, 0) := by decide +kernel
theorem xX11_ends_4 : dcd mX11_ends 4 = some (.iconst 0, 2, 0, 33) := by decide +kernel
theorem xX11_ends_6 : dcd mX11_ends 6 = some (.if_icmp .ne 0, 3, 38, 0) := by decide +kernel
theorem xX11_ends_9 : dcd mX11_ends 9 = some (.aload 0, 1, 0, 0) := by decide +kernel
theorem xX11_ends_10 : dcd mX11_ends 10 = some (.iconst 0, 1, 0, 2) := by decide +kernel
theorem xX11_ends_11 : dcd mX11_ends 11 = some (.iconst 0, 1, 0, 0) := by decide +kernel
theorem xX11_ends_12 : dcd mX11_ends 12 = some (.invokevirtual 293, 3, 0, 0) := by decide +kernel
theorem xX11_ends_15 : dcd mX11_ends 15 = some (.aload 0, 1, 0, 0) := by decide +kernel
theorem xX11_ends_16 : dcd mX11_ends 16 = some (.dup, 1, 0, 0) := by decide +kernel
theorem xX11_ends_17 : dcd mX11_ends 17 = some (.getfield 260, 3, 0, 0) := by decide +kernel
theorem xX11_ends_20 : dcd mX11_ends 20 = some (.iconst 0, 1, 0, 1) := by decide +kernel
theorem xX11_ends_21 : dcd mX11_ends 21 = some (.isub, 1, 0, 0) := by decide +kernel
theorem xX11_ends_22 : dcd mX11_ends 22 = some (.putfield 260, 3, 0, 0) := by decide +kernel
theorem xX11_ends_25 : dcd mX11_ends 25 = some (.aload 0, 1, 0, 0) := by decide +kernel
theorem xX11_ends_26 : dcd mX11_ends 26 = some (.dup, 1, 0, 0) := by decide +kernel
theorem xX11_ends_27 : dcd mX11_ends 27 = some (.getfield 263, 3, 0, 0) := by decide +kernel
theorem xX11_ends_30 : dcd mX11_ends 30 = some (.iconst 0, 1, 0, 1) := by decide +kernel
theorem xX11_ends_31 : dcd mX11_ends 31 = some (.isub, 1, 0, 0) := by decide +kernel
theorem xX11_ends_32 : dcd mX11_ends 32 = some (.putfield 263, 3, 0, 0) := by decide +kernel
theorem xX11_ends_35 : dcd mX11_ends 35 = some (.goto 0, 3, 0, 0) := by decide +kernel
theorem xX11_ends_38 : dcd mX11_ends 38 = some (.return_, 1, 0, 0) := by decide +kernel
theorem xX11_factor_0 : dcd mX11_factor 0 = some (.aload 0, 1, 0, 0) := by decide +kernel
theorem xX11_factor_1 : dcd mX11_factor 1 = some (.invokevirtual 253, 3, 0, 0) := by decide +kernel
theorem xX11_factor_4 : dcd mX11_factor 4 = some (.ifCond .eq 0, 3, 23, 0) := by decide +kernel
theorem xX11_factor_7 : dcd mX11_factor 7 = some (.aload 0, 1, 0, 0) := by decide +kernel
theorem xX11_factor_8 : dcd mX11_factor 8 = some (.invokevirtual 270, 3, 0, 0) := by decide +kernel
theorem xX11_factor_11 : dcd mX11_factor 11 = some (.iconst 0, 2, 0, 91) := by decide +kernel
theorem xX11_factor_13 : dcd mX11_factor 13 = some (.if_icmp .ne 0, 3, 23, 0) := by decide +kernel
theorem xX11_factor_16 : dcd mX11_factor 16 = some (.aload 0, 1, 0, 0) := by decide +kernel
theorem xX11_factor_17 : dcd mX11_factor 17 = some (.invokevirtual 296, 3, 0, 0) := by decide +kernel
theorem xX11_factor_20 : dcd mX11_factor 20 = some (.goto 0, 3, 0, 0) := by decide +kernel
theorem xX11_factor_23 : dcd mX11_factor 23 = some (.aload 0, 1, 0, 0) := by decide +kernel
theorem xX11_factor_24 : dcd mX11_factor 24 = some (.invokevirtual 253, 3, 0, 0) := by decide +kernel
theorem xX11_factor_27 : dcd mX11_factor 27 = some (.ifCond .ne 0, 3, 31, 0) := by decide +kernel
theorem xX11_factor_30 : dcd mX11_factor 30 = some (.return_, 1, 0, 0) := by decide +kernel
theorem xX11_factor_31 : dcd mX11_factor 31 = some (.aload 0, 1, 0, 0) := by decide +kernel
theorem xX11_factor_32 : dcd mX11_factor 32 = some (.invokevirtual 281, 3, 0, 0) := by decide +kernel
theorem xX11_factor_35 : dcd mX11_factor 35 = some (.ifCond .eq 0, 3, 50, 0) := by decide +kernel
theorem xX11_factor_38 : dcd mX11_factor 38 = some (.aload 0, 1, 0, 0) := by decide +kernel
theorem xX11_factor_39 : dcd mX11_factor 39 = some (.iconst 0, 1, 0, 0) := by decide +kernel
theorem xX11_factor_40 : dcd mX11_factor 40 = some (.aload 0, 1, 0, 0) := by decide +kernel
theorem xX11_factor_41 : dcd mX11_factor 41 = some (.invokevirtual 299, 3, 0, 0) := by decide +kernel
theorem xX11_factor_44 : dcd mX11_factor 44 = some (.invokevirtual 293, 3, 0, 0) := by decide +kernel
theorem xX11_factor_47 : dcd mX11_factor 47 = some (.goto 0, 3, 91, 0) := by decide +kernel
theorem xX11_factor_50 : dcd mX11_factor 50 = some (.aload 0, 1, 0, 0) := by decide +kernel
theorem xX11_factor_51 : dcd mX11_factor 51 = some (.invokevirtual 270, 3, 0, 0) := by decide +kernel
theorem xX11_factor_54 : dcd mX11_factor 54 = some (.invokestatic 302, 3, 0, 0) := by decide +kernel
theorem xX11_factor_57 : dcd mX11_factor 57 = some (.ifCond .eq 0, 3, 82, 0) := by decide +kernel
theorem xX11_factor_60 : dcd mX11_factor 60 = some (.aload 0, 1, 0, 0) := by decide +kernel
theorem xX11_factor_61 : dcd mX11_factor 61 = some (.iconst 0, 1, 0, 1) := by decide +kernel
theorem xX11_factor_62 : dcd mX11_factor 62 = some (.aload 0, 1, 0, 0) := by decide +kernel
theorem xX11_factor_63 : dcd mX11_factor 63 = some (.invokevirtual 270, 3, 0, 0) := by decide +kernel
theorem xX11_factor_66 : dcd mX11_factor 66 = some (.invokevirtual 293, 3, 0, 0) := by decide +kernel
theorem xX11_factor_69 : dcd mX11_factor 69 = some (.aload 0, 1, 0, 0) := by decide +kernel
theorem xX11_factor_70 : dcd mX11_factor 70 = some (.dup, 1, 0, 0) := by decide +kernel
theorem xX11_factor_71 : dcd mX11_factor 71 = some (.getfield 244, 3, 0, 0) := by decide +kernel
theorem xX11_factor_74 : dcd mX11_factor 74 = some (.iconst 0, 1, 0, 1) := by decide +kernel
theorem xX11_factor_75 : dcd mX11_factor 75 = some (.iadd, 1, 0, 0) := by decide +kernel
theorem xX11_factor_76 : dcd mX11_factor 76 = some (.putfield 244, 3, 0, 0) := by decide +kernel
theorem xX11_factor_79 : dcd mX11_factor 79 = some (.goto 0, 3, 91, 0) := by decide +kernel
theorem xX11_factor_82 : dcd mX11_factor 82 = some (.aload 0, 1, 0, 0) := by decide +kernel
theorem xX11_factor_83 : dcd mX11_factor 83 = some (.iconst 0, 1, 0, 1) := by decide +kernel
theorem xX11_factor_84 : dcd mX11_factor 84 = some (.aload 0, 1, 0, 0) := by decide +kernel
theorem xX11_factor_85 : dcd mX11_factor 85 = some (.getfield 244, 3, 0, 0) := by decide +kernel
theorem xX11_factor_88 : dcd mX11_factor 88 = some (.invokevirtual 266, 3, 0, 0) := by decide +kernel
theorem xX11_factor_91 : dcd mX11_factor 91 = some (.return_, 1, 0, 0) := by decide +kernel
theorem xX11_stays_0 : dcd mX11_stays 0 = some (.aload 0, 1, 0, 0) := by decide +kernel
theorem xX11_stays_1 : dcd mX11_stays 1 = some (.invokevirtual 270, 3, 0, 0) := by decide +kernel
theorem xX11_stays_4 : dcd mX11_stays 4 = some (.istore 1, 1, 0, 0) := by decide +kernel
theorem xX11_stays_5 : dcd mX11_stays 5 = some (.iload 1, 1, 0, 0) := by decide +kernel
theorem xX11_stays_6 : dcd mX11_stays 6 = some (.invokestatic 287, 3, 0, 0) := by decide +kernel
theorem xX11_stays_9 : dcd mX11_stays 9 = some (.ifCond .ne 0, 3, 19, 0) := by decide +kernel
theorem xX11_stays_12 : dcd mX11_stays 12 = some (.iload 1, 1, 0, 0) := by decide +kernel
theorem xX11_stays_13 : dcd mX11_stays 13 = some (.invokestatic 290, 3, 0, 0) := by decide +kernel
theorem xX11_stays_16 : dcd mX11_stays 16 = some (.ifCond .eq 0, 3, 34, 0) := by decide +kernel
theorem xX11_stays_19 : dcd mX11_stays 19 = some (.aload 0, 1, 0, 0) := by decide +kernel
theorem xX11_stays_20 : dcd mX11_stays 20 = some (.iload 1, 1, 0, 0) := by decide +kernel
theorem xX11_stays_21 : dcd mX11_stays 21 = some (.invokestatic 290, 3, 0, 0) := by decide +kernel
theorem xX11_stays_24 : dcd mX11_stays 24 = some (.invokevirtual 305, 3, 0, 0) := by decide +kernel
theorem xX11_stays_27 : dcd mX11_stays 27 = some (.aload 0, 1, 0, 0) := by decide +kernel
theorem xX11_stays_28 : dcd mX11_stays 28 = some (.iload 1, 1, 0, 0) := by decide +kernel
theorem xX11_stays_29 : dcd mX11_stays 29 = some (.invokevirtual 274, 3, 0, 0) := by decide +kernel
theorem xX11_stays_32 : dcd mX11_stays 32 = some (.iconst 0, 1, 0, 1) := by decide +kernel
theorem xX11_stays_33 : dcd mX11_stays 33 = some (.ireturn, 1, 0, 0) := by decide +kernel
theorem xX11_stays_34 : dcd mX11_stays 34 = some (.aload 0, 1, 0, 0) := by decide +kernel
theorem xX11_stays_35 : dcd mX11_stays 35 = some (.iconst 0, 1, 0, 1) := by decide +kernel
theorem xX11_stays_36 : dcd mX11_stays 36 = some (.invokevirtual 305, 3, 0, 0) := by decide +kernel
theorem xX11_stays_39 : dcd mX11_stays 39 = some (.iload 1, 1, 0, 0) := by decide +kernel
theorem xX11_stays_40 : dcd mX11_stays 40 = some (.iconst 0, 2, 0, 93) := by decide +kernel
theorem xX11_stays_42 : dcd mX11_stays 42 = some (.if_icmp .eq 0, 3, 47, 0) := by decide +kernel
theorem xX11_stays_45 : dcd mX11_stays 45 = some (.iconst 0, 1, 0, 0) := by decide +kernel
theorem xX11_stays_46 : dcd mX11_stays 46 = some (.ireturn, 1, 0, 0) := by decide +kernel
theorem xX11_stays_47 : dcd mX11_stays 47 = some (.aload 0, 1, 0, 0) := by decide +kernel
theorem xX11_stays_48 : dcd mX11_stays 48 = some (.invokevirtual 284, 3, 0, 0) := by decide +kernel
theorem xX11_stays_51 : dcd mX11_stays 51 = some (.iconst 0, 2, 0, 91) := by decide +kernel
theorem xX11_stays_53 : dcd mX11_stays 53 = some (.if_icmp .eq 0, 3, 67, 0) := by decide +kernel
theorem xX11_stays_56 : dcd mX11_stays 56 = some (.aload 0, 1, 0, 0) := by decide +kernel
theorem xX11_stays_57 : dcd mX11_stays 57 = some (.iconst 0, 1, 0, 1) := by decide +kernel
theorem xX11_stays_58 : dcd mX11_stays 58 = some (.aload 0, 1, 0, 0) := by decide +kernel
theorem xX11_stays_59 : dcd mX11_stays 59 = some (.getfield 244, 3, 0, 0) := by decide +kernel
theorem xX11_stays_62 : dcd mX11_stays 62 = some (.invokevirtual 266, 3, 0, 0) := by decide +kernel
theorem xX11_stays_65 : dcd mX11_stays 65 = some (.iconst 0, 1, 0, 0) := by decide +kernel
theorem xX11_stays_66 : dcd mX11_stays 66 = some (.ireturn, 1, 0, 0) := by decide +kernel
theorem xX11_stays_67 : dcd mX11_stays 67 = some (.aload 0, 1, 0, 0) := by decide +kernel
theorem xX11_stays_68 : dcd mX11_stays 68 = some (.dup, 1, 0, 0) := by decide +kernel
theorem xX11_stays_69 : dcd mX11_stays 69 = some (.getfield 260, 3, 0, 0) := by decide +kernel
theorem xX11_stays_72 : dcd mX11_stays 72 = some (.iconst 0, 1, 0, 1) := by decide +kernel
theorem xX11_stays_73 : dcd mX11_stays 73 = some (.isub, 1, 0, 0) := by decide +kernel
theorem xX11_stays_74 : dcd mX11_stays 74 = some (.putfield 260, 3, 0, 0) := by decide +kernel
theorem xX11_stays_77 : dcd mX11_stays 77 = some (.aload 0, 1, 0, 0) := by decide +kernel
theorem xX11_stays_78 : dcd mX11_stays 78 = some (.dup, 1, 0, 0) := by decide +kernel
theorem xX11_stays_79 : dcd mX11_stays 79 = some (.getfield 263, 3, 0, 0) := by decide +kernel
theorem xX11_stays_82 : dcd mX11_stays 82 = some (.iconst 0, 1, 0, 1) := by decide +kernel
theorem xX11_stays_83 : dcd mX11_stays 83 = some (.isub, 1, 0, 0) := by decide +kernel
theorem xX11_stays_84 : dcd mX11_stays 84 = some (.putfield 263, 3, 0, 0) := by decide +kernel
theorem xX11_stays_87 : dcd mX11_stays 87 = some (.aload 0, 1, 0, 0) := by decide +kernel
theorem xX11_stays_88 : dcd mX11_stays 88 = some (.dup, 1, 0, 0) := by decide +kernel
theorem xX11_stays_89 : dcd mX11_stays 89 = some (.getfield 244, 3, 0, 0) := by decide +kernel
theorem xX11_stays_92 : dcd mX11_stays 92 = some (.iconst 0, 1, 0, 1) := by decide +kernel
theorem xX11_stays_93 : dcd mX11_stays 93 = some (.iadd, 1, 0, 0) := by decide +kernel
theorem xX11_stays_94 : dcd mX11_stays 94 = some (.putfield 244, 3, 0, 0) := by decide +kernel
theorem xX11_stays_97 : dcd mX11_stays 97 = some (.aload 0, 1, 0, 0) := by decide +kernel
theorem xX11_stays_98 : dcd mX11_stays 98 = some (.iconst 0, 1, 0, 1) := by decide +kernel
theorem xX11_stays_99 : dcd mX11_stays 99 = some (.putfield 309, 3, 0, 0) := by decide +kernel
theorem xX11_stays_102 : dcd mX11_stays 102 = some (.iconst 0, 1, 0, 1) := by decide +kernel
theorem xX11_stays_103 : dcd mX11_stays 103 = some (.ireturn, 1, 0, 0) := by decide +kernel
theorem xX11_value_0 : dcd mX11_value 0 = some (.iconst 0, 1, 0, 1) := by decide +kernel
theorem xX11_value_1 : dcd mX11_value 1 = some (.istore 1, 1, 0, 0) := by decide +kernel
theorem xX11_value_2 : dcd mX11_value 2 = some (.aload 0, 1, 0, 0) := by decide +kernel
theorem xX11_value_3 : dcd mX11_value 3 = some (.iconst 0, 1, 0, 0) := by decide +kernel
theorem xX11_value_4 : dcd mX11_value 4 = some (.putfield 309, 3, 0, 0) := by decide +kernel
theorem xX11_value_7 : dcd mX11_value 7 = some (.iload 1, 1, 0, 0) := by decide +kernel
theorem xX11_value_8 : dcd mX11_value 8 = some (.ifCond .eq 0, 3, 57, 0) := by decide +kernel
theorem xX11_value_11 : dcd mX11_value 11 = some (.aload 0, 1, 0, 0) := by decide +kernel
theorem xX11_value_12 : dcd mX11_value 12 = some (.invokevirtual 253, 3, 0, 0) := by decide +kernel
theorem xX11_value_15 : dcd mX11_value 15 = some (.ifCond .eq 0, 3, 57, 0) := by decide +kernel
theorem xX11_value_18 : dcd mX11_value 18 = some (.aload 0, 1, 0, 0) := by decide +kernel
theorem xX11_value_19 : dcd mX11_value 19 = some (.getfield 309, 3, 0, 0) := by decide +kernel
theorem xX11_value_22 : dcd mX11_value 22 = some (.ifCond .ne 0, 3, 29, 0) := by decide +kernel
theorem xX11_value_25 : dcd mX11_value 25 = some (.aload 0, 1, 0, 0) := by decide +kernel
theorem xX11_value_26 : dcd mX11_value 26 = some (.invokevirtual 313, 3, 0, 0) := by decide +kernel
theorem xX11_value_29 : dcd mX11_value 29 = some (.aload 0, 1, 0, 0) := by decide +kernel
theorem xX11_value_30 : dcd mX11_value 30 = some (.iconst 0, 1, 0, 0) := by decide +kernel
theorem xX11_value_31 : dcd mX11_value 31 = some (.putfield 309, 3, 0, 0) := by decide +kernel
theorem xX11_value_34 : dcd mX11_value 34 = some (.aload 0, 1, 0, 0) := by decide +kernel
theorem xX11_value_35 : dcd mX11_value 35 = some (.invokevirtual 253, 3, 0, 0) := by decide +kernel
theorem xX11_value_38 : dcd mX11_value 38 = some (.ifCond .eq 0, 3, 52, 0) := by decide +kernel
theorem xX11_value_41 : dcd mX11_value 41 = some (.aload 0, 1, 0, 0) := by decide +kernel
theorem xX11_value_42 : dcd mX11_value 42 = some (.invokevirtual 316, 3, 0, 0) := by decide +kernel
theorem xX11_value_45 : dcd mX11_value 45 = some (.ifCond .eq 0, 3, 52, 0) := by decide +kernel
theorem xX11_value_48 : dcd mX11_value 48 = some (.iconst 0, 1, 0, 1) := by decide +kernel
theorem xX11_value_49 : dcd mX11_value 49 = some (.goto 0, 3, 53, 0) := by decide +kernel
theorem xX11_value_52 : dcd mX11_value 52 = some (.iconst 0, 1, 0, 0) := by decide +kernel
theorem xX11_value_53 : dcd mX11_value 53 = some (.istore 1, 1, 0, 0) := by decide +kernel
theorem xX11_value_54 : dcd mX11_value 54 = some (.goto 0, 3, 7, 0) := by decide +kernel
theorem xX11_value_57 : dcd mX11_value 57 = some (.aload 0, 1, 0, 0) := by decide +kernel
theorem xX11_value_58 : dcd mX11_value 58 = some (.invokevirtual 253, 3, 0, 0) := by decide +kernel
theorem xX11_value_61 : dcd mX11_value 61 = some (.ifCond .eq 0, 3, 82, 0) := by decide +kernel
theorem xX11_value_64 : dcd mX11_value 64 = some (.aload 0, 1, 0, 0) := by decide +kernel
theorem xX11_value_65 : dcd mX11_value 65 = some (.invokevirtual 284, 3, 0, 0) := by decide +kernel
theorem xX11_value_68 : dcd mX11_value 68 = some (.iconst 0, 2, 0, 91) := by decide +kernel
theorem xX11_value_70 : dcd mX11_value 70 = some (.if_icmp .ne 0, 3, 82, 0) := by decide +kernel
theorem xX11_value_73 : dcd mX11_value 73 = some (.aload 0, 1, 0, 0) := by decide +kernel
theorem xX11_value_74 : dcd mX11_value 74 = some (.iconst 0, 1, 0, 1) := by decide +kernel
theorem xX11_value_75 : dcd mX11_value 75 = some (.aload 0, 1, 0, 0) := by decide +kernel
theorem xX11_value_76 : dcd mX11_value 76 = some (.getfield 244, 3, 0, 0) := by decide +kernel
theorem xX11_value_79 : dcd mX11_value 79 = some (.invokevirtual 266, 3, 0, 0) := by decide +kernel
theorem xX11_value_82 : dcd mX11_value 82 = some (.return_, 1, 0, 0) := by decide +kernel
theorem xX11_pieceOfC_0 : dcd mX11_pieceOfC 0 = some (.aload 0, 1, 0, 0) := by decide +kernel
theorem xX11_pieceOfC_1 : dcd mX11_pieceOfC 1 = some (.invokevirtual 253, 3, 0, 0) := by decide +kernel
theorem xX11_pieceOfC_4 : dcd mX11_pieceOfC 4 = some (.ifCond .eq 0, 3, 32, 0) := by decide +kernel
theorem xX11_pieceOfC_7 : dcd mX11_pieceOfC 7 = some (.aload 0, 1, 0, 0) := by decide +kernel
theorem xX11_pieceOfC_8 : dcd mX11_pieceOfC 8 = some (.invokevirtual 270, 3, 0, 0) := by decide +kernel
theorem xX11_pieceOfC_11 : dcd mX11_pieceOfC 11 = some (.iconst 0, 2, 0, 33) := by decide +kernel
theorem xX11_pieceOfC_13 : dcd mX11_pieceOfC 13 = some (.if_icmp .eq 0, 3, 25, 0) := by decide +kernel
theorem xX11_pieceOfC_16 : dcd mX11_pieceOfC 16 = some (.aload 0, 1, 0, 0) := by decide +kernel
theorem xX11_pieceOfC_17 : dcd mX11_pieceOfC 17 = some (.invokevirtual 270, 3, 0, 0) := by decide +kernel
theorem xX11_pieceOfC_20 : dcd mX11_pieceOfC 20 = some (.iconst 0, 2, 0, 40) := by decide +kernel
theorem xX11_pieceOfC_22 : dcd mX11_pieceOfC 22 = some (.if_icmp .ne 0, 3, 32, 0) := by decide +kernel
theorem xX11_pieceOfC_25 : dcd mX11_pieceOfC 25 = some (.aload 0, 1, 0, 0) := by decide +kernel
theorem xX11_pieceOfC_26 : dcd mX11_pieceOfC 26 = some (.invokevirtual 296, 3, 0, 0) := by decide +kernel
theorem xX11_pieceOfC_29 : dcd mX11_pieceOfC 29 = some (.goto 0, 3, 0, 0) := by decide +kernel
theorem xX11_pieceOfC_32 : dcd mX11_pieceOfC 32 = some (.aload 0, 1, 0, 0) := by decide +kernel
theorem xX11_pieceOfC_33 : dcd mX11_pieceOfC 33 = some (.invokevirtual 253, 3, 0, 0) := by decide +kernel
theorem xX11_pieceOfC_36 : dcd mX11_pieceOfC 36 = some (.ifCond .eq 0, 3, 43, 0) := by decide +kernel
theorem xX11_pieceOfC_39 : dcd mX11_pieceOfC 39 = some (.aload 0, 1, 0, 0) := by decide +kernel
theorem xX11_pieceOfC_40 : dcd mX11_pieceOfC 40 = some (.invokevirtual 319, 3, 0, 0) := by decide +kernel
theorem xX11_pieceOfC_43 : dcd mX11_pieceOfC 43 = some (.aload 0, 1, 0, 0) := by decide +kernel
theorem xX11_pieceOfC_44 : dcd mX11_pieceOfC 44 = some (.invokevirtual 253, 3, 0, 0) := by decide +kernel
theorem xX11_pieceOfC_47 : dcd mX11_pieceOfC 47 = some (.ifCond .ne 0, 3, 51, 0) := by decide +kernel
theorem xX11_pieceOfC_50 : dcd mX11_pieceOfC 50 = some (.return_, 1, 0, 0) := by decide +kernel
theorem xX11_pieceOfC_51 : dcd mX11_pieceOfC 51 = some (.aload 0, 1, 0, 0) := by decide +kernel
theorem xX11_pieceOfC_52 : dcd mX11_pieceOfC 52 = some (.invokevirtual 270, 3, 0, 0) := by decide +kernel
theorem xX11_pieceOfC_55 : dcd mX11_pieceOfC 55 = some (.istore 1, 1, 0, 0) := by decide +kernel
theorem xX11_pieceOfC_56 : dcd mX11_pieceOfC 56 = some (.iload 1, 1, 0, 0) := by decide +kernel
theorem xX11_pieceOfC_57 : dcd mX11_pieceOfC 57 = some (.invokestatic 322, 3, 0, 0) := by decide +kernel
theorem xX11_pieceOfC_60 : dcd mX11_pieceOfC 60 = some (.ifCond .ne 0, 3, 73, 0) := by decide +kernel
theorem xX11_pieceOfC_63 : dcd mX11_pieceOfC 63 = some (.aload 0, 1, 0, 0) := by decide +kernel
theorem xX11_pieceOfC_64 : dcd mX11_pieceOfC 64 = some (.iconst 0, 1, 0, 1) := by decide +kernel
theorem xX11_pieceOfC_65 : dcd mX11_pieceOfC 65 = some (.aload 0, 1, 0, 0) := by decide +kernel
theorem xX11_pieceOfC_66 : dcd mX11_pieceOfC 66 = some (.getfield 244, 3, 0, 0) := by decide +kernel
theorem xX11_pieceOfC_69 : dcd mX11_pieceOfC 69 = some (.invokevirtual 266, 3, 0, 0) := by decide +kernel
theorem xX11_pieceOfC_72 : dcd mX11_pieceOfC 72 = some (.return_, 1, 0, 0) := by decide +kernel
theorem xX11_pieceOfC_73 : dcd mX11_pieceOfC 73 = some (.aload 0, 1, 0, 0) := by decide +kernel
theorem xX11_pieceOfC_74 : dcd mX11_pieceOfC 74 = some (.iload 1, 1, 0, 0) := by decide +kernel
theorem xX11_pieceOfC_75 : dcd mX11_pieceOfC 75 = some (.invokevirtual 274, 3, 0, 0) := by decide +kernel
theorem xX11_pieceOfC_78 : dcd mX11_pieceOfC 78 = some (.aload 0, 1, 0, 0) := by decide +kernel
theorem xX11_pieceOfC_79 : dcd mX11_pieceOfC 79 = some (.invokevirtual 319, 3, 0, 0) := by decide +kernel
theorem xX11_pieceOfC_82 : dcd mX11_pieceOfC 82 = some (.aload 0, 1, 0, 0) := by decide +kernel
theorem xX11_pieceOfC_83 : dcd mX11_pieceOfC 83 = some (.invokevirtual 253, 3, 0, 0) := by decide +kernel
theorem xX11_pieceOfC_86 : dcd mX11_pieceOfC 86 = some (.ifCond .ne 0, 3, 90, 0) := by decide +kernel
theorem xX11_pieceOfC_89 : dcd mX11_pieceOfC 89 = some (.return_, 1, 0, 0) := by decide +kernel
theorem xX11_pieceOfC_90 : dcd mX11_pieceOfC 90 = some (.aload 0, 1, 0, 0) := by decide +kernel
theorem xX11_pieceOfC_91 : dcd mX11_pieceOfC 91 = some (.aload 0, 1, 0, 0) := by decide +kernel
theorem xX11_pieceOfC_92 : dcd mX11_pieceOfC 92 = some (.invokevirtual 284, 3, 0, 0) := by decide +kernel
theorem xX11_pieceOfC_95 : dcd mX11_pieceOfC 95 = some (.iconst 0, 1, 0, 0) := by decide +kernel
theorem xX11_pieceOfC_96 : dcd mX11_pieceOfC 96 = some (.invokevirtual 293, 3, 0, 0) := by decide +kernel
theorem xX11_pieceOfC_99 : dcd mX11_pieceOfC 99 = some (.aload 0, 1, 0, 0) := by decide +kernel
theorem xX11_pieceOfC_100 : dcd mX11_pieceOfC 100 = some (.dup, 1, 0, 0) := by decide +kernel
theorem xX11_pieceOfC_101 : dcd mX11_pieceOfC 101 = some (.getfield 260, 3, 0, 0) := by decide +kernel
theorem xX11_pieceOfC_104 : dcd mX11_pieceOfC 104 = some (.iconst 0, 1, 0, 1) := by decide +kernel
theorem xX11_pieceOfC_105 : dcd mX11_pieceOfC 105 = some (.isub, 1, 0, 0) := by decide +kernel
theorem xX11_pieceOfC_106 : dcd mX11_pieceOfC 106 = some (.putfield 260, 3, 0, 0) := by decide +kernel
theorem xX11_pieceOfC_109 : dcd mX11_pieceOfC 109 = some (.aload 0, 1, 0, 0) := by decide +kernel
theorem xX11_pieceOfC_110 : dcd mX11_pieceOfC 110 = some (.invokevirtual 325, 3, 0, 0) := by decide +kernel
theorem xX11_pieceOfC_113 : dcd mX11_pieceOfC 113 = some (.return_, 1, 0, 0) := by decide +kernel
theorem xX11_goesBehind_0 : dcd mX11_goesBehind 0 = some (.aload 0, 1, 0, 0) := by decide +kernel
theorem xX11_goesBehind_1 : dcd mX11_goesBehind 1 = some (.invokevirtual 270, 3, 0, 0) := by decide +kernel
theorem xX11_goesBehind_4 : dcd mX11_goesBehind 4 = some (.istore 1, 1, 0, 0) := by decide +kernel
theorem xX11_goesBehind_5 : dcd mX11_goesBehind 5 = some (.iload 1, 1, 0, 0) := by decide +kernel
theorem xX11_goesBehind_6 : dcd mX11_goesBehind 6 = some (.iconst 0, 2, 0, 38) := by decide +kernel
theorem xX11_goesBehind_8 : dcd mX11_goesBehind 8 = some (.if_icmp .eq 0, 3, 17, 0) := by decide +kernel
theorem xX11_goesBehind_11 : dcd mX11_goesBehind 11 = some (.iload 1, 1, 0, 0) := by decide +kernel
theorem xX11_goesBehind_12 : dcd mX11_goesBehind 12 = some (.iconst 0, 2, 0, 124) := by decide +kernel
theorem xX11_goesBehind_14 : dcd mX11_goesBehind 14 = some (.if_icmp .ne 0, 3, 39, 0) := by decide +kernel
theorem xX11_goesBehind_17 : dcd mX11_goesBehind 17 = some (.aload 0, 1, 0, 0) := by decide +kernel
theorem xX11_goesBehind_18 : dcd mX11_goesBehind 18 = some (.iload 1, 1, 0, 0) := by decide +kernel
theorem xX11_goesBehind_19 : dcd mX11_goesBehind 19 = some (.iconst 0, 2, 0, 124) := by decide +kernel
theorem xX11_goesBehind_21 : dcd mX11_goesBehind 21 = some (.if_icmp .ne 0, 3, 28, 0) := by decide +kernel
theorem xX11_goesBehind_24 : dcd mX11_goesBehind 24 = some (.iconst 0, 1, 0, 1) := by decide +kernel
theorem xX11_goesBehind_25 : dcd mX11_goesBehind 25 = some (.goto 0, 3, 29, 0) := by decide +kernel
theorem xX11_goesBehind_28 : dcd mX11_goesBehind 28 = some (.iconst 0, 1, 0, 0) := by decide +kernel
theorem xX11_goesBehind_29 : dcd mX11_goesBehind 29 = some (.invokevirtual 328, 3, 0, 0) := by decide +kernel
theorem xX11_goesBehind_32 : dcd mX11_goesBehind 32 = some (.aload 0, 1, 0, 0) := by decide +kernel
theorem xX11_goesBehind_33 : dcd mX11_goesBehind 33 = some (.iload 1, 1, 0, 0) := by decide +kernel
theorem xX11_goesBehind_34 : dcd mX11_goesBehind 34 = some (.invokevirtual 274, 3, 0, 0) := by decide +kernel
theorem xX11_goesBehind_37 : dcd mX11_goesBehind 37 = some (.iconst 0, 1, 0, 1) := by decide +kernel
theorem xX11_goesBehind_38 : dcd mX11_goesBehind 38 = some (.ireturn, 1, 0, 0) := by decide +kernel
theorem xX11_goesBehind_39 : dcd mX11_goesBehind 39 = some (.iload 1, 1, 0, 0) := by decide +kernel
theorem xX11_goesBehind_40 : dcd mX11_goesBehind 40 = some (.iconst 0, 2, 0, 41) := by decide +kernel
theorem xX11_goesBehind_42 : dcd mX11_goesBehind 42 = some (.if_icmp .eq 0, 3, 56, 0) := by decide +kernel
theorem xX11_goesBehind_45 : dcd mX11_goesBehind 45 = some (.aload 0, 1, 0, 0) := by decide +kernel
theorem xX11_goesBehind_46 : dcd mX11_goesBehind 46 = some (.iconst 0, 1, 0, 1) := by decide +kernel
theorem xX11_goesBehind_47 : dcd mX11_goesBehind 47 = some (.aload 0, 1, 0, 0) := by decide +kernel
theorem xX11_goesBehind_48 : dcd mX11_goesBehind 48 = some (.getfield 244, 3, 0, 0) := by decide +kernel
theorem xX11_goesBehind_51 : dcd mX11_goesBehind 51 = some (.invokevirtual 266, 3, 0, 0) := by decide +kernel
theorem xX11_goesBehind_54 : dcd mX11_goesBehind 54 = some (.iconst 0, 1, 0, 0) := by decide +kernel
theorem xX11_goesBehind_55 : dcd mX11_goesBehind 55 = some (.ireturn, 1, 0, 0) := by decide +kernel
theorem xX11_goesBehind_56 : dcd mX11_goesBehind 56 = some (.aload 0, 1, 0, 0) := by decide +kernel
theorem xX11_goesBehind_57 : dcd mX11_goesBehind 57 = some (.iconst 0, 1, 0, 1) := by decide +kernel
theorem xX11_goesBehind_58 : dcd mX11_goesBehind 58 = some (.invokevirtual 328, 3, 0, 0) := by decide +kernel
theorem xX11_goesBehind_61 : dcd mX11_goesBehind 61 = some (.aload 0, 1, 0, 0) := by decide +kernel
theorem xX11_goesBehind_62 : dcd mX11_goesBehind 62 = some (.dup, 1, 0, 0) := by decide +kernel
theorem xX11_goesBehind_63 : dcd mX11_goesBehind 63 = some (.getfield 260, 3, 0, 0) := by decide +kernel
theorem xX11_goesBehind_66 : dcd mX11_goesBehind 66 = some (.iconst 0, 1, 0, 1) := by decide +kernel
theorem xX11_goesBehind_67 : dcd mX11_goesBehind 67 = some (.isub, 1, 0, 0) := by decide +kernel
theorem xX11_goesBehind_68 : dcd mX11_goesBehind 68 = some (.putfield 260, 3, 0, 0) := by decide +kernel
theorem xX11_goesBehind_71 : dcd mX11_goesBehind 71 = some (.aload 0, 1, 0, 0) := by decide +kernel
theorem xX11_goesBehind_72 : dcd mX11_goesBehind 72 = some (.dup, 1, 0, 0) := by decide +kernel
theorem xX11_goesBehind_73 : dcd mX11_goesBehind 73 = some (.getfield 263, 3, 0, 0) := by decide +kernel
theorem xX11_goesBehind_76 : dcd mX11_goesBehind 76 = some (.iconst 0, 1, 0, 1) := by decide +kernel
theorem xX11_goesBehind_77 : dcd mX11_goesBehind 77 = some (.isub, 1, 0, 0) := by decide +kernel
theorem xX11_goesBehind_78 : dcd mX11_goesBehind 78 = some (.putfield 263, 3, 0, 0) := by decide +kernel
theorem xX11_goesBehind_81 : dcd mX11_goesBehind 81 = some (.aload 0, 1, 0, 0) := by decide +kernel
theorem xX11_goesBehind_82 : dcd mX11_goesBehind 82 = some (.dup, 1, 0, 0) := by decide +kernel
theorem xX11_goesBehind_83 : dcd mX11_goesBehind 83 = some (.getfield 244, 3, 0, 0) := by decide +kernel
theorem xX11_goesBehind_86 : dcd mX11_goesBehind 86 = some (.iconst 0, 1, 0, 1) := by decide +kernel
theorem xX11_goesBehind_87 : dcd mX11_goesBehind 87 = some (.iadd, 1, 0, 0) := by decide +kernel
theorem xX11_goesBehind_88 : dcd mX11_goesBehind 88 = some (.putfield 244, 3, 0, 0) := by decide +kernel
theorem xX11_goesBehind_91 : dcd mX11_goesBehind 91 = some (.aload 0, 1, 0, 0) := by decide +kernel
theorem xX11_goesBehind_92 : dcd mX11_goesBehind 92 = some (.aload 0, 1, 0, 0) := by decide +kernel
theorem xX11_goesBehind_93 : dcd mX11_goesBehind 93 = some (.getfield 260, 3, 0, 0) := by decide +kernel
theorem xX11_goesBehind_96 : dcd mX11_goesBehind 96 = some (.ifCond .ne 0, 3, 103, 0) := by decide +kernel
theorem xX11_goesBehind_99 : dcd mX11_goesBehind 99 = some (.iconst 0, 1, 0, 1) := by decide +kernel
theorem xX11_goesBehind_100 : dcd mX11_goesBehind 100 = some (.goto 0, 3, 104, 0) := by decide +kernel
theorem xX11_goesBehind_103 : dcd mX11_goesBehind 103 = some (.iconst 0, 1, 0, 0) := by decide +kernel
theorem xX11_goesBehind_104 : dcd mX11_goesBehind 104 = some (.putfield 331, 3, 0, 0) := by decide +kernel
theorem xX11_goesBehind_107 : dcd mX11_goesBehind 107 = some (.aload 0, 1, 0, 0) := by decide +kernel
theorem xX11_goesBehind_108 : dcd mX11_goesBehind 108 = some (.getfield 331, 3, 0, 0) := by decide +kernel
theorem xX11_goesBehind_111 : dcd mX11_goesBehind 111 = some (.ifCond .ne 0, 3, 118, 0) := by decide +kernel
theorem xX11_goesBehind_114 : dcd mX11_goesBehind 114 = some (.aload 0, 1, 0, 0) := by decide +kernel
theorem xX11_goesBehind_115 : dcd mX11_goesBehind 115 = some (.invokevirtual 325, 3, 0, 0) := by decide +kernel
theorem xX11_goesBehind_118 : dcd mX11_goesBehind 118 = some (.iconst 0, 1, 0, 0) := by decide +kernel
theorem xX11_goesBehind_119 : dcd mX11_goesBehind 119 = some (.ireturn, 1, 0, 0) := by decide +kernel
theorem xX11_condition_0 : dcd mX11_condition 0 = some (.aload 0, 1, 0, 0) := by decide +kernel
theorem xX11_condition_1 : dcd mX11_condition 1 = some (.iconst 0, 1, 0, 0) := by decide +kernel
theorem xX11_condition_2 : dcd mX11_condition 2 = some (.putfield 331, 3, 0, 0) := by decide +kernel
theorem xX11_condition_5 : dcd mX11_condition 5 = some (.aload 0, 1, 0, 0) := by decide +kernel
theorem xX11_condition_6 : dcd mX11_condition 6 = some (.invokevirtual 270, 3, 0, 0) := by decide +kernel
theorem xX11_condition_9 : dcd mX11_condition 9 = some (.iconst 0, 2, 0, 40) := by decide +kernel
theorem xX11_condition_11 : dcd mX11_condition 11 = some (.if_icmp .eq 0, 3, 23, 0) := by decide +kernel
theorem xX11_condition_14 : dcd mX11_condition 14 = some (.aload 0, 1, 0, 0) := by decide +kernel
theorem xX11_condition_15 : dcd mX11_condition 15 = some (.iconst 0, 1, 0, 1) := by decide +kernel
theorem xX11_condition_16 : dcd mX11_condition 16 = some (.aload 0, 1, 0, 0) := by decide +kernel
theorem xX11_condition_17 : dcd mX11_condition 17 = some (.getfield 244, 3, 0, 0) := by decide +kernel
theorem xX11_condition_20 : dcd mX11_condition 20 = some (.invokevirtual 266, 3, 0, 0) := by decide +kernel
theorem xX11_condition_23 : dcd mX11_condition 23 = some (.aload 0, 1, 0, 0) := by decide +kernel
theorem xX11_condition_24 : dcd mX11_condition 24 = some (.invokevirtual 253, 3, 0, 0) := by decide +kernel
theorem xX11_condition_27 : dcd mX11_condition 27 = some (.ifCond .ne 0, 3, 31, 0) := by decide +kernel
theorem xX11_condition_30 : dcd mX11_condition 30 = some (.return_, 1, 0, 0) := by decide +kernel
theorem xX11_condition_31 : dcd mX11_condition 31 = some (.aload 0, 1, 0, 0) := by decide +kernel
theorem xX11_condition_32 : dcd mX11_condition 32 = some (.invokevirtual 296, 3, 0, 0) := by decide +kernel
theorem xX11_condition_35 : dcd mX11_condition 35 = some (.iconst 0, 1, 0, 1) := by decide +kernel
theorem xX11_condition_36 : dcd mX11_condition 36 = some (.istore 1, 1, 0, 0) := by decide +kernel
theorem xX11_condition_37 : dcd mX11_condition 37 = some (.aload 0, 1, 0, 0) := by decide +kernel
theorem xX11_condition_38 : dcd mX11_condition 38 = some (.invokevirtual 253, 3, 0, 0) := by decide +kernel
theorem xX11_condition_41 : dcd mX11_condition 41 = some (.ifCond .eq 0, 3, 74, 0) := by decide +kernel
theorem xX11_condition_44 : dcd mX11_condition 44 = some (.aload 0, 1, 0, 0) := by decide +kernel
theorem xX11_condition_45 : dcd mX11_condition 45 = some (.getfield 331, 3, 0, 0) := by decide +kernel
theorem xX11_condition_48 : dcd mX11_condition 48 = some (.ifCond .ne 0, 3, 74, 0) := by decide +kernel
theorem xX11_condition_51 : dcd mX11_condition 51 = some (.iload 1, 1, 0, 0) := by decide +kernel
theorem xX11_condition_52 : dcd mX11_condition 52 = some (.ifCond .eq 0, 3, 59, 0) := by decide +kernel
theorem xX11_condition_55 : dcd mX11_condition 55 = some (.aload 0, 1, 0, 0) := by decide +kernel
theorem xX11_condition_56 : dcd mX11_condition 56 = some (.invokevirtual 334, 3, 0, 0) := by decide +kernel
theorem xX11_condition_59 : dcd mX11_condition 59 = some (.aload 0, 1, 0, 0) := by decide +kernel
theorem xX11_condition_60 : dcd mX11_condition 60 = some (.invokevirtual 253, 3, 0, 0) := by decide +kernel
theorem xX11_condition_63 : dcd mX11_condition 63 = some (.ifCond .eq 0, 3, 37, 0) := by decide +kernel
theorem xX11_condition_66 : dcd mX11_condition 66 = some (.aload 0, 1, 0, 0) := by decide +kernel
theorem xX11_condition_67 : dcd mX11_condition 67 = some (.invokevirtual 337, 3, 0, 0) := by decide +kernel
theorem xX11_condition_70 : dcd mX11_condition 70 = some (.istore 1, 1, 0, 0) := by decide +kernel
theorem xX11_condition_71 : dcd mX11_condition 71 = some (.goto 0, 3, 37, 0) := by decide +kernel
theorem xX11_condition_74 : dcd mX11_condition 74 = some (.return_, 1, 0, 0) := by decide +kernel
theorem xX11_clause_0 : dcd mX11_clause 0 = some (.aload 0, 1, 0, 0) := by decide +kernel
theorem xX11_clause_1 : dcd mX11_clause 1 = some (.invokevirtual 270, 3, 0, 0) := by decide +kernel
theorem xX11_clause_4 : dcd mX11_clause 4 = some (.istore 1, 1, 0, 0) := by decide +kernel
theorem xX11_clause_5 : dcd mX11_clause 5 = some (.iload 1, 1, 0, 0) := by decide +kernel
theorem xX11_clause_6 : dcd mX11_clause 6 = some (.iconst 0, 2, 0, 103) := by decide +kernel
theorem xX11_clause_8 : dcd mX11_clause 8 = some (.if_icmp .eq 0, 3, 29, 0) := by decide +kernel
theorem xX11_clause_11 : dcd mX11_clause 11 = some (.iload 1, 1, 0, 0) := by decide +kernel
theorem xX11_clause_12 : dcd mX11_clause 12 = some (.iconst 0, 2, 0, 112) := by decide +kernel
theorem xX11_clause_14 : dcd mX11_clause 14 = some (.if_icmp .eq 0, 3, 29, 0) := by decide +kernel
theorem xX11_clause_17 : dcd mX11_clause 17 = some (.aload 0, 1, 0, 0) := by decide +kernel
theorem xX11_clause_18 : dcd mX11_clause 18 = some (.iconst 0, 1, 0, 1) := by decide +kernel
theorem xX11_clause_19 : dcd mX11_clause 19 = some (.aload 0, 1, 0, 0) := by decide +kernel
theorem xX11_clause_20 : dcd mX11_clause 20 = some (.getfield 244, 3, 0, 0) := by decide +kernel
theorem xX11_clause_23 : dcd mX11_clause 23 = some (.invokevirtual 266, 3, 0, 0) := by decide +kernel
theorem xX11_clause_26 : dcd mX11_clause 26 = some (.goto 0, 3, 47, 0) := by decide +kernel
theorem xX11_clause_29 : dcd mX11_clause 29 = some (.aload 0, 1, 0, 0) := by decide +kernel
theorem xX11_clause_30 : dcd mX11_clause 30 = some (.getfield 340, 3, 0, 0) := by decide +kernel
theorem xX11_clause_33 : dcd mX11_clause 33 = some (.iconst 0, 2, 0, 14) := by decide +kernel
theorem xX11_clause_35 : dcd mX11_clause 35 = some (.if_icmp .ne 0, 3, 47, 0) := by decide +kernel
theorem xX11_clause_38 : dcd mX11_clause 38 = some (.aload 0, 1, 0, 0) := by decide +kernel
theorem xX11_clause_39 : dcd mX11_clause 39 = some (.iconst 0, 1, 0, 4) := by decide +kernel
theorem xX11_clause_40 : dcd mX11_clause 40 = some (.aload 0, 1, 0, 0) := by decide +kernel
theorem xX11_clause_41 : dcd mX11_clause 41 = some (.getfield 244, 3, 0, 0) := by decide +kernel
theorem xX11_clause_44 : dcd mX11_clause 44 = some (.invokevirtual 266, 3, 0, 0) := by decide +kernel
theorem xX11_clause_47 : dcd mX11_clause 47 = some (.aload 0, 1, 0, 0) := by decide +kernel
theorem xX11_clause_48 : dcd mX11_clause 48 = some (.invokevirtual 253, 3, 0, 0) := by decide +kernel
theorem xX11_clause_51 : dcd mX11_clause 51 = some (.ifCond .ne 0, 3, 55, 0) := by decide +kernel
theorem xX11_clause_54 : dcd mX11_clause 54 = some (.return_, 1, 0, 0) := by decide +kernel
theorem xX11_clause_55 : dcd mX11_clause 55 = some (.aload 0, 1, 0, 0) := by decide +kernel
theorem xX11_clause_56 : dcd mX11_clause 56 = some (.getfield 76, 3, 0, 0) := by decide +kernel
theorem xX11_clause_59 : dcd mX11_clause 59 = some (.aload 0, 1, 0, 0) := by decide +kernel
theorem xX11_clause_60 : dcd mX11_clause 60 = some (.getfield 340, 3, 0, 0) := by decide +kernel
theorem xX11_clause_63 : dcd mX11_clause 63 = some (.iload 1, 1, 0, 0) := by decide +kernel
theorem xX11_clause_64 : dcd mX11_clause 64 = some (.iastore, 1, 0, 0) := by decide +kernel
theorem xX11_clause_65 : dcd mX11_clause 65 = some (.aload 0, 1, 0, 0) := by decide +kernel
theorem xX11_clause_66 : dcd mX11_clause 66 = some (.getfield 79, 3, 0, 0) := by decide +kernel
theorem xX11_clause_69 : dcd mX11_clause 69 = some (.aload 0, 1, 0, 0) := by decide +kernel
theorem xX11_clause_70 : dcd mX11_clause 70 = some (.getfield 340, 3, 0, 0) := by decide +kernel
theorem xX11_clause_73 : dcd mX11_clause 73 = some (.aload 0, 1, 0, 0) := by decide +kernel
theorem xX11_clause_74 : dcd mX11_clause 74 = some (.getfield 257, 3, 0, 0) := by decide +kernel
theorem xX11_clause_77 : dcd mX11_clause 77 = some (.iastore, 1, 0, 0) := by decide +kernel
theorem xX11_clause_78 : dcd mX11_clause 78 = some (.aload 0, 1, 0, 0) := by decide +kernel
theorem xX11_clause_79 : dcd mX11_clause 79 = some (.dup, 1, 0, 0) := by decide +kernel
theorem xX11_clause_80 : dcd mX11_clause 80 = some (.getfield 244, 3, 0, 0) := by decide +kernel
theorem xX11_clause_83 : dcd mX11_clause 83 = some (.iconst 0, 1, 0, 1) := by decide +kernel
theorem xX11_clause_84 : dcd mX11_clause 84 = some (.iadd, 1, 0, 0) := by decide +kernel
theorem xX11_clause_85 : dcd mX11_clause 85 = some (.putfield 244, 3, 0, 0) := by decide +kernel
theorem xX11_clause_88 : dcd mX11_clause 88 = some (.aload 0, 1, 0, 0) := by decide +kernel
theorem xX11_clause_89 : dcd mX11_clause 89 = some (.iconst 0, 1, 0, 0) := by decide +kernel
theorem xX11_clause_90 : dcd mX11_clause 90 = some (.putfield 260, 3, 0, 0) := by decide +kernel
theorem xX11_clause_93 : dcd mX11_clause 93 = some (.aload 0, 1, 0, 0) := by decide +kernel
theorem xX11_clause_94 : dcd mX11_clause 94 = some (.iconst 0, 1, 0, 0) := by decide +kernel
theorem xX11_clause_95 : dcd mX11_clause 95 = some (.putfield 263, 3, 0, 0) := by decide +kernel
theorem xX11_clause_98 : dcd mX11_clause 98 = some (.aload 0, 1, 0, 0) := by decide +kernel
theorem xX11_clause_99 : dcd mX11_clause 99 = some (.invokevirtual 319, 3, 0, 0) := by decide +kernel
theorem xX11_clause_102 : dcd mX11_clause 102 = some (.aload 0, 1, 0, 0) := by decide +kernel
theorem xX11_clause_103 : dcd mX11_clause 103 = some (.getfield 82, 3, 0, 0) := by decide +kernel
theorem xX11_clause_106 : dcd mX11_clause 106 = some (.aload 0, 1, 0, 0) := by decide +kernel
theorem xX11_clause_107 : dcd mX11_clause 107 = some (.getfield 340, 3, 0, 0) := by decide +kernel
theorem xX11_clause_110 : dcd mX11_clause 110 = some (.aload 0, 1, 0, 0) := by decide +kernel
theorem xX11_clause_111 : dcd mX11_clause 111 = some (.getfield 257, 3, 0, 0) := by decide +kernel
theorem xX11_clause_114 : dcd mX11_clause 114 = some (.iastore, 1, 0, 0) := by decide +kernel
theorem xX11_clause_115 : dcd mX11_clause 115 = some (.aload 0, 1, 0, 0) := by decide +kernel
theorem xX11_clause_116 : dcd mX11_clause 116 = some (.invokevirtual 253, 3, 0, 0) := by decide +kernel
theorem xX11_clause_119 : dcd mX11_clause 119 = some (.ifCond .eq 0, 3, 126, 0) := by decide +kernel
theorem xX11_clause_122 : dcd mX11_clause 122 = some (.aload 0, 1, 0, 0) := by decide +kernel
theorem xX11_clause_123 : dcd mX11_clause 123 = some (.invokevirtual 343, 3, 0, 0) := by decide +kernel
theorem xX11_clause_126 : dcd mX11_clause 126 = some (.aload 0, 1, 0, 0) := by decide +kernel
theorem xX11_clause_127 : dcd mX11_clause 127 = some (.getfield 85, 3, 0, 0) := by decide +kernel
theorem xX11_clause_130 : dcd mX11_clause 130 = some (.aload 0, 1, 0, 0) := by decide +kernel
theorem xX11_clause_131 : dcd mX11_clause 131 = some (.getfield 340, 3, 0, 0) := by decide +kernel
theorem xX11_clause_134 : dcd mX11_clause 134 = some (.aload 0, 1, 0, 0) := by decide +kernel
theorem xX11_clause_135 : dcd mX11_clause 135 = some (.getfield 257, 3, 0, 0) := by decide +kernel
theorem xX11_clause_138 : dcd mX11_clause 138 = some (.iastore, 1, 0, 0) := by decide +kernel
theorem xX11_clause_139 : dcd mX11_clause 139 = some (.aload 0, 1, 0, 0) := by decide +kernel
theorem xX11_clause_140 : dcd mX11_clause 140 = some (.dup, 1, 0, 0) := by decide +kernel
theorem xX11_clause_141 : dcd mX11_clause 141 = some (.getfield 340, 3, 0, 0) := by decide +kernel
theorem xX11_clause_144 : dcd mX11_clause 144 = some (.iconst 0, 1, 0, 1) := by decide +kernel
theorem xX11_clause_145 : dcd mX11_clause 145 = some (.iadd, 1, 0, 0) := by decide +kernel
theorem xX11_clause_146 : dcd mX11_clause 146 = some (.putfield 340, 3, 0, 0) := by decide +kernel
theorem xX11_clause_149 : dcd mX11_clause 149 = some (.return_, 1, 0, 0) := by decide +kernel
theorem xX11_law_0 : dcd mX11_law 0 = some (.iload 1, 1, 0, 0) := by decide +kernel
theorem xX11_law_1 : dcd mX11_law 1 = some (.i2l, 1, 0, 0) := by decide +kernel
theorem xX11_law_2 : dcd mX11_law 2 = some (.lconst 1, 1, 0, 0) := by decide +kernel
theorem xX11_law_3 : dcd mX11_law 3 = some (.ldc2_w 346, 3, 0, 0) := by decide +kernel
theorem xX11_law_6 : dcd mX11_law 6 = some (.invokestatic 203, 3, 0, 0) := by decide +kernel
theorem xX11_law_9 : dcd mX11_law 9 = some (.ifCond .eq 0, 3, 20, 0) := by decide +kernel
theorem xX11_law_12 : dcd mX11_law 12 = some (.iload 1, 1, 0, 0) := by decide +kernel
theorem xX11_law_13 : dcd mX11_law 13 = some (.aload 0, 1, 0, 0) := by decide +kernel
theorem xX11_law_14 : dcd mX11_law 14 = some (.getfield 237, 3, 0, 0) := by decide +kernel
theorem xX11_law_17 : dcd mX11_law 17 = some (.if_icmp .le 0, 3, 22, 0) := by decide +kernel
theorem xX11_law_20 : dcd mX11_law 20 = some (.iconst 0, 1, 0, (-1)) := by decide +kernel
theorem xX11_law_21 : dcd mX11_law 21 = some (.ireturn, 1, 0, 0) := by decide +kernel
theorem xX11_law_22 : dcd mX11_law 22 = some (.aload 0, 1, 0, 0) := by decide +kernel
theorem xX11_law_23 : dcd mX11_law 23 = some (.iconst 0, 1, 0, 0) := by decide +kernel
theorem xX11_law_24 : dcd mX11_law 24 = some (.putfield 237, 3, 0, 0) := by decide +kernel
theorem xX11_law_27 : dcd mX11_law 27 = some (.aload 0, 1, 0, 0) := by decide +kernel
theorem xX11_law_28 : dcd mX11_law 28 = some (.iconst 0, 1, 0, 0) := by decide +kernel
theorem xX11_law_29 : dcd mX11_law 29 = some (.putfield 244, 3, 0, 0) := by decide +kernel
theorem xX11_law_32 : dcd mX11_law 32 = some (.aload 0, 1, 0, 0) := by decide +kernel
theorem xX11_law_33 : dcd mX11_law 33 = some (.iload 1, 1, 0, 0) := by decide +kernel
theorem xX11_law_34 : dcd mX11_law 34 = some (.putfield 247, 3, 0, 0) := by decide +kernel
theorem xX11_law_37 : dcd mX11_law 37 = some (.aload 0, 1, 0, 0) := by decide +kernel
theorem xX11_law_38 : dcd mX11_law 38 = some (.iconst 0, 1, 0, 0) := by decide +kernel
theorem xX11_law_39 : dcd mX11_law 39 = some (.putfield 250, 3, 0, 0) := by decide +kernel
theorem xX11_law_42 : dcd mX11_law 42 = some (.aload 0, 1, 0, 0) := by decide +kernel
theorem xX11_law_43 : dcd mX11_law 43 = some (.iconst 0, 1, 0, 0) := by decide +kernel
theorem xX11_law_44 : dcd mX11_law 44 = some (.putfield 340, 3, 0, 0) := by decide +kernel
theorem xX11_law_47 : dcd mX11_law 47 = some (.aload 0, 1, 0, 0) := by decide +kernel
theorem xX11_law_48 : dcd mX11_law 48 = some (.iconst 0, 1, 0, 0) := by decide +kernel
theorem xX11_law_49 : dcd mX11_law 49 = some (.putfield 257, 3, 0, 0) := by decide +kernel
theorem xX11_law_52 : dcd mX11_law 52 = some (.iconst 0, 1, 0, 1) := by decide +kernel
theorem xX11_law_53 : dcd mX11_law 53 = some (.istore 2, 1, 0, 0) := by decide +kernel
theorem xX11_law_54 : dcd mX11_law 54 = some (.iload 2, 1, 0, 0) := by decide +kernel
theorem xX11_law_55 : dcd mX11_law 55 = some (.ifCond .eq 0, 3, 128, 0) := by decide +kernel
theorem xX11_law_58 : dcd mX11_law 58 = some (.aload 0, 1, 0, 0) := by decide +kernel
theorem xX11_law_59 : dcd mX11_law 59 = some (.invokevirtual 253, 3, 0, 0) := by decide +kernel
theorem xX11_law_62 : dcd mX11_law 62 = some (.ifCond .eq 0, 3, 128, 0) := by decide +kernel
theorem xX11_law_65 : dcd mX11_law 65 = some (.aload 0, 1, 0, 0) := by decide +kernel
theorem xX11_law_66 : dcd mX11_law 66 = some (.invokevirtual 348, 3, 0, 0) := by decide +kernel
theorem xX11_law_69 : dcd mX11_law 69 = some (.aload 0, 1, 0, 0) := by decide +kernel
theorem xX11_law_70 : dcd mX11_law 70 = some (.invokevirtual 253, 3, 0, 0) := by decide +kernel
theorem xX11_law_73 : dcd mX11_law 73 = some (.ifCond .eq 0, 3, 91, 0) := by decide +kernel
theorem xX11_law_76 : dcd mX11_law 76 = some (.aload 0, 1, 0, 0) := by decide +kernel
theorem xX11_law_77 : dcd mX11_law 77 = some (.getfield 244, 3, 0, 0) := by decide +kernel
theorem xX11_law_80 : dcd mX11_law 80 = some (.aload 0, 1, 0, 0) := by decide +kernel
theorem xX11_law_81 : dcd mX11_law 81 = some (.getfield 247, 3, 0, 0) := by decide +kernel
theorem xX11_law_84 : dcd mX11_law 84 = some (.if_icmp .ge 0, 3, 91, 0) := by decide +kernel
theorem xX11_law_87 : dcd mX11_law 87 = some (.iconst 0, 1, 0, 1) := by decide +kernel
theorem xX11_law_88 : dcd mX11_law 88 = some (.goto 0, 3, 92, 0) := by decide +kernel
theorem xX11_law_91 : dcd mX11_law 91 = some (.iconst 0, 1, 0, 0) := by decide +kernel
theorem xX11_law_92 : dcd mX11_law 92 = some (.istore 2, 1, 0, 0) := by decide +kernel
theorem xX11_law_93 : dcd mX11_law 93 = some (.iload 2, 1, 0, 0) := by decide +kernel
theorem xX11_law_94 : dcd mX11_law 94 = some (.ifCond .eq 0, 3, 54, 0) := by decide +kernel
theorem xX11_law_97 : dcd mX11_law 97 = some (.aload 0, 1, 0, 0) := by decide +kernel
theorem xX11_law_98 : dcd mX11_law 98 = some (.invokevirtual 270, 3, 0, 0) := by decide +kernel
theorem xX11_law_101 : dcd mX11_law 101 = some (.iconst 0, 2, 0, 59) := by decide +kernel
theorem xX11_law_103 : dcd mX11_law 103 = some (.if_icmp .eq 0, 3, 115, 0) := by decide +kernel
theorem xX11_law_106 : dcd mX11_law 106 = some (.aload 0, 1, 0, 0) := by decide +kernel
theorem xX11_law_107 : dcd mX11_law 107 = some (.iconst 0, 1, 0, 1) := by decide +kernel
theorem xX11_law_108 : dcd mX11_law 108 = some (.aload 0, 1, 0, 0) := by decide +kernel
theorem xX11_law_109 : dcd mX11_law 109 = some (.getfield 244, 3, 0, 0) := by decide +kernel
theorem xX11_law_112 : dcd mX11_law 112 = some (.invokevirtual 266, 3, 0, 0) := by decide +kernel
theorem xX11_law_115 : dcd mX11_law 115 = some (.aload 0, 1, 0, 0) := by decide +kernel
theorem xX11_law_116 : dcd mX11_law 116 = some (.dup, 1, 0, 0) := by decide +kernel
theorem xX11_law_117 : dcd mX11_law 117 = some (.getfield 244, 3, 0, 0) := by decide +kernel
theorem xX11_law_120 : dcd mX11_law 120 = some (.iconst 0, 1, 0, 1) := by decide +kernel
theorem xX11_law_121 : dcd mX11_law 121 = some (.iadd, 1, 0, 0) := by decide +kernel
theorem xX11_law_122 : dcd mX11_law 122 = some (.putfield 244, 3, 0, 0) := by decide +kernel
theorem xX11_law_125 : dcd mX11_law 125 = some (.goto 0, 3, 54, 0) := by decide +kernel
theorem xX11_law_128 : dcd mX11_law 128 = some (.aload 0, 1, 0, 0) := by decide +kernel
theorem xX11_law_129 : dcd mX11_law 129 = some (.getfield 250, 3, 0, 0) := by decide +kernel
theorem xX11_law_132 : dcd mX11_law 132 = some (.ifCond .ge 0, 3, 140, 0) := by decide +kernel
theorem xX11_law_135 : dcd mX11_law 135 = some (.aload 0, 1, 0, 0) := by decide +kernel
theorem xX11_law_136 : dcd mX11_law 136 = some (.getfield 250, 3, 0, 0) := by decide +kernel
theorem xX11_law_139 : dcd mX11_law 139 = some (.ireturn, 1, 0, 0) := by decide +kernel
theorem xX11_law_140 : dcd mX11_law 140 = some (.iconst 0, 1, 0, 0) := by decide +kernel
theorem xX11_law_141 : dcd mX11_law 141 = some (.istore 3, 1, 0, 0) := by decide +kernel
theorem xX11_law_142 : dcd mX11_law 142 = some (.iload 3, 1, 0, 0) := by decide +kernel
theorem xX11_law_143 : dcd mX11_law 143 = some (.aload 0, 1, 0, 0) := by decide +kernel
theorem xX11_law_144 : dcd mX11_law 144 = some (.getfield 340, 3, 0, 0) := by decide +kernel
theorem xX11_law_147 : dcd mX11_law 147 = some (.if_icmp .ge 0, 3, 204, 0) := by decide +kernel
theorem xX11_law_150 : dcd mX11_law 150 = some (.aload 0, 1, 0, 0) := by decide +kernel
theorem xX11_law_151 : dcd mX11_law 151 = some (.getfield 58, 3, 0, 0) := by decide +kernel
theorem xX11_law_154 : dcd mX11_law 154 = some (.iload 3, 1, 0, 0) := by decide +kernel
theorem xX11_law_155 : dcd mX11_law 155 = some (.aload 0, 1, 0, 0) := by decide +kernel
theorem xX11_law_156 : dcd mX11_law 156 = some (.getfield 76, 3, 0, 0) := by decide +kernel
theorem xX11_law_159 : dcd mX11_law 159 = some (.iload 3, 1, 0, 0) := by decide +kernel
theorem xX11_law_160 : dcd mX11_law 160 = some (.iaload, 1, 0, 0) := by decide +kernel
theorem xX11_law_161 : dcd mX11_law 161 = some (.iastore, 1, 0, 0) := by decide +kernel
theorem xX11_law_162 : dcd mX11_law 162 = some (.aload 0, 1, 0, 0) := by decide +kernel
theorem xX11_law_163 : dcd mX11_law 163 = some (.getfield 61, 3, 0, 0) := by decide +kernel
theorem xX11_law_166 : dcd mX11_law 166 = some (.iload 3, 1, 0, 0) := by decide +kernel
theorem xX11_law_167 : dcd mX11_law 167 = some (.aload 0, 1, 0, 0) := by decide +kernel
theorem xX11_law_168 : dcd mX11_law 168 = some (.getfield 79, 3, 0, 0) := by decide +kernel
theorem xX11_law_171 : dcd mX11_law 171 = some (.iload 3, 1, 0, 0) := by decide +kernel
theorem xX11_law_172 : dcd mX11_law 172 = some (.iaload, 1, 0, 0) := by decide +kernel
theorem xX11_law_173 : dcd mX11_law 173 = some (.iastore, 1, 0, 0) := by decide +kernel
theorem xX11_law_174 : dcd mX11_law 174 = some (.aload 0, 1, 0, 0) := by decide +kernel
theorem xX11_law_175 : dcd mX11_law 175 = some (.getfield 64, 3, 0, 0) := by decide +kernel
theorem xX11_law_178 : dcd mX11_law 178 = some (.iload 3, 1, 0, 0) := by decide +kernel
theorem xX11_law_179 : dcd mX11_law 179 = some (.aload 0, 1, 0, 0) := by decide +kernel
theorem xX11_law_180 : dcd mX11_law 180 = some (.getfield 82, 3, 0, 0) := by decide +kernel
theorem xX11_law_183 : dcd mX11_law 183 = some (.iload 3, 1, 0, 0) := by decide +kernel
theorem xX11_law_184 : dcd mX11_law 184 = some (.iaload, 1, 0, 0) := by decide +kernel
theorem xX11_law_185 : dcd mX11_law 185 = some (.iastore, 1, 0, 0) := by decide +kernel
theorem xX11_law_186 : dcd mX11_law 186 = some (.aload 0, 1, 0, 0) := by decide +kernel
theorem xX11_law_187 : dcd mX11_law 187 = some (.getfield 67, 3, 0, 0) := by decide +kernel
theorem xX11_law_190 : dcd mX11_law 190 = some (.iload 3, 1, 0, 0) := by decide +kernel
theorem xX11_law_191 : dcd mX11_law 191 = some (.aload 0, 1, 0, 0) := by decide +kernel
theorem xX11_law_192 : dcd mX11_law 192 = some (.getfield 85, 3, 0, 0) := by decide +kernel
theorem xX11_law_195 : dcd mX11_law 195 = some (.iload 3, 1, 0, 0) := by decide +kernel
theorem xX11_law_196 : dcd mX11_law 196 = some (.iaload, 1, 0, 0) := by decide +kernel
theorem xX11_law_197 : dcd mX11_law 197 = some (.iastore, 1, 0, 0) := by decide +kernel
theorem xX11_law_198 : dcd mX11_law 198 = some (.iinc 3 0, 3, 0, 1) := by decide +kernel
theorem xX11_law_201 : dcd mX11_law 201 = some (.goto 0, 3, 142, 0) := by decide +kernel
theorem xX11_law_204 : dcd mX11_law 204 = some (.iconst 0, 1, 0, 0) := by decide +kernel
theorem xX11_law_205 : dcd mX11_law 205 = some (.istore 3, 1, 0, 0) := by decide +kernel
theorem xX11_law_206 : dcd mX11_law 206 = some (.iload 3, 1, 0, 0) := by decide +kernel
theorem xX11_law_207 : dcd mX11_law 207 = some (.aload 0, 1, 0, 0) := by decide +kernel
theorem xX11_law_208 : dcd mX11_law 208 = some (.getfield 257, 3, 0, 0) := by decide +kernel
theorem xX11_law_211 : dcd mX11_law 211 = some (.if_icmp .ge 0, 3, 244, 0) := by decide +kernel
theorem xX11_law_214 : dcd mX11_law 214 = some (.aload 0, 1, 0, 0) := by decide +kernel
theorem xX11_law_215 : dcd mX11_law 215 = some (.getfield 70, 3, 0, 0) := by decide +kernel
theorem xX11_law_218 : dcd mX11_law 218 = some (.iload 3, 1, 0, 0) := by decide +kernel
theorem xX11_law_219 : dcd mX11_law 219 = some (.aload 0, 1, 0, 0) := by decide +kernel
theorem xX11_law_220 : dcd mX11_law 220 = some (.getfield 88, 3, 0, 0) := by decide +kernel
theorem xX11_law_223 : dcd mX11_law 223 = some (.iload 3, 1, 0, 0) := by decide +kernel
theorem xX11_law_224 : dcd mX11_law 224 = some (.iaload, 1, 0, 0) := by decide +kernel
theorem xX11_law_225 : dcd mX11_law 225 = some (.iastore, 1, 0, 0) := by decide +kernel
theorem xX11_law_226 : dcd mX11_law 226 = some (.aload 0, 1, 0, 0) := by decide +kernel
theorem xX11_law_227 : dcd mX11_law 227 = some (.getfield 73, 3, 0, 0) := by decide +kernel
theorem xX11_law_230 : dcd mX11_law 230 = some (.iload 3, 1, 0, 0) := by decide +kernel
theorem xX11_law_231 : dcd mX11_law 231 = some (.aload 0, 1, 0, 0) := by decide +kernel
theorem xX11_law_232 : dcd mX11_law 232 = some (.getfield 91, 3, 0, 0) := by decide +kernel
theorem xX11_law_235 : dcd mX11_law 235 = some (.iload 3, 1, 0, 0) := by decide +kernel
theorem xX11_law_236 : dcd mX11_law 236 = some (.iaload, 1, 0, 0) := by decide +kernel
theorem xX11_law_237 : dcd mX11_law 237 = some (.iastore, 1, 0, 0) := by decide +kernel
theorem xX11_law_238 : dcd mX11_law 238 = some (.iinc 3 0, 3, 0, 1) := by decide +kernel
theorem xX11_law_241 : dcd mX11_law 241 = some (.goto 0, 3, 206, 0) := by decide +kernel
theorem xX11_law_244 : dcd mX11_law 244 = some (.aload 0, 1, 0, 0) := by decide +kernel
theorem xX11_law_245 : dcd mX11_law 245 = some (.aload 0, 1, 0, 0) := by decide +kernel
theorem xX11_law_246 : dcd mX11_law 246 = some (.getfield 340, 3, 0, 0) := by decide +kernel
theorem xX11_law_249 : dcd mX11_law 249 = some (.putfield 351, 3, 0, 0) := by decide +kernel
theorem xX11_law_252 : dcd mX11_law 252 = some (.aload 0, 1, 0, 0) := by decide +kernel
theorem xX11_law_253 : dcd mX11_law 253 = some (.getfield 351, 3, 0, 0) := by decide +kernel
theorem xX11_law_256 : dcd mX11_law 256 = some (.ireturn, 1, 0, 0) := by decide +kernel
theorem xX11_valueOf_0 : dcd mX11_valueOf 0 = some (.iload 1, 1, 0, 0) := by decide +kernel
theorem xX11_valueOf_1 : dcd mX11_valueOf 1 = some (.lookupswitch 132 #[(97, 89), (99, 69), (108, 59), (111, 79), (114, 99), (119, 109)], 59, 0, 0) := by decide +kernel
theorem xX11_valueOf_60 : dcd mX11_valueOf 60 = some (.aload 0, 1, 0, 0) := by decide +kernel
theorem xX11_valueOf_61 : dcd mX11_valueOf 61 = some (.getfield 43, 3, 0, 0) := by decide +kernel
theorem xX11_valueOf_64 : dcd mX11_valueOf 64 = some (.aload 0, 1, 0, 0) := by decide +kernel
theorem xX11_valueOf_65 : dcd mX11_valueOf 65 = some (.getfield 354, 3, 0, 0) := by decide +kernel
theorem xX11_valueOf_68 : dcd mX11_valueOf 68 = some (.iaload, 1, 0, 0) := by decide +kernel
theorem xX11_valueOf_69 : dcd mX11_valueOf 69 = some (.ireturn, 1, 0, 0) := by decide +kernel
theorem xX11_valueOf_70 : dcd mX11_valueOf 70 = some (.aload 0, 1, 0, 0) := by decide +kernel
theorem xX11_valueOf_71 : dcd mX11_valueOf 71 = some (.getfield 46, 3, 0, 0) := by decide +kernel
theorem xX11_valueOf_74 : dcd mX11_valueOf 74 = some (.aload 0, 1, 0, 0) := by decide +kernel
theorem xX11_valueOf_75 : dcd mX11_valueOf 75 = some (.getfield 354, 3, 0, 0) := by decide +kernel
theorem xX11_valueOf_78 : dcd mX11_valueOf 78 = some (.iaload, 1, 0, 0) := by decide +kernel
theorem xX11_valueOf_79 : dcd mX11_valueOf 79 = some (.ireturn, 1, 0, 0) := by decide +kernel
theorem xX11_valueOf_80 : dcd mX11_valueOf 80 = some (.aload 0, 1, 0, 0) := by decide +kernel
theorem xX11_valueOf_81 : dcd mX11_valueOf 81 = some (.getfield 49, 3, 0, 0) := by decide +kernel
theorem xX11_valueOf_84 : dcd mX11_valueOf 84 = some (.aload 0, 1, 0, 0) := by decide +kernel
theorem xX11_valueOf_85 : dcd mX11_valueOf 85 = some (.getfield 354, 3, 0, 0) := by decide +kernel
theorem xX11_valueOf_88 : dcd mX11_valueOf 88 = some (.iaload, 1, 0, 0) := by decide +kernel
theorem xX11_valueOf_89 : dcd mX11_valueOf 89 = some (.ireturn, 1, 0, 0) := by decide +kernel
theorem xX11_valueOf_90 : dcd mX11_valueOf 90 = some (.aload 0, 1, 0, 0) := by decide +kernel
theorem xX11_valueOf_91 : dcd mX11_valueOf 91 = some (.getfield 40, 3, 0, 0) := by decide +kernel
theorem xX11_valueOf_94 : dcd mX11_valueOf 94 = some (.aload 0, 1, 0, 0) := by decide +kernel
theorem xX11_valueOf_95 : dcd mX11_valueOf 95 = some (.getfield 354, 3, 0, 0) := by decide +kernel
theorem xX11_valueOf_98 : dcd mX11_valueOf 98 = some (.iaload, 1, 0, 0) := by decide +kernel
theorem xX11_valueOf_99 : dcd mX11_valueOf 99 = some (.ireturn, 1, 0, 0) := by decide +kernel
theorem xX11_valueOf_100 : dcd mX11_valueOf 100 = some (.aload 0, 1, 0, 0) := by decide +kernel
theorem xX11_valueOf_101 : dcd mX11_valueOf 101 = some (.getfield 37, 3, 0, 0) := by decide +kernel
theorem xX11_valueOf_104 : dcd mX11_valueOf 104 = some (.aload 0, 1, 0, 0) := by decide +kernel
theorem xX11_valueOf_105 : dcd mX11_valueOf 105 = some (.getfield 354, 3, 0, 0) := by decide +kernel
theorem xX11_valueOf_108 : dcd mX11_valueOf 108 = some (.iaload, 1, 0, 0) := by decide +kernel
theorem xX11_valueOf_109 : dcd mX11_valueOf 109 = some (.ireturn, 1, 0, 0) := by decide +kernel
theorem xX11_valueOf_110 : dcd mX11_valueOf 110 = some (.aload 0, 1, 0, 0) := by decide +kernel
theorem xX11_valueOf_111 : dcd mX11_valueOf 111 = some (.getfield 34, 3, 0, 0) := by decide +kernel
theorem xX11_valueOf_114 : dcd mX11_valueOf 114 = some (.aload 0, 1, 0, 0) := by decide +kernel
theorem xX11_valueOf_115 : dcd mX11_valueOf 115 = some (.getfield 37, 3, 0, 0) := by decide +kernel
theorem xX11_valueOf_118 : dcd mX11_valueOf 118 = some (.aload 0, 1, 0, 0) := by decide +kernel
theorem xX11_valueOf_119 : dcd mX11_valueOf 119 = some (.getfield 354, 3, 0, 0) := by decide +kernel
theorem xX11_valueOf_122 : dcd mX11_valueOf 122 = some (.iaload, 1, 0, 0) := by decide +kernel
theorem xX11_valueOf_123 : dcd mX11_valueOf 123 = some (.baload, 1, 0, 0) := by decide +kernel
theorem xX11_valueOf_124 : dcd mX11_valueOf 124 = some (.ifCond .eq 0, 3, 131, 0) := by decide +kernel
theorem xX11_valueOf_127 : dcd mX11_valueOf 127 = some (.iconst 0, 1, 0, 1) := by decide +kernel
theorem xX11_valueOf_128 : dcd mX11_valueOf 128 = some (.goto 0, 3, 132, 0) := by decide +kernel
theorem xX11_valueOf_131 : dcd mX11_valueOf 131 = some (.iconst 0, 1, 0, 0) := by decide +kernel
theorem xX11_valueOf_132 : dcd mX11_valueOf 132 = some (.ireturn, 1, 0, 0) := by decide +kernel
theorem xX11_valueOf_133 : dcd mX11_valueOf 133 = some (.aload 0, 1, 0, 0) := by decide +kernel
theorem xX11_valueOf_134 : dcd mX11_valueOf 134 = some (.getfield 234, 3, 0, 0) := by decide +kernel
theorem xX11_valueOf_137 : dcd mX11_valueOf 137 = some (.ireturn, 1, 0, 0) := by decide +kernel
theorem xX11_worked_0 : dcd mX11_worked 0 = some (.iload 0, 1, 0, 0) := by decide +kernel
theorem xX11_worked_1 : dcd mX11_worked 1 = some (.lookupswitch 125 #[(37, 91), (42, 75), (43, 67), (45, 71), (47, 79), (60, 103), (62, 114)], 67, 0, 0) := by decide +kernel
theorem xX11_worked_68 : dcd mX11_worked 68 = some (.iload 1, 1, 0, 0) := by decide +kernel
theorem xX11_worked_69 : dcd mX11_worked 69 = some (.iload 2, 1, 0, 0) := by decide +kernel
theorem xX11_worked_70 : dcd mX11_worked 70 = some (.iadd, 1, 0, 0) := by decide +kernel
theorem xX11_worked_71 : dcd mX11_worked 71 = some (.ireturn, 1, 0, 0) := by decide +kernel
theorem xX11_worked_72 : dcd mX11_worked 72 = some (.iload 1, 1, 0, 0) := by decide +kernel
theorem xX11_worked_73 : dcd mX11_worked 73 = some (.iload 2, 1, 0, 0) := by decide +kernel
theorem xX11_worked_74 : dcd mX11_worked 74 = some (.isub, 1, 0, 0) := by decide +kernel
theorem xX11_worked_75 : dcd mX11_worked 75 = some (.ireturn, 1, 0, 0) := by decide +kernel
theorem xX11_worked_76 : dcd mX11_worked 76 = some (.iload 1, 1, 0, 0) := by decide +kernel
theorem xX11_worked_77 : dcd mX11_worked 77 = some (.iload 2, 1, 0, 0) := by decide +kernel
theorem xX11_worked_78 : dcd mX11_worked 78 = some (.imul, 1, 0, 0) := by decide +kernel
theorem xX11_worked_79 : dcd mX11_worked 79 = some (.ireturn, 1, 0, 0) := by decide +kernel
theorem xX11_worked_80 : dcd mX11_worked 80 = some (.iload 2, 1, 0, 0) := by decide +kernel
theorem xX11_worked_81 : dcd mX11_worked 81 = some (.ifCond .ne 0, 3, 88, 0) := by decide +kernel
theorem xX11_worked_84 : dcd mX11_worked 84 = some (.iconst 0, 1, 0, 0) := by decide +kernel
theorem xX11_worked_85 : dcd mX11_worked 85 = some (.goto 0, 3, 91, 0) := by decide +kernel
theorem xX11_worked_88 : dcd mX11_worked 88 = some (.iload 1, 1, 0, 0) := by decide +kernel
theorem xX11_worked_89 : dcd mX11_worked 89 = some (.iload 2, 1, 0, 0) := by decide +kernel
theorem xX11_worked_90 : dcd mX11_worked 90 = some (.idiv, 1, 0, 0) := by decide +kernel
theorem xX11_worked_91 : dcd mX11_worked 91 = some (.ireturn, 1, 0, 0) := by decide +kernel
theorem xX11_worked_92 : dcd mX11_worked 92 = some (.iload 2, 1, 0, 0) := by decide +kernel
theorem xX11_worked_93 : dcd mX11_worked 93 = some (.ifCond .ne 0, 3, 100, 0) := by decide +kernel
theorem xX11_worked_96 : dcd mX11_worked 96 = some (.iconst 0, 1, 0, 0) := by decide +kernel
theorem xX11_worked_97 : dcd mX11_worked 97 = some (.goto 0, 3, 103, 0) := by decide +kernel
theorem xX11_worked_100 : dcd mX11_worked 100 = some (.iload 1, 1, 0, 0) := by decide +kernel
theorem xX11_worked_101 : dcd mX11_worked 101 = some (.iload 2, 1, 0, 0) := by decide +kernel
theorem xX11_worked_102 : dcd mX11_worked 102 = some (.irem, 1, 0, 0) := by decide +kernel
theorem xX11_worked_103 : dcd mX11_worked 103 = some (.ireturn, 1, 0, 0) := by decide +kernel
theorem xX11_worked_104 : dcd mX11_worked 104 = some (.iload 1, 1, 0, 0) := by decide +kernel
theorem xX11_worked_105 : dcd mX11_worked 105 = some (.iload 2, 1, 0, 0) := by decide +kernel
theorem xX11_worked_106 : dcd mX11_worked 106 = some (.if_icmp .ge 0, 3, 113, 0) := by decide +kernel
theorem xX11_worked_109 : dcd mX11_worked 109 = some (.iconst 0, 1, 0, 1) := by decide +kernel
theorem xX11_worked_110 : dcd mX11_worked 110 = some (.goto 0, 3, 114, 0) := by decide +kernel
theorem xX11_worked_113 : dcd mX11_worked 113 = some (.iconst 0, 1, 0, 0) := by decide +kernel
theorem xX11_worked_114 : dcd mX11_worked 114 = some (.ireturn, 1, 0, 0) := by decide +kernel
theorem xX11_worked_115 : dcd mX11_worked 115 = some (.iload 1, 1, 0, 0) := by decide +kernel
theorem xX11_worked_116 : dcd mX11_worked 116 = some (.iload 2, 1, 0, 0) := by decide +kernel
theorem xX11_worked_117 : dcd mX11_worked 117 = some (.if_icmp .le 0, 3, 124, 0) := by decide +kernel
theorem xX11_worked_120 : dcd mX11_worked 120 = some (.iconst 0, 1, 0, 1) := by decide +kernel
theorem xX11_worked_121 : dcd mX11_worked 121 = some (.goto 0, 3, 125, 0) := by decide +kernel
theorem xX11_worked_124 : dcd mX11_worked 124 = some (.iconst 0, 1, 0, 0) := by decide +kernel
theorem xX11_worked_125 : dcd mX11_worked 125 = some (.ireturn, 1, 0, 0) := by decide +kernel
theorem xX11_worked_126 : dcd mX11_worked 126 = some (.iload 1, 1, 0, 0) := by decide +kernel
theorem xX11_worked_127 : dcd mX11_worked 127 = some (.iload 2, 1, 0, 0) := by decide +kernel
theorem xX11_worked_128 : dcd mX11_worked 128 = some (.if_icmp .ne 0, 3, 135, 0) := by decide +kernel
theorem xX11_worked_131 : dcd mX11_worked 131 = some (.iconst 0, 1, 0, 1) := by decide +kernel
theorem xX11_worked_132 : dcd mX11_worked 132 = some (.goto 0, 3, 136, 0) := by decide +kernel
theorem xX11_worked_135 : dcd mX11_worked 135 = some (.iconst 0, 1, 0, 0) := by decide +kernel
theorem xX11_worked_136 : dcd mX11_worked 136 = some (.ireturn, 1, 0, 0) := by decide +kernel
theorem xX11_does_0 : dcd mX11_does 0 = some (.iload 2, 1, 0, 0) := by decide +kernel
theorem xX11_does_1 : dcd mX11_does 1 = some (.iconst 0, 1, 0, 1) := by decide +kernel
theorem xX11_does_2 : dcd mX11_does 2 = some (.iadd, 1, 0, 0) := by decide +kernel
theorem xX11_does_3 : dcd mX11_does 3 = some (.istore 3, 1, 0, 0) := by decide +kernel
theorem xX11_does_4 : dcd mX11_does 4 = some (.iload 1, 1, 0, 0) := by decide +kernel
theorem xX11_does_5 : dcd mX11_does 5 = some (.iconst 0, 2, 0, 38) := by decide +kernel
theorem xX11_does_7 : dcd mX11_does 7 = some (.if_icmp .eq 0, 3, 16, 0) := by decide +kernel
theorem xX11_does_10 : dcd mX11_does 10 = some (.iload 1, 1, 0, 0) := by decide +kernel
theorem xX11_does_11 : dcd mX11_does 11 = some (.iconst 0, 2, 0, 124) := by decide +kernel
theorem xX11_does_13 : dcd mX11_does 13 = some (.if_icmp .ne 0, 3, 71, 0) := by decide +kernel
theorem xX11_does_16 : dcd mX11_does 16 = some (.aload 0, 1, 0, 0) := by decide +kernel
theorem xX11_does_17 : dcd mX11_does 17 = some (.getfield 100, 3, 0, 0) := by decide +kernel
theorem xX11_does_20 : dcd mX11_does 20 = some (.iload 2, 1, 0, 0) := by decide +kernel
theorem xX11_does_21 : dcd mX11_does 21 = some (.baload, 1, 0, 0) := by decide +kernel
theorem xX11_does_22 : dcd mX11_does 22 = some (.ifCond .ne 0, 3, 45, 0) := by decide +kernel
theorem xX11_does_25 : dcd mX11_does 25 = some (.aload 0, 1, 0, 0) := by decide +kernel
theorem xX11_does_26 : dcd mX11_does 26 = some (.getfield 97, 3, 0, 0) := by decide +kernel
theorem xX11_does_29 : dcd mX11_does 29 = some (.iload 2, 1, 0, 0) := by decide +kernel
theorem xX11_does_30 : dcd mX11_does 30 = some (.iaload, 1, 0, 0) := by decide +kernel
theorem xX11_does_31 : dcd mX11_does 31 = some (.iload 1, 1, 0, 0) := by decide +kernel
theorem xX11_does_32 : dcd mX11_does 32 = some (.iconst 0, 2, 0, 38) := by decide +kernel
theorem xX11_does_34 : dcd mX11_does 34 = some (.if_icmp .ne 0, 3, 41, 0) := by decide +kernel
theorem xX11_does_37 : dcd mX11_does 37 = some (.iconst 0, 1, 0, 1) := by decide +kernel
theorem xX11_does_38 : dcd mX11_does 38 = some (.goto 0, 3, 42, 0) := by decide +kernel
theorem xX11_does_41 : dcd mX11_does 41 = some (.iconst 0, 1, 0, 0) := by decide +kernel
theorem xX11_does_42 : dcd mX11_does 42 = some (.if_icmp .eq 0, 3, 46, 0) := by decide +kernel
theorem xX11_does_45 : dcd mX11_does 45 = some (.return_, 1, 0, 0) := by decide +kernel
theorem xX11_does_46 : dcd mX11_does 46 = some (.aload 0, 1, 0, 0) := by decide +kernel
theorem xX11_does_47 : dcd mX11_does 47 = some (.getfield 97, 3, 0, 0) := by decide +kernel
theorem xX11_does_50 : dcd mX11_does 50 = some (.iload 2, 1, 0, 0) := by decide +kernel
theorem xX11_does_51 : dcd mX11_does 51 = some (.aload 0, 1, 0, 0) := by decide +kernel
theorem xX11_does_52 : dcd mX11_does 52 = some (.getfield 97, 3, 0, 0) := by decide +kernel
theorem xX11_does_55 : dcd mX11_does 55 = some (.iload 3, 1, 0, 0) := by decide +kernel
theorem xX11_does_56 : dcd mX11_does 56 = some (.iaload, 1, 0, 0) := by decide +kernel
theorem xX11_does_57 : dcd mX11_does 57 = some (.iastore, 1, 0, 0) := by decide +kernel
theorem xX11_does_58 : dcd mX11_does 58 = some (.aload 0, 1, 0, 0) := by decide +kernel
theorem xX11_does_59 : dcd mX11_does 59 = some (.getfield 100, 3, 0, 0) := by decide +kernel
theorem xX11_does_62 : dcd mX11_does 62 = some (.iload 2, 1, 0, 0) := by decide +kernel
theorem xX11_does_63 : dcd mX11_does 63 = some (.aload 0, 1, 0, 0) := by decide +kernel
theorem xX11_does_64 : dcd mX11_does 64 = some (.getfield 100, 3, 0, 0) := by decide +kernel
theorem xX11_does_67 : dcd mX11_does 67 = some (.iload 3, 1, 0, 0) := by decide +kernel
theorem xX11_does_68 : dcd mX11_does 68 = some (.baload, 1, 0, 0) := by decide +kernel
theorem xX11_does_69 : dcd mX11_does 69 = some (.bastore, 1, 0, 0) := by decide +kernel
theorem xX11_does_70 : dcd mX11_does 70 = some (.return_, 1, 0, 0) := by decide +kernel
theorem xX11_does_71 : dcd mX11_does 71 = some (.aload 0, 1, 0, 0) := by decide +kernel
theorem xX11_does_72 : dcd mX11_does 72 = some (.getfield 100, 3, 0, 0) := by decide +kernel
theorem xX11_does_75 : dcd mX11_does 75 = some (.iload 2, 1, 0, 0) := by decide +kernel
theorem xX11_does_76 : dcd mX11_does 76 = some (.aload 0, 1, 0, 0) := by decide +kernel
theorem xX11_does_77 : dcd mX11_does 77 = some (.getfield 100, 3, 0, 0) := by decide +kernel
theorem xX11_does_80 : dcd mX11_does 80 = some (.iload 2, 1, 0, 0) := by decide +kernel
theorem xX11_does_81 : dcd mX11_does 81 = some (.baload, 1, 0, 0) := by decide +kernel
theorem xX11_does_82 : dcd mX11_does 82 = some (.ifCond .ne 0, 3, 115, 0) := by decide +kernel
theorem xX11_does_85 : dcd mX11_does 85 = some (.aload 0, 1, 0, 0) := by decide +kernel
theorem xX11_does_86 : dcd mX11_does 86 = some (.getfield 100, 3, 0, 0) := by decide +kernel
theorem xX11_does_89 : dcd mX11_does 89 = some (.iload 3, 1, 0, 0) := by decide +kernel
theorem xX11_does_90 : dcd mX11_does 90 = some (.baload, 1, 0, 0) := by decide +kernel
theorem xX11_does_91 : dcd mX11_does 91 = some (.ifCond .ne 0, 3, 115, 0) := by decide +kernel
theorem xX11_does_94 : dcd mX11_does 94 = some (.iload 1, 1, 0, 0) := by decide +kernel
theorem xX11_does_95 : dcd mX11_does 95 = some (.iconst 0, 2, 0, 47) := by decide +kernel
theorem xX11_does_97 : dcd mX11_does 97 = some (.if_icmp .eq 0, 3, 106, 0) := by decide +kernel
theorem xX11_does_100 : dcd mX11_does 100 = some (.iload 1, 1, 0, 0) := by decide +kernel
theorem xX11_does_101 : dcd mX11_does 101 = some (.iconst 0, 2, 0, 37) := by decide +kernel
theorem xX11_does_103 : dcd mX11_does 103 = some (.if_icmp .ne 0, 3, 119, 0) := by decide +kernel
theorem xX11_does_106 : dcd mX11_does 106 = some (.aload 0, 1, 0, 0) := by decide +kernel
theorem xX11_does_107 : dcd mX11_does 107 = some (.getfield 97, 3, 0, 0) := by decide +kernel
theorem xX11_does_110 : dcd mX11_does 110 = some (.iload 3, 1, 0, 0) := by decide +kernel
theorem xX11_does_111 : dcd mX11_does 111 = some (.iaload, 1, 0, 0) := by decide +kernel
theorem xX11_does_112 : dcd mX11_does 112 = some (.ifCond .ne 0, 3, 119, 0) := by decide +kernel
theorem xX11_does_115 : dcd mX11_does 115 = some (.iconst 0, 1, 0, 1) := by decide +kernel
theorem xX11_does_116 : dcd mX11_does 116 = some (.goto 0, 3, 120, 0) := by decide +kernel
theorem xX11_does_119 : dcd mX11_does 119 = some (.iconst 0, 1, 0, 0) := by decide +kernel
theorem xX11_does_120 : dcd mX11_does 120 = some (.bastore, 1, 0, 0) := by decide +kernel
theorem xX11_does_121 : dcd mX11_does 121 = some (.aload 0, 1, 0, 0) := by decide +kernel
theorem xX11_does_122 : dcd mX11_does 122 = some (.getfield 97, 3, 0, 0) := by decide +kernel
theorem xX11_does_125 : dcd mX11_does 125 = some (.iload 2, 1, 0, 0) := by decide +kernel
theorem xX11_does_126 : dcd mX11_does 126 = some (.iload 1, 1, 0, 0) := by decide +kernel
theorem xX11_does_127 : dcd mX11_does 127 = some (.aload 0, 1, 0, 0) := by decide +kernel
theorem xX11_does_128 : dcd mX11_does 128 = some (.getfield 97, 3, 0, 0) := by decide +kernel
theorem xX11_does_131 : dcd mX11_does 131 = some (.iload 2, 1, 0, 0) := by decide +kernel
theorem xX11_does_132 : dcd mX11_does 132 = some (.iaload, 1, 0, 0) := by decide +kernel
theorem xX11_does_133 : dcd mX11_does 133 = some (.aload 0, 1, 0, 0) := by decide +kernel
theorem xX11_does_134 : dcd mX11_does 134 = some (.getfield 97, 3, 0, 0) := by decide +kernel
theorem xX11_does_137 : dcd mX11_does 137 = some (.iload 3, 1, 0, 0) := by decide +kernel
theorem xX11_does_138 : dcd mX11_does 138 = some (.iaload, 1, 0, 0) := by decide +kernel
theorem xX11_does_139 : dcd mX11_does 139 = some (.invokestatic 357, 3, 0, 0) := by decide +kernel
theorem xX11_does_142 : dcd mX11_does 142 = some (.iastore, 1, 0, 0) := by decide +kernel
theorem xX11_does_143 : dcd mX11_does 143 = some (.return_, 1, 0, 0) := by decide +kernel
theorem xX11_works_0 : dcd mX11_works 0 = some (.iconst 0, 1, 0, 0) := by decide +kernel
theorem xX11_works_1 : dcd mX11_works 1 = some (.istore 3, 1, 0, 0) := by decide +kernel
theorem xX11_works_2 : dcd mX11_works 2 = some (.iload 1, 1, 0, 0) := by decide +kernel
theorem xX11_works_3 : dcd mX11_works 3 = some (.istore 4, 2, 0, 0) := by decide +kernel
theorem xX11_works_5 : dcd mX11_works 5 = some (.iload 4, 2, 0, 0) := by decide +kernel
theorem xX11_works_7 : dcd mX11_works 7 = some (.iload 2, 1, 0, 0) := by decide +kernel
theorem xX11_works_8 : dcd mX11_works 8 = some (.if_icmp .ge 0, 3, 127, 0) := by decide +kernel
theorem xX11_works_11 : dcd mX11_works 11 = some (.aload 0, 1, 0, 0) := by decide +kernel
theorem xX11_works_12 : dcd mX11_works 12 = some (.getfield 70, 3, 0, 0) := by decide +kernel
theorem xX11_works_15 : dcd mX11_works 15 = some (.iload 4, 2, 0, 0) := by decide +kernel
theorem xX11_works_17 : dcd mX11_works 17 = some (.iaload, 1, 0, 0) := by decide +kernel
theorem xX11_works_18 : dcd mX11_works 18 = some (.iconst 0, 1, 0, 2) := by decide +kernel
theorem xX11_works_19 : dcd mX11_works 19 = some (.if_icmp .le 0, 3, 42, 0) := by decide +kernel
theorem xX11_works_22 : dcd mX11_works 22 = some (.iinc 3 0, 3, 0, (-1)) := by decide +kernel
theorem xX11_works_25 : dcd mX11_works 25 = some (.aload 0, 1, 0, 0) := by decide +kernel
theorem xX11_works_26 : dcd mX11_works 26 = some (.aload 0, 1, 0, 0) := by decide +kernel
theorem xX11_works_27 : dcd mX11_works 27 = some (.getfield 70, 3, 0, 0) := by decide +kernel
theorem xX11_works_30 : dcd mX11_works 30 = some (.iload 4, 2, 0, 0) := by decide +kernel
theorem xX11_works_32 : dcd mX11_works 32 = some (.iaload, 1, 0, 0) := by decide +kernel
theorem xX11_works_33 : dcd mX11_works 33 = some (.iload 3, 1, 0, 0) := by decide +kernel
theorem xX11_works_34 : dcd mX11_works 34 = some (.iconst 0, 1, 0, 1) := by decide +kernel
theorem xX11_works_35 : dcd mX11_works 35 = some (.isub, 1, 0, 0) := by decide +kernel
theorem xX11_works_36 : dcd mX11_works 36 = some (.invokevirtual 361, 3, 0, 0) := by decide +kernel
theorem xX11_works_39 : dcd mX11_works 39 = some (.goto 0, 3, 121, 0) := by decide +kernel
theorem xX11_works_42 : dcd mX11_works 42 = some (.aload 0, 1, 0, 0) := by decide +kernel
theorem xX11_works_43 : dcd mX11_works 43 = some (.getfield 70, 3, 0, 0) := by decide +kernel
theorem xX11_works_46 : dcd mX11_works 46 = some (.iload 4, 2, 0, 0) := by decide +kernel
theorem xX11_works_48 : dcd mX11_works 48 = some (.iaload, 1, 0, 0) := by decide +kernel
theorem xX11_works_49 : dcd mX11_works 49 = some (.iconst 0, 1, 0, 2) := by decide +kernel
theorem xX11_works_50 : dcd mX11_works 50 = some (.if_icmp .ne 0, 3, 74, 0) := by decide +kernel
theorem xX11_works_53 : dcd mX11_works 53 = some (.aload 0, 1, 0, 0) := by decide +kernel
theorem xX11_works_54 : dcd mX11_works 54 = some (.getfield 97, 3, 0, 0) := by decide +kernel
theorem xX11_works_57 : dcd mX11_works 57 = some (.iload 3, 1, 0, 0) := by decide +kernel
theorem xX11_works_58 : dcd mX11_works 58 = some (.iconst 0, 1, 0, 1) := by decide +kernel
theorem xX11_works_59 : dcd mX11_works 59 = some (.isub, 1, 0, 0) := by decide +kernel
theorem xX11_works_60 : dcd mX11_works 60 = some (.iconst 0, 1, 0, 1) := by decide +kernel
theorem xX11_works_61 : dcd mX11_works 61 = some (.aload 0, 1, 0, 0) := by decide +kernel
theorem xX11_works_62 : dcd mX11_works 62 = some (.getfield 97, 3, 0, 0) := by decide +kernel
theorem xX11_works_65 : dcd mX11_works 65 = some (.iload 3, 1, 0, 0) := by decide +kernel
theorem xX11_works_66 : dcd mX11_works 66 = some (.iconst 0, 1, 0, 1) := by decide +kernel
theorem xX11_works_67 : dcd mX11_works 67 = some (.isub, 1, 0, 0) := by decide +kernel
theorem xX11_works_68 : dcd mX11_works 68 = some (.iaload, 1, 0, 0) := by decide +kernel
theorem xX11_works_69 : dcd mX11_works 69 = some (.isub, 1, 0, 0) := by decide +kernel
theorem xX11_works_70 : dcd mX11_works 70 = some (.iastore, 1, 0, 0) := by decide +kernel
theorem xX11_works_71 : dcd mX11_works 71 = some (.goto 0, 3, 121, 0) := by decide +kernel
theorem xX11_works_74 : dcd mX11_works 74 = some (.aload 0, 1, 0, 0) := by decide +kernel
theorem xX11_works_75 : dcd mX11_works 75 = some (.getfield 100, 3, 0, 0) := by decide +kernel
theorem xX11_works_78 : dcd mX11_works 78 = some (.iload 3, 1, 0, 0) := by decide +kernel
theorem xX11_works_79 : dcd mX11_works 79 = some (.iconst 0, 1, 0, 0) := by decide +kernel
theorem xX11_works_80 : dcd mX11_works 80 = some (.bastore, 1, 0, 0) := by decide +kernel
theorem xX11_works_81 : dcd mX11_works 81 = some (.aload 0, 1, 0, 0) := by decide +kernel
theorem xX11_works_82 : dcd mX11_works 82 = some (.getfield 97, 3, 0, 0) := by decide +kernel
theorem xX11_works_85 : dcd mX11_works 85 = some (.iload 3, 1, 0, 0) := by decide +kernel
theorem xX11_works_86 : dcd mX11_works 86 = some (.aload 0, 1, 0, 0) := by decide +kernel
theorem xX11_works_87 : dcd mX11_works 87 = some (.getfield 70, 3, 0, 0) := by decide +kernel
theorem xX11_works_90 : dcd mX11_works 90 = some (.iload 4, 2, 0, 0) := by decide +kernel
theorem xX11_works_92 : dcd mX11_works 92 = some (.iaload, 1, 0, 0) := by decide +kernel
theorem xX11_works_93 : dcd mX11_works 93 = some (.ifCond .ne 0, 3, 106, 0) := by decide +kernel
theorem xX11_works_96 : dcd mX11_works 96 = some (.aload 0, 1, 0, 0) := by decide +kernel
theorem xX11_works_97 : dcd mX11_works 97 = some (.getfield 73, 3, 0, 0) := by decide +kernel
theorem xX11_works_100 : dcd mX11_works 100 = some (.iload 4, 2, 0, 0) := by decide +kernel
theorem xX11_works_102 : dcd mX11_works 102 = some (.iaload, 1, 0, 0) := by decide +kernel
theorem xX11_works_103 : dcd mX11_works 103 = some (.goto 0, 3, 117, 0) := by decide +kernel
theorem xX11_works_106 : dcd mX11_works 106 = some (.aload 0, 1, 0, 0) := by decide +kernel
theorem xX11_works_107 : dcd mX11_works 107 = some (.aload 0, 1, 0, 0) := by decide +kernel
theorem xX11_works_108 : dcd mX11_works 108 = some (.getfield 73, 3, 0, 0) := by decide +kernel
theorem xX11_works_111 : dcd mX11_works 111 = some (.iload 4, 2, 0, 0) := by decide +kernel
theorem xX11_works_113 : dcd mX11_works 113 = some (.iaload, 1, 0, 0) := by decide +kernel
theorem xX11_works_114 : dcd mX11_works 114 = some (.invokevirtual 364, 3, 0, 0) := by decide +kernel
theorem xX11_works_117 : dcd mX11_works 117 = some (.iastore, 1, 0, 0) := by decide +kernel
theorem xX11_works_118 : dcd mX11_works 118 = some (.iinc 3 0, 3, 0, 1) := by decide +kernel
theorem xX11_works_121 : dcd mX11_works 121 = some (.iinc 4 0, 3, 0, 1) := by decide +kernel
theorem xX11_works_124 : dcd mX11_works 124 = some (.goto 0, 3, 5, 0) := by decide +kernel
theorem xX11_works_127 : dcd mX11_works 127 = some (.return_, 1, 0, 0) := by decide +kernel
