theorem xX10_ribbon_0 : dcd mX10_ribbon 0 = some (.aload 0, 1, 0, 0) := by decide +kernel
theorem xX10_ribbon_1 : dcd mX10_ribbon 1 = some (.getfield 19, 3, 0, 0) := by decide +kernel
theorem xX10_ribbon_4 : dcd mX10_ribbon 4 = some (.iload 1, 1, 0, 0) := by decide +kernel
theorem xX10_ribbon_5 : dcd mX10_ribbon 5 = some (.invokevirtual 187, 3, 0, 0) := by decide +kernel
theorem xX10_ribbon_8 : dcd mX10_ribbon 8 = some (.ifCond .eq 0, 3, 21, 0) := by decide +kernel
theorem xX10_ribbon_11 : dcd mX10_ribbon 11 = some (.iconst 0, 1, 0, 0) := by decide +kernel
theorem xX10_ribbon_12 : dcd mX10_ribbon 12 = some (.iload 2, 1, 0, 0) := by decide +kernel
theorem xX10_ribbon_13 : dcd mX10_ribbon 13 = some (.iconst 0, 2, 0, 8) := by decide +kernel
theorem xX10_ribbon_15 : dcd mX10_ribbon 15 = some (.invokestatic 110, 3, 0, 0) := by decide +kernel
theorem xX10_ribbon_18 : dcd mX10_ribbon 18 = some (.ifCond .ne 0, 3, 24, 0) := by decide +kernel
theorem xX10_ribbon_21 : dcd mX10_ribbon 21 = some (.ldc 168, 2, 0, 0) := by decide +kernel
theorem xX10_ribbon_23 : dcd mX10_ribbon 23 = some (.ireturn, 1, 0, 0) := by decide +kernel
theorem xX10_ribbon_24 : dcd mX10_ribbon 24 = some (.iload 2, 1, 0, 0) := by decide +kernel
theorem xX10_ribbon_25 : dcd mX10_ribbon 25 = some (.iconst 0, 2, 0, 7) := by decide +kernel
theorem xX10_ribbon_27 : dcd mX10_ribbon 27 = some (.if_icmp .lt 0, 3, 58, 0) := by decide +kernel
theorem xX10_ribbon_30 : dcd mX10_ribbon 30 = some (.aload 0, 1, 0, 0) := by decide +kernel
theorem xX10_ribbon_31 : dcd mX10_ribbon 31 = some (.getfield 29, 3, 0, 0) := by decide +kernel
theorem xX10_ribbon_34 : dcd mX10_ribbon 34 = some (.aload 0, 1, 0, 0) := by decide +kernel
theorem xX10_ribbon_35 : dcd mX10_ribbon 35 = some (.getfield 19, 3, 0, 0) := by decide +kernel
theorem xX10_ribbon_38 : dcd mX10_ribbon 38 = some (.iload 1, 1, 0, 0) := by decide +kernel
theorem xX10_ribbon_39 : dcd mX10_ribbon 39 = some (.aload 0, 1, 0, 0) := by decide +kernel
theorem xX10_ribbon_40 : dcd mX10_ribbon 40 = some (.getfield 19, 3, 0, 0) := by decide +kernel
theorem xX10_ribbon_43 : dcd mX10_ribbon 43 = some (.getfield 190, 3, 0, 0) := by decide +kernel
theorem xX10_ribbon_46 : dcd mX10_ribbon 46 = some (.iload 1, 1, 0, 0) := by decide +kernel
theorem xX10_ribbon_47 : dcd mX10_ribbon 47 = some (.iaload, 1, 0, 0) := by decide +kernel
theorem xX10_ribbon_48 : dcd mX10_ribbon 48 = some (.aload 0, 1, 0, 0) := by decide +kernel
theorem xX10_ribbon_49 : dcd mX10_ribbon 49 = some (.getfield 19, 3, 0, 0) := by decide +kernel
theorem xX10_ribbon_52 : dcd mX10_ribbon 52 = some (.getfield 137, 3, 0, 0) := by decide +kernel
theorem xX10_ribbon_55 : dcd mX10_ribbon 55 = some (.invokevirtual 193, 3, 0, 0) := by decide +kernel
theorem xX10_ribbon_58 : dcd mX10_ribbon 58 = some (.iload 2, 1, 0, 0) := by decide +kernel
theorem xX10_ribbon_59 : dcd mX10_ribbon 59 = some (.tableswitch 133 0 7 #[45, 55, 65, 75, 85, 95, 105, 123], 45, 0, 0) := by decide +kernel
theorem xX10_ribbon_104 : dcd mX10_ribbon 104 = some (.aload 0, 1, 0, 0) := by decide +kernel
theorem xX10_ribbon_105 : dcd mX10_ribbon 105 = some (.getfield 19, 3, 0, 0) := by decide +kernel
theorem xX10_ribbon_108 : dcd mX10_ribbon 108 = some (.getfield 197, 3, 0, 0) := by decide +kernel
theorem xX10_ribbon_111 : dcd mX10_ribbon 111 = some (.iload 1, 1, 0, 0) := by decide +kernel
theorem xX10_ribbon_112 : dcd mX10_ribbon 112 = some (.iaload, 1, 0, 0) := by decide +kernel
theorem xX10_ribbon_113 : dcd mX10_ribbon 113 = some (.ireturn, 1, 0, 0) := by decide +kernel
theorem xX10_ribbon_114 : dcd mX10_ribbon 114 = some (.aload 0, 1, 0, 0) := by decide +kernel
theorem xX10_ribbon_115 : dcd mX10_ribbon 115 = some (.getfield 19, 3, 0, 0) := by decide +kernel
theorem xX10_ribbon_118 : dcd mX10_ribbon 118 = some (.getfield 200, 3, 0, 0) := by decide +kernel
theorem xX10_ribbon_121 : dcd mX10_ribbon 121 = some (.iload 1, 1, 0, 0) := by decide +kernel
theorem xX10_ribbon_122 : dcd mX10_ribbon 122 = some (.iaload, 1, 0, 0) := by decide +kernel
theorem xX10_ribbon_123 : dcd mX10_ribbon 123 = some (.ireturn, 1, 0, 0) := by decide +kernel
theorem xX10_ribbon_124 : dcd mX10_ribbon 124 = some (.aload 0, 1, 0, 0) := by decide +kernel
theorem xX10_ribbon_125 : dcd mX10_ribbon 125 = some (.getfield 19, 3, 0, 0) := by decide +kernel
theorem xX10_ribbon_128 : dcd mX10_ribbon 128 = some (.getfield 190, 3, 0, 0) := by decide +kernel
theorem xX10_ribbon_131 : dcd mX10_ribbon 131 = some (.iload 1, 1, 0, 0) := by decide +kernel
theorem xX10_ribbon_132 : dcd mX10_ribbon 132 = some (.iaload, 1, 0, 0) := by decide +kernel
theorem xX10_ribbon_133 : dcd mX10_ribbon 133 = some (.ireturn, 1, 0, 0) := by decide +kernel
theorem xX10_ribbon_134 : dcd mX10_ribbon 134 = some (.aload 0, 1, 0, 0) := by decide +kernel
theorem xX10_ribbon_135 : dcd mX10_ribbon 135 = some (.getfield 19, 3, 0, 0) := by decide +kernel
theorem xX10_ribbon_138 : dcd mX10_ribbon 138 = some (.getfield 203, 3, 0, 0) := by decide +kernel
theorem xX10_ribbon_141 : dcd mX10_ribbon 141 = some (.iload 1, 1, 0, 0) := by decide +kernel
theorem xX10_ribbon_142 : dcd mX10_ribbon 142 = some (.iaload, 1, 0, 0) := by decide +kernel
theorem xX10_ribbon_143 : dcd mX10_ribbon 143 = some (.ireturn, 1, 0, 0) := by decide +kernel
theorem xX10_ribbon_144 : dcd mX10_ribbon 144 = some (.aload 0, 1, 0, 0) := by decide +kernel
theorem xX10_ribbon_145 : dcd mX10_ribbon 145 = some (.getfield 19, 3, 0, 0) := by decide +kernel
theorem xX10_ribbon_148 : dcd mX10_ribbon 148 = some (.getfield 206, 3, 0, 0) := by decide +kernel
theorem xX10_ribbon_151 : dcd mX10_ribbon 151 = some (.iload 1, 1, 0, 0) := by decide +kernel
theorem xX10_ribbon_152 : dcd mX10_ribbon 152 = some (.iaload, 1, 0, 0) := by decide +kernel
theorem xX10_ribbon_153 : dcd mX10_ribbon 153 = some (.ireturn, 1, 0, 0) := by decide +kernel
theorem xX10_ribbon_154 : dcd mX10_ribbon 154 = some (.aload 0, 1, 0, 0) := by decide +kernel
theorem xX10_ribbon_155 : dcd mX10_ribbon 155 = some (.getfield 19, 3, 0, 0) := by decide +kernel
theorem xX10_ribbon_158 : dcd mX10_ribbon 158 = some (.getfield 209, 3, 0, 0) := by decide +kernel
theorem xX10_ribbon_161 : dcd mX10_ribbon 161 = some (.iload 1, 1, 0, 0) := by decide +kernel
theorem xX10_ribbon_162 : dcd mX10_ribbon 162 = some (.iaload, 1, 0, 0) := by decide +kernel
theorem xX10_ribbon_163 : dcd mX10_ribbon 163 = some (.ireturn, 1, 0, 0) := by decide +kernel
theorem xX10_ribbon_164 : dcd mX10_ribbon 164 = some (.aload 0, 1, 0, 0) := by decide +kernel
theorem xX10_ribbon_165 : dcd mX10_ribbon 165 = some (.getfield 19, 3, 0, 0) := by decide +kernel
theorem xX10_ribbon_168 : dcd mX10_ribbon 168 = some (.getfield 212, 3, 0, 0) := by decide +kernel
theorem xX10_ribbon_171 : dcd mX10_ribbon 171 = some (.iload 1, 1, 0, 0) := by decide +kernel
theorem xX10_ribbon_172 : dcd mX10_ribbon 172 = some (.baload, 1, 0, 0) := by decide +kernel
theorem xX10_ribbon_173 : dcd mX10_ribbon 173 = some (.ifCond .eq 0, 3, 180, 0) := by decide +kernel
theorem xX10_ribbon_176 : dcd mX10_ribbon 176 = some (.iconst 0, 1, 0, 1) := by decide +kernel
theorem xX10_ribbon_177 : dcd mX10_ribbon 177 = some (.goto 0, 3, 181, 0) := by decide +kernel
theorem xX10_ribbon_180 : dcd mX10_ribbon 180 = some (.iconst 0, 1, 0, 0) := by decide +kernel
theorem xX10_ribbon_181 : dcd mX10_ribbon 181 = some (.ireturn, 1, 0, 0) := by decide +kernel
theorem xX10_ribbon_182 : dcd mX10_ribbon 182 = some (.aload 0, 1, 0, 0) := by decide +kernel
theorem xX10_ribbon_183 : dcd mX10_ribbon 183 = some (.getfield 29, 3, 0, 0) := by decide +kernel
theorem xX10_ribbon_186 : dcd mX10_ribbon 186 = some (.iconst 0, 2, 0, 103) := by decide +kernel
theorem xX10_ribbon_188 : dcd mX10_ribbon 188 = some (.invokevirtual 215, 3, 0, 0) := by decide +kernel
theorem xX10_ribbon_191 : dcd mX10_ribbon 191 = some (.ireturn, 1, 0, 0) := by decide +kernel
theorem xX10_ribbon_192 : dcd mX10_ribbon 192 = some (.aload 0, 1, 0, 0) := by decide +kernel
theorem xX10_ribbon_193 : dcd mX10_ribbon 193 = some (.getfield 29, 3, 0, 0) := by decide +kernel
theorem xX10_ribbon_196 : dcd mX10_ribbon 196 = some (.iconst 0, 2, 0, 112) := by decide +kernel
theorem xX10_ribbon_198 : dcd mX10_ribbon 198 = some (.invokevirtual 215, 3, 0, 0) := by decide +kernel
theorem xX10_ribbon_201 : dcd mX10_ribbon 201 = some (.ireturn, 1, 0, 0) := by decide +kernel
theorem xX10_balance_0 : dcd mX10_balance 0 = some (.iload 1, 1, 0, 0) := by decide +kernel
theorem xX10_balance_1 : dcd mX10_balance 1 = some (.invokestatic 218, 3, 0, 0) := by decide +kernel
theorem xX10_balance_4 : dcd mX10_balance 4 = some (.ifCond .eq 0, 3, 18, 0) := by decide +kernel
theorem xX10_balance_7 : dcd mX10_balance 7 = some (.aload 0, 1, 0, 0) := by decide +kernel
theorem xX10_balance_8 : dcd mX10_balance 8 = some (.getfield 19, 3, 0, 0) := by decide +kernel
theorem xX10_balance_11 : dcd mX10_balance 11 = some (.iload 1, 1, 0, 0) := by decide +kernel
theorem xX10_balance_12 : dcd mX10_balance 12 = some (.invokevirtual 221, 3, 0, 0) := by decide +kernel
theorem xX10_balance_15 : dcd mX10_balance 15 = some (.goto 0, 3, 20, 0) := by decide +kernel
theorem xX10_balance_18 : dcd mX10_balance 18 = some (.ldc 168, 2, 0, 0) := by decide +kernel
theorem xX10_balance_20 : dcd mX10_balance 20 = some (.ireturn, 1, 0, 0) := by decide +kernel
theorem xX10_move_0 : dcd mX10_move 0 = some (.aload 0, 1, 0, 0) := by decide +kernel
theorem xX10_move_1 : dcd mX10_move 1 = some (.getfield 19, 3, 0, 0) := by decide +kernel
theorem xX10_move_4 : dcd mX10_move 4 = some (.iload 1, 1, 0, 0) := by decide +kernel
theorem xX10_move_5 : dcd mX10_move 5 = some (.invokevirtual 224, 3, 0, 0) := by decide +kernel
theorem xX10_move_8 : dcd mX10_move 8 = some (.ifCond .eq 0, 3, 29, 0) := by decide +kernel
theorem xX10_move_11 : dcd mX10_move 11 = some (.aload 0, 1, 0, 0) := by decide +kernel
theorem xX10_move_12 : dcd mX10_move 12 = some (.getfield 19, 3, 0, 0) := by decide +kernel
theorem xX10_move_15 : dcd mX10_move 15 = some (.iload 2, 1, 0, 0) := by decide +kernel
theorem xX10_move_16 : dcd mX10_move 16 = some (.invokevirtual 100, 3, 0, 0) := by decide +kernel
theorem xX10_move_19 : dcd mX10_move 19 = some (.ifCond .eq 0, 3, 29, 0) := by decide +kernel
theorem xX10_move_22 : dcd mX10_move 22 = some (.iload 3, 1, 0, 0) := by decide +kernel
theorem xX10_move_23 : dcd mX10_move 23 = some (.invokestatic 104, 3, 0, 0) := by decide +kernel
theorem xX10_move_26 : dcd mX10_move 26 = some (.ifCond .ne 0, 3, 31, 0) := by decide +kernel
theorem xX10_move_29 : dcd mX10_move 29 = some (.iconst 0, 1, 0, 0) := by decide +kernel
theorem xX10_move_30 : dcd mX10_move 30 = some (.ireturn, 1, 0, 0) := by decide +kernel
theorem xX10_move_31 : dcd mX10_move 31 = some (.aload 0, 1, 0, 0) := by decide +kernel
theorem xX10_move_32 : dcd mX10_move 32 = some (.getfield 19, 3, 0, 0) := by decide +kernel
theorem xX10_move_35 : dcd mX10_move 35 = some (.getfield 197, 3, 0, 0) := by decide +kernel
theorem xX10_move_38 : dcd mX10_move 38 = some (.iload 1, 1, 0, 0) := by decide +kernel
theorem xX10_move_39 : dcd mX10_move 39 = some (.iload 2, 1, 0, 0) := by decide +kernel
theorem xX10_move_40 : dcd mX10_move 40 = some (.iastore, 1, 0, 0) := by decide +kernel
theorem xX10_move_41 : dcd mX10_move 41 = some (.aload 0, 1, 0, 0) := by decide +kernel
theorem xX10_move_42 : dcd mX10_move 42 = some (.getfield 19, 3, 0, 0) := by decide +kernel
theorem xX10_move_45 : dcd mX10_move 45 = some (.getfield 200, 3, 0, 0) := by decide +kernel
theorem xX10_move_48 : dcd mX10_move 48 = some (.iload 1, 1, 0, 0) := by decide +kernel
theorem xX10_move_49 : dcd mX10_move 49 = some (.iload 3, 1, 0, 0) := by decide +kernel
theorem xX10_move_50 : dcd mX10_move 50 = some (.iastore, 1, 0, 0) := by decide +kernel
theorem xX10_move_51 : dcd mX10_move 51 = some (.iconst 0, 1, 0, 1) := by decide +kernel
theorem xX10_move_52 : dcd mX10_move 52 = some (.ireturn, 1, 0, 0) := by decide +kernel
theorem xX10_fall_0 : dcd mX10_fall 0 = some (.aload 0, 1, 0, 0) := by decide +kernel
theorem xX10_fall_1 : dcd mX10_fall 1 = some (.getfield 19, 3, 0, 0) := by decide +kernel
theorem xX10_fall_4 : dcd mX10_fall 4 = some (.iload 1, 1, 0, 0) := by decide +kernel
theorem xX10_fall_5 : dcd mX10_fall 5 = some (.invokevirtual 224, 3, 0, 0) := by decide +kernel
theorem xX10_fall_8 : dcd mX10_fall 8 = some (.ifCond .ne 0, 3, 13, 0) := by decide +kernel
theorem xX10_fall_11 : dcd mX10_fall 11 = some (.iconst 0, 1, 0, 0) := by decide +kernel
theorem xX10_fall_12 : dcd mX10_fall 12 = some (.ireturn, 1, 0, 0) := by decide +kernel
theorem xX10_fall_13 : dcd mX10_fall 13 = some (.aload 0, 1, 0, 0) := by decide +kernel
theorem xX10_fall_14 : dcd mX10_fall 14 = some (.getfield 19, 3, 0, 0) := by decide +kernel
theorem xX10_fall_17 : dcd mX10_fall 17 = some (.getfield 212, 3, 0, 0) := by decide +kernel
theorem xX10_fall_20 : dcd mX10_fall 20 = some (.iload 1, 1, 0, 0) := by decide +kernel
theorem xX10_fall_21 : dcd mX10_fall 21 = some (.iconst 0, 1, 0, 0) := by decide +kernel
theorem xX10_fall_22 : dcd mX10_fall 22 = some (.bastore, 1, 0, 0) := by decide +kernel
theorem xX10_fall_23 : dcd mX10_fall 23 = some (.iconst 0, 1, 0, 1) := by decide +kernel
theorem xX10_fall_24 : dcd mX10_fall 24 = some (.ireturn, 1, 0, 0) := by decide +kernel
theorem xX10_pay_0 : dcd mX10_pay 0 = some (.iload 1, 1, 0, 0) := by decide +kernel
theorem xX10_pay_1 : dcd mX10_pay 1 = some (.iload 2, 1, 0, 0) := by decide +kernel
theorem xX10_pay_2 : dcd mX10_pay 2 = some (.invokestatic 133, 3, 0, 0) := by decide +kernel
theorem xX10_pay_5 : dcd mX10_pay 5 = some (.ifCond .eq 0, 3, 28, 0) := by decide +kernel
theorem xX10_pay_8 : dcd mX10_pay 8 = some (.iconst 0, 1, 0, 1) := by decide +kernel
theorem xX10_pay_9 : dcd mX10_pay 9 = some (.iload 3, 1, 0, 0) := by decide +kernel
theorem xX10_pay_10 : dcd mX10_pay 10 = some (.iconst 0, 2, 0, 98) := by decide +kernel
theorem xX10_pay_12 : dcd mX10_pay 12 = some (.invokestatic 110, 3, 0, 0) := by decide +kernel
theorem xX10_pay_15 : dcd mX10_pay 15 = some (.ifCond .eq 0, 3, 28, 0) := by decide +kernel
theorem xX10_pay_18 : dcd mX10_pay 18 = some (.iconst 0, 1, 0, (-1)) := by decide +kernel
theorem xX10_pay_19 : dcd mX10_pay 19 = some (.iload 4, 2, 0, 0) := by decide +kernel
theorem xX10_pay_21 : dcd mX10_pay 21 = some (.iconst 0, 1, 0, 2) := by decide +kernel
theorem xX10_pay_22 : dcd mX10_pay 22 = some (.invokestatic 110, 3, 0, 0) := by decide +kernel
theorem xX10_pay_25 : dcd mX10_pay 25 = some (.ifCond .ne 0, 3, 31, 0) := by decide +kernel
theorem xX10_pay_28 : dcd mX10_pay 28 = some (.iconst 0, 2, 0, (-3)) := by decide +kernel
theorem xX10_pay_30 : dcd mX10_pay 30 = some (.ireturn, 1, 0, 0) := by decide +kernel
theorem xX10_pay_31 : dcd mX10_pay 31 = some (.aload 0, 1, 0, 0) := by decide +kernel
theorem xX10_pay_32 : dcd mX10_pay 32 = some (.getfield 54, 3, 0, 0) := by decide +kernel
theorem xX10_pay_35 : dcd mX10_pay 35 = some (.iload 1, 1, 0, 0) := by decide +kernel
theorem xX10_pay_36 : dcd mX10_pay 36 = some (.iload 2, 1, 0, 0) := by decide +kernel
theorem xX10_pay_37 : dcd mX10_pay 37 = some (.iload 3, 1, 0, 0) := by decide +kernel
theorem xX10_pay_38 : dcd mX10_pay 38 = some (.invokevirtual 227, 3, 0, 0) := by decide +kernel
theorem xX10_pay_41 : dcd mX10_pay 41 = some (.ifCond .ne 0, 3, 47, 0) := by decide +kernel
theorem xX10_pay_44 : dcd mX10_pay 44 = some (.iconst 0, 2, 0, (-2)) := by decide +kernel
theorem xX10_pay_46 : dcd mX10_pay 46 = some (.ireturn, 1, 0, 0) := by decide +kernel
theorem xX10_pay_47 : dcd mX10_pay 47 = some (.iload 4, 2, 0, 0) := by decide +kernel
theorem xX10_pay_49 : dcd mX10_pay 49 = some (.ifCond .ne 0, 3, 60, 0) := by decide +kernel
theorem xX10_pay_52 : dcd mX10_pay 52 = some (.aload 0, 1, 0, 0) := by decide +kernel
theorem xX10_pay_53 : dcd mX10_pay 53 = some (.getfield 54, 3, 0, 0) := by decide +kernel
theorem xX10_pay_56 : dcd mX10_pay 56 = some (.getfield 230, 3, 0, 0) := by decide +kernel
theorem xX10_pay_59 : dcd mX10_pay 59 = some (.ireturn, 1, 0, 0) := by decide +kernel
theorem xX10_pay_60 : dcd mX10_pay 60 = some (.iload 4, 2, 0, 0) := by decide +kernel
theorem xX10_pay_62 : dcd mX10_pay 62 = some (.iconst 0, 1, 0, 1) := by decide +kernel
theorem xX10_pay_63 : dcd mX10_pay 63 = some (.if_icmp .ne 0, 3, 74, 0) := by decide +kernel
theorem xX10_pay_66 : dcd mX10_pay 66 = some (.aload 0, 1, 0, 0) := by decide +kernel
theorem xX10_pay_67 : dcd mX10_pay 67 = some (.getfield 54, 3, 0, 0) := by decide +kernel
theorem xX10_pay_70 : dcd mX10_pay 70 = some (.getfield 233, 3, 0, 0) := by decide +kernel
theorem xX10_pay_73 : dcd mX10_pay 73 = some (.ireturn, 1, 0, 0) := by decide +kernel
theorem xX10_pay_74 : dcd mX10_pay 74 = some (.iload 4, 2, 0, 0) := by decide +kernel
theorem xX10_pay_76 : dcd mX10_pay 76 = some (.iconst 0, 1, 0, 2) := by decide +kernel
theorem xX10_pay_77 : dcd mX10_pay 77 = some (.if_icmp .ne 0, 3, 88, 0) := by decide +kernel
theorem xX10_pay_80 : dcd mX10_pay 80 = some (.aload 0, 1, 0, 0) := by decide +kernel
theorem xX10_pay_81 : dcd mX10_pay 81 = some (.getfield 54, 3, 0, 0) := by decide +kernel
theorem xX10_pay_84 : dcd mX10_pay 84 = some (.iload 3, 1, 0, 0) := by decide +kernel
theorem xX10_pay_85 : dcd mX10_pay 85 = some (.invokevirtual 236, 3, 0, 0) := by decide +kernel
theorem xX10_pay_88 : dcd mX10_pay 88 = some (.aload 0, 1, 0, 0) := by decide +kernel
theorem xX10_pay_89 : dcd mX10_pay 89 = some (.getfield 54, 3, 0, 0) := by decide +kernel
theorem xX10_pay_92 : dcd mX10_pay 92 = some (.getfield 239, 3, 0, 0) := by decide +kernel
theorem xX10_pay_95 : dcd mX10_pay 95 = some (.ireturn, 1, 0, 0) := by decide +kernel
theorem xX10_level_0 : dcd mX10_level 0 = some (.iload 2, 1, 0, 0) := by decide +kernel
theorem xX10_level_1 : dcd mX10_level 1 = some (.iconst 0, 1, 0, (-1)) := by decide +kernel
theorem xX10_level_2 : dcd mX10_level 2 = some (.if_icmp .eq 0, 3, 22, 0) := by decide +kernel
theorem xX10_level_5 : dcd mX10_level 5 = some (.iload 2, 1, 0, 0) := by decide +kernel
theorem xX10_level_6 : dcd mX10_level 6 = some (.iconst 0, 2, 0, 6) := by decide +kernel
theorem xX10_level_8 : dcd mX10_level 8 = some (.if_icmp .eq 0, 3, 22, 0) := by decide +kernel
theorem xX10_level_11 : dcd mX10_level 11 = some (.iconst 0, 1, 0, 0) := by decide +kernel
theorem xX10_level_12 : dcd mX10_level 12 = some (.iload 2, 1, 0, 0) := by decide +kernel
theorem xX10_level_13 : dcd mX10_level 13 = some (.iload 1, 1, 0, 0) := by decide +kernel
theorem xX10_level_14 : dcd mX10_level 14 = some (.iconst 0, 1, 0, 1) := by decide +kernel
theorem xX10_level_15 : dcd mX10_level 15 = some (.isub, 1, 0, 0) := by decide +kernel
theorem xX10_level_16 : dcd mX10_level 16 = some (.invokestatic 110, 3, 0, 0) := by decide +kernel
theorem xX10_level_19 : dcd mX10_level 19 = some (.ifCond .eq 0, 3, 26, 0) := by decide +kernel
theorem xX10_level_22 : dcd mX10_level 22 = some (.iconst 0, 1, 0, 1) := by decide +kernel
theorem xX10_level_23 : dcd mX10_level 23 = some (.goto 0, 3, 27, 0) := by decide +kernel
theorem xX10_level_26 : dcd mX10_level 26 = some (.iconst 0, 1, 0, 0) := by decide +kernel
theorem xX10_level_27 : dcd mX10_level 27 = some (.istore 3, 1, 0, 0) := by decide +kernel
theorem xX10_level_28 : dcd mX10_level 28 = some (.iconst 0, 1, 0, 1) := by decide +kernel
theorem xX10_level_29 : dcd mX10_level 29 = some (.iload 1, 1, 0, 0) := by decide +kernel
theorem xX10_level_30 : dcd mX10_level 30 = some (.iconst 0, 2, 0, 6) := by decide +kernel
theorem xX10_level_32 : dcd mX10_level 32 = some (.invokestatic 110, 3, 0, 0) := by decide +kernel
theorem xX10_level_35 : dcd mX10_level 35 = some (.ifCond .eq 0, 3, 55, 0) := by decide +kernel
theorem xX10_level_38 : dcd mX10_level 38 = some (.iload 3, 1, 0, 0) := by decide +kernel
theorem xX10_level_39 : dcd mX10_level 39 = some (.ifCond .eq 0, 3, 55, 0) := by decide +kernel
theorem xX10_level_42 : dcd mX10_level 42 = some (.aload 0, 1, 0, 0) := by decide +kernel
theorem xX10_level_43 : dcd mX10_level 43 = some (.getfield 10, 3, 0, 0) := by decide +kernel
theorem xX10_level_46 : dcd mX10_level 46 = some (.getfield 148, 3, 0, 0) := by decide +kernel
theorem xX10_level_49 : dcd mX10_level 49 = some (.iconst 0, 1, 0, 3) := by decide +kernel
theorem xX10_level_50 : dcd mX10_level 50 = some (.iload 1, 1, 0, 0) := by decide +kernel
theorem xX10_level_51 : dcd mX10_level 51 = some (.imul, 1, 0, 0) := by decide +kernel
theorem xX10_level_52 : dcd mX10_level 52 = some (.if_icmp .ge 0, 3, 58, 0) := by decide +kernel
theorem xX10_level_55 : dcd mX10_level 55 = some (.iconst 0, 2, 0, (-3)) := by decide +kernel
theorem xX10_level_57 : dcd mX10_level 57 = some (.ireturn, 1, 0, 0) := by decide +kernel
theorem xX10_level_58 : dcd mX10_level 58 = some (.aload 0, 1, 0, 0) := by decide +kernel
theorem xX10_level_59 : dcd mX10_level 59 = some (.getfield 63, 3, 0, 0) := by decide +kernel
theorem xX10_level_62 : dcd mX10_level 62 = some (.aload 0, 1, 0, 0) := by decide +kernel
theorem xX10_level_63 : dcd mX10_level 63 = some (.getfield 10, 3, 0, 0) := by decide +kernel
theorem xX10_level_66 : dcd mX10_level 66 = some (.iload 1, 1, 0, 0) := by decide +kernel
theorem xX10_level_67 : dcd mX10_level 67 = some (.invokevirtual 242, 3, 0, 0) := by decide +kernel
theorem xX10_level_70 : dcd mX10_level 70 = some (.istore 4, 2, 0, 0) := by decide +kernel
theorem xX10_level_72 : dcd mX10_level 72 = some (.aload 0, 1, 0, 0) := by decide +kernel
theorem xX10_level_73 : dcd mX10_level 73 = some (.getfield 10, 3, 0, 0) := by decide +kernel
theorem xX10_level_76 : dcd mX10_level 76 = some (.invokevirtual 155, 3, 0, 0) := by decide +kernel
theorem xX10_level_79 : dcd mX10_level 79 = some (.iload 4, 2, 0, 0) := by decide +kernel
theorem xX10_level_81 : dcd mX10_level 81 = some (.ifCond .ne 0, 3, 87, 0) := by decide +kernel
theorem xX10_level_84 : dcd mX10_level 84 = some (.iconst 0, 2, 0, (-2)) := by decide +kernel
theorem xX10_level_86 : dcd mX10_level 86 = some (.ireturn, 1, 0, 0) := by decide +kernel
theorem xX10_level_87 : dcd mX10_level 87 = some (.aload 0, 1, 0, 0) := by decide +kernel
theorem xX10_level_88 : dcd mX10_level 88 = some (.getfield 63, 3, 0, 0) := by decide +kernel
theorem xX10_level_91 : dcd mX10_level 91 = some (.invokevirtual 245, 3, 0, 0) := by decide +kernel
theorem xX10_level_94 : dcd mX10_level 94 = some (.iload 2, 1, 0, 0) := by decide +kernel
theorem xX10_level_95 : dcd mX10_level 95 = some (.iconst 0, 2, 0, 6) := by decide +kernel
theorem xX10_level_97 : dcd mX10_level 97 = some (.if_icmp .ne 0, 3, 107, 0) := by decide +kernel
theorem xX10_level_100 : dcd mX10_level 100 = some (.aload 0, 1, 0, 0) := by decide +kernel
theorem xX10_level_101 : dcd mX10_level 101 = some (.getfield 63, 3, 0, 0) := by decide +kernel
theorem xX10_level_104 : dcd mX10_level 104 = some (.invokevirtual 248, 3, 0, 0) := by decide +kernel
theorem xX10_level_107 : dcd mX10_level 107 = some (.iconst 0, 1, 0, 0) := by decide +kernel
theorem xX10_level_108 : dcd mX10_level 108 = some (.iload 2, 1, 0, 0) := by decide +kernel
theorem xX10_level_109 : dcd mX10_level 109 = some (.iload 1, 1, 0, 0) := by decide +kernel
theorem xX10_level_110 : dcd mX10_level 110 = some (.iconst 0, 1, 0, 1) := by decide +kernel
theorem xX10_level_111 : dcd mX10_level 111 = some (.isub, 1, 0, 0) := by decide +kernel
theorem xX10_level_112 : dcd mX10_level 112 = some (.invokestatic 110, 3, 0, 0) := by decide +kernel
theorem xX10_level_115 : dcd mX10_level 115 = some (.ifCond .eq 0, 3, 130, 0) := by decide +kernel
theorem xX10_level_118 : dcd mX10_level 118 = some (.aload 0, 1, 0, 0) := by decide +kernel
theorem xX10_level_119 : dcd mX10_level 119 = some (.getfield 63, 3, 0, 0) := by decide +kernel
theorem xX10_level_122 : dcd mX10_level 122 = some (.getfield 251, 3, 0, 0) := by decide +kernel
theorem xX10_level_125 : dcd mX10_level 125 = some (.iload 2, 1, 0, 0) := by decide +kernel
theorem xX10_level_126 : dcd mX10_level 126 = some (.iaload, 1, 0, 0) := by decide +kernel
theorem xX10_level_127 : dcd mX10_level 127 = some (.goto 0, 3, 137, 0) := by decide +kernel
theorem xX10_level_130 : dcd mX10_level 130 = some (.aload 0, 1, 0, 0) := by decide +kernel
theorem xX10_level_131 : dcd mX10_level 131 = some (.getfield 63, 3, 0, 0) := by decide +kernel
theorem xX10_level_134 : dcd mX10_level 134 = some (.getfield 254, 3, 0, 0) := by decide +kernel
theorem xX10_level_137 : dcd mX10_level 137 = some (.ireturn, 1, 0, 0) := by decide +kernel
theorem xX10_falseBy_0 : dcd mX10_falseBy 0 = some (.aload 0, 1, 0, 0) := by decide +kernel
theorem xX10_falseBy_1 : dcd mX10_falseBy 1 = some (.getfield 19, 3, 0, 0) := by decide +kernel
theorem xX10_falseBy_4 : dcd mX10_falseBy 4 = some (.iload 1, 1, 0, 0) := by decide +kernel
theorem xX10_falseBy_5 : dcd mX10_falseBy 5 = some (.invokevirtual 187, 3, 0, 0) := by decide +kernel
theorem xX10_falseBy_8 : dcd mX10_falseBy 8 = some (.ifCond .eq 0, 3, 28, 0) := by decide +kernel
theorem xX10_falseBy_11 : dcd mX10_falseBy 11 = some (.aload 0, 1, 0, 0) := by decide +kernel
theorem xX10_falseBy_12 : dcd mX10_falseBy 12 = some (.getfield 10, 3, 0, 0) := by decide +kernel
theorem xX10_falseBy_15 : dcd mX10_falseBy 15 = some (.getfield 148, 3, 0, 0) := by decide +kernel
theorem xX10_falseBy_18 : dcd mX10_falseBy 18 = some (.aload 0, 1, 0, 0) := by decide +kernel
theorem xX10_falseBy_19 : dcd mX10_falseBy 19 = some (.getfield 19, 3, 0, 0) := by decide +kernel
theorem xX10_falseBy_22 : dcd mX10_falseBy 22 = some (.invokevirtual 257, 3, 0, 0) := by decide +kernel
theorem xX10_falseBy_25 : dcd mX10_falseBy 25 = some (.if_icmp .ge 0, 3, 30, 0) := by decide +kernel
theorem xX10_falseBy_28 : dcd mX10_falseBy 28 = some (.iconst 0, 1, 0, (-1)) := by decide +kernel
theorem xX10_falseBy_29 : dcd mX10_falseBy 29 = some (.ireturn, 1, 0, 0) := by decide +kernel
theorem xX10_falseBy_30 : dcd mX10_falseBy 30 = some (.aload 0, 1, 0, 0) := by decide +kernel
theorem xX10_falseBy_31 : dcd mX10_falseBy 31 = some (.getfield 70, 3, 0, 0) := by decide +kernel
theorem xX10_falseBy_34 : dcd mX10_falseBy 34 = some (.aload 0, 1, 0, 0) := by decide +kernel
theorem xX10_falseBy_35 : dcd mX10_falseBy 35 = some (.getfield 10, 3, 0, 0) := by decide +kernel
theorem xX10_falseBy_38 : dcd mX10_falseBy 38 = some (.invokevirtual 261, 3, 0, 0) := by decide +kernel
theorem xX10_falseBy_41 : dcd mX10_falseBy 41 = some (.istore 2, 1, 0, 0) := by decide +kernel
theorem xX10_falseBy_42 : dcd mX10_falseBy 42 = some (.aload 0, 1, 0, 0) := by decide +kernel
theorem xX10_falseBy_43 : dcd mX10_falseBy 43 = some (.getfield 10, 3, 0, 0) := by decide +kernel
theorem xX10_falseBy_46 : dcd mX10_falseBy 46 = some (.invokevirtual 155, 3, 0, 0) := by decide +kernel
theorem xX10_falseBy_49 : dcd mX10_falseBy 49 = some (.iload 2, 1, 0, 0) := by decide +kernel
theorem xX10_falseBy_50 : dcd mX10_falseBy 50 = some (.ifCond .eq 0, 3, 64, 0) := by decide +kernel
theorem xX10_falseBy_53 : dcd mX10_falseBy 53 = some (.aload 0, 1, 0, 0) := by decide +kernel
theorem xX10_falseBy_54 : dcd mX10_falseBy 54 = some (.getfield 70, 3, 0, 0) := by decide +kernel
theorem xX10_falseBy_57 : dcd mX10_falseBy 57 = some (.iload 1, 1, 0, 0) := by decide +kernel
theorem xX10_falseBy_58 : dcd mX10_falseBy 58 = some (.invokevirtual 265, 3, 0, 0) := by decide +kernel
theorem xX10_falseBy_61 : dcd mX10_falseBy 61 = some (.goto 0, 3, 66, 0) := by decide +kernel
theorem xX10_falseBy_64 : dcd mX10_falseBy 64 = some (.iconst 0, 2, 0, (-2)) := by decide +kernel
theorem xX10_falseBy_66 : dcd mX10_falseBy 66 = some (.ireturn, 1, 0, 0) := by decide +kernel
theorem xX10_suspects_0 : dcd mX10_suspects 0 = some (.aload 0, 1, 0, 0) := by decide +kernel
theorem xX10_suspects_1 : dcd mX10_suspects 1 = some (.getfield 10, 3, 0, 0) := by decide +kernel
theorem xX10_suspects_4 : dcd mX10_suspects 4 = some (.getfield 148, 3, 0, 0) := by decide +kernel
theorem xX10_suspects_7 : dcd mX10_suspects 7 = some (.aload 0, 1, 0, 0) := by decide +kernel
theorem xX10_suspects_8 : dcd mX10_suspects 8 = some (.getfield 19, 3, 0, 0) := by decide +kernel
theorem xX10_suspects_11 : dcd mX10_suspects 11 = some (.invokevirtual 257, 3, 0, 0) := by decide +kernel
theorem xX10_suspects_14 : dcd mX10_suspects 14 = some (.if_icmp .ge 0, 3, 21, 0) := by decide +kernel
theorem xX10_suspects_17 : dcd mX10_suspects 17 = some (.ldc2_w 268, 3, 0, 0) := by decide +kernel
theorem xX10_suspects_20 : dcd mX10_suspects 20 = some (.lreturn, 1, 0, 0) := by decide +kernel
theorem xX10_suspects_21 : dcd mX10_suspects 21 = some (.aload 0, 1, 0, 0) := by decide +kernel
theorem xX10_suspects_22 : dcd mX10_suspects 22 = some (.getfield 70, 3, 0, 0) := by decide +kernel
theorem xX10_suspects_25 : dcd mX10_suspects 25 = some (.aload 0, 1, 0, 0) := by decide +kernel
theorem xX10_suspects_26 : dcd mX10_suspects 26 = some (.getfield 10, 3, 0, 0) := by decide +kernel
theorem xX10_suspects_29 : dcd mX10_suspects 29 = some (.invokevirtual 261, 3, 0, 0) := by decide +kernel
theorem xX10_suspects_32 : dcd mX10_suspects 32 = some (.istore 1, 1, 0, 0) := by decide +kernel
theorem xX10_suspects_33 : dcd mX10_suspects 33 = some (.aload 0, 1, 0, 0) := by decide +kernel
theorem xX10_suspects_34 : dcd mX10_suspects 34 = some (.getfield 10, 3, 0, 0) := by decide +kernel
theorem xX10_suspects_37 : dcd mX10_suspects 37 = some (.invokevirtual 155, 3, 0, 0) := by decide +kernel
theorem xX10_suspects_40 : dcd mX10_suspects 40 = some (.iload 1, 1, 0, 0) := by decide +kernel
theorem xX10_suspects_41 : dcd mX10_suspects 41 = some (.ifCond .eq 0, 3, 54, 0) := by decide +kernel
theorem xX10_suspects_44 : dcd mX10_suspects 44 = some (.aload 0, 1, 0, 0) := by decide +kernel
theorem xX10_suspects_45 : dcd mX10_suspects 45 = some (.getfield 70, 3, 0, 0) := by decide +kernel
theorem xX10_suspects_48 : dcd mX10_suspects 48 = some (.invokevirtual 270, 3, 0, 0) := by decide +kernel
theorem xX10_suspects_51 : dcd mX10_suspects 51 = some (.goto 0, 3, 57, 0) := by decide +kernel
theorem xX10_suspects_54 : dcd mX10_suspects 54 = some (.ldc2_w 274, 3, 0, 0) := by decide +kernel
theorem xX10_suspects_57 : dcd mX10_suspects 57 = some (.lreturn, 1, 0, 0) := by decide +kernel
theorem xX10_gust_0 : dcd mX10_gust 0 = some (.iconst 0, 1, 0, 1) := by decide +kernel
theorem xX10_gust_1 : dcd mX10_gust 1 = some (.iload 1, 1, 0, 0) := by decide +kernel
theorem xX10_gust_2 : dcd mX10_gust 2 = some (.iconst 0, 2, 0, 6) := by decide +kernel
theorem xX10_gust_4 : dcd mX10_gust 4 = some (.invokestatic 110, 3, 0, 0) := by decide +kernel
theorem xX10_gust_7 : dcd mX10_gust 7 = some (.ifCond .eq 0, 3, 38, 0) := by decide +kernel
theorem xX10_gust_10 : dcd mX10_gust 10 = some (.iconst 0, 1, 0, 0) := by decide +kernel
theorem xX10_gust_11 : dcd mX10_gust 11 = some (.iload 2, 1, 0, 0) := by decide +kernel
theorem xX10_gust_12 : dcd mX10_gust 12 = some (.iconst 0, 1, 0, 1) := by decide +kernel
theorem xX10_gust_13 : dcd mX10_gust 13 = some (.invokestatic 110, 3, 0, 0) := by decide +kernel
theorem xX10_gust_16 : dcd mX10_gust 16 = some (.ifCond .eq 0, 3, 38, 0) := by decide +kernel
theorem xX10_gust_19 : dcd mX10_gust 19 = some (.aload 0, 1, 0, 0) := by decide +kernel
theorem xX10_gust_20 : dcd mX10_gust 20 = some (.getfield 10, 3, 0, 0) := by decide +kernel
theorem xX10_gust_23 : dcd mX10_gust 23 = some (.getfield 148, 3, 0, 0) := by decide +kernel
theorem xX10_gust_26 : dcd mX10_gust 26 = some (.aload 0, 1, 0, 0) := by decide +kernel
theorem xX10_gust_27 : dcd mX10_gust 27 = some (.getfield 19, 3, 0, 0) := by decide +kernel
theorem xX10_gust_30 : dcd mX10_gust 30 = some (.invokevirtual 257, 3, 0, 0) := by decide +kernel
theorem xX10_gust_33 : dcd mX10_gust 33 = some (.iload 1, 1, 0, 0) := by decide +kernel
theorem xX10_gust_34 : dcd mX10_gust 34 = some (.iadd, 1, 0, 0) := by decide +kernel
theorem xX10_gust_35 : dcd mX10_gust 35 = some (.if_icmp .ge 0, 3, 40, 0) := by decide +kernel
theorem xX10_gust_38 : dcd mX10_gust 38 = some (.iconst 0, 1, 0, (-1)) := by decide +kernel
theorem xX10_gust_39 : dcd mX10_gust 39 = some (.ireturn, 1, 0, 0) := by decide +kernel
theorem xX10_gust_40 : dcd mX10_gust 40 = some (.aload 0, 1, 0, 0) := by decide +kernel
theorem xX10_gust_41 : dcd mX10_gust 41 = some (.getfield 70, 3, 0, 0) := by decide +kernel
theorem xX10_gust_44 : dcd mX10_gust 44 = some (.aload 0, 1, 0, 0) := by decide +kernel
theorem xX10_gust_45 : dcd mX10_gust 45 = some (.getfield 10, 3, 0, 0) := by decide +kernel
theorem xX10_gust_48 : dcd mX10_gust 48 = some (.invokevirtual 261, 3, 0, 0) := by decide +kernel
theorem xX10_gust_51 : dcd mX10_gust 51 = some (.ifCond .eq 0, 3, 78, 0) := by decide +kernel
theorem xX10_gust_54 : dcd mX10_gust 54 = some (.aload 0, 1, 0, 0) := by decide +kernel
theorem xX10_gust_55 : dcd mX10_gust 55 = some (.getfield 10, 3, 0, 0) := by decide +kernel
theorem xX10_gust_58 : dcd mX10_gust 58 = some (.aload 0, 1, 0, 0) := by decide +kernel
theorem xX10_gust_59 : dcd mX10_gust 59 = some (.getfield 19, 3, 0, 0) := by decide +kernel
theorem xX10_gust_62 : dcd mX10_gust 62 = some (.invokevirtual 257, 3, 0, 0) := by decide +kernel
theorem xX10_gust_65 : dcd mX10_gust 65 = some (.iload 1, 1, 0, 0) := by decide +kernel
theorem xX10_gust_66 : dcd mX10_gust 66 = some (.iconst 0, 2, 0, 18) := by decide +kernel
theorem xX10_gust_68 : dcd mX10_gust 68 = some (.invokevirtual 276, 3, 0, 0) := by decide +kernel
theorem xX10_gust_71 : dcd mX10_gust 71 = some (.ifCond .eq 0, 3, 78, 0) := by decide +kernel
theorem xX10_gust_74 : dcd mX10_gust 74 = some (.iconst 0, 1, 0, 1) := by decide +kernel
theorem xX10_gust_75 : dcd mX10_gust 75 = some (.goto 0, 3, 79, 0) := by decide +kernel
theorem xX10_gust_78 : dcd mX10_gust 78 = some (.iconst 0, 1, 0, 0) := by decide +kernel
theorem xX10_gust_79 : dcd mX10_gust 79 = some (.istore 3, 1, 0, 0) := by decide +kernel
theorem xX10_gust_80 : dcd mX10_gust 80 = some (.iconst 0, 2, 0, (-2)) := by decide +kernel
theorem xX10_gust_82 : dcd mX10_gust 82 = some (.istore 4, 2, 0, 0) := by decide +kernel
theorem xX10_gust_84 : dcd mX10_gust 84 = some (.iload 3, 1, 0, 0) := by decide +kernel
theorem xX10_gust_85 : dcd mX10_gust 85 = some (.ifCond .eq 0, 3, 105, 0) := by decide +kernel
theorem xX10_gust_88 : dcd mX10_gust 88 = some (.aload 0, 1, 0, 0) := by decide +kernel
theorem xX10_gust_89 : dcd mX10_gust 89 = some (.getfield 70, 3, 0, 0) := by decide +kernel
theorem xX10_gust_92 : dcd mX10_gust 92 = some (.invokevirtual 279, 3, 0, 0) := by decide +kernel
theorem xX10_gust_95 : dcd mX10_gust 95 = some (.ifCond .ne 0, 3, 105, 0) := by decide +kernel
theorem xX10_gust_98 : dcd mX10_gust 98 = some (.iconst 0, 2, 0, (-3)) := by decide +kernel
theorem xX10_gust_100 : dcd mX10_gust 100 = some (.istore 4, 2, 0, 0) := by decide +kernel
theorem xX10_gust_102 : dcd mX10_gust 102 = some (.goto 0, 3, 147, 0) := by decide +kernel
theorem xX10_gust_105 : dcd mX10_gust 105 = some (.iload 3, 1, 0, 0) := by decide +kernel
theorem xX10_gust_106 : dcd mX10_gust 106 = some (.ifCond .eq 0, 3, 147, 0) := by decide +kernel
theorem xX10_gust_109 : dcd mX10_gust 109 = some (.aload 0, 1, 0, 0) := by decide +kernel
theorem xX10_gust_110 : dcd mX10_gust 110 = some (.getfield 70, 3, 0, 0) := by decide +kernel
theorem xX10_gust_113 : dcd mX10_gust 113 = some (.aload 0, 1, 0, 0) := by decide +kernel
theorem xX10_gust_114 : dcd mX10_gust 114 = some (.getfield 10, 3, 0, 0) := by decide +kernel
theorem xX10_gust_117 : dcd mX10_gust 117 = some (.iload 1, 1, 0, 0) := by decide +kernel
theorem xX10_gust_118 : dcd mX10_gust 118 = some (.invokevirtual 282, 3, 0, 0) := by decide +kernel
theorem xX10_gust_121 : dcd mX10_gust 121 = some (.iload 2, 1, 0, 0) := by decide +kernel
theorem xX10_gust_122 : dcd mX10_gust 122 = some (.ifCond .ne 0, 3, 138, 0) := by decide +kernel
theorem xX10_gust_125 : dcd mX10_gust 125 = some (.aload 0, 1, 0, 0) := by decide +kernel
theorem xX10_gust_126 : dcd mX10_gust 126 = some (.getfield 70, 3, 0, 0) := by decide +kernel
theorem xX10_gust_129 : dcd mX10_gust 129 = some (.getfield 286, 3, 0, 0) := by decide +kernel
theorem xX10_gust_132 : dcd mX10_gust 132 = some (.iconst 0, 2, 0, 9) := by decide +kernel
theorem xX10_gust_134 : dcd mX10_gust 134 = some (.iadd, 1, 0, 0) := by decide +kernel
theorem xX10_gust_135 : dcd mX10_gust 135 = some (.goto 0, 3, 145, 0) := by decide +kernel
theorem xX10_gust_138 : dcd mX10_gust 138 = some (.aload 0, 1, 0, 0) := by decide +kernel
theorem xX10_gust_139 : dcd mX10_gust 139 = some (.getfield 70, 3, 0, 0) := by decide +kernel
theorem xX10_gust_142 : dcd mX10_gust 142 = some (.getfield 289, 3, 0, 0) := by decide +kernel
theorem xX10_gust_145 : dcd mX10_gust 145 = some (.istore 4, 2, 0, 0) := by decide +kernel
theorem xX10_gust_147 : dcd mX10_gust 147 = some (.aload 0, 1, 0, 0) := by decide +kernel
theorem xX10_gust_148 : dcd mX10_gust 148 = some (.getfield 10, 3, 0, 0) := by decide +kernel
theorem xX10_gust_151 : dcd mX10_gust 151 = some (.invokevirtual 155, 3, 0, 0) := by decide +kernel
theorem xX10_gust_154 : dcd mX10_gust 154 = some (.iload 4, 2, 0, 0) := by decide +kernel
theorem xX10_gust_156 : dcd mX10_gust 156 = some (.ireturn, 1, 0, 0) := by decide +kernel
theorem xX10_fraud_0 : dcd mX10_fraud 0 = some (.iload 1, 1, 0, 0) := by decide +kernel
theorem xX10_fraud_1 : dcd mX10_fraud 1 = some (.iload 2, 1, 0, 0) := by decide +kernel
theorem xX10_fraud_2 : dcd mX10_fraud 2 = some (.invokestatic 133, 3, 0, 0) := by decide +kernel
theorem xX10_fraud_5 : dcd mX10_fraud 5 = some (.ifCond .eq 0, 3, 39, 0) := by decide +kernel
theorem xX10_fraud_8 : dcd mX10_fraud 8 = some (.iconst 0, 1, 0, 1) := by decide +kernel
theorem xX10_fraud_9 : dcd mX10_fraud 9 = some (.iload 3, 1, 0, 0) := by decide +kernel
theorem xX10_fraud_10 : dcd mX10_fraud 10 = some (.iconst 0, 2, 0, 6) := by decide +kernel
theorem xX10_fraud_12 : dcd mX10_fraud 12 = some (.invokestatic 110, 3, 0, 0) := by decide +kernel
theorem xX10_fraud_15 : dcd mX10_fraud 15 = some (.ifCond .eq 0, 3, 39, 0) := by decide +kernel
theorem xX10_fraud_18 : dcd mX10_fraud 18 = some (.iconst 0, 1, 0, 0) := by decide +kernel
theorem xX10_fraud_19 : dcd mX10_fraud 19 = some (.iload 4, 2, 0, 0) := by decide +kernel
theorem xX10_fraud_21 : dcd mX10_fraud 21 = some (.iconst 0, 1, 0, 2) := by decide +kernel
theorem xX10_fraud_22 : dcd mX10_fraud 22 = some (.invokestatic 110, 3, 0, 0) := by decide +kernel
theorem xX10_fraud_25 : dcd mX10_fraud 25 = some (.ifCond .eq 0, 3, 39, 0) := by decide +kernel
theorem xX10_fraud_28 : dcd mX10_fraud 28 = some (.aload 0, 1, 0, 0) := by decide +kernel
theorem xX10_fraud_29 : dcd mX10_fraud 29 = some (.getfield 10, 3, 0, 0) := by decide +kernel
theorem xX10_fraud_32 : dcd mX10_fraud 32 = some (.getfield 148, 3, 0, 0) := by decide +kernel
theorem xX10_fraud_35 : dcd mX10_fraud 35 = some (.iload 3, 1, 0, 0) := by decide +kernel
theorem xX10_fraud_36 : dcd mX10_fraud 36 = some (.if_icmp .ge 0, 3, 41, 0) := by decide +kernel
theorem xX10_fraud_39 : dcd mX10_fraud 39 = some (.iconst 0, 1, 0, (-1)) := by decide +kernel
theorem xX10_fraud_40 : dcd mX10_fraud 40 = some (.ireturn, 1, 0, 0) := by decide +kernel
theorem xX10_fraud_41 : dcd mX10_fraud 41 = some (.aload 0, 1, 0, 0) := by decide +kernel
theorem xX10_fraud_42 : dcd mX10_fraud 42 = some (.getfield 10, 3, 0, 0) := by decide +kernel
theorem xX10_fraud_45 : dcd mX10_fraud 45 = some (.iconst 0, 1, 0, 0) := by decide +kernel
theorem xX10_fraud_46 : dcd mX10_fraud 46 = some (.iload 3, 1, 0, 0) := by decide +kernel
theorem xX10_fraud_47 : dcd mX10_fraud 47 = some (.iconst 0, 2, 0, 18) := by decide +kernel
theorem xX10_fraud_49 : dcd mX10_fraud 49 = some (.invokevirtual 276, 3, 0, 0) := by decide +kernel
theorem xX10_fraud_52 : dcd mX10_fraud 52 = some (.ifCond .eq 0, 3, 72, 0) := by decide +kernel
theorem xX10_fraud_55 : dcd mX10_fraud 55 = some (.aload 0, 1, 0, 0) := by decide +kernel
theorem xX10_fraud_56 : dcd mX10_fraud 56 = some (.getfield 54, 3, 0, 0) := by decide +kernel
theorem xX10_fraud_59 : dcd mX10_fraud 59 = some (.iload 1, 1, 0, 0) := by decide +kernel
theorem xX10_fraud_60 : dcd mX10_fraud 60 = some (.iload 2, 1, 0, 0) := by decide +kernel
theorem xX10_fraud_61 : dcd mX10_fraud 61 = some (.aload 0, 1, 0, 0) := by decide +kernel
theorem xX10_fraud_62 : dcd mX10_fraud 62 = some (.getfield 10, 3, 0, 0) := by decide +kernel
theorem xX10_fraud_65 : dcd mX10_fraud 65 = some (.iload 3, 1, 0, 0) := by decide +kernel
theorem xX10_fraud_66 : dcd mX10_fraud 66 = some (.invokevirtual 292, 3, 0, 0) := by decide +kernel
theorem xX10_fraud_69 : dcd mX10_fraud 69 = some (.goto 0, 3, 73, 0) := by decide +kernel
theorem xX10_fraud_72 : dcd mX10_fraud 72 = some (.iconst 0, 1, 0, 0) := by decide +kernel
theorem xX10_fraud_73 : dcd mX10_fraud 73 = some (.istore 5, 2, 0, 0) := by decide +kernel
theorem xX10_fraud_75 : dcd mX10_fraud 75 = some (.aload 0, 1, 0, 0) := by decide +kernel
theorem xX10_fraud_76 : dcd mX10_fraud 76 = some (.getfield 10, 3, 0, 0) := by decide +kernel
theorem xX10_fraud_79 : dcd mX10_fraud 79 = some (.invokevirtual 155, 3, 0, 0) := by decide +kernel
theorem xX10_fraud_82 : dcd mX10_fraud 82 = some (.iload 5, 2, 0, 0) := by decide +kernel
theorem xX10_fraud_84 : dcd mX10_fraud 84 = some (.ifCond .ne 0, 3, 90, 0) := by decide +kernel
theorem xX10_fraud_87 : dcd mX10_fraud 87 = some (.iconst 0, 2, 0, (-2)) := by decide +kernel
theorem xX10_fraud_89 : dcd mX10_fraud 89 = some (.ireturn, 1, 0, 0) := by decide +kernel
theorem xX10_fraud_90 : dcd mX10_fraud 90 = some (.iload 4, 2, 0, 0) := by decide +kernel
theorem xX10_fraud_92 : dcd mX10_fraud 92 = some (.ifCond .ne 0, 3, 100, 0) := by decide +kernel
theorem xX10_fraud_95 : dcd mX10_fraud 95 = some (.iload 5, 2, 0, 0) := by decide +kernel
theorem xX10_fraud_97 : dcd mX10_fraud 97 = some (.goto 0, 3, 123, 0) := by decide +kernel
theorem xX10_fraud_100 : dcd mX10_fraud 100 = some (.iload 4, 2, 0, 0) := by decide +kernel
theorem xX10_fraud_102 : dcd mX10_fraud 102 = some (.iconst 0, 1, 0, 1) := by decide +kernel
theorem xX10_fraud_103 : dcd mX10_fraud 103 = some (.if_icmp .ne 0, 3, 116, 0) := by decide +kernel
theorem xX10_fraud_106 : dcd mX10_fraud 106 = some (.aload 0, 1, 0, 0) := by decide +kernel
theorem xX10_fraud_107 : dcd mX10_fraud 107 = some (.getfield 54, 3, 0, 0) := by decide +kernel
theorem xX10_fraud_110 : dcd mX10_fraud 110 = some (.getfield 230, 3, 0, 0) := by decide +kernel
theorem xX10_fraud_113 : dcd mX10_fraud 113 = some (.goto 0, 3, 123, 0) := by decide +kernel
theorem xX10_fraud_116 : dcd mX10_fraud 116 = some (.aload 0, 1, 0, 0) := by decide +kernel
theorem xX10_fraud_117 : dcd mX10_fraud 117 = some (.getfield 54, 3, 0, 0) := by decide +kernel
theorem xX10_fraud_120 : dcd mX10_fraud 120 = some (.getfield 233, 3, 0, 0) := by decide +kernel
theorem xX10_fraud_123 : dcd mX10_fraud 123 = some (.ireturn, 1, 0, 0) := by decide +kernel
theorem xX10_owes_0 : dcd mX10_owes 0 = some (.iload 1, 1, 0, 0) := by decide +kernel
theorem xX10_owes_1 : dcd mX10_owes 1 = some (.iload 2, 1, 0, 0) := by decide +kernel
theorem xX10_owes_2 : dcd mX10_owes 2 = some (.invokestatic 133, 3, 0, 0) := by decide +kernel
theorem xX10_owes_5 : dcd mX10_owes 5 = some (.ifCond .eq 0, 3, 20, 0) := by decide +kernel
theorem xX10_owes_8 : dcd mX10_owes 8 = some (.aload 0, 1, 0, 0) := by decide +kernel
theorem xX10_owes_9 : dcd mX10_owes 9 = some (.getfield 19, 3, 0, 0) := by decide +kernel
theorem xX10_owes_12 : dcd mX10_owes 12 = some (.iload 1, 1, 0, 0) := by decide +kernel
theorem xX10_owes_13 : dcd mX10_owes 13 = some (.iload 2, 1, 0, 0) := by decide +kernel
theorem xX10_owes_14 : dcd mX10_owes 14 = some (.invokevirtual 296, 3, 0, 0) := by decide +kernel
theorem xX10_owes_17 : dcd mX10_owes 17 = some (.goto 0, 3, 21, 0) := by decide +kernel
theorem xX10_owes_20 : dcd mX10_owes 20 = some (.iconst 0, 1, 0, (-1)) := by decide +kernel
theorem xX10_owes_21 : dcd mX10_owes 21 = some (.ireturn, 1, 0, 0) := by decide +kernel
theorem xX10_ring_0 : dcd mX10_ring 0 = some (.iconst 0, 1, 0, (-1)) := by decide +kernel
theorem xX10_ring_1 : dcd mX10_ring 1 = some (.iload 1, 1, 0, 0) := by decide +kernel
theorem xX10_ring_2 : dcd mX10_ring 2 = some (.iconst 0, 2, 0, 8) := by decide +kernel
theorem xX10_ring_4 : dcd mX10_ring 4 = some (.invokestatic 110, 3, 0, 0) := by decide +kernel
theorem xX10_ring_7 : dcd mX10_ring 7 = some (.ifCond .ne 0, 3, 12, 0) := by decide +kernel
theorem xX10_ring_10 : dcd mX10_ring 10 = some (.iconst 0, 1, 0, (-1)) := by decide +kernel
theorem xX10_ring_11 : dcd mX10_ring 11 = some (.ireturn, 1, 0, 0) := by decide +kernel
theorem xX10_ring_12 : dcd mX10_ring 12 = some (.aload 0, 1, 0, 0) := by decide +kernel
theorem xX10_ring_13 : dcd mX10_ring 13 = some (.getfield 79, 3, 0, 0) := by decide +kernel
theorem xX10_ring_16 : dcd mX10_ring 16 = some (.invokevirtual 299, 3, 0, 0) := by decide +kernel
theorem xX10_ring_19 : dcd mX10_ring 19 = some (.ifCond .ne 0, 3, 25, 0) := by decide +kernel
theorem xX10_ring_22 : dcd mX10_ring 22 = some (.iconst 0, 2, 0, (-2)) := by decide +kernel
theorem xX10_ring_24 : dcd mX10_ring 24 = some (.ireturn, 1, 0, 0) := by decide +kernel
theorem xX10_ring_25 : dcd mX10_ring 25 = some (.iload 1, 1, 0, 0) := by decide +kernel
theorem xX10_ring_26 : dcd mX10_ring 26 = some (.iconst 0, 1, 0, (-1)) := by decide +kernel
theorem xX10_ring_27 : dcd mX10_ring 27 = some (.if_icmp .ne 0, 3, 38, 0) := by decide +kernel
theorem xX10_ring_30 : dcd mX10_ring 30 = some (.aload 0, 1, 0, 0) := by decide +kernel
theorem xX10_ring_31 : dcd mX10_ring 31 = some (.getfield 79, 3, 0, 0) := by decide +kernel
theorem xX10_ring_34 : dcd mX10_ring 34 = some (.getfield 302, 3, 0, 0) := by decide +kernel
theorem xX10_ring_37 : dcd mX10_ring 37 = some (.ireturn, 1, 0, 0) := by decide +kernel
theorem xX10_ring_38 : dcd mX10_ring 38 = some (.iload 1, 1, 0, 0) := by decide +kernel
theorem xX10_ring_39 : dcd mX10_ring 39 = some (.iconst 0, 2, 0, 8) := by decide +kernel
theorem xX10_ring_41 : dcd mX10_ring 41 = some (.if_icmp .ne 0, 3, 52, 0) := by decide +kernel
theorem xX10_ring_44 : dcd mX10_ring 44 = some (.aload 0, 1, 0, 0) := by decide +kernel
theorem xX10_ring_45 : dcd mX10_ring 45 = some (.getfield 79, 3, 0, 0) := by decide +kernel
theorem xX10_ring_48 : dcd mX10_ring 48 = some (.getfield 305, 3, 0, 0) := by decide +kernel
theorem xX10_ring_51 : dcd mX10_ring 51 = some (.ireturn, 1, 0, 0) := by decide +kernel
theorem xX10_ring_52 : dcd mX10_ring 52 = some (.iconst 0, 1, 0, 0) := by decide +kernel
theorem xX10_ring_53 : dcd mX10_ring 53 = some (.iload 1, 1, 0, 0) := by decide +kernel
theorem xX10_ring_54 : dcd mX10_ring 54 = some (.aload 0, 1, 0, 0) := by decide +kernel
theorem xX10_ring_55 : dcd mX10_ring 55 = some (.getfield 79, 3, 0, 0) := by decide +kernel
theorem xX10_ring_58 : dcd mX10_ring 58 = some (.getfield 305, 3, 0, 0) := by decide +kernel
theorem xX10_ring_61 : dcd mX10_ring 61 = some (.iconst 0, 1, 0, 1) := by decide +kernel
theorem xX10_ring_62 : dcd mX10_ring 62 = some (.isub, 1, 0, 0) := by decide +kernel
theorem xX10_ring_63 : dcd mX10_ring 63 = some (.invokestatic 110, 3, 0, 0) := by decide +kernel
theorem xX10_ring_66 : dcd mX10_ring 66 = some (.ifCond .eq 0, 3, 81, 0) := by decide +kernel
theorem xX10_ring_69 : dcd mX10_ring 69 = some (.aload 0, 1, 0, 0) := by decide +kernel
theorem xX10_ring_70 : dcd mX10_ring 70 = some (.getfield 79, 3, 0, 0) := by decide +kernel
theorem xX10_ring_73 : dcd mX10_ring 73 = some (.getfield 308, 3, 0, 0) := by decide +kernel
theorem xX10_ring_76 : dcd mX10_ring 76 = some (.iload 1, 1, 0, 0) := by decide +kernel
theorem xX10_ring_77 : dcd mX10_ring 77 = some (.iaload, 1, 0, 0) := by decide +kernel
theorem xX10_ring_78 : dcd mX10_ring 78 = some (.goto 0, 3, 82, 0) := by decide +kernel
theorem xX10_ring_81 : dcd mX10_ring 81 = some (.iconst 0, 1, 0, (-1)) := by decide +kernel
theorem xX10_ring_82 : dcd mX10_ring 82 = some (.ireturn, 1, 0, 0) := by decide +kernel
theorem xX10_clear_0 : dcd mX10_clear 0 = some (.aload 0, 1, 0, 0) := by decide +kernel
theorem xX10_clear_1 : dcd mX10_clear 1 = some (.getfield 79, 3, 0, 0) := by decide +kernel
theorem xX10_clear_4 : dcd mX10_clear 4 = some (.invokevirtual 309, 3, 0, 0) := by decide +kernel
theorem xX10_clear_7 : dcd mX10_clear 7 = some (.ireturn, 1, 0, 0) := by decide +kernel
theorem xX10_run_0 : dcd mX10_run 0 = some (.iconst 0, 1, 0, 1) := by decide +kernel
theorem xX10_run_1 : dcd mX10_run 1 = some (.iload 1, 1, 0, 0) := by decide +kernel
theorem xX10_run_2 : dcd mX10_run 2 = some (.iconst 0, 2, 0, 8) := by decide +kernel
theorem xX10_run_4 : dcd mX10_run 4 = some (.invokestatic 110, 3, 0, 0) := by decide +kernel
theorem xX10_run_7 : dcd mX10_run 7 = some (.ifCond .eq 0, 3, 33, 0) := by decide +kernel
theorem xX10_run_10 : dcd mX10_run 10 = some (.iconst 0, 1, 0, 0) := by decide +kernel
theorem xX10_run_11 : dcd mX10_run 11 = some (.iload 2, 1, 0, 0) := by decide +kernel
theorem xX10_run_12 : dcd mX10_run 12 = some (.iconst 0, 2, 0, 9) := by decide +kernel
theorem xX10_run_14 : dcd mX10_run 14 = some (.invokestatic 110, 3, 0, 0) := by decide +kernel
theorem xX10_run_17 : dcd mX10_run 17 = some (.ifCond .eq 0, 3, 33, 0) := by decide +kernel
theorem xX10_run_20 : dcd mX10_run 20 = some (.iconst 0, 1, 0, 0) := by decide +kernel
theorem xX10_run_21 : dcd mX10_run 21 = some (.iload 3, 1, 0, 0) := by decide +kernel
theorem xX10_run_22 : dcd mX10_run 22 = some (.iconst 0, 1, 0, 1) := by decide +kernel
theorem xX10_run_23 : dcd mX10_run 23 = some (.invokestatic 110, 3, 0, 0) := by decide +kernel
theorem xX10_run_26 : dcd mX10_run 26 = some (.ifCond .eq 0, 3, 33, 0) := by decide +kernel
theorem xX10_run_29 : dcd mX10_run 29 = some (.iconst 0, 1, 0, 1) := by decide +kernel
theorem xX10_run_30 : dcd mX10_run 30 = some (.goto 0, 3, 34, 0) := by decide +kernel
theorem xX10_run_33 : dcd mX10_run 33 = some (.iconst 0, 1, 0, 0) := by decide +kernel
theorem xX10_run_34 : dcd mX10_run 34 = some (.istore 4, 2, 0, 0) := by decide +kernel
theorem xX10_run_36 : dcd mX10_run 36 = some (.iload 4, 2, 0, 0) := by decide +kernel
theorem xX10_run_38 : dcd mX10_run 38 = some (.ifCond .eq 0, 3, 52, 0) := by decide +kernel
theorem xX10_run_41 : dcd mX10_run 41 = some (.aload 0, 1, 0, 0) := by decide +kernel
theorem xX10_run_42 : dcd mX10_run 42 = some (.getfield 10, 3, 0, 0) := by decide +kernel
theorem xX10_run_45 : dcd mX10_run 45 = some (.getfield 148, 3, 0, 0) := by decide +kernel
theorem xX10_run_48 : dcd mX10_run 48 = some (.iload 1, 1, 0, 0) := by decide +kernel
theorem xX10_run_49 : dcd mX10_run 49 = some (.if_icmp .ge 0, 3, 54, 0) := by decide +kernel
theorem xX10_run_52 : dcd mX10_run 52 = some (.iconst 0, 1, 0, (-1)) := by decide +kernel
theorem xX10_run_53 : dcd mX10_run 53 = some (.ireturn, 1, 0, 0) := by decide +kernel
theorem xX10_run_54 : dcd mX10_run 54 = some (.aload 0, 1, 0, 0) := by decide +kernel
theorem xX10_run_55 : dcd mX10_run 55 = some (.getfield 88, 3, 0, 0) := by decide +kernel
theorem xX10_run_58 : dcd mX10_run 58 = some (.aload 0, 1, 0, 0) := by decide +kernel
theorem xX10_run_59 : dcd mX10_run 59 = some (.getfield 10, 3, 0, 0) := by decide +kernel
theorem xX10_run_62 : dcd mX10_run 62 = some (.iload 1, 1, 0, 0) := by decide +kernel
theorem xX10_run_63 : dcd mX10_run 63 = some (.invokevirtual 312, 3, 0, 0) := by decide +kernel
theorem xX10_run_66 : dcd mX10_run 66 = some (.istore 5, 2, 0, 0) := by decide +kernel
theorem xX10_run_68 : dcd mX10_run 68 = some (.aload 0, 1, 0, 0) := by decide +kernel
theorem xX10_run_69 : dcd mX10_run 69 = some (.getfield 10, 3, 0, 0) := by decide +kernel
theorem xX10_run_72 : dcd mX10_run 72 = some (.invokevirtual 155, 3, 0, 0) := by decide +kernel
theorem xX10_run_75 : dcd mX10_run 75 = some (.iload 5, 2, 0, 0) := by decide +kernel
theorem xX10_run_77 : dcd mX10_run 77 = some (.ifCond .ne 0, 3, 83, 0) := by decide +kernel
theorem xX10_run_80 : dcd mX10_run 80 = some (.iconst 0, 2, 0, (-2)) := by decide +kernel
theorem xX10_run_82 : dcd mX10_run 82 = some (.ireturn, 1, 0, 0) := by decide +kernel
theorem xX10_run_83 : dcd mX10_run 83 = some (.aload 0, 1, 0, 0) := by decide +kernel
theorem xX10_run_84 : dcd mX10_run 84 = some (.getfield 88, 3, 0, 0) := by decide +kernel
theorem xX10_run_87 : dcd mX10_run 87 = some (.iload 1, 1, 0, 0) := by decide +kernel
theorem xX10_run_88 : dcd mX10_run 88 = some (.iload 2, 1, 0, 0) := by decide +kernel
theorem xX10_run_89 : dcd mX10_run 89 = some (.invokevirtual 315, 3, 0, 0) := by decide +kernel
theorem xX10_run_92 : dcd mX10_run 92 = some (.iload 3, 1, 0, 0) := by decide +kernel
theorem xX10_run_93 : dcd mX10_run 93 = some (.ifCond .ne 0, 3, 106, 0) := by decide +kernel
theorem xX10_run_96 : dcd mX10_run 96 = some (.aload 0, 1, 0, 0) := by decide +kernel
theorem xX10_run_97 : dcd mX10_run 97 = some (.getfield 88, 3, 0, 0) := by decide +kernel
theorem xX10_run_100 : dcd mX10_run 100 = some (.getfield 319, 3, 0, 0) := by decide +kernel
theorem xX10_run_103 : dcd mX10_run 103 = some (.goto 0, 3, 113, 0) := by decide +kernel
theorem xX10_run_106 : dcd mX10_run 106 = some (.aload 0, 1, 0, 0) := by decide +kernel
theorem xX10_run_107 : dcd mX10_run 107 = some (.getfield 88, 3, 0, 0) := by decide +kernel
theorem xX10_run_110 : dcd mX10_run 110 = some (.getfield 322, 3, 0, 0) := by decide +kernel
theorem xX10_run_113 : dcd mX10_run 113 = some (.ireturn, 1, 0, 0) := by decide +kernel
theorem xX10_order_0 : dcd mX10_order 0 = some (.iconst 0, 1, 0, 1) := by decide +kernel
theorem xX10_order_1 : dcd mX10_order 1 = some (.iload 1, 1, 0, 0) := by decide +kernel
theorem xX10_order_2 : dcd mX10_order 2 = some (.iconst 0, 3, 0, 255) := by decide +kernel
theorem xX10_order_5 : dcd mX10_order 5 = some (.invokestatic 110, 3, 0, 0) := by decide +kernel
theorem xX10_order_8 : dcd mX10_order 8 = some (.ifCond .eq 0, 3, 25, 0) := by decide +kernel
theorem xX10_order_11 : dcd mX10_order 11 = some (.iconst 0, 1, 0, 0) := by decide +kernel
theorem xX10_order_12 : dcd mX10_order 12 = some (.iload 2, 1, 0, 0) := by decide +kernel
theorem xX10_order_13 : dcd mX10_order 13 = some (.iconst 0, 2, 0, 9) := by decide +kernel
theorem xX10_order_15 : dcd mX10_order 15 = some (.invokestatic 110, 3, 0, 0) := by decide +kernel
theorem xX10_order_18 : dcd mX10_order 18 = some (.ifCond .eq 0, 3, 25, 0) := by decide +kernel
theorem xX10_order_21 : dcd mX10_order 21 = some (.iconst 0, 1, 0, 1) := by decide +kernel
theorem xX10_order_22 : dcd mX10_order 22 = some (.goto 0, 3, 26, 0) := by decide +kernel
theorem xX10_order_25 : dcd mX10_order 25 = some (.iconst 0, 1, 0, 0) := by decide +kernel
theorem xX10_order_26 : dcd mX10_order 26 = some (.istore 4, 2, 0, 0) := by decide +kernel
theorem xX10_order_28 : dcd mX10_order 28 = some (.iload 4, 2, 0, 0) := by decide +kernel
theorem xX10_order_30 : dcd mX10_order 30 = some (.ifCond .eq 0, 3, 47, 0) := by decide +kernel
theorem xX10_order_33 : dcd mX10_order 33 = some (.iconst 0, 1, 0, (-1)) := by decide +kernel
theorem xX10_order_34 : dcd mX10_order 34 = some (.iload 3, 1, 0, 0) := by decide +kernel
theorem xX10_order_35 : dcd mX10_order 35 = some (.iload 1, 1, 0, 0) := by decide +kernel
theorem xX10_order_36 : dcd mX10_order 36 = some (.invokestatic 325, 3, 0, 0) := by decide +kernel
theorem xX10_order_39 : dcd mX10_order 39 = some (.iconst 0, 1, 0, 1) := by decide +kernel
theorem xX10_order_40 : dcd mX10_order 40 = some (.isub, 1, 0, 0) := by decide +kernel
theorem xX10_order_41 : dcd mX10_order 41 = some (.invokestatic 110, 3, 0, 0) := by decide +kernel
theorem xX10_order_44 : dcd mX10_order 44 = some (.ifCond .ne 0, 3, 49, 0) := by decide +kernel
theorem xX10_order_47 : dcd mX10_order 47 = some (.iconst 0, 1, 0, (-1)) := by decide +kernel
theorem xX10_order_48 : dcd mX10_order 48 = some (.ireturn, 1, 0, 0) := by decide +kernel
theorem xX10_order_49 : dcd mX10_order 49 = some (.aload 0, 1, 0, 0) := by decide +kernel
theorem xX10_order_50 : dcd mX10_order 50 = some (.getfield 88, 3, 0, 0) := by decide +kernel
theorem xX10_order_53 : dcd mX10_order 53 = some (.iload 1, 1, 0, 0) := by decide +kernel
theorem xX10_order_54 : dcd mX10_order 54 = some (.iload 2, 1, 0, 0) := by decide +kernel
theorem xX10_order_55 : dcd mX10_order 55 = some (.invokevirtual 330, 3, 0, 0) := by decide +kernel
theorem xX10_order_58 : dcd mX10_order 58 = some (.iload 3, 1, 0, 0) := by decide +kernel
theorem xX10_order_59 : dcd mX10_order 59 = some (.iconst 0, 1, 0, (-1)) := by decide +kernel
theorem xX10_order_60 : dcd mX10_order 60 = some (.if_icmp .ne 0, 3, 73, 0) := by decide +kernel
theorem xX10_order_63 : dcd mX10_order 63 = some (.aload 0, 1, 0, 0) := by decide +kernel
theorem xX10_order_64 : dcd mX10_order 64 = some (.getfield 88, 3, 0, 0) := by decide +kernel
theorem xX10_order_67 : dcd mX10_order 67 = some (.invokevirtual 332, 3, 0, 0) := by decide +kernel
theorem xX10_order_70 : dcd mX10_order 70 = some (.goto 0, 3, 82, 0) := by decide +kernel
theorem xX10_order_73 : dcd mX10_order 73 = some (.aload 0, 1, 0, 0) := by decide +kernel
theorem xX10_order_74 : dcd mX10_order 74 = some (.getfield 88, 3, 0, 0) := by decide +kernel
theorem xX10_order_77 : dcd mX10_order 77 = some (.iload 1, 1, 0, 0) := by decide +kernel
theorem xX10_order_78 : dcd mX10_order 78 = some (.iload 3, 1, 0, 0) := by decide +kernel
theorem xX10_order_79 : dcd mX10_order 79 = some (.invokevirtual 335, 3, 0, 0) := by decide +kernel
theorem xX10_order_82 : dcd mX10_order 82 = some (.ireturn, 1, 0, 0) := by decide +kernel
theorem xX10_seed_0 : dcd mX10_seed 0 = some (.iconst 0, 1, 0, 0) := by decide +kernel
theorem xX10_seed_1 : dcd mX10_seed 1 = some (.iload 1, 1, 0, 0) := by decide +kernel
theorem xX10_seed_2 : dcd mX10_seed 2 = some (.ldc 338, 3, 0, 0) := by decide +kernel
theorem xX10_seed_5 : dcd mX10_seed 5 = some (.invokestatic 110, 3, 0, 0) := by decide +kernel
theorem xX10_seed_8 : dcd mX10_seed 8 = some (.ifCond .ne 0, 3, 13, 0) := by decide +kernel
theorem xX10_seed_11 : dcd mX10_seed 11 = some (.iconst 0, 1, 0, 0) := by decide +kernel
theorem xX10_seed_12 : dcd mX10_seed 12 = some (.ireturn, 1, 0, 0) := by decide +kernel
theorem xX10_seed_13 : dcd mX10_seed 13 = some (.aload 0, 1, 0, 0) := by decide +kernel
theorem xX10_seed_14 : dcd mX10_seed 14 = some (.getfield 19, 3, 0, 0) := by decide +kernel
theorem xX10_seed_17 : dcd mX10_seed 17 = some (.iload 1, 1, 0, 0) := by decide +kernel
theorem xX10_seed_18 : dcd mX10_seed 18 = some (.putfield 96, 3, 0, 0) := by decide +kernel
theorem xX10_seed_21 : dcd mX10_seed 21 = some (.iconst 0, 1, 0, 1) := by decide +kernel
theorem xX10_seed_22 : dcd mX10_seed 22 = some (.ireturn, 1, 0, 0) := by decide +kernel
theorem xX10_draw_0 : dcd mX10_draw 0 = some (.iconst 0, 1, 0, 1) := by decide +kernel
theorem xX10_draw_1 : dcd mX10_draw 1 = some (.iload 1, 1, 0, 0) := by decide +kernel
theorem xX10_draw_2 : dcd mX10_draw 2 = some (.iconst 0, 2, 0, 60) := by decide +kernel
theorem xX10_draw_4 : dcd mX10_draw 4 = some (.invokestatic 110, 3, 0, 0) := by decide +kernel
theorem xX10_draw_7 : dcd mX10_draw 7 = some (.ifCond .ne 0, 3, 12, 0) := by decide +kernel
theorem xX10_draw_10 : dcd mX10_draw 10 = some (.iconst 0, 1, 0, (-1)) := by decide +kernel
theorem xX10_draw_11 : dcd mX10_draw 11 = some (.ireturn, 1, 0, 0) := by decide +kernel
theorem xX10_draw_12 : dcd mX10_draw 12 = some (.iconst 0, 1, 0, 0) := by decide +kernel
theorem xX10_draw_13 : dcd mX10_draw 13 = some (.istore 2, 1, 0, 0) := by decide +kernel
theorem xX10_draw_14 : dcd mX10_draw 14 = some (.iconst 0, 1, 0, 0) := by decide +kernel
theorem xX10_draw_15 : dcd mX10_draw 15 = some (.istore 3, 1, 0, 0) := by decide +kernel
theorem xX10_draw_16 : dcd mX10_draw 16 = some (.iload 3, 1, 0, 0) := by decide +kernel
theorem xX10_draw_17 : dcd mX10_draw 17 = some (.iload 1, 1, 0, 0) := by decide +kernel
theorem xX10_draw_18 : dcd mX10_draw 18 = some (.if_icmp .ge 0, 3, 100, 0) := by decide +kernel
theorem xX10_draw_21 : dcd mX10_draw 21 = some (.aload 0, 1, 0, 0) := by decide +kernel
theorem xX10_draw_22 : dcd mX10_draw 22 = some (.getfield 19, 3, 0, 0) := by decide +kernel
theorem xX10_draw_25 : dcd mX10_draw 25 = some (.iconst 0, 3, 0, 25173) := by decide +kernel
theorem xX10_draw_28 : dcd mX10_draw 28 = some (.aload 0, 1, 0, 0) := by decide +kernel
theorem xX10_draw_29 : dcd mX10_draw 29 = some (.getfield 19, 3, 0, 0) := by decide +kernel
theorem xX10_draw_32 : dcd mX10_draw 32 = some (.getfield 96, 3, 0, 0) := by decide +kernel
theorem xX10_draw_35 : dcd mX10_draw 35 = some (.imul, 1, 0, 0) := by decide +kernel
theorem xX10_draw_36 : dcd mX10_draw 36 = some (.iconst 0, 3, 0, 13849) := by decide +kernel
theorem xX10_draw_39 : dcd mX10_draw 39 = some (.iadd, 1, 0, 0) := by decide +kernel
theorem xX10_draw_40 : dcd mX10_draw 40 = some (.ldc 338, 3, 0, 0) := by decide +kernel
theorem xX10_draw_43 : dcd mX10_draw 43 = some (.iand, 1, 0, 0) := by decide +kernel
theorem xX10_draw_44 : dcd mX10_draw 44 = some (.putfield 96, 3, 0, 0) := by decide +kernel
theorem xX10_draw_47 : dcd mX10_draw 47 = some (.aload 0, 1, 0, 0) := by decide +kernel
theorem xX10_draw_48 : dcd mX10_draw 48 = some (.getfield 19, 3, 0, 0) := by decide +kernel
theorem xX10_draw_51 : dcd mX10_draw 51 = some (.aload 0, 1, 0, 0) := by decide +kernel
theorem xX10_draw_52 : dcd mX10_draw 52 = some (.getfield 19, 3, 0, 0) := by decide +kernel
theorem xX10_draw_55 : dcd mX10_draw 55 = some (.getfield 96, 3, 0, 0) := by decide +kernel
theorem xX10_draw_58 : dcd mX10_draw 58 = some (.iconst 0, 2, 0, 19) := by decide +kernel
theorem xX10_draw_60 : dcd mX10_draw 60 = some (.irem, 1, 0, 0) := by decide +kernel
theorem xX10_draw_61 : dcd mX10_draw 61 = some (.iconst 0, 2, 0, 9) := by decide +kernel
theorem xX10_draw_63 : dcd mX10_draw 63 = some (.isub, 1, 0, 0) := by decide +kernel
theorem xX10_draw_64 : dcd mX10_draw 64 = some (.putfield 137, 3, 0, 0) := by decide +kernel
theorem xX10_draw_67 : dcd mX10_draw 67 = some (.aload 0, 1, 0, 0) := by decide +kernel
theorem xX10_draw_68 : dcd mX10_draw 68 = some (.getfield 47, 3, 0, 0) := by decide +kernel
theorem xX10_draw_71 : dcd mX10_draw 71 = some (.aload 0, 1, 0, 0) := by decide +kernel
theorem xX10_draw_72 : dcd mX10_draw 72 = some (.getfield 19, 3, 0, 0) := by decide +kernel
theorem xX10_draw_75 : dcd mX10_draw 75 = some (.getfield 137, 3, 0, 0) := by decide +kernel
theorem xX10_draw_78 : dcd mX10_draw 78 = some (.invokevirtual 169, 3, 0, 0) := by decide +kernel
theorem xX10_draw_81 : dcd mX10_draw 81 = some (.aload 0, 1, 0, 0) := by decide +kernel
theorem xX10_draw_82 : dcd mX10_draw 82 = some (.getfield 47, 3, 0, 0) := by decide +kernel
theorem xX10_draw_85 : dcd mX10_draw 85 = some (.invokevirtual 339, 3, 0, 0) := by decide +kernel
theorem xX10_draw_88 : dcd mX10_draw 88 = some (.ifCond .eq 0, 3, 94, 0) := by decide +kernel
theorem xX10_draw_91 : dcd mX10_draw 91 = some (.iinc 2 0, 3, 0, 1) := by decide +kernel
theorem xX10_draw_94 : dcd mX10_draw 94 = some (.iinc 3 0, 3, 0, 1) := by decide +kernel
theorem xX10_draw_97 : dcd mX10_draw 97 = some (.goto 0, 3, 16, 0) := by decide +kernel
theorem xX10_draw_100 : dcd mX10_draw 100 = some (.iload 2, 1, 0, 0) := by decide +kernel
theorem xX10_draw_101 : dcd mX10_draw 101 = some (.ireturn, 1, 0, 0) := by decide +kernel
theorem xX10_keep_0 : dcd mX10_keep 0 = some (.aload 0, 1, 0, 0) := by decide +kernel
theorem xX10_keep_1 : dcd mX10_keep 1 = some (.getfield 23, 3, 0, 0) := by decide +kernel
theorem xX10_keep_4 : dcd mX10_keep 4 = some (.aload 0, 1, 0, 0) := by decide +kernel
theorem xX10_keep_5 : dcd mX10_keep 5 = some (.getfield 19, 3, 0, 0) := by decide +kernel
theorem xX10_keep_8 : dcd mX10_keep 8 = some (.invokevirtual 342, 3, 0, 0) := by decide +kernel
theorem xX10_keep_11 : dcd mX10_keep 11 = some (.aload 0, 1, 0, 0) := by decide +kernel
theorem xX10_keep_12 : dcd mX10_keep 12 = some (.iconst 0, 1, 0, 1) := by decide +kernel
theorem xX10_keep_13 : dcd mX10_keep 13 = some (.putfield 344, 3, 0, 0) := by decide +kernel
theorem xX10_keep_16 : dcd mX10_keep 16 = some (.aload 0, 1, 0, 0) := by decide +kernel
theorem xX10_keep_17 : dcd mX10_keep 17 = some (.getfield 19, 3, 0, 0) := by decide +kernel
theorem xX10_keep_20 : dcd mX10_keep 20 = some (.invokevirtual 348, 3, 0, 0) := by decide +kernel
theorem xX10_keep_23 : dcd mX10_keep 23 = some (.ireturn, 1, 0, 0) := by decide +kernel
theorem xX10_undo_0 : dcd mX10_undo 0 = some (.aload 0, 1, 0, 0) := by decide +kernel
theorem xX10_undo_1 : dcd mX10_undo 1 = some (.getfield 344, 3, 0, 0) := by decide +kernel
theorem xX10_undo_4 : dcd mX10_undo 4 = some (.ifCond .ne 0, 3, 9, 0) := by decide +kernel
theorem xX10_undo_7 : dcd mX10_undo 7 = some (.iconst 0, 1, 0, 0) := by decide +kernel
theorem xX10_undo_8 : dcd mX10_undo 8 = some (.ireturn, 1, 0, 0) := by decide +kernel
theorem xX10_undo_9 : dcd mX10_undo 9 = some (.aload 0, 1, 0, 0) := by decide +kernel
theorem xX10_undo_10 : dcd mX10_undo 10 = some (.getfield 19, 3, 0, 0) := by decide +kernel
theorem xX10_undo_13 : dcd mX10_undo 13 = some (.aload 0, 1, 0, 0) := by decide +kernel
theorem xX10_undo_14 : dcd mX10_undo 14 = some (.getfield 23, 3, 0, 0) := by decide +kernel
theorem xX10_undo_17 : dcd mX10_undo 17 = some (.invokevirtual 342, 3, 0, 0) := by decide +kernel
theorem xX10_undo_20 : dcd mX10_undo 20 = some (.iconst 0, 1, 0, 1) := by decide +kernel
theorem xX10_undo_21 : dcd mX10_undo 21 = some (.ireturn, 1, 0, 0) := by decide +kernel
theorem xX10_check_0 : dcd mX10_check 0 = some (.iload 1, 1, 0, 0) := by decide +kernel
theorem xX10_check_1 : dcd mX10_check 1 = some (.ifCond .lt 0, 3, 17, 0) := by decide +kernel
theorem xX10_check_4 : dcd mX10_check 4 = some (.iload 1, 1, 0, 0) := by decide +kernel
theorem xX10_check_5 : dcd mX10_check 5 = some (.aload 0, 1, 0, 0) := by decide +kernel
theorem xX10_check_6 : dcd mX10_check 6 = some (.getfield 10, 3, 0, 0) := by decide +kernel
theorem xX10_check_9 : dcd mX10_check 9 = some (.getfield 148, 3, 0, 0) := by decide +kernel
theorem xX10_check_12 : dcd mX10_check 12 = some (.iconst 0, 1, 0, 4) := by decide +kernel
theorem xX10_check_13 : dcd mX10_check 13 = some (.idiv, 1, 0, 0) := by decide +kernel
theorem xX10_check_14 : dcd mX10_check 14 = some (.if_icmp .le 0, 3, 20, 0) := by decide +kernel
theorem xX10_check_17 : dcd mX10_check 17 = some (.iconst 0, 2, 0, (-2)) := by decide +kernel
theorem xX10_check_19 : dcd mX10_check 19 = some (.ireturn, 1, 0, 0) := by decide +kernel
theorem xX10_check_20 : dcd mX10_check 20 = some (.aload 0, 1, 0, 0) := by decide +kernel
theorem xX10_check_21 : dcd mX10_check 21 = some (.getfield 47, 3, 0, 0) := by decide +kernel
theorem xX10_check_24 : dcd mX10_check 24 = some (.aload 0, 1, 0, 0) := by decide +kernel
theorem xX10_check_25 : dcd mX10_check 25 = some (.getfield 19, 3, 0, 0) := by decide +kernel
theorem xX10_check_28 : dcd mX10_check 28 = some (.getfield 137, 3, 0, 0) := by decide +kernel
theorem xX10_check_31 : dcd mX10_check 31 = some (.invokevirtual 169, 3, 0, 0) := by decide +kernel
theorem xX10_check_34 : dcd mX10_check 34 = some (.iconst 0, 1, 0, 0) := by decide +kernel
theorem xX10_check_35 : dcd mX10_check 35 = some (.istore 2, 1, 0, 0) := by decide +kernel
theorem xX10_check_36 : dcd mX10_check 36 = some (.iload 2, 1, 0, 0) := by decide +kernel
theorem xX10_check_37 : dcd mX10_check 37 = some (.iload 1, 1, 0, 0) := by decide +kernel
theorem xX10_check_38 : dcd mX10_check 38 = some (.if_icmp .ge 0, 3, 77, 0) := by decide +kernel
theorem xX10_check_41 : dcd mX10_check 41 = some (.iload 2, 1, 0, 0) := by decide +kernel
theorem xX10_check_42 : dcd mX10_check 42 = some (.aload 0, 1, 0, 0) := by decide +kernel
theorem xX10_check_43 : dcd mX10_check 43 = some (.getfield 19, 3, 0, 0) := by decide +kernel
theorem xX10_check_46 : dcd mX10_check 46 = some (.getfield 107, 3, 0, 0) := by decide +kernel
theorem xX10_check_49 : dcd mX10_check 49 = some (.if_icmp .ge 0, 3, 77, 0) := by decide +kernel
theorem xX10_check_52 : dcd mX10_check 52 = some (.aload 0, 1, 0, 0) := by decide +kernel
theorem xX10_check_53 : dcd mX10_check 53 = some (.getfield 10, 3, 0, 0) := by decide +kernel
theorem xX10_check_56 : dcd mX10_check 56 = some (.iload 2, 1, 0, 0) := by decide +kernel
theorem xX10_check_57 : dcd mX10_check 57 = some (.invokevirtual 351, 3, 0, 0) := by decide +kernel
theorem xX10_check_60 : dcd mX10_check 60 = some (.aload 0, 1, 0, 0) := by decide +kernel
theorem xX10_check_61 : dcd mX10_check 61 = some (.getfield 47, 3, 0, 0) := by decide +kernel
theorem xX10_check_64 : dcd mX10_check 64 = some (.iload 2, 1, 0, 0) := by decide +kernel
theorem xX10_check_65 : dcd mX10_check 65 = some (.invokevirtual 178, 3, 0, 0) := by decide +kernel
theorem xX10_check_68 : dcd mX10_check 68 = some (.if_icmp .ne 0, 3, 77, 0) := by decide +kernel
theorem xX10_check_71 : dcd mX10_check 71 = some (.iinc 2 0, 3, 0, 1) := by decide +kernel
theorem xX10_check_74 : dcd mX10_check 74 = some (.goto 0, 3, 36, 0) := by decide +kernel
theorem xX10_check_77 : dcd mX10_check 77 = some (.aload 0, 1, 0, 0) := by decide +kernel
theorem xX10_check_78 : dcd mX10_check 78 = some (.getfield 10, 3, 0, 0) := by decide +kernel
theorem xX10_check_81 : dcd mX10_check 81 = some (.invokevirtual 155, 3, 0, 0) := by decide +kernel
theorem xX10_check_84 : dcd mX10_check 84 = some (.iload 2, 1, 0, 0) := by decide +kernel
theorem xX10_check_85 : dcd mX10_check 85 = some (.iload 1, 1, 0, 0) := by decide +kernel
theorem xX10_check_86 : dcd mX10_check 86 = some (.if_icmp .ne 0, 3, 104, 0) := by decide +kernel
theorem xX10_check_89 : dcd mX10_check 89 = some (.iload 1, 1, 0, 0) := by decide +kernel
theorem xX10_check_90 : dcd mX10_check 90 = some (.aload 0, 1, 0, 0) := by decide +kernel
theorem xX10_check_91 : dcd mX10_check 91 = some (.getfield 19, 3, 0, 0) := by decide +kernel
theorem xX10_check_94 : dcd mX10_check 94 = some (.getfield 107, 3, 0, 0) := by decide +kernel
theorem xX10_check_97 : dcd mX10_check 97 = some (.if_icmp .ne 0, 3, 104, 0) := by decide +kernel
theorem xX10_check_100 : dcd mX10_check 100 = some (.iconst 0, 1, 0, (-1)) := by decide +kernel
theorem xX10_check_101 : dcd mX10_check 101 = some (.goto 0, 3, 105, 0) := by decide +kernel
theorem xX10_check_104 : dcd mX10_check 104 = some (.iload 2, 1, 0, 0) := by decide +kernel
theorem xX10_check_105 : dcd mX10_check 105 = some (.ireturn, 1, 0, 0) := by decide +kernel
theorem xX10_count_0 : dcd mX10_count 0 = some (.iload 1, 1, 0, 0) := by decide +kernel
theorem xX10_count_1 : dcd mX10_count 1 = some (.tableswitch 102 0 6 #[43, 51, 59, 67, 75, 83, 94], 43, 0, 0) := by decide +kernel
theorem xX10_count_44 : dcd mX10_count 44 = some (.aload 0, 1, 0, 0) := by decide +kernel
theorem xX10_count_45 : dcd mX10_count 45 = some (.getfield 19, 3, 0, 0) := by decide +kernel
theorem xX10_count_48 : dcd mX10_count 48 = some (.getfield 107, 3, 0, 0) := by decide +kernel
theorem xX10_count_51 : dcd mX10_count 51 = some (.ireturn, 1, 0, 0) := by decide +kernel
theorem xX10_count_52 : dcd mX10_count 52 = some (.aload 0, 1, 0, 0) := by decide +kernel
theorem xX10_count_53 : dcd mX10_count 53 = some (.getfield 19, 3, 0, 0) := by decide +kernel
theorem xX10_count_56 : dcd mX10_count 56 = some (.getfield 354, 3, 0, 0) := by decide +kernel
theorem xX10_count_59 : dcd mX10_count 59 = some (.ireturn, 1, 0, 0) := by decide +kernel
theorem xX10_count_60 : dcd mX10_count 60 = some (.aload 0, 1, 0, 0) := by decide +kernel
theorem xX10_count_61 : dcd mX10_count 61 = some (.getfield 29, 3, 0, 0) := by decide +kernel
theorem xX10_count_64 : dcd mX10_count 64 = some (.getfield 165, 3, 0, 0) := by decide +kernel
theorem xX10_count_67 : dcd mX10_count 67 = some (.ireturn, 1, 0, 0) := by decide +kernel
theorem xX10_count_68 : dcd mX10_count 68 = some (.aload 0, 1, 0, 0) := by decide +kernel
theorem xX10_count_69 : dcd mX10_count 69 = some (.getfield 10, 3, 0, 0) := by decide +kernel
theorem xX10_count_72 : dcd mX10_count 72 = some (.getfield 148, 3, 0, 0) := by decide +kernel
theorem xX10_count_75 : dcd mX10_count 75 = some (.ireturn, 1, 0, 0) := by decide +kernel
theorem xX10_count_76 : dcd mX10_count 76 = some (.aload 0, 1, 0, 0) := by decide +kernel
theorem xX10_count_77 : dcd mX10_count 77 = some (.getfield 19, 3, 0, 0) := by decide +kernel
theorem xX10_count_80 : dcd mX10_count 80 = some (.getfield 96, 3, 0, 0) := by decide +kernel
theorem xX10_count_83 : dcd mX10_count 83 = some (.ireturn, 1, 0, 0) := by decide +kernel
theorem xX10_count_84 : dcd mX10_count 84 = some (.aload 0, 1, 0, 0) := by decide +kernel
theorem xX10_count_85 : dcd mX10_count 85 = some (.getfield 19, 3, 0, 0) := by decide +kernel
theorem xX10_count_88 : dcd mX10_count 88 = some (.getfield 137, 3, 0, 0) := by decide +kernel
theorem xX10_count_91 : dcd mX10_count 91 = some (.iconst 0, 2, 0, 9) := by decide +kernel
theorem xX10_count_93 : dcd mX10_count 93 = some (.iadd, 1, 0, 0) := by decide +kernel
theorem xX10_count_94 : dcd mX10_count 94 = some (.ireturn, 1, 0, 0) := by decide +kernel
theorem xX10_count_95 : dcd mX10_count 95 = some (.aload 0, 1, 0, 0) := by decide +kernel
theorem xX10_count_96 : dcd mX10_count 96 = some (.getfield 19, 3, 0, 0) := by decide +kernel
theorem xX10_count_99 : dcd mX10_count 99 = some (.invokevirtual 348, 3, 0, 0) := by decide +kernel
theorem xX10_count_102 : dcd mX10_count 102 = some (.ireturn, 1, 0, 0) := by decide +kernel
theorem xX10_count_103 : dcd mX10_count 103 = some (.iconst 0, 1, 0, (-1)) := by decide +kernel
theorem xX10_count_104 : dcd mX10_count 104 = some (.ireturn, 1, 0, 0) := by decide +kernel
theorem xX10_mayHang_0 : dcd mX10_mayHang 0 = some (.aload 0, 1, 0, 0) := by decide +kernel
theorem xX10_mayHang_1 : dcd mX10_mayHang 1 = some (.getfield 19, 3, 0, 0) := by decide +kernel
theorem xX10_mayHang_4 : dcd mX10_mayHang 4 = some (.iload 1, 1, 0, 0) := by decide +kernel
theorem xX10_mayHang_5 : dcd mX10_mayHang 5 = some (.invokevirtual 100, 3, 0, 0) := by decide +kernel
theorem xX10_mayHang_8 : dcd mX10_mayHang 8 = some (.ifCond .eq 0, 3, 52, 0) := by decide +kernel
theorem xX10_mayHang_11 : dcd mX10_mayHang 11 = some (.iload 2, 1, 0, 0) := by decide +kernel
theorem xX10_mayHang_12 : dcd mX10_mayHang 12 = some (.invokestatic 104, 3, 0, 0) := by decide +kernel
theorem xX10_mayHang_15 : dcd mX10_mayHang 15 = some (.ifCond .eq 0, 3, 52, 0) := by decide +kernel
theorem xX10_mayHang_18 : dcd mX10_mayHang 18 = some (.iconst 0, 1, 0, 1) := by decide +kernel
theorem xX10_mayHang_19 : dcd mX10_mayHang 19 = some (.iload 3, 1, 0, 0) := by decide +kernel
theorem xX10_mayHang_20 : dcd mX10_mayHang 20 = some (.iconst 0, 2, 0, 99) := by decide +kernel
theorem xX10_mayHang_22 : dcd mX10_mayHang 22 = some (.invokestatic 110, 3, 0, 0) := by decide +kernel
theorem xX10_mayHang_25 : dcd mX10_mayHang 25 = some (.ifCond .eq 0, 3, 52, 0) := by decide +kernel
theorem xX10_mayHang_28 : dcd mX10_mayHang 28 = some (.iload 4, 2, 0, 0) := by decide +kernel
theorem xX10_mayHang_30 : dcd mX10_mayHang 30 = some (.invokestatic 218, 3, 0, 0) := by decide +kernel
theorem xX10_mayHang_33 : dcd mX10_mayHang 33 = some (.ifCond .eq 0, 3, 52, 0) := by decide +kernel
theorem xX10_mayHang_36 : dcd mX10_mayHang 36 = some (.aload 0, 1, 0, 0) := by decide +kernel
theorem xX10_mayHang_37 : dcd mX10_mayHang 37 = some (.getfield 19, 3, 0, 0) := by decide +kernel
theorem xX10_mayHang_40 : dcd mX10_mayHang 40 = some (.getfield 354, 3, 0, 0) := by decide +kernel
theorem xX10_mayHang_43 : dcd mX10_mayHang 43 = some (.iconst 0, 2, 0, 40) := by decide +kernel
theorem xX10_mayHang_45 : dcd mX10_mayHang 45 = some (.if_icmp .ge 0, 3, 52, 0) := by decide +kernel
theorem xX10_mayHang_48 : dcd mX10_mayHang 48 = some (.iconst 0, 1, 0, 1) := by decide +kernel
theorem xX10_mayHang_49 : dcd mX10_mayHang 49 = some (.goto 0, 3, 53, 0) := by decide +kernel
theorem xX10_mayHang_52 : dcd mX10_mayHang 52 = some (.iconst 0, 1, 0, 0) := by decide +kernel
theorem xX10_mayHang_53 : dcd mX10_mayHang 53 = some (.ireturn, 1, 0, 0) := by decide +kernel
theorem xX10_within_0 : dcd mX10_within 0 = some (.iload 0, 1, 0, 0) := by decide +kernel
theorem xX10_within_1 : dcd mX10_within 1 = some (.iload 1, 1, 0, 0) := by decide +kernel
theorem xX10_within_2 : dcd mX10_within 2 = some (.if_icmp .gt 0, 3, 14, 0) := by decide +kernel
theorem xX10_within_5 : dcd mX10_within 5 = some (.iload 1, 1, 0, 0) := by decide +kernel
theorem xX10_within_6 : dcd mX10_within 6 = some (.iload 2, 1, 0, 0) := by decide +kernel
theorem xX10_within_7 : dcd mX10_within 7 = some (.if_icmp .gt 0, 3, 14, 0) := by decide +kernel
theorem xX10_within_10 : dcd mX10_within 10 = some (.iconst 0, 1, 0, 1) := by decide +kernel
theorem xX10_within_11 : dcd mX10_within 11 = some (.goto 0, 3, 15, 0) := by decide +kernel
theorem xX10_within_14 : dcd mX10_within 14 = some (.iconst 0, 1, 0, 0) := by decide +kernel
theorem xX10_within_15 : dcd mX10_within 15 = some (.ireturn, 1, 0, 0) := by decide +kernel
theorem xX10_reaches_0 : dcd mX10_reaches 0 = some (.iconst 0, 2, 0, (-9)) := by decide +kernel
theorem xX10_reaches_2 : dcd mX10_reaches 2 = some (.iload 0, 1, 0, 0) := by decide +kernel
theorem xX10_reaches_3 : dcd mX10_reaches 3 = some (.iconst 0, 2, 0, 9) := by decide +kernel
theorem xX10_reaches_5 : dcd mX10_reaches 5 = some (.invokestatic 110, 3, 0, 0) := by decide +kernel
theorem xX10_reaches_8 : dcd mX10_reaches 8 = some (.ireturn, 1, 0, 0) := by decide +kernel
theorem xX10_isPerson_0 : dcd mX10_isPerson 0 = some (.iconst 0, 1, 0, 0) := by decide +kernel
theorem xX10_isPerson_1 : dcd mX10_isPerson 1 = some (.iload 0, 1, 0, 0) := by decide +kernel
theorem xX10_isPerson_2 : dcd mX10_isPerson 2 = some (.iconst 0, 2, 0, 7) := by decide +kernel
theorem xX10_isPerson_4 : dcd mX10_isPerson 4 = some (.invokestatic 110, 3, 0, 0) := by decide +kernel
theorem xX10_isPerson_7 : dcd mX10_isPerson 7 = some (.ireturn, 1, 0, 0) := by decide +kernel
theorem xX10_areTwo_0 : dcd mX10_areTwo 0 = some (.iload 0, 1, 0, 0) := by decide +kernel
theorem xX10_areTwo_1 : dcd mX10_areTwo 1 = some (.invokestatic 218, 3, 0, 0) := by decide +kernel
theorem xX10_areTwo_4 : dcd mX10_areTwo 4 = some (.ifCond .eq 0, 3, 23, 0) := by decide +kernel
theorem xX10_areTwo_7 : dcd mX10_areTwo 7 = some (.iload 1, 1, 0, 0) := by decide +kernel
theorem xX10_areTwo_8 : dcd mX10_areTwo 8 = some (.invokestatic 218, 3, 0, 0) := by decide +kernel
theorem xX10_areTwo_11 : dcd mX10_areTwo 11 = some (.ifCond .eq 0, 3, 23, 0) := by decide +kernel
theorem xX10_areTwo_14 : dcd mX10_areTwo 14 = some (.iload 0, 1, 0, 0) := by decide +kernel
theorem xX10_areTwo_15 : dcd mX10_areTwo 15 = some (.iload 1, 1, 0, 0) := by decide +kernel
theorem xX10_areTwo_16 : dcd mX10_areTwo 16 = some (.if_icmp .eq 0, 3, 23, 0) := by decide +kernel
theorem xX10_areTwo_19 : dcd mX10_areTwo 19 = some (.iconst 0, 1, 0, 1) := by decide +kernel
theorem xX10_areTwo_20 : dcd mX10_areTwo 20 = some (.goto 0, 3, 24, 0) := by decide +kernel
theorem xX10_areTwo_23 : dcd mX10_areTwo 23 = some (.iconst 0, 1, 0, 0) := by decide +kernel
theorem xX10_areTwo_24 : dcd mX10_areTwo 24 = some (.ireturn, 1, 0, 0) := by decide +kernel
theorem xX10_leanOf_0 : dcd mX10_leanOf 0 = some (.iload 1, 1, 0, 0) := by decide +kernel
theorem xX10_leanOf_1 : dcd mX10_leanOf 1 = some (.iconst 0, 1, 0, 1) := by decide +kernel
theorem xX10_leanOf_2 : dcd mX10_leanOf 2 = some (.if_icmp .ge 0, 3, 9, 0) := by decide +kernel
theorem xX10_leanOf_5 : dcd mX10_leanOf 5 = some (.iconst 0, 1, 0, 0) := by decide +kernel
theorem xX10_leanOf_6 : dcd mX10_leanOf 6 = some (.goto 0, 3, 12, 0) := by decide +kernel
theorem xX10_leanOf_9 : dcd mX10_leanOf 9 = some (.iload 0, 1, 0, 0) := by decide +kernel
theorem xX10_leanOf_10 : dcd mX10_leanOf 10 = some (.iload 1, 1, 0, 0) := by decide +kernel
theorem xX10_leanOf_11 : dcd mX10_leanOf 11 = some (.idiv, 1, 0, 0) := by decide +kernel
theorem xX10_leanOf_12 : dcd mX10_leanOf 12 = some (.istore 2, 1, 0, 0) := by decide +kernel
theorem xX10_leanOf_13 : dcd mX10_leanOf 13 = some (.iconst 0, 2, 0, (-9)) := by decide +kernel
theorem xX10_leanOf_15 : dcd mX10_leanOf 15 = some (.iconst 0, 2, 0, 9) := by decide +kernel
theorem xX10_leanOf_17 : dcd mX10_leanOf 17 = some (.iload 2, 1, 0, 0) := by decide +kernel
theorem xX10_leanOf_18 : dcd mX10_leanOf 18 = some (.invokestatic 357, 3, 0, 0) := by decide +kernel
theorem xX10_leanOf_21 : dcd mX10_leanOf 21 = some (.invokestatic 362, 3, 0, 0) := by decide +kernel
theorem xX10_leanOf_24 : dcd mX10_leanOf 24 = some (.ireturn, 1, 0, 0) := by decide +kernel
theorem xX11_init_0 : dcd mX11_init 0 = some (.aload 0, 1, 0, 0) := by decide +kernel
theorem xX11_init_1 : dcd mX11_init 1 = some (.invokespecial 1, 3, 0, 0) := by decide +kernel
theorem xX11_init_4 : dcd mX11_init 4 = some (.aload 0, 1, 0, 0) := by decide +kernel
theorem xX11_init_5 : dcd mX11_init 5 = some (.iconst 0, 3, 0, 220) := by decide +kernel
theorem xX11_init_8 : dcd mX11_init 8 = some (.newarray .byte, 2, 0, 0) := by decide +kernel
theorem xX11_init_10 : dcd mX11_init 10 = some (.putfield 7, 3, 0, 0) := by decide +kernel
theorem xX11_init_13 : dcd mX11_init 13 = some (.aload 0, 1, 0, 0) := by decide +kernel
theorem xX11_init_14 : dcd mX11_init 14 = some (.iconst 0, 1, 0, 1) := by decide +kernel
theorem xX11_init_15 : dcd mX11_init 15 = some (.putfield 13, 3, 0, 0) := by decide +kernel
theorem xX11_init_18 : dcd mX11_init 18 = some (.aload 0, 1, 0, 0) := by decide +kernel
theorem xX11_init_19 : dcd mX11_init 19 = some (.iconst 0, 1, 0, 1) := by decide +kernel
theorem xX11_init_20 : dcd mX11_init 20 = some (.putfield 17, 3, 0, 0) := by decide +kernel
theorem xX11_init_23 : dcd mX11_init 23 = some (.aload 0, 1, 0, 0) := by decide +kernel
theorem xX11_init_24 : dcd mX11_init 24 = some (.iconst 0, 2, 0, 10) := by decide +kernel
theorem xX11_init_26 : dcd mX11_init 26 = some (.newarray .int, 2, 0, 0) := by decide +kernel
theorem xX11_init_28 : dcd mX11_init 28 = some (.putfield 20, 3, 0, 0) := by decide +kernel
theorem xX11_init_31 : dcd mX11_init 31 = some (.aload 0, 1, 0, 0) := by decide +kernel
theorem xX11_init_32 : dcd mX11_init 32 = some (.iconst 0, 2, 0, 10) := by decide +kernel
theorem xX11_init_34 : dcd mX11_init 34 = some (.newarray .int, 2, 0, 0) := by decide +kernel
theorem xX11_init_36 : dcd mX11_init 36 = some (.putfield 24, 3, 0, 0) := by decide +kernel
theorem xX11_init_39 : dcd mX11_init 39 = some (.aload 0, 1, 0, 0) := by decide +kernel
theorem xX11_init_40 : dcd mX11_init 40 = some (.iconst 0, 2, 0, 10) := by decide +kernel
theorem xX11_init_42 : dcd mX11_init 42 = some (.newarray .int, 2, 0, 0) := by decide +kernel
theorem xX11_init_44 : dcd mX11_init 44 = some (.putfield 27, 3, 0, 0) := by decide +kernel
theorem xX11_init_47 : dcd mX11_init 47 = some (.aload 0, 1, 0, 0) := by decide +kernel
theorem xX11_init_48 : dcd mX11_init 48 = some (.iconst 0, 2, 0, 10) := by decide +kernel
theorem xX11_init_50 : dcd mX11_init 50 = some (.newarray .boolean, 2, 0, 0) := by decide +kernel
theorem xX11_init_52 : dcd mX11_init 52 = some (.putfield 30, 3, 0, 0) := by decide +kernel
theorem xX11_init_55 : dcd mX11_init 55 = some (.aload 0, 1, 0, 0) := by decide +kernel
theorem xX11_init_56 : dcd mX11_init 56 = some (.iconst 0, 2, 0, 10) := by decide +kernel
theorem xX11_init_58 : dcd mX11_init 58 = some (.newarray .boolean, 2, 0, 0) := by decide +kernel
theorem xX11_init_60 : dcd mX11_init 60 = some (.putfield 34, 3, 0, 0) := by decide +kernel
theorem xX11_init_63 : dcd mX11_init 63 = some (.aload 0, 1, 0, 0) := by decide +kernel
theorem xX11_init_64 : dcd mX11_init 64 = some (.iconst 0, 2, 0, 40) := by decide +kernel
theorem xX11_init_66 : dcd mX11_init 66 = some (.newarray .int, 2, 0, 0) := by decide +kernel
theorem xX11_init_68 : dcd mX11_init 68 = some (.putfield 37, 3, 0, 0) := by decide +kernel
theorem xX11_init_71 : dcd mX11_init 71 = some (.aload 0, 1, 0, 0) := by decide +kernel
theorem xX11_init_72 : dcd mX11_init 72 = some (.iconst 0, 2, 0, 40) := by decide +kernel
theorem xX11_init_74 : dcd mX11_init 74 = some (.newarray .int, 2, 0, 0) := by decide +kernel
theorem xX11_init_76 : dcd mX11_init 76 = some (.putfield 40, 3, 0, 0) := by decide +kernel
theorem xX11_init_79 : dcd mX11_init 79 = some (.aload 0, 1, 0, 0) := by decide +kernel
theorem xX11_init_80 : dcd mX11_init 80 = some (.iconst 0, 2, 0, 40) := by decide +kernel
theorem xX11_init_82 : dcd mX11_init 82 = some (.newarray .int, 2, 0, 0) := by decide +kernel
theorem xX11_init_84 : dcd mX11_init 84 = some (.putfield 43, 3, 0, 0) := by decide +kernel
theorem xX11_init_87 : dcd mX11_init 87 = some (.aload 0, 1, 0, 0) := by decide +kernel
theorem xX11_init_88 : dcd mX11_init 88 = some (.iconst 0, 2, 0, 40) := by decide +kernel
theorem xX11_init_90 : dcd mX11_init 90 = some (.newarray .int, 2, 0, 0) := by decide +kernel
theorem xX11_init_92 : dcd mX11_init 92 = some (.putfield 46, 3, 0, 0) := by decide +kernel
theorem xX11_init_95 : dcd mX11_init 95 = some (.aload 0, 1, 0, 0) := by decide +kernel
theorem xX11_init_96 : dcd mX11_init 96 = some (.iconst 0, 2, 0, 40) := by decide +kernel
theorem xX11_init_98 : dcd mX11_init 98 = some (.newarray .int, 2, 0, 0) := by decide +kernel
theorem xX11_init_100 : dcd mX11_init 100 = some (.putfield 49, 3, 0, 0) := by decide +kernel
theorem xX11_init_103 : dcd mX11_init 103 = some (.aload 0, 1, 0, 0) := by decide +kernel
theorem xX11_init_104 : dcd mX11_init 104 = some (.iconst 0, 2, 0, 40) := by decide +kernel
theorem xX11_init_106 : dcd mX11_init 106 = some (.newarray .int, 2, 0, 0) := by decide +kernel
theorem xX11_init_108 : dcd mX11_init 108 = some (.putfield 52, 3, 0, 0) := by decide +kernel
theorem xX11_init_111 : dcd mX11_init 111 = some (.aload 0, 1, 0, 0) := by decide +kernel
theorem xX11_init_112 : dcd mX11_init 112 = some (.iconst 0, 2, 0, 40) := by decide +kernel
theorem xX11_init_114 : dcd mX11_init 114 = some (.newarray .boolean, 2, 0, 0) := by decide +kernel
theorem xX11_init_116 : dcd mX11_init 116 = some (.putfield 55, 3, 0, 0) := by decide +kernel
theorem xX11_init_119 : dcd mX11_init 119 = some (.aload 0, 1, 0, 0) := by decide +kernel
theorem xX11_init_120 : dcd mX11_init 120 = some (.iconst 0, 2, 0, 14) := by decide +kernel
theorem xX11_init_122 : dcd mX11_init 122 = some (.newarray .int, 2, 0, 0) := by decide +kernel
theorem xX11_init_124 : dcd mX11_init 124 = some (.putfield 58, 3, 0, 0) := by decide +kernel
theorem xX11_init_127 : dcd mX11_init 127 = some (.aload 0, 1, 0, 0) := by decide +kernel
theorem xX11_init_128 : dcd mX11_init 128 = some (.iconst 0, 2, 0, 14) := by decide +kernel
theorem xX11_init_130 : dcd mX11_init 130 = some (.newarray .int, 2, 0, 0) := by decide +kernel
theorem xX11_init_132 : dcd mX11_init 132 = some (.putfield 61, 3, 0, 0) := by decide +kernel
theorem xX11_init_135 : dcd mX11_init 135 = some (.aload 0, 1, 0, 0) := by decide +kernel
theorem xX11_init_136 : dcd mX11_init 136 = some (.iconst 0, 2, 0, 14) := by decide +kernel
theorem xX11_init_138 : dcd mX11_init 138 = some (.newarray .int, 2, 0, 0) := by decide +kernel
theorem xX11_init_140 : dcd mX11_init 140 = some (.putfield 64, 3, 0, 0) := by decide +kernel
theorem xX11_init_143 : dcd mX11_init 143 = some (.aload 0, 1, 0, 0) := by decide +kernel
theorem xX11_init_144 : dcd mX11_init 144 = some (.iconst 0, 2, 0, 14) := by decide +kernel
theorem xX11_init_146 : dcd mX11_init 146 = some (.newarray .int, 2, 0, 0) := by decide +kernel
theorem xX11_init_148 : dcd mX11_init 148 = some (.putfield 67, 3, 0, 0) := by decide +kernel
theorem xX11_init_151 : dcd mX11_init 151 = some (.aload 0, 1, 0, 0) := by decide +kernel
theorem xX11_init_152 : dcd mX11_init 152 = some (.iconst 0, 3, 0, 200) := by decide +kernel
theorem xX11_init_155 : dcd mX11_init 155 = some (.newarray .int, 2, 0, 0) := by decide +kernel
theorem xX11_init_157 : dcd mX11_init 157 = some (.putfield 70, 3, 0, 0) := by decide +kernel
theorem xX11_init_160 : dcd mX11_init 160 = some (.aload 0, 1, 0, 0) := by decide +kernel
theorem xX11_init_161 : dcd mX11_init 161 = some (.iconst 0, 3, 0, 200) := by decide +kernel
theorem xX11_init_164 : dcd mX11_init 164 = some (.newarray .int, 2, 0, 0) := by decide +kernel
theorem xX11_init_166 : dcd mX11_init 166 = some (.putfield 73, 3, 0, 0) := by decide +kernel
theorem xX11_init_169 : dcd mX11_init 169 = some (.aload 0, 1, 0, 0) := by decide +kernel
theorem xX11_init_170 : dcd mX11_init 170 = some (.iconst 0, 2, 0, 14) := by decide +kernel
theorem xX11_init_172 : dcd mX11_init 172 = some (.newarray .int, 2, 0, 0) := by decide +kernel
theorem xX11_init_174 : dcd mX11_init 174 = some (.putfield 76, 3, 0, 0) := by decide +kernel
theorem xX11_init_177 : dcd mX11_init 177 = some (.aload 0, 1, 0, 0) := by decide +kernel
theorem xX11_init_178 : dcd mX11_init 178 = some (.iconst 0, 2, 0, 14) := by decide +kernel
theorem xX11_init_180 : dcd mX11_init 180 = some (.newarray .int, 2, 0, 0) := by decide +kernel
theorem xX11_init_182 : dcd mX11_init 182 = some (.putfield 79, 3, 0, 0) := by decide +kernel
theorem xX11_init_185 : dcd mX11_init 185 = some (.aload 0, 1, 0, 0) := by decide +kernel
theorem xX11_init_186 : dcd mX11_init 186 = some (.iconst 0, 2, 0, 14) := by decide +kernel
theorem xX11_init_188 : dcd mX11_init 188 = some (.newarray .int, 2, 0, 0) := by decide +kernel
theorem xX11_init_190 : dcd mX11_init 190 = some (.putfield 82, 3, 0, 0) := by decide +kernel
theorem xX11_init_193 : dcd mX11_init 193 = some (.aload 0, 1, 0, 0) := by decide +kernel
theorem xX11_init_194 : dcd mX11_init 194 = some (.iconst 0, 2, 0, 14) := by decide +kernel
theorem xX11_init_196 : dcd mX11_init 196 = some (.newarray .int, 2, 0, 0) := by decide +kernel
theorem xX11_init_198 : dcd mX11_init 198 = some (.putfield 85, 3, 0, 0) := by decide +kernel
theorem xX11_init_201 : dcd mX11_init 201 = some (.aload 0, 1, 0, 0) := by decide +kernel
theorem xX11_init_202 : dcd mX11_init 202 = some (.iconst 0, 3, 0, 200) := by decide +kernel
theorem xX11_init_205 : dcd mX11_init 205 = some (.newarray .int, 2, 0, 0) := by decide +kernel
theorem xX11_init_207 : dcd mX11_init 207 = some (.putfield 88, 3, 0, 0) := by decide +kernel
theorem xX11_init_210 : dcd mX11_init 210 = some (.aload 0, 1, 0, 0) := by decide +kernel
theorem xX11_init_211 : dcd mX11_init 211 = some (.iconst 0, 3, 0, 200) := by decide +kernel
theorem xX11_init_214 : dcd mX11_init 214 = some (.newarray .int, 2, 0, 0) := by decide +kernel
theorem xX11_init_216 : dcd mX11_init 216 = some (.putfield 91, 3, 0, 0) := by decide +kernel
theorem xX11_init_219 : dcd mX11_init 219 = some (.aload 0, 1, 0, 0) := by decide +kernel
theorem xX11_init_220 : dcd mX11_init 220 = some (.iconst 0, 3, 0, 240) := by decide +kernel
theorem xX11_init_223 : dcd mX11_init 223 = some (.newarray .int, 2, 0, 0) := by decide +kernel
theorem xX11_init_225 : dcd mX11_init 225 = some (.putfield 94, 3, 0, 0) := by decide +kernel
theorem xX11_init_228 : dcd mX11_init 228 = some (.aload 0, 1, 0, 0) := by decide +kernel
theorem xX11_init_229 : dcd mX11_init 229 = some (.iconst 0, 3, 0, 240) := by decide +kernel
theorem xX11_init_232 : dcd mX11_init 232 = some (.newarray .int, 2, 0, 0) := by decide +kernel
theorem xX11_init_234 : dcd mX11_init 234 = some (.putfield 97, 3, 0, 0) := by decide +kernel
theorem xX11_init_237 : dcd mX11_init 237 = some (.aload 0, 1, 0, 0) := by decide +kernel
theorem xX11_init_238 : dcd mX11_init 238 = some (.iconst 0, 3, 0, 240) := by decide +kernel
theorem xX11_init_241 : dcd mX11_init 241 = some (.newarray .boolean, 2, 0, 0) := by decide +kernel
theorem xX11_init_243 : dcd mX11_init 243 = some (.putfield 100, 3, 0, 0) := by decide +kernel
theorem xX11_init_246 : dcd mX11_init 246 = some (.aload 0, 1, 0, 0) := by decide +kernel
theorem xX11_init_247 : dcd mX11_init 247 = some (.iconst 0, 2, 0, 10) := by decide +kernel
theorem xX11_init_249 : dcd mX11_init 249 = some (.newarray .int, 2, 0, 0) := by decide +kernel
theorem xX11_init_251 : dcd mX11_init 251 = some (.putfield 103, 3, 0, 0) := by decide +kernel
theorem xX11_init_254 : dcd mX11_init 254 = some (.aload 0, 1, 0, 0) := by decide +kernel
theorem xX11_init_255 : dcd mX11_init 255 = some (.iconst 0, 2, 0, 10) := by decide +kernel
theorem xX11_init_257 : dcd mX11_init 257 = some (.newarray .int, 2, 0, 0) := by decide +kernel
theorem xX11_init_259 : dcd mX11_init 259 = some (.putfield 106, 3, 0, 0) := by decide +kernel
theorem xX11_init_262 : dcd mX11_init 262 = some (.aload 0, 1, 0, 0) := by decide +kernel
theorem xX11_init_263 : dcd mX11_init 263 = some (.iconst 0, 2, 0, 10) := by decide +kernel
theorem xX11_init_265 : dcd mX11_init 265 = some (.newarray .int, 2, 0, 0) := by decide +kernel
theorem xX11_init_267 : dcd mX11_init 267 = some (.putfield 109, 3, 0, 0) := by decide +kernel
theorem xX11_init_270 : dcd mX11_init 270 = some (.aload 0, 1, 0, 0) := by decide +kernel
theorem xX11_init_271 : dcd mX11_init 271 = some (.iconst 0, 2, 0, 10) := by decide +kernel
theorem xX11_init_273 : dcd mX11_init 273 = some (.newarray .int, 2, 0, 0) := by decide +kernel
theorem xX11_init_275 : dcd mX11_init 275 = some (.putfield 112, 3, 0, 0) := by decide +kernel
theorem xX11_init_278 : dcd mX11_init 278 = some (.aload 0, 1, 0, 0) := by decide +kernel
theorem xX11_init_279 : dcd mX11_init 279 = some (.iconst 0, 2, 0, 6) := by decide +kernel
theorem xX11_init_281 : dcd mX11_init 281 = some (.newarray .int, 2, 0, 0) := by decide +kernel
theorem xX11_init_283 : dcd mX11_init 283 = some (.putfield 115, 3, 0, 0) := by decide +kernel
theorem xX11_init_286 : dcd mX11_init 286 = some (.aload 0, 1, 0, 0) := by decide +kernel
theorem xX11_init_287 : dcd mX11_init 287 = some (.iconst 0, 2, 0, 6) := by decide +kernel
theorem xX11_init_289 : dcd mX11_init 289 = some (.newarray .int, 2, 0, 0) := by decide +kernel
theorem xX11_init_291 : dcd mX11_init 291 = some (.putfield 118, 3, 0, 0) := by decide +kernel
theorem xX11_init_294 : dcd mX11_init 294 = some (.aload 0, 1, 0, 0) := by decide +kernel
theorem xX11_init_295 : dcd mX11_init 295 = some (.iconst 0, 2, 0, 6) := by decide +kernel
theorem xX11_init_297 : dcd mX11_init 297 = some (.newarray .int, 2, 0, 0) := by decide +kernel
theorem xX11_init_299 : dcd mX11_init 299 = some (.putfield 121, 3, 0, 0) := by decide +kernel
theorem xX11_init_302 : dcd mX11_init 302 = some (.aload 0, 1, 0, 0) := by decide +kernel
theorem xX11_init_303 : dcd mX11_init 303 = some (.iconst 0, 2, 0, 6) := by decide +kernel
theorem xX11_init_305 : dcd mX11_init 305 = some (.newarray .int, 2, 0, 0) := by decide +kernel
theorem xX11_init_307 : dcd mX11_init 307 = some (.putfield 124, 3, 0, 0) := by decide +kernel
theorem xX11_init_310 : dcd mX11_init 310 = some (.aload 0, 1, 0, 0) := by decide +kernel
theorem xX11_init_311 : dcd mX11_init 311 = some (.iconst 0, 2, 0, 6) := by decide +kernel
theorem xX11_init_313 : dcd mX11_init 313 = some (.newarray .int, 2, 0, 0) := by decide +kernel
theorem xX11_init_315 : dcd mX11_init 315 = some (.putfield 127, 3, 0, 0) := by decide +kernel
theorem xX11_init_318 : dcd mX11_init 318 = some (.aload 0, 1, 0, 0) := by decide +kernel
theorem xX11_init_319 : dcd mX11_init 319 = some (.iconst 0, 2, 0, 6) := by decide +kernel
theorem xX11_init_321 : dcd mX11_init 321 = some (.newarray .int, 2, 0, 0) := by decide +kernel
theorem xX11_init_323 : dcd mX11_init 323 = some (.putfield 130, 3, 0, 0) := by decide +kernel
theorem xX11_init_326 : dcd mX11_init 326 = some (.aload 0, 1, 0, 0) := by decide +kernel
theorem xX11_init_327 : dcd mX11_init 327 = some (.iconst 0, 2, 0, 6) := by decide +kernel
theorem xX11_init_329 : dcd mX11_init 329 = some (.newarray .int, 2, 0, 0) := by decide +kernel
theorem xX11_init_331 : dcd mX11_init 331 = some (.putfield 133, 3, 0, 0) := by decide +kernel
theorem xX11_init_334 : dcd mX11_init 334 = some (.aload 0, 1, 0, 0) := by decide +kernel
theorem xX11_init_335 : dcd mX11_init 335 = some (.iconst 0, 3, 0, 3960) := by decide +kernel
theorem xX11_init_338 : dcd mX11_init 338 = some (.newarray .int, 2, 0, 0) := by decide +kernel
theorem xX11_init_340 : dcd mX11_init 340 = some (.putfield 136, 3, 0, 0) := by decide +kernel
theorem xX11_init_343 : dcd mX11_init 343 = some (.aload 0, 1, 0, 0) := by decide +kernel
theorem xX11_init_344 : dcd mX11_init 344 = some (.iconst 0, 3, 0, 3960) := by decide +kernel
theorem xX11_init_347 : dcd mX11_init 347 = some (.newarray .int, 2, 0, 0) := by decide +kernel
theorem xX11_init_349 : dcd mX11_init 349 = some (.putfield 139, 3, 0, 0) := by decide +kernel
theorem xX11_init_352 : dcd mX11_init 352 = some (.aload 0, 1, 0, 0) := by decide +kernel
theorem xX11_init_353 : dcd mX11_init 353 = some (.iconst 0, 3, 0, 3960) := by decide +kernel
theorem xX11_init_356 : dcd mX11_init 356 = some (.newarray .long, 2, 0, 0) := by decide +kernel
theorem xX11_init_358 : dcd mX11_init 358 = some (.putfield 142, 3, 0, 0) := by decide +kernel
theorem xX11_init_361 : dcd mX11_init 361 = some (.aload 0, 1, 0, 0) := by decide +kernel
theorem xX11_init_362 : dcd mX11_init 362 = some (.iconst 0, 2, 0, 6) := by decide +kernel
theorem xX11_init_364 : dcd mX11_init 364 = some (.newarray .int, 2, 0, 0) := by decide +kernel
theorem xX11_init_366 : dcd mX11_init 366 = some (.putfield 146, 3, 0, 0) := by decide +kernel
theorem xX11_init_369 : dcd mX11_init 369 = some (.aload 0, 1, 0, 0) := by decide +kernel
theorem xX11_init_370 : dcd mX11_init 370 = some (.iconst 0, 2, 0, 6) := by decide +kernel
theorem xX11_init_372 : dcd mX11_init 372 = some (.newarray .long, 2, 0, 0) := by decide +kernel
theorem xX11_init_374 : dcd mX11_init 374 = some (.putfield 149, 3, 0, 0) := by decide +kernel
theorem xX11_init_377 : dcd mX11_init 377 = some (.aload 0, 1, 0, 0) := by decide +kernel
theorem xX11_init_378 : dcd mX11_init 378 = some (.iconst 0, 2, 0, 64) := by decide +kernel
theorem xX11_init_380 : dcd mX11_init 380 = some (.newarray .int, 2, 0, 0) := by decide +kernel
theorem xX11_init_382 : dcd mX11_init 382 = some (.putfield 152, 3, 0, 0) := by decide +kernel
theorem xX11_init_385 : dcd mX11_init 385 = some (.aload 0, 1, 0, 0) := by decide +kernel
theorem xX11_init_386 : dcd mX11_init 386 = some (.iconst 0, 2, 0, 9) := by decide +kernel
theorem xX11_init_388 : dcd mX11_init 388 = some (.newarray .int, 2, 0, 0) := by decide +kernel
theorem xX11_init_390 : dcd mX11_init 390 = some (.putfield 155, 3, 0, 0) := by decide +kernel
theorem xX11_init_393 : dcd mX11_init 393 = some (.aload 0, 1, 0, 0) := by decide +kernel
theorem xX11_init_394 : dcd mX11_init 394 = some (.iconst 0, 2, 0, 9) := by decide +kernel
theorem xX11_init_396 : dcd mX11_init 396 = some (.newarray .int, 2, 0, 0) := by decide +kernel
theorem xX11_init_398 : dcd mX11_init 398 = some (.putfield 158, 3, 0, 0) := by decide +kernel
theorem xX11_init_401 : dcd mX11_init 401 = some (.aload 0, 1, 0, 0) := by decide +kernel
theorem xX11_init_402 : dcd mX11_init 402 = some (.iconst 0, 2, 0, 40) := by decide +kernel
theorem xX11_init_404 : dcd mX11_init 404 = some (.newarray .boolean, 2, 0, 0) := by decide +kernel
theorem xX11_init_406 : dcd mX11_init 406 = some (.putfield 161, 3, 0, 0) := by decide +kernel
theorem xX11_init_409 : dcd mX11_init 409 = some (.aload 0, 1, 0, 0) := by decide +kernel
theorem xX11_init_410 : dcd mX11_init 410 = some (.iconst 0, 3, 0, 256) := by decide +kernel
theorem xX11_init_413 : dcd mX11_init 413 = some (.newarray .int, 2, 0, 0) := by decide +kernel
theorem xX11_init_415 : dcd mX11_init 415 = some (.putfield 164, 3, 0, 0) := by decide +kernel
theorem xX11_init_418 : dcd mX11_init 418 = some (.aload 0, 1, 0, 0) := by decide +kernel
theorem xX11_init_419 : dcd mX11_init 419 = some (.iconst 0, 2, 0, 10) := by decide +kernel
theorem xX11_init_421 : dcd mX11_init 421 = some (.newarray .int, 2, 0, 0) := by decide +kernel
theorem xX11_init_423 : dcd mX11_init 423 = some (.putfield 167, 3, 0, 0) := by decide +kernel
theorem xX11_init_426 : dcd mX11_init 426 = some (.aload 0, 1, 0, 0) := by decide +kernel
theorem xX11_init_427 : dcd mX11_init 427 = some (.iconst 0, 2, 0, 10) := by decide +kernel
theorem xX11_init_429 : dcd mX11_init 429 = some (.newarray .int, 2, 0, 0) := by decide +kernel
theorem xX11_init_431 : dcd mX11_init 431 = some (.putfield 170, 3, 0, 0) := by decide +kernel
theorem xX11_init_434 : dcd mX11_init 434 = some (.aload 0, 1, 0, 0) := by decide +kernel
theorem xX11_init_435 : dcd mX11_init 435 = some (.iconst 0, 2, 0, 10) := by decide +kernel
theorem xX11_init_437 : dcd mX11_init 437 = some (.newarray .int, 2, 0, 0) := by decide +kernel
theorem xX11_init_439 : dcd mX11_init 439 = some (.putfield 173, 3, 0, 0) := by decide +kernel
theorem xX11_init_442 : dcd mX11_init 442 = some (.aload 0, 1, 0, 0) := by decide +kernel
theorem xX11_init_443 : dcd mX11_init 443 = some (.iconst 0, 2, 0, 10) := by decide +kernel
theorem xX11_init_445 : dcd mX11_init 445 = some (.newarray .boolean, 2, 0, 0) := by decide +kernel
theorem xX11_init_447 : dcd mX11_init 447 = some (.putfield 176, 3, 0, 0) := by decide +kernel
theorem xX11_init_450 : dcd mX11_init 450 = some (.aload 0, 1, 0, 0) := by decide +kernel
theorem xX11_init_451 : dcd mX11_init 451 = some (.iconst 0, 2, 0, 10) := by decide +kernel
theorem xX11_init_453 : dcd mX11_init 453 = some (.newarray .boolean, 2, 0, 0) := by decide +kernel
theorem xX11_init_455 : dcd mX11_init 455 = some (.putfield 179, 3, 0, 0) := by decide +kernel
theorem xX11_init_458 : dcd mX11_init 458 = some (.aload 0, 1, 0, 0) := by decide +kernel
theorem xX11_init_459 : dcd mX11_init 459 = some (.iconst 0, 2, 0, 40) := by decide +kernel
theorem xX11_init_461 : dcd mX11_init 461 = some (.newarray .int, 2, 0, 0) := by decide +kernel
theorem xX11_init_463 : dcd mX11_init 463 = some (.putfield 182, 3, 0, 0) := by decide +kernel
theorem xX11_init_466 : dcd mX11_init 466 = some (.aload 0, 1, 0, 0) := by decide +kernel
theorem xX11_init_467 : dcd mX11_init 467 = some (.iconst 0, 2, 0, 40) := by decide +kernel
theorem xX11_init_469 : dcd mX11_init 469 = some (.newarray .int, 2, 0, 0) := by decide +kernel
theorem xX11_init_471 : dcd mX11_init 471 = some (.putfield 185, 3, 0, 0) := by decide +kernel
theorem xX11_init_474 : dcd mX11_init 474 = some (.aload 0, 1, 0, 0) := by decide +kernel
theorem xX11_init_475 : dcd mX11_init 475 = some (.iconst 0, 2, 0, 40) := by decide +kernel
theorem xX11_init_477 : dcd mX11_init 477 = some (.newarray .int, 2, 0, 0) := by decide +kernel
theorem xX11_init_479 : dcd mX11_init 479 = some (.putfield 188, 3, 0, 0) := by decide +kernel
theorem xX11_init_482 : dcd mX11_init 482 = some (.aload 0, 1, 0, 0) := by decide +kernel
theorem xX11_init_483 : dcd mX11_init 483 = some (.iconst 0, 2, 0, 40) := by decide +kernel
theorem xX11_init_485 : dcd mX11_init 485 = some (.newarray .int, 2, 0, 0) := by decide +kernel
theorem xX11_init_487 : dcd mX11_init 487 = some (.putfield 191, 3, 0, 0) := by decide +kernel
theorem xX11_init_490 : dcd mX11_init 490 = some (.aload 0, 1, 0, 0) := by decide +kernel
theorem xX11_init_491 : dcd mX11_init 491 = some (.iconst 0, 2, 0, 40) := by decide +kernel
theorem xX11_init_493 : dcd mX11_init 493 = some (.newarray .int, 2, 0, 0) := by decide +kernel
theorem xX11_init_495 : dcd mX11_init 495 = some (.putfield 194, 3, 0, 0) := by decide +kernel
theorem xX11_init_498 : dcd mX11_init 498 = some (.aload 0, 1, 0, 0) := by decide +kernel
theorem xX11_init_499 : dcd mX11_init 499 = some (.iconst 0, 2, 0, 40) := by decide +kernel
theorem xX11_init_501 : dcd mX11_init 501 = some (.newarray .int, 2, 0, 0) := by decide +kernel
theorem xX11_init_503 : dcd mX11_init 503 = some (.putfield 197, 3, 0, 0) := by decide +kernel
theorem xX11_init_506 : dcd mX11_init 506 = some (.aload 0, 1, 0, 0) := by decide +kernel
theorem xX11_init_507 : dcd mX11_init 507 = some (.iconst 0, 2, 0, 40) := by decide +kernel
theorem xX11_init_509 : dcd mX11_init 509 = some (.newarray .boolean, 2, 0, 0) := by decide +kernel
theorem xX11_init_511 : dcd mX11_init 511 = some (.putfield 200, 3, 0, 0) := by decide +kernel
theorem xX11_init_514 : dcd mX11_init 514 = some (.iconst 0, 1, 0, 0) := by decide +kernel
theorem xX11_init_515 : dcd mX11_init 515 = some (.istore 1, 1, 0, 0) := by decide +kernel
theorem xX11_init_516 : dcd mX11_init 516 = some (.iload 1, 1, 0, 0) := by decide +kernel
theorem xX11_init_517 : dcd mX11_init 517 = some (.iconst 0, 2, 0, 10) := by decide +kernel
theorem xX11_init_519 : dcd mX11_init 519 = some (.if_icmp .ge 0, 3, 542, 0) := by decide +kernel
theorem xX11_init_522 : dcd mX11_init 522 = some (.aload 0, 1, 0, 0) := by decide +kernel
theorem xX11_init_523 : dcd mX11_init 523 = some (.getfield 27, 3, 0, 0) := by decide +kernel
theorem xX11_init_526 : dcd mX11_init 526 = some (.iload 1, 1, 0, 0) := by decide +kernel
theorem xX11_init_527 : dcd mX11_init 527 = some (.iconst 0, 1, 0, 1) := by decide +kernel
theorem xX11_init_528 : dcd mX11_init 528 = some (.iastore, 1, 0, 0) := by decide +kernel
theorem xX11_init_529 : dcd mX11_init 529 = some (.aload 0, 1, 0, 0) := by decide +kernel
theorem xX11_init_530 : dcd mX11_init 530 = some (.getfield 30, 3, 0, 0) := by decide +kernel
theorem xX11_init_533 : dcd mX11_init 533 = some (.iload 1, 1, 0, 0) := by decide +kernel
theorem xX11_init_534 : dcd mX11_init 534 = some (.iconst 0, 1, 0, 1) := by decide +kernel
theorem xX11_init_535 : dcd mX11_init 535 = some (.bastore, 1, 0, 0) := by decide +kernel
theorem xX11_init_536 : dcd mX11_init 536 = some (.iinc 1 0, 3, 0, 1) := by decide +kernel
theorem xX11_init_539 : dcd mX11_init 539 = some (.goto 0, 3, 516, 0) := by decide +kernel
theorem xX11_init_542 : dcd mX11_init 542 = some (.aload 0, 1, 0, 0) := by decide +kernel
theorem xX11_init_543 : dcd mX11_init 543 = some (.getfield 20, 3, 0, 0) := by decide +kernel
theorem xX11_init_546 : dcd mX11_init 546 = some (.iconst 0, 1, 0, 0) := by decide +kernel
theorem xX11_init_547 : dcd mX11_init 547 = some (.iconst 0, 1, 0, (-1)) := by decide +kernel
theorem xX11_init_548 : dcd mX11_init 548 = some (.iastore, 1, 0, 0) := by decide +kernel
theorem xX11_init_549 : dcd mX11_init 549 = some (.return_, 1, 0, 0) := by decide +kernel
theorem xX11_lies_0 : dcd mX11_lies 0 = some (.lload 0, 1, 0, 0) := by decide +kernel
theorem xX11_lies_1 : dcd mX11_lies 1 = some (.lload 2, 1, 0, 0) := by decide +kernel
theorem xX11_lies_2 : dcd mX11_lies 2 = some (.lcmp, 1, 0, 0) := by decide +kernel
theorem xX11_lies_3 : dcd mX11_lies 3 = some (.ifCond .lt 0, 3, 17, 0) := by decide +kernel
theorem xX11_lies_6 : dcd mX11_lies 6 = some (.lload 0, 1, 0, 0) := by decide +kernel
theorem xX11_lies_7 : dcd mX11_lies 7 = some (.lload 4, 2, 0, 0) := by decide +kernel
theorem xX11_lies_9 : dcd mX11_lies 9 = some (.lcmp, 1, 0, 0) := by decide +kernel
theorem xX11_lies_10 : dcd mX11_lies 10 = some (.ifCond .gt 0, 3, 17, 0) := by decide +kernel
theorem xX11_lies_13 : dcd mX11_lies 13 = some (.iconst 0, 1, 0, 1) := by decide +kernel
theorem xX11_lies_14 : dcd mX11_lies 14 = some (.goto 0, 3, 18, 0) := by decide +kernel
theorem xX11_lies_17 : dcd mX11_lies 17 = some (.iconst 0, 1, 0, 0) := by decide +kernel
theorem xX11_lies_18 : dcd mX11_lies 18 = some (.ireturn, 1, 0, 0) := by decide +kernel
theorem xX11_has_0 : dcd mX11_has 0 = some (.iload 0, 1, 0, 0) := by decide +kernel
theorem xX11_has_1 : dcd mX11_has 1 = some (.iload 1, 1, 0, 0) := by decide +kernel
theorem xX11_has_2 : dcd mX11_has 2 = some (.ishr, 1, 0, 0) := by decide +kernel
theorem xX11_has_3 : dcd mX11_has 3 = some (.iconst 0, 1, 0, 1) := by decide +kernel
theorem xX11_has_4 : dcd mX11_has 4 = some (.iand, 1, 0, 0) := by decide +kernel
theorem xX11_has_5 : dcd mX11_has 5 = some (.iconst 0, 1, 0, 1) := by decide +kernel
theorem xX11_has_6 : dcd mX11_has 6 = some (.if_icmp .ne 0, 3, 13, 0) := by decide +kernel
theorem xX11_has_9 : dcd mX11_has 9 = some (.iconst 0, 1, 0, 1) := by decide +kernel
theorem xX11_has_10 : dcd mX11_has 10 = some (.goto 0, 3, 14, 0) := by decide +kernel
theorem xX11_has_13 : dcd mX11_has 13 = some (.iconst 0, 1, 0, 0) := by decide +kernel
theorem xX11_has_14 : dcd mX11_has 14 = some (.ireturn, 1, 0, 0) := by decide +kernel
theorem xX11_isRod_0 : dcd mX11_isRod 0 = some (.iload 1, 1, 0, 0) := by decide +kernel
theorem xX11_isRod_1 : dcd mX11_isRod 1 = some (.i2l, 1, 0, 0) := by decide +kernel
theorem xX11_isRod_2 : dcd mX11_isRod 2 = some (.lconst 0, 1, 0, 0) := by decide +kernel
theorem xX11_isRod_3 : dcd mX11_isRod 3 = some (.aload 0, 1, 0, 0) := by decide +kernel
theorem xX11_isRod_4 : dcd mX11_isRod 4 = some (.getfield 13, 3, 0, 0) := by decide +kernel
theorem xX11_isRod_7 : dcd mX11_isRod 7 = some (.iconst 0, 1, 0, 1) := by decide +kernel
theorem xX11_isRod_8 : dcd mX11_isRod 8 = some (.isub, 1, 0, 0) := by decide +kernel
theorem xX11_isRod_9 : dcd mX11_isRod 9 = some (.i2l, 1, 0, 0) := by decide +kernel
theorem xX11_isRod_10 : dcd mX11_isRod 10 = some (.invokestatic 203, 3, 0, 0) := by decide +kernel
theorem xX11_isRod_13 : dcd mX11_isRod 13 = some (.ireturn, 1, 0, 0) := by decide +kernel
theorem xX11_isArm_0 : dcd mX11_isArm 0 = some (.iload 0, 1, 0, 0) := by decide +kernel
theorem xX11_isArm_1 : dcd mX11_isArm 1 = some (.i2l, 1, 0, 0) := by decide +kernel
theorem xX11_isArm_2 : dcd mX11_isArm 2 = some (.ldc2_w 207, 3, 0, 0) := by decide +kernel
theorem xX11_isArm_5 : dcd mX11_isArm 5 = some (.ldc2_w 209, 3, 0, 0) := by decide +kernel
theorem xX11_isArm_8 : dcd mX11_isArm 8 = some (.invokestatic 203, 3, 0, 0) := by decide +kernel
theorem xX11_isArm_11 : dcd mX11_isArm 11 = some (.ireturn, 1, 0, 0) := by decide +kernel
theorem xX11_isPerson_0 : dcd mX11_isPerson 0 = some (.iload 0, 1, 0, 0) := by decide +kernel
theorem xX11_isPerson_1 : dcd mX11_isPerson 1 = some (.i2l, 1, 0, 0) := by decide +kernel
theorem xX11_isPerson_2 : dcd mX11_isPerson 2 = some (.lconst 0, 1, 0, 0) := by decide +kernel
theorem xX11_isPerson_3 : dcd mX11_isPerson 3 = some (.ldc2_w 211, 3, 0, 0) := by decide +kernel
theorem xX11_isPerson_6 : dcd mX11_isPerson 6 = some (.invokestatic 203, 3, 0, 0) := by decide +kernel
theorem xX11_isPerson_9 : dcd mX11_isPerson 9 = some (.ireturn, 1, 0, 0) := by decide +kernel
theorem xX11_isRibbon_0 : dcd mX11_isRibbon 0 = some (.iload 1, 1, 0, 0) := by decide +kernel
theorem xX11_isRibbon_1 : dcd mX11_isRibbon 1 = some (.i2l, 1, 0, 0) := by decide +kernel
theorem xX11_isRibbon_2 : dcd mX11_isRibbon 2 = some (.lconst 0, 1, 0, 0) := by decide +kernel
theorem xX11_isRibbon_3 : dcd mX11_isRibbon 3 = some (.aload 0, 1, 0, 0) := by decide +kernel
theorem xX11_isRibbon_4 : dcd mX11_isRibbon 4 = some (.getfield 213, 3, 0, 0) := by decide +kernel
theorem xX11_isRibbon_7 : dcd mX11_isRibbon 7 = some (.iconst 0, 1, 0, 1) := by decide +kernel
theorem xX11_isRibbon_8 : dcd mX11_isRibbon 8 = some (.isub, 1, 0, 0) := by decide +kernel
theorem xX11_isRibbon_9 : dcd mX11_isRibbon 9 = some (.i2l, 1, 0, 0) := by decide +kernel
theorem xX11_isRibbon_10 : dcd mX11_isRibbon 10 = some (.invokestatic 203, 3, 0, 0) := by decide +kernel
theorem xX11_isRibbon_13 : dcd mX11_isRibbon 13 = some (.ireturn, 1, 0, 0) := by decide +kernel
theorem xX11_rod_0 : dcd mX11_rod 0 = some (.aload 0, 1, 0, 0) := by decide +kernel
theorem xX11_rod_1 : dcd mX11_rod 1 = some (.iload 1, 1, 0, 0) := by decide +kernel
theorem xX11_rod_2 : dcd mX11_rod 2 = some (.invokevirtual 216, 3, 0, 0) := by decide +kernel
theorem xX11_rod_5 : dcd mX11_rod 5 = some (.ifCond .eq 0, 3, 24, 0) := by decide +kernel
theorem xX11_rod_8 : dcd mX11_rod 8 = some (.iload 2, 1, 0, 0) := by decide +kernel
theorem xX11_rod_9 : dcd mX11_rod 9 = some (.invokestatic 220, 3, 0, 0) := by decide +kernel
theorem xX11_rod_12 : dcd mX11_rod 12 = some (.ifCond .eq 0, 3, 24, 0) := by decide +kernel
theorem xX11_rod_15 : dcd mX11_rod 15 = some (.aload 0, 1, 0, 0) := by decide +kernel
theorem xX11_rod_16 : dcd mX11_rod 16 = some (.getfield 13, 3, 0, 0) := by decide +kernel
theorem xX11_rod_19 : dcd mX11_rod 19 = some (.iconst 0, 2, 0, 10) := by decide +kernel
theorem xX11_rod_21 : dcd mX11_rod 21 = some (.if_icmp .ne 0, 3, 26, 0) := by decide +kernel
theorem xX11_rod_24 : dcd mX11_rod 24 = some (.iconst 0, 1, 0, (-1)) := by decide +kernel
theorem xX11_rod_25 : dcd mX11_rod 25 = some (.ireturn, 1, 0, 0) := by decide +kernel
theorem xX11_rod_26 : dcd mX11_rod 26 = some (.aload 0, 1, 0, 0) := by decide +kernel
theorem xX11_rod_27 : dcd mX11_rod 27 = some (.getfield 20, 3, 0, 0) := by decide +kernel
theorem xX11_rod_30 : dcd mX11_rod 30 = some (.aload 0, 1, 0, 0) := by decide +kernel
theorem xX11_rod_31 : dcd mX11_rod 31 = some (.getfield 13, 3, 0, 0) := by decide +kernel
theorem xX11_rod_34 : dcd mX11_rod 34 = some (.iload 1, 1, 0, 0) := by decide +kernel
theorem xX11_rod_35 : dcd mX11_rod 35 = some (.iastore, 1, 0, 0) := by decide +kernel
theorem xX11_rod_36 : dcd mX11_rod 36 = some (.aload 0, 1, 0, 0) := by decide +kernel
theorem xX11_rod_37 : dcd mX11_rod 37 = some (.getfield 24, 3, 0, 0) := by decide +kernel
theorem xX11_rod_40 : dcd mX11_rod 40 = some (.aload 0, 1, 0, 0) := by decide +kernel
theorem xX11_rod_41 : dcd mX11_rod 41 = some (.getfield 13, 3, 0, 0) := by decide +kernel
theorem xX11_rod_44 : dcd mX11_rod 44 = some (.iload 2, 1, 0, 0) := by decide +kernel
theorem xX11_rod_45 : dcd mX11_rod 45 = some (.iastore, 1, 0, 0) := by decide +kernel
theorem xX11_rod_46 : dcd mX11_rod 46 = some (.aload 0, 1, 0, 0) := by decide +kernel
theorem xX11_rod_47 : dcd mX11_rod 47 = some (.getfield 27, 3, 0, 0) := by decide +kernel
theorem xX11_rod_50 : dcd mX11_rod 50 = some (.aload 0, 1, 0, 0) := by decide +kernel
theorem xX11_rod_51 : dcd mX11_rod 51 = some (.getfield 13, 3, 0, 0) := by decide +kernel
theorem xX11_rod_54 : dcd mX11_rod 54 = some (.iconst 0, 1, 0, 1) := by decide +kernel
theorem xX11_rod_55 : dcd mX11_rod 55 = some (.iastore, 1, 0, 0) := by decide +kernel
theorem xX11_rod_56 : dcd mX11_rod 56 = some (.aload 0, 1, 0, 0) := by decide +kernel
theorem xX11_rod_57 : dcd mX11_rod 57 = some (.getfield 30, 3, 0, 0) := by decide +kernel
theorem xX11_rod_60 : dcd mX11_rod 60 = some (.aload 0, 1, 0, 0) := by decide +kernel
theorem xX11_rod_61 : dcd mX11_rod 61 = some (.getfield 13, 3, 0, 0) := by decide +kernel
theorem xX11_rod_64 : dcd mX11_rod 64 = some (.iconst 0, 1, 0, 1) := by decide +kernel
theorem xX11_rod_65 : dcd mX11_rod 65 = some (.bastore, 1, 0, 0) := by decide +kernel
theorem xX11_rod_66 : dcd mX11_rod 66 = some (.aload 0, 1, 0, 0) := by decide +kernel
theorem xX11_rod_67 : dcd mX11_rod 67 = some (.getfield 34, 3, 0, 0) := by decide +kernel
theorem xX11_rod_70 : dcd mX11_rod 70 = some (.aload 0, 1, 0, 0) := by decide +kernel
theorem xX11_rod_71 : dcd mX11_rod 71 = some (.getfield 13, 3, 0, 0) := by decide +kernel
theorem xX11_rod_74 : dcd mX11_rod 74 = some (.iconst 0, 1, 0, 0) := by decide +kernel
theorem xX11_rod_75 : dcd mX11_rod 75 = some (.bastore, 1, 0, 0) := by decide +kernel
theorem xX11_rod_76 : dcd mX11_rod 76 = some (.aload 0, 1, 0, 0) := by decide +kernel
theorem xX11_rod_77 : dcd mX11_rod 77 = some (.dup, 1, 0, 0) := by decide +kernel
theorem xX11_rod_78 : dcd mX11_rod 78 = some (.getfield 13, 3, 0, 0) := by decide +kernel
theorem xX11_rod_81 : dcd mX11_rod 81 = some (.iconst 0, 1, 0, 1) := by decide +kernel
theorem xX11_rod_82 : dcd mX11_rod 82 = some (.iadd, 1, 0, 0) := by decide +kernel
theorem xX11_rod_83 : dcd mX11_rod 83 = some (.putfield 13, 3, 0, 0) := by decide +kernel
theorem xX11_rod_86 : dcd mX11_rod 86 = some (.aload 0, 1, 0, 0) := by decide +kernel
theorem xX11_rod_87 : dcd mX11_rod 87 = some (.getfield 13, 3, 0, 0) := by decide +kernel
theorem xX11_rod_90 : dcd mX11_rod 90 = some (.iconst 0, 1, 0, 1) := by decide +kernel
theorem xX11_rod_91 : dcd mX11_rod 91 = some (.isub, 1, 0, 0) := by decide +kernel
theorem xX11_rod_92 : dcd mX11_rod 92 = some (.ireturn, 1, 0, 0) := by decide +kernel
theorem xX11_stiff_0 : dcd mX11_stiff 0 = some (.aload 0, 1, 0, 0) := by decide +kernel
theorem xX11_stiff_1 : dcd mX11_stiff 1 = some (.iload 1, 1, 0, 0) := by decide +kernel
theorem xX11_stiff_2 : dcd mX11_stiff 2 = some (.invokevirtual 216, 3, 0, 0) := by decide +kernel
theorem xX11_stiff_5 : dcd mX11_stiff 5 = some (.ifCond .eq 0, 3, 20, 0) := by decide +kernel
theorem xX11_stiff_8 : dcd mX11_stiff 8 = some (.iload 2, 1, 0, 0) := by decide +kernel
theorem xX11_stiff_9 : dcd mX11_stiff 9 = some (.i2l, 1, 0, 0) := by decide +kernel
theorem xX11_stiff_10 : dcd mX11_stiff 10 = some (.lconst 1, 1, 0, 0) := by decide +kernel
theorem xX11_stiff_11 : dcd mX11_stiff 11 = some (.ldc2_w 223, 3, 0, 0) := by decide +kernel
theorem xX11_stiff_14 : dcd mX11_stiff 14 = some (.invokestatic 203, 3, 0, 0) := by decide +kernel
theorem xX11_stiff_17 : dcd mX11_stiff 17 = some (.ifCond .ne 0, 3, 22, 0) := by decide +kernel
theorem xX11_stiff_20 : dcd mX11_stiff 20 = some (.iconst 0, 1, 0, 0) := by decide +kernel
theorem xX11_stiff_21 : dcd mX11_stiff 21 = some (.ireturn, 1, 0, 0) := by decide +kernel
theorem xX11_stiff_22 : dcd mX11_stiff 22 = some (.aload 0, 1, 0, 0) := by decide +kernel
theorem xX11_stiff_23 : dcd mX11_stiff 23 = some (.getfield 27, 3, 0, 0) := by decide +kernel
theorem xX11_stiff_26 : dcd mX11_stiff 26 = some (.iload 1, 1, 0, 0) := by decide +kernel
theorem xX11_stiff_27 : dcd mX11_stiff 27 = some (.iload 2, 1, 0, 0) := by decide +kernel
theorem xX11_stiff_28 : dcd mX11_stiff 28 = some (.iastore, 1, 0, 0) := by decide +kernel
theorem xX11_stiff_29 : dcd mX11_stiff 29 = some (.iconst 0, 1, 0, 1) := by decide +kernel
theorem xX11_stiff_30 : dcd mX11_stiff 30 = some (.ireturn, 1, 0, 0) := by decide +kernel
theorem xX11_seen_0 : dcd mX11_seen 0 = some (.aload 0, 1, 0, 0) := by decide +kernel
theorem xX11_seen_1 : dcd mX11_seen 1 = some (.iload 1, 1, 0, 0) := by decide +kernel
theorem xX11_seen_2 : dcd mX11_seen 2 = some (.invokevirtual 216, 3, 0, 0) := by decide +kernel
theorem xX11_seen_5 : dcd mX11_seen 5 = some (.ifCond .eq 0, 3, 18, 0) := by decide +kernel
theorem xX11_seen_8 : dcd mX11_seen 8 = some (.aload 0, 1, 0, 0) := by decide +kernel
theorem xX11_seen_9 : dcd mX11_seen 9 = some (.getfield 30, 3, 0, 0) := by decide +kernel
theorem xX11_seen_12 : dcd mX11_seen 12 = some (.iload 1, 1, 0, 0) := by decide +kernel
theorem xX11_seen_13 : dcd mX11_seen 13 = some (.baload, 1, 0, 0) := by decide +kernel
theorem xX11_seen_14 : dcd mX11_seen 14 = some (.iload 2, 1, 0, 0) := by decide +kernel
theorem xX11_seen_15 : dcd mX11_seen 15 = some (.if_icmp .ne 0, 3, 20, 0) := by decide +kernel
theorem xX11_seen_18 : dcd mX11_seen 18 = some (.iconst 0, 1, 0, 0) := by decide +kernel
theorem xX11_seen_19 : dcd mX11_seen 19 = some (.ireturn, 1, 0, 0) := by decide +kernel
theorem xX11_seen_20 : dcd mX11_seen 20 = some (.aload 0, 1, 0, 0) := by decide +kernel
theorem xX11_seen_21 : dcd mX11_seen 21 = some (.getfield 30, 3, 0, 0) := by decide +kernel
theorem xX11_seen_24 : dcd mX11_seen 24 = some (.iload 1, 1, 0, 0) := by decide +kernel
theorem xX11_seen_25 : dcd mX11_seen 25 = some (.iload 2, 1, 0, 0) := by decide +kernel
theorem xX11_seen_26 : dcd mX11_seen 26 = some (.bastore, 1, 0, 0) := by decide +kernel
theorem xX11_seen_27 : dcd mX11_seen 27 = some (.iconst 0, 1, 0, 1) := by decide +kernel
theorem xX11_seen_28 : dcd mX11_seen 28 = some (.ireturn, 1, 0, 0) := by decide +kernel
