theorem xX5_tryKnots_0 : dcd mX5_tryKnots 0 = some (.iconst 0, 1, 0, 0) := by decide +kernel
theorem xX5_tryKnots_1 : dcd mX5_tryKnots 1 = some (.istore 3, 1, 0, 0) := by decide +kernel
theorem xX5_tryKnots_2 : dcd mX5_tryKnots 2 = some (.iload 3, 1, 0, 0) := by decide +kernel
theorem xX5_tryKnots_3 : dcd mX5_tryKnots 3 = some (.aload 0, 1, 0, 0) := by decide +kernel
theorem xX5_tryKnots_4 : dcd mX5_tryKnots 4 = some (.getfield 32, 3, 0, 0) := by decide +kernel
theorem xX5_tryKnots_7 : dcd mX5_tryKnots 7 = some (.getfield 65, 3, 0, 0) := by decide +kernel
theorem xX5_tryKnots_10 : dcd mX5_tryKnots 10 = some (.if_icmp .ge 0, 3, 84, 0) := by decide +kernel
theorem xX5_tryKnots_13 : dcd mX5_tryKnots 13 = some (.aload 0, 1, 0, 0) := by decide +kernel
theorem xX5_tryKnots_14 : dcd mX5_tryKnots 14 = some (.iload 3, 1, 0, 0) := by decide +kernel
theorem xX5_tryKnots_15 : dcd mX5_tryKnots 15 = some (.iload 2, 1, 0, 0) := by decide +kernel
theorem xX5_tryKnots_16 : dcd mX5_tryKnots 16 = some (.invokevirtual 79, 3, 0, 0) := by decide +kernel
theorem xX5_tryKnots_19 : dcd mX5_tryKnots 19 = some (.ifCond .eq 0, 3, 78, 0) := by decide +kernel
theorem xX5_tryKnots_22 : dcd mX5_tryKnots 22 = some (.aload 0, 1, 0, 0) := by decide +kernel
theorem xX5_tryKnots_23 : dcd mX5_tryKnots 23 = some (.iconst 0, 1, 0, 0) := by decide +kernel
theorem xX5_tryKnots_24 : dcd mX5_tryKnots 24 = some (.iload 3, 1, 0, 0) := by decide +kernel
theorem xX5_tryKnots_25 : dcd mX5_tryKnots 25 = some (.iconst 0, 1, 0, 1) := by decide +kernel
theorem xX5_tryKnots_26 : dcd mX5_tryKnots 26 = some (.invokevirtual 72, 3, 0, 0) := by decide +kernel
theorem xX5_tryKnots_29 : dcd mX5_tryKnots 29 = some (.aload 0, 1, 0, 0) := by decide +kernel
theorem xX5_tryKnots_30 : dcd mX5_tryKnots 30 = some (.getfield 11, 3, 0, 0) := by decide +kernel
theorem xX5_tryKnots_33 : dcd mX5_tryKnots 33 = some (.iconst 0, 1, 0, 0) := by decide +kernel
theorem xX5_tryKnots_34 : dcd mX5_tryKnots 34 = some (.aaload, 1, 0, 0) := by decide +kernel
theorem xX5_tryKnots_35 : dcd mX5_tryKnots 35 = some (.aload 0, 1, 0, 0) := by decide +kernel
theorem xX5_tryKnots_36 : dcd mX5_tryKnots 36 = some (.getfield 23, 3, 0, 0) := by decide +kernel
theorem xX5_tryKnots_39 : dcd mX5_tryKnots 39 = some (.iconst 0, 1, 0, 0) := by decide +kernel
theorem xX5_tryKnots_40 : dcd mX5_tryKnots 40 = some (.aaload, 1, 0, 0) := by decide +kernel
theorem xX5_tryKnots_41 : dcd mX5_tryKnots 41 = some (.invokevirtual 82, 3, 0, 0) := by decide +kernel
theorem xX5_tryKnots_44 : dcd mX5_tryKnots 44 = some (.istore 4, 2, 0, 0) := by decide +kernel
theorem xX5_tryKnots_46 : dcd mX5_tryKnots 46 = some (.aload 0, 1, 0, 0) := by decide +kernel
theorem xX5_tryKnots_47 : dcd mX5_tryKnots 47 = some (.iconst 0, 1, 0, 0) := by decide +kernel
theorem xX5_tryKnots_48 : dcd mX5_tryKnots 48 = some (.iload 3, 1, 0, 0) := by decide +kernel
theorem xX5_tryKnots_49 : dcd mX5_tryKnots 49 = some (.iconst 0, 1, 0, (-1)) := by decide +kernel
theorem xX5_tryKnots_50 : dcd mX5_tryKnots 50 = some (.invokevirtual 72, 3, 0, 0) := by decide +kernel
theorem xX5_tryKnots_53 : dcd mX5_tryKnots 53 = some (.iload 4, 2, 0, 0) := by decide +kernel
theorem xX5_tryKnots_55 : dcd mX5_tryKnots 55 = some (.aload 0, 1, 0, 0) := by decide +kernel
theorem xX5_tryKnots_56 : dcd mX5_tryKnots 56 = some (.getfield 62, 3, 0, 0) := by decide +kernel
theorem xX5_tryKnots_59 : dcd mX5_tryKnots 59 = some (.if_icmp .ge 0, 3, 78, 0) := by decide +kernel
theorem xX5_tryKnots_62 : dcd mX5_tryKnots 62 = some (.aload 0, 1, 0, 0) := by decide +kernel
theorem xX5_tryKnots_63 : dcd mX5_tryKnots 63 = some (.iload 4, 2, 0, 0) := by decide +kernel
theorem xX5_tryKnots_65 : dcd mX5_tryKnots 65 = some (.putfield 62, 3, 0, 0) := by decide +kernel
theorem xX5_tryKnots_68 : dcd mX5_tryKnots 68 = some (.aload 0, 1, 0, 0) := by decide +kernel
theorem xX5_tryKnots_69 : dcd mX5_tryKnots 69 = some (.iload 1, 1, 0, 0) := by decide +kernel
theorem xX5_tryKnots_70 : dcd mX5_tryKnots 70 = some (.putfield 86, 3, 0, 0) := by decide +kernel
theorem xX5_tryKnots_73 : dcd mX5_tryKnots 73 = some (.aload 0, 1, 0, 0) := by decide +kernel
theorem xX5_tryKnots_74 : dcd mX5_tryKnots 74 = some (.iload 3, 1, 0, 0) := by decide +kernel
theorem xX5_tryKnots_75 : dcd mX5_tryKnots 75 = some (.putfield 89, 3, 0, 0) := by decide +kernel
theorem xX5_tryKnots_78 : dcd mX5_tryKnots 78 = some (.iinc 3 0, 3, 0, 1) := by decide +kernel
theorem xX5_tryKnots_81 : dcd mX5_tryKnots 81 = some (.goto 0, 3, 2, 0) := by decide +kernel
theorem xX5_tryKnots_84 : dcd mX5_tryKnots 84 = some (.return_, 1, 0, 0) := by decide +kernel
theorem xX5_carryOut_0 : dcd mX5_carryOut 0 = some (.aload 0, 1, 0, 0) := by decide +kernel
theorem xX5_carryOut_1 : dcd mX5_carryOut 1 = some (.getfield 32, 3, 0, 0) := by decide +kernel
theorem xX5_carryOut_4 : dcd mX5_carryOut 4 = some (.aload 0, 1, 0, 0) := by decide +kernel
theorem xX5_carryOut_5 : dcd mX5_carryOut 5 = some (.getfield 86, 3, 0, 0) := by decide +kernel
theorem xX5_carryOut_8 : dcd mX5_carryOut 8 = some (.invokevirtual 92, 3, 0, 0) := by decide +kernel
theorem xX5_carryOut_11 : dcd mX5_carryOut 11 = some (.ifCond .eq 0, 3, 60, 0) := by decide +kernel
theorem xX5_carryOut_14 : dcd mX5_carryOut 14 = some (.aload 0, 1, 0, 0) := by decide +kernel
theorem xX5_carryOut_15 : dcd mX5_carryOut 15 = some (.getfield 32, 3, 0, 0) := by decide +kernel
theorem xX5_carryOut_18 : dcd mX5_carryOut 18 = some (.aload 0, 1, 0, 0) := by decide +kernel
theorem xX5_carryOut_19 : dcd mX5_carryOut 19 = some (.getfield 89, 3, 0, 0) := by decide +kernel
theorem xX5_carryOut_22 : dcd mX5_carryOut 22 = some (.invokevirtual 92, 3, 0, 0) := by decide +kernel
theorem xX5_carryOut_25 : dcd mX5_carryOut 25 = some (.ifCond .eq 0, 3, 60, 0) := by decide +kernel
theorem xX5_carryOut_28 : dcd mX5_carryOut 28 = some (.aload 0, 1, 0, 0) := by decide +kernel
theorem xX5_carryOut_29 : dcd mX5_carryOut 29 = some (.getfield 32, 3, 0, 0) := by decide +kernel
theorem xX5_carryOut_32 : dcd mX5_carryOut 32 = some (.getfield 96, 3, 0, 0) := by decide +kernel
theorem xX5_carryOut_35 : dcd mX5_carryOut 35 = some (.aload 0, 1, 0, 0) := by decide +kernel
theorem xX5_carryOut_36 : dcd mX5_carryOut 36 = some (.getfield 86, 3, 0, 0) := by decide +kernel
theorem xX5_carryOut_39 : dcd mX5_carryOut 39 = some (.dup2, 1, 0, 0) := by decide +kernel
theorem xX5_carryOut_40 : dcd mX5_carryOut 40 = some (.iaload, 1, 0, 0) := by decide +kernel
theorem xX5_carryOut_41 : dcd mX5_carryOut 41 = some (.iload 1, 1, 0, 0) := by decide +kernel
theorem xX5_carryOut_42 : dcd mX5_carryOut 42 = some (.isub, 1, 0, 0) := by decide +kernel
theorem xX5_carryOut_43 : dcd mX5_carryOut 43 = some (.iastore, 1, 0, 0) := by decide +kernel
theorem xX5_carryOut_44 : dcd mX5_carryOut 44 = some (.aload 0, 1, 0, 0) := by decide +kernel
theorem xX5_carryOut_45 : dcd mX5_carryOut 45 = some (.getfield 32, 3, 0, 0) := by decide +kernel
theorem xX5_carryOut_48 : dcd mX5_carryOut 48 = some (.getfield 96, 3, 0, 0) := by decide +kernel
theorem xX5_carryOut_51 : dcd mX5_carryOut 51 = some (.aload 0, 1, 0, 0) := by decide +kernel
theorem xX5_carryOut_52 : dcd mX5_carryOut 52 = some (.getfield 89, 3, 0, 0) := by decide +kernel
theorem xX5_carryOut_55 : dcd mX5_carryOut 55 = some (.dup2, 1, 0, 0) := by decide +kernel
theorem xX5_carryOut_56 : dcd mX5_carryOut 56 = some (.iaload, 1, 0, 0) := by decide +kernel
theorem xX5_carryOut_57 : dcd mX5_carryOut 57 = some (.iload 1, 1, 0, 0) := by decide +kernel
theorem xX5_carryOut_58 : dcd mX5_carryOut 58 = some (.iadd, 1, 0, 0) := by decide +kernel
theorem xX5_carryOut_59 : dcd mX5_carryOut 59 = some (.iastore, 1, 0, 0) := by decide +kernel
theorem xX5_carryOut_60 : dcd mX5_carryOut 60 = some (.return_, 1, 0, 0) := by decide +kernel
theorem xX5_findFraud_0 : dcd mX5_findFraud 0 = some (.aload 0, 1, 0, 0) := by decide +kernel
theorem xX5_findFraud_1 : dcd mX5_findFraud 1 = some (.iload 1, 1, 0, 0) := by decide +kernel
theorem xX5_findFraud_2 : dcd mX5_findFraud 2 = some (.putfield 43, 3, 0, 0) := by decide +kernel
theorem xX5_findFraud_5 : dcd mX5_findFraud 5 = some (.aload 0, 1, 0, 0) := by decide +kernel
theorem xX5_findFraud_6 : dcd mX5_findFraud 6 = some (.iload 2, 1, 0, 0) := by decide +kernel
theorem xX5_findFraud_7 : dcd mX5_findFraud 7 = some (.putfield 47, 3, 0, 0) := by decide +kernel
theorem xX5_findFraud_10 : dcd mX5_findFraud 10 = some (.iconst 0, 1, 0, 0) := by decide +kernel
theorem xX5_findFraud_11 : dcd mX5_findFraud 11 = some (.istore 5, 2, 0, 0) := by decide +kernel
theorem xX5_findFraud_13 : dcd mX5_findFraud 13 = some (.iload 5, 2, 0, 0) := by decide +kernel
theorem xX5_findFraud_15 : dcd mX5_findFraud 15 = some (.iload 4, 2, 0, 0) := by decide +kernel
theorem xX5_findFraud_17 : dcd mX5_findFraud 17 = some (.if_icmp .ge 0, 3, 48, 0) := by decide +kernel
theorem xX5_findFraud_20 : dcd mX5_findFraud 20 = some (.iload 5, 2, 0, 0) := by decide +kernel
theorem xX5_findFraud_22 : dcd mX5_findFraud 22 = some (.iconst 0, 2, 0, 6) := by decide +kernel
theorem xX5_findFraud_24 : dcd mX5_findFraud 24 = some (.if_icmp .ge 0, 3, 48, 0) := by decide +kernel
theorem xX5_findFraud_27 : dcd mX5_findFraud 27 = some (.aload 0, 1, 0, 0) := by decide +kernel
theorem xX5_findFraud_28 : dcd mX5_findFraud 28 = some (.iload 5, 2, 0, 0) := by decide +kernel
theorem xX5_findFraud_30 : dcd mX5_findFraud 30 = some (.aload 3, 1, 0, 0) := by decide +kernel
theorem xX5_findFraud_31 : dcd mX5_findFraud 31 = some (.iload 5, 2, 0, 0) := by decide +kernel
theorem xX5_findFraud_33 : dcd mX5_findFraud 33 = some (.invokevirtual 99, 3, 0, 0) := by decide +kernel
theorem xX5_findFraud_36 : dcd mX5_findFraud 36 = some (.iconst 0, 2, 0, 9) := by decide +kernel
theorem xX5_findFraud_38 : dcd mX5_findFraud 38 = some (.isub, 1, 0, 0) := by decide +kernel
theorem xX5_findFraud_39 : dcd mX5_findFraud 39 = some (.invokevirtual 55, 3, 0, 0) := by decide +kernel
theorem xX5_findFraud_42 : dcd mX5_findFraud 42 = some (.iinc 5 0, 3, 0, 1) := by decide +kernel
theorem xX5_findFraud_45 : dcd mX5_findFraud 45 = some (.goto 0, 3, 13, 0) := by decide +kernel
theorem xX5_findFraud_48 : dcd mX5_findFraud 48 = some (.aload 0, 1, 0, 0) := by decide +kernel
theorem xX5_findFraud_49 : dcd mX5_findFraud 49 = some (.invokevirtual 105, 3, 0, 0) := by decide +kernel
theorem xX5_findFraud_52 : dcd mX5_findFraud 52 = some (.istore 5, 2, 0, 0) := by decide +kernel
theorem xX5_findFraud_54 : dcd mX5_findFraud 54 = some (.iload 5, 2, 0, 0) := by decide +kernel
theorem xX5_findFraud_56 : dcd mX5_findFraud 56 = some (.ifCond .le 0, 3, 79, 0) := by decide +kernel
theorem xX5_findFraud_59 : dcd mX5_findFraud 59 = some (.aload 0, 1, 0, 0) := by decide +kernel
theorem xX5_findFraud_60 : dcd mX5_findFraud 60 = some (.iload 5, 2, 0, 0) := by decide +kernel
theorem xX5_findFraud_62 : dcd mX5_findFraud 62 = some (.iload 4, 2, 0, 0) := by decide +kernel
theorem xX5_findFraud_64 : dcd mX5_findFraud 64 = some (.invokevirtual 109, 3, 0, 0) := by decide +kernel
theorem xX5_findFraud_67 : dcd mX5_findFraud 67 = some (.ifCond .eq 0, 3, 73, 0) := by decide +kernel
theorem xX5_findFraud_70 : dcd mX5_findFraud 70 = some (.iload 5, 2, 0, 0) := by decide +kernel
theorem xX5_findFraud_72 : dcd mX5_findFraud 72 = some (.ireturn, 1, 0, 0) := by decide +kernel
theorem xX5_findFraud_73 : dcd mX5_findFraud 73 = some (.iinc 5 0, 3, 0, (-1)) := by decide +kernel
theorem xX5_findFraud_76 : dcd mX5_findFraud 76 = some (.goto 0, 3, 54, 0) := by decide +kernel
theorem xX5_findFraud_79 : dcd mX5_findFraud 79 = some (.iconst 0, 1, 0, 0) := by decide +kernel
theorem xX5_findFraud_80 : dcd mX5_findFraud 80 = some (.ireturn, 1, 0, 0) := by decide +kernel
theorem xX5_mostPayable_0 : dcd mX5_mostPayable 0 = some (.iconst 0, 1, 0, 0) := by decide +kernel
theorem xX5_mostPayable_1 : dcd mX5_mostPayable 1 = some (.istore 1, 1, 0, 0) := by decide +kernel
theorem xX5_mostPayable_2 : dcd mX5_mostPayable 2 = some (.iconst 0, 2, 0, 99) := by decide +kernel
theorem xX5_mostPayable_4 : dcd mX5_mostPayable 4 = some (.istore 2, 1, 0, 0) := by decide +kernel
theorem xX5_mostPayable_5 : dcd mX5_mostPayable 5 = some (.iconst 0, 1, 0, 0) := by decide +kernel
theorem xX5_mostPayable_6 : dcd mX5_mostPayable 6 = some (.istore 3, 1, 0, 0) := by decide +kernel
theorem xX5_mostPayable_7 : dcd mX5_mostPayable 7 = some (.iload 3, 1, 0, 0) := by decide +kernel
theorem xX5_mostPayable_8 : dcd mX5_mostPayable 8 = some (.aload 0, 1, 0, 0) := by decide +kernel
theorem xX5_mostPayable_9 : dcd mX5_mostPayable 9 = some (.getfield 32, 3, 0, 0) := by decide +kernel
theorem xX5_mostPayable_12 : dcd mX5_mostPayable 12 = some (.getfield 65, 3, 0, 0) := by decide +kernel
theorem xX5_mostPayable_15 : dcd mX5_mostPayable 15 = some (.if_icmp .ge 0, 3, 85, 0) := by decide +kernel
theorem xX5_mostPayable_18 : dcd mX5_mostPayable 18 = some (.aload 0, 1, 0, 0) := by decide +kernel
theorem xX5_mostPayable_19 : dcd mX5_mostPayable 19 = some (.getfield 32, 3, 0, 0) := by decide +kernel
theorem xX5_mostPayable_22 : dcd mX5_mostPayable 22 = some (.iload 3, 1, 0, 0) := by decide +kernel
theorem xX5_mostPayable_23 : dcd mX5_mostPayable 23 = some (.aload 0, 1, 0, 0) := by decide +kernel
theorem xX5_mostPayable_24 : dcd mX5_mostPayable 24 = some (.getfield 43, 3, 0, 0) := by decide +kernel
theorem xX5_mostPayable_27 : dcd mX5_mostPayable 27 = some (.invokevirtual 112, 3, 0, 0) := by decide +kernel
theorem xX5_mostPayable_30 : dcd mX5_mostPayable 30 = some (.ifCond .eq 0, 3, 50, 0) := by decide +kernel
theorem xX5_mostPayable_33 : dcd mX5_mostPayable 33 = some (.iload 1, 1, 0, 0) := by decide +kernel
theorem xX5_mostPayable_34 : dcd mX5_mostPayable 34 = some (.aload 0, 1, 0, 0) := by decide +kernel
theorem xX5_mostPayable_35 : dcd mX5_mostPayable 35 = some (.getfield 32, 3, 0, 0) := by decide +kernel
theorem xX5_mostPayable_38 : dcd mX5_mostPayable 38 = some (.getfield 96, 3, 0, 0) := by decide +kernel
theorem xX5_mostPayable_41 : dcd mX5_mostPayable 41 = some (.iload 3, 1, 0, 0) := by decide +kernel
theorem xX5_mostPayable_42 : dcd mX5_mostPayable 42 = some (.iaload, 1, 0, 0) := by decide +kernel
theorem xX5_mostPayable_43 : dcd mX5_mostPayable 43 = some (.invokestatic 115, 3, 0, 0) := by decide +kernel
theorem xX5_mostPayable_46 : dcd mX5_mostPayable 46 = some (.istore 1, 1, 0, 0) := by decide +kernel
theorem xX5_mostPayable_47 : dcd mX5_mostPayable 47 = some (.goto 0, 3, 79, 0) := by decide +kernel
theorem xX5_mostPayable_50 : dcd mX5_mostPayable 50 = some (.aload 0, 1, 0, 0) := by decide +kernel
theorem xX5_mostPayable_51 : dcd mX5_mostPayable 51 = some (.getfield 32, 3, 0, 0) := by decide +kernel
theorem xX5_mostPayable_54 : dcd mX5_mostPayable 54 = some (.iload 3, 1, 0, 0) := by decide +kernel
theorem xX5_mostPayable_55 : dcd mX5_mostPayable 55 = some (.aload 0, 1, 0, 0) := by decide +kernel
theorem xX5_mostPayable_56 : dcd mX5_mostPayable 56 = some (.getfield 47, 3, 0, 0) := by decide +kernel
theorem xX5_mostPayable_59 : dcd mX5_mostPayable 59 = some (.invokevirtual 112, 3, 0, 0) := by decide +kernel
theorem xX5_mostPayable_62 : dcd mX5_mostPayable 62 = some (.ifCond .eq 0, 3, 79, 0) := by decide +kernel
theorem xX5_mostPayable_65 : dcd mX5_mostPayable 65 = some (.iload 2, 1, 0, 0) := by decide +kernel
theorem xX5_mostPayable_66 : dcd mX5_mostPayable 66 = some (.aload 0, 1, 0, 0) := by decide +kernel
theorem xX5_mostPayable_67 : dcd mX5_mostPayable 67 = some (.getfield 32, 3, 0, 0) := by decide +kernel
theorem xX5_mostPayable_70 : dcd mX5_mostPayable 70 = some (.getfield 96, 3, 0, 0) := by decide +kernel
theorem xX5_mostPayable_73 : dcd mX5_mostPayable 73 = some (.iload 3, 1, 0, 0) := by decide +kernel
theorem xX5_mostPayable_74 : dcd mX5_mostPayable 74 = some (.iaload, 1, 0, 0) := by decide +kernel
theorem xX5_mostPayable_75 : dcd mX5_mostPayable 75 = some (.invokestatic 121, 3, 0, 0) := by decide +kernel
theorem xX5_mostPayable_78 : dcd mX5_mostPayable 78 = some (.istore 2, 1, 0, 0) := by decide +kernel
theorem xX5_mostPayable_79 : dcd mX5_mostPayable 79 = some (.iinc 3 0, 3, 0, 1) := by decide +kernel
theorem xX5_mostPayable_82 : dcd mX5_mostPayable 82 = some (.goto 0, 3, 7, 0) := by decide +kernel
theorem xX5_mostPayable_85 : dcd mX5_mostPayable 85 = some (.iload 1, 1, 0, 0) := by decide +kernel
theorem xX5_mostPayable_86 : dcd mX5_mostPayable 86 = some (.iconst 0, 1, 0, 1) := by decide +kernel
theorem xX5_mostPayable_87 : dcd mX5_mostPayable 87 = some (.isub, 1, 0, 0) := by decide +kernel
theorem xX5_mostPayable_88 : dcd mX5_mostPayable 88 = some (.iconst 0, 2, 0, 99) := by decide +kernel
theorem xX5_mostPayable_90 : dcd mX5_mostPayable 90 = some (.iload 2, 1, 0, 0) := by decide +kernel
theorem xX5_mostPayable_91 : dcd mX5_mostPayable 91 = some (.isub, 1, 0, 0) := by decide +kernel
theorem xX5_mostPayable_92 : dcd mX5_mostPayable 92 = some (.invokestatic 121, 3, 0, 0) := by decide +kernel
theorem xX5_mostPayable_95 : dcd mX5_mostPayable 95 = some (.ireturn, 1, 0, 0) := by decide +kernel
theorem xX5_findUnseen_0 : dcd mX5_findUnseen 0 = some (.iconst 0, 1, 0, 0) := by decide +kernel
theorem xX5_findUnseen_1 : dcd mX5_findUnseen 1 = some (.istore 3, 1, 0, 0) := by decide +kernel
theorem xX5_findUnseen_2 : dcd mX5_findUnseen 2 = some (.iload 3, 1, 0, 0) := by decide +kernel
theorem xX5_findUnseen_3 : dcd mX5_findUnseen 3 = some (.iload 2, 1, 0, 0) := by decide +kernel
theorem xX5_findUnseen_4 : dcd mX5_findUnseen 4 = some (.if_icmp .ge 0, 3, 19, 0) := by decide +kernel
theorem xX5_findUnseen_7 : dcd mX5_findUnseen 7 = some (.aload 0, 1, 0, 0) := by decide +kernel
theorem xX5_findUnseen_8 : dcd mX5_findUnseen 8 = some (.iload 3, 1, 0, 0) := by decide +kernel
theorem xX5_findUnseen_9 : dcd mX5_findUnseen 9 = some (.iload 1, 1, 0, 0) := by decide +kernel
theorem xX5_findUnseen_10 : dcd mX5_findUnseen 10 = some (.invokevirtual 59, 3, 0, 0) := by decide +kernel
theorem xX5_findUnseen_13 : dcd mX5_findUnseen 13 = some (.iinc 3 0, 3, 0, 1) := by decide +kernel
theorem xX5_findUnseen_16 : dcd mX5_findUnseen 16 = some (.goto 0, 3, 2, 0) := by decide +kernel
theorem xX5_findUnseen_19 : dcd mX5_findUnseen 19 = some (.iconst 0, 1, 0, 0) := by decide +kernel
theorem xX5_findUnseen_20 : dcd mX5_findUnseen 20 = some (.istore 3, 1, 0, 0) := by decide +kernel
theorem xX5_findUnseen_21 : dcd mX5_findUnseen 21 = some (.iload 3, 1, 0, 0) := by decide +kernel
theorem xX5_findUnseen_22 : dcd mX5_findUnseen 22 = some (.aload 0, 1, 0, 0) := by decide +kernel
theorem xX5_findUnseen_23 : dcd mX5_findUnseen 23 = some (.getfield 32, 3, 0, 0) := by decide +kernel
theorem xX5_findUnseen_26 : dcd mX5_findUnseen 26 = some (.getfield 65, 3, 0, 0) := by decide +kernel
theorem xX5_findUnseen_29 : dcd mX5_findUnseen 29 = some (.if_icmp .ge 0, 3, 102, 0) := by decide +kernel
theorem xX5_findUnseen_32 : dcd mX5_findUnseen 32 = some (.aload 0, 1, 0, 0) := by decide +kernel
theorem xX5_findUnseen_33 : dcd mX5_findUnseen 33 = some (.iload 3, 1, 0, 0) := by decide +kernel
theorem xX5_findUnseen_34 : dcd mX5_findUnseen 34 = some (.iload 1, 1, 0, 0) := by decide +kernel
theorem xX5_findUnseen_35 : dcd mX5_findUnseen 35 = some (.invokevirtual 68, 3, 0, 0) := by decide +kernel
theorem xX5_findUnseen_38 : dcd mX5_findUnseen 38 = some (.ifCond .eq 0, 3, 96, 0) := by decide +kernel
theorem xX5_findUnseen_41 : dcd mX5_findUnseen 41 = some (.iconst 0, 1, 0, 0) := by decide +kernel
theorem xX5_findUnseen_42 : dcd mX5_findUnseen 42 = some (.istore 4, 2, 0, 0) := by decide +kernel
theorem xX5_findUnseen_44 : dcd mX5_findUnseen 44 = some (.iload 4, 2, 0, 0) := by decide +kernel
theorem xX5_findUnseen_46 : dcd mX5_findUnseen 46 = some (.aload 0, 1, 0, 0) := by decide +kernel
theorem xX5_findUnseen_47 : dcd mX5_findUnseen 47 = some (.getfield 32, 3, 0, 0) := by decide +kernel
theorem xX5_findUnseen_50 : dcd mX5_findUnseen 50 = some (.getfield 65, 3, 0, 0) := by decide +kernel
theorem xX5_findUnseen_53 : dcd mX5_findUnseen 53 = some (.if_icmp .ge 0, 3, 96, 0) := by decide +kernel
theorem xX5_findUnseen_56 : dcd mX5_findUnseen 56 = some (.aload 0, 1, 0, 0) := by decide +kernel
theorem xX5_findUnseen_57 : dcd mX5_findUnseen 57 = some (.iload 4, 2, 0, 0) := by decide +kernel
theorem xX5_findUnseen_59 : dcd mX5_findUnseen 59 = some (.iload 1, 1, 0, 0) := by decide +kernel
theorem xX5_findUnseen_60 : dcd mX5_findUnseen 60 = some (.invokevirtual 79, 3, 0, 0) := by decide +kernel
theorem xX5_findUnseen_63 : dcd mX5_findUnseen 63 = some (.ifCond .eq 0, 3, 90, 0) := by decide +kernel
theorem xX5_findUnseen_66 : dcd mX5_findUnseen 66 = some (.aload 0, 1, 0, 0) := by decide +kernel
theorem xX5_findUnseen_67 : dcd mX5_findUnseen 67 = some (.iload 3, 1, 0, 0) := by decide +kernel
theorem xX5_findUnseen_68 : dcd mX5_findUnseen 68 = some (.iload 4, 2, 0, 0) := by decide +kernel
theorem xX5_findUnseen_70 : dcd mX5_findUnseen 70 = some (.iload 2, 1, 0, 0) := by decide +kernel
theorem xX5_findUnseen_71 : dcd mX5_findUnseen 71 = some (.invokevirtual 124, 3, 0, 0) := by decide +kernel
theorem xX5_findUnseen_74 : dcd mX5_findUnseen 74 = some (.ifCond .eq 0, 3, 90, 0) := by decide +kernel
theorem xX5_findUnseen_77 : dcd mX5_findUnseen 77 = some (.aload 0, 1, 0, 0) := by decide +kernel
theorem xX5_findUnseen_78 : dcd mX5_findUnseen 78 = some (.iload 3, 1, 0, 0) := by decide +kernel
theorem xX5_findUnseen_79 : dcd mX5_findUnseen 79 = some (.putfield 86, 3, 0, 0) := by decide +kernel
theorem xX5_findUnseen_82 : dcd mX5_findUnseen 82 = some (.aload 0, 1, 0, 0) := by decide +kernel
theorem xX5_findUnseen_83 : dcd mX5_findUnseen 83 = some (.iload 4, 2, 0, 0) := by decide +kernel
theorem xX5_findUnseen_85 : dcd mX5_findUnseen 85 = some (.putfield 89, 3, 0, 0) := by decide +kernel
theorem xX5_findUnseen_88 : dcd mX5_findUnseen 88 = some (.iconst 0, 1, 0, 1) := by decide +kernel
theorem xX5_findUnseen_89 : dcd mX5_findUnseen 89 = some (.ireturn, 1, 0, 0) := by decide +kernel
theorem xX5_findUnseen_90 : dcd mX5_findUnseen 90 = some (.iinc 4 0, 3, 0, 1) := by decide +kernel
theorem xX5_findUnseen_93 : dcd mX5_findUnseen 93 = some (.goto 0, 3, 44, 0) := by decide +kernel
theorem xX5_findUnseen_96 : dcd mX5_findUnseen 96 = some (.iinc 3 0, 3, 0, 1) := by decide +kernel
theorem xX5_findUnseen_99 : dcd mX5_findUnseen 99 = some (.goto 0, 3, 21, 0) := by decide +kernel
theorem xX5_findUnseen_102 : dcd mX5_findUnseen 102 = some (.iconst 0, 1, 0, 0) := by decide +kernel
theorem xX5_findUnseen_103 : dcd mX5_findUnseen 103 = some (.ireturn, 1, 0, 0) := by decide +kernel
theorem xX5_isUnseen_0 : dcd mX5_isUnseen 0 = some (.iconst 0, 1, 0, 1) := by decide +kernel
theorem xX5_isUnseen_1 : dcd mX5_isUnseen 1 = some (.istore 4, 2, 0, 0) := by decide +kernel
theorem xX5_isUnseen_3 : dcd mX5_isUnseen 3 = some (.iconst 0, 1, 0, 0) := by decide +kernel
theorem xX5_isUnseen_4 : dcd mX5_isUnseen 4 = some (.istore 5, 2, 0, 0) := by decide +kernel
theorem xX5_isUnseen_6 : dcd mX5_isUnseen 6 = some (.iload 5, 2, 0, 0) := by decide +kernel
theorem xX5_isUnseen_8 : dcd mX5_isUnseen 8 = some (.iload 3, 1, 0, 0) := by decide +kernel
theorem xX5_isUnseen_9 : dcd mX5_isUnseen 9 = some (.if_icmp .ge 0, 3, 81, 0) := by decide +kernel
theorem xX5_isUnseen_12 : dcd mX5_isUnseen 12 = some (.iload 5, 2, 0, 0) := by decide +kernel
theorem xX5_isUnseen_14 : dcd mX5_isUnseen 14 = some (.iconst 0, 2, 0, 6) := by decide +kernel
theorem xX5_isUnseen_16 : dcd mX5_isUnseen 16 = some (.if_icmp .ge 0, 3, 81, 0) := by decide +kernel
theorem xX5_isUnseen_19 : dcd mX5_isUnseen 19 = some (.iload 4, 2, 0, 0) := by decide +kernel
theorem xX5_isUnseen_21 : dcd mX5_isUnseen 21 = some (.ifCond .eq 0, 3, 81, 0) := by decide +kernel
theorem xX5_isUnseen_24 : dcd mX5_isUnseen 24 = some (.aload 0, 1, 0, 0) := by decide +kernel
theorem xX5_isUnseen_25 : dcd mX5_isUnseen 25 = some (.iload 5, 2, 0, 0) := by decide +kernel
theorem xX5_isUnseen_27 : dcd mX5_isUnseen 27 = some (.iload 1, 1, 0, 0) := by decide +kernel
theorem xX5_isUnseen_28 : dcd mX5_isUnseen 28 = some (.iconst 0, 1, 0, 1) := by decide +kernel
theorem xX5_isUnseen_29 : dcd mX5_isUnseen 29 = some (.invokevirtual 72, 3, 0, 0) := by decide +kernel
theorem xX5_isUnseen_32 : dcd mX5_isUnseen 32 = some (.aload 0, 1, 0, 0) := by decide +kernel
theorem xX5_isUnseen_33 : dcd mX5_isUnseen 33 = some (.iload 5, 2, 0, 0) := by decide +kernel
theorem xX5_isUnseen_35 : dcd mX5_isUnseen 35 = some (.iload 2, 1, 0, 0) := by decide +kernel
theorem xX5_isUnseen_36 : dcd mX5_isUnseen 36 = some (.iconst 0, 1, 0, 1) := by decide +kernel
theorem xX5_isUnseen_37 : dcd mX5_isUnseen 37 = some (.invokevirtual 72, 3, 0, 0) := by decide +kernel
theorem xX5_isUnseen_40 : dcd mX5_isUnseen 40 = some (.aload 0, 1, 0, 0) := by decide +kernel
theorem xX5_isUnseen_41 : dcd mX5_isUnseen 41 = some (.getfield 11, 3, 0, 0) := by decide +kernel
theorem xX5_isUnseen_44 : dcd mX5_isUnseen 44 = some (.iload 5, 2, 0, 0) := by decide +kernel
theorem xX5_isUnseen_46 : dcd mX5_isUnseen 46 = some (.aaload, 1, 0, 0) := by decide +kernel
theorem xX5_isUnseen_47 : dcd mX5_isUnseen 47 = some (.aload 0, 1, 0, 0) := by decide +kernel
theorem xX5_isUnseen_48 : dcd mX5_isUnseen 48 = some (.getfield 23, 3, 0, 0) := by decide +kernel
theorem xX5_isUnseen_51 : dcd mX5_isUnseen 51 = some (.iload 5, 2, 0, 0) := by decide +kernel
theorem xX5_isUnseen_53 : dcd mX5_isUnseen 53 = some (.aaload, 1, 0, 0) := by decide +kernel
theorem xX5_isUnseen_54 : dcd mX5_isUnseen 54 = some (.invokevirtual 128, 3, 0, 0) := by decide +kernel
theorem xX5_isUnseen_57 : dcd mX5_isUnseen 57 = some (.istore 4, 2, 0, 0) := by decide +kernel
theorem xX5_isUnseen_59 : dcd mX5_isUnseen 59 = some (.aload 0, 1, 0, 0) := by decide +kernel
theorem xX5_isUnseen_60 : dcd mX5_isUnseen 60 = some (.iload 5, 2, 0, 0) := by decide +kernel
theorem xX5_isUnseen_62 : dcd mX5_isUnseen 62 = some (.iload 2, 1, 0, 0) := by decide +kernel
theorem xX5_isUnseen_63 : dcd mX5_isUnseen 63 = some (.iconst 0, 1, 0, (-1)) := by decide +kernel
theorem xX5_isUnseen_64 : dcd mX5_isUnseen 64 = some (.invokevirtual 72, 3, 0, 0) := by decide +kernel
theorem xX5_isUnseen_67 : dcd mX5_isUnseen 67 = some (.aload 0, 1, 0, 0) := by decide +kernel
theorem xX5_isUnseen_68 : dcd mX5_isUnseen 68 = some (.iload 5, 2, 0, 0) := by decide +kernel
theorem xX5_isUnseen_70 : dcd mX5_isUnseen 70 = some (.iload 1, 1, 0, 0) := by decide +kernel
theorem xX5_isUnseen_71 : dcd mX5_isUnseen 71 = some (.iconst 0, 1, 0, (-1)) := by decide +kernel
theorem xX5_isUnseen_72 : dcd mX5_isUnseen 72 = some (.invokevirtual 72, 3, 0, 0) := by decide +kernel
theorem xX5_isUnseen_75 : dcd mX5_isUnseen 75 = some (.iinc 5 0, 3, 0, 1) := by decide +kernel
theorem xX5_isUnseen_78 : dcd mX5_isUnseen 78 = some (.goto 0, 3, 6, 0) := by decide +kernel
theorem xX5_isUnseen_81 : dcd mX5_isUnseen 81 = some (.iload 4, 2, 0, 0) := by decide +kernel
theorem xX5_isUnseen_83 : dcd mX5_isUnseen 83 = some (.ireturn, 1, 0, 0) := by decide +kernel
theorem xX5_canCut_0 : dcd mX5_canCut 0 = some (.aload 0, 1, 0, 0) := by decide +kernel
theorem xX5_canCut_1 : dcd mX5_canCut 1 = some (.getfield 32, 3, 0, 0) := by decide +kernel
theorem xX5_canCut_4 : dcd mX5_canCut 4 = some (.iload 1, 1, 0, 0) := by decide +kernel
theorem xX5_canCut_5 : dcd mX5_canCut 5 = some (.aload 0, 1, 0, 0) := by decide +kernel
theorem xX5_canCut_6 : dcd mX5_canCut 6 = some (.getfield 43, 3, 0, 0) := by decide +kernel
theorem xX5_canCut_9 : dcd mX5_canCut 9 = some (.invokevirtual 112, 3, 0, 0) := by decide +kernel
theorem xX5_canCut_12 : dcd mX5_canCut 12 = some (.ifCond .eq 0, 3, 34, 0) := by decide +kernel
theorem xX5_canCut_15 : dcd mX5_canCut 15 = some (.aload 0, 1, 0, 0) := by decide +kernel
theorem xX5_canCut_16 : dcd mX5_canCut 16 = some (.getfield 32, 3, 0, 0) := by decide +kernel
theorem xX5_canCut_19 : dcd mX5_canCut 19 = some (.getfield 96, 3, 0, 0) := by decide +kernel
theorem xX5_canCut_22 : dcd mX5_canCut 22 = some (.iload 1, 1, 0, 0) := by decide +kernel
theorem xX5_canCut_23 : dcd mX5_canCut 23 = some (.iaload, 1, 0, 0) := by decide +kernel
theorem xX5_canCut_24 : dcd mX5_canCut 24 = some (.iload 2, 1, 0, 0) := by decide +kernel
theorem xX5_canCut_25 : dcd mX5_canCut 25 = some (.isub, 1, 0, 0) := by decide +kernel
theorem xX5_canCut_26 : dcd mX5_canCut 26 = some (.iconst 0, 1, 0, 1) := by decide +kernel
theorem xX5_canCut_27 : dcd mX5_canCut 27 = some (.if_icmp .lt 0, 3, 34, 0) := by decide +kernel
theorem xX5_canCut_30 : dcd mX5_canCut 30 = some (.iconst 0, 1, 0, 1) := by decide +kernel
theorem xX5_canCut_31 : dcd mX5_canCut 31 = some (.goto 0, 3, 35, 0) := by decide +kernel
theorem xX5_canCut_34 : dcd mX5_canCut 34 = some (.iconst 0, 1, 0, 0) := by decide +kernel
theorem xX5_canCut_35 : dcd mX5_canCut 35 = some (.ireturn, 1, 0, 0) := by decide +kernel
theorem xX5_canKnot_0 : dcd mX5_canKnot 0 = some (.aload 0, 1, 0, 0) := by decide +kernel
theorem xX5_canKnot_1 : dcd mX5_canKnot 1 = some (.getfield 32, 3, 0, 0) := by decide +kernel
theorem xX5_canKnot_4 : dcd mX5_canKnot 4 = some (.iload 1, 1, 0, 0) := by decide +kernel
theorem xX5_canKnot_5 : dcd mX5_canKnot 5 = some (.aload 0, 1, 0, 0) := by decide +kernel
theorem xX5_canKnot_6 : dcd mX5_canKnot 6 = some (.getfield 47, 3, 0, 0) := by decide +kernel
theorem xX5_canKnot_9 : dcd mX5_canKnot 9 = some (.invokevirtual 112, 3, 0, 0) := by decide +kernel
theorem xX5_canKnot_12 : dcd mX5_canKnot 12 = some (.ifCond .eq 0, 3, 35, 0) := by decide +kernel
theorem xX5_canKnot_15 : dcd mX5_canKnot 15 = some (.aload 0, 1, 0, 0) := by decide +kernel
theorem xX5_canKnot_16 : dcd mX5_canKnot 16 = some (.getfield 32, 3, 0, 0) := by decide +kernel
theorem xX5_canKnot_19 : dcd mX5_canKnot 19 = some (.getfield 96, 3, 0, 0) := by decide +kernel
theorem xX5_canKnot_22 : dcd mX5_canKnot 22 = some (.iload 1, 1, 0, 0) := by decide +kernel
theorem xX5_canKnot_23 : dcd mX5_canKnot 23 = some (.iaload, 1, 0, 0) := by decide +kernel
theorem xX5_canKnot_24 : dcd mX5_canKnot 24 = some (.iload 2, 1, 0, 0) := by decide +kernel
theorem xX5_canKnot_25 : dcd mX5_canKnot 25 = some (.iadd, 1, 0, 0) := by decide +kernel
theorem xX5_canKnot_26 : dcd mX5_canKnot 26 = some (.iconst 0, 2, 0, 99) := by decide +kernel
theorem xX5_canKnot_28 : dcd mX5_canKnot 28 = some (.if_icmp .gt 0, 3, 35, 0) := by decide +kernel
theorem xX5_canKnot_31 : dcd mX5_canKnot 31 = some (.iconst 0, 1, 0, 1) := by decide +kernel
theorem xX5_canKnot_32 : dcd mX5_canKnot 32 = some (.goto 0, 3, 36, 0) := by decide +kernel
theorem xX5_canKnot_35 : dcd mX5_canKnot 35 = some (.iconst 0, 1, 0, 0) := by decide +kernel
theorem xX5_canKnot_36 : dcd mX5_canKnot 36 = some (.ireturn, 1, 0, 0) := by decide +kernel
theorem xX5_startDay_0 : dcd mX5_startDay 0 = some (.iload 1, 1, 0, 0) := by decide +kernel
theorem xX5_startDay_1 : dcd mX5_startDay 1 = some (.ifCond .lt 0, 3, 42, 0) := by decide +kernel
theorem xX5_startDay_4 : dcd mX5_startDay 4 = some (.iload 1, 1, 0, 0) := by decide +kernel
theorem xX5_startDay_5 : dcd mX5_startDay 5 = some (.iconst 0, 2, 0, 6) := by decide +kernel
theorem xX5_startDay_7 : dcd mX5_startDay 7 = some (.if_icmp .ge 0, 3, 42, 0) := by decide +kernel
theorem xX5_startDay_10 : dcd mX5_startDay 10 = some (.aload 0, 1, 0, 0) := by decide +kernel
theorem xX5_startDay_11 : dcd mX5_startDay 11 = some (.getfield 17, 3, 0, 0) := by decide +kernel
theorem xX5_startDay_14 : dcd mX5_startDay 14 = some (.iload 1, 1, 0, 0) := by decide +kernel
theorem xX5_startDay_15 : dcd mX5_startDay 15 = some (.iload 2, 1, 0, 0) := by decide +kernel
theorem xX5_startDay_16 : dcd mX5_startDay 16 = some (.iastore, 1, 0, 0) := by decide +kernel
theorem xX5_startDay_17 : dcd mX5_startDay 17 = some (.aload 0, 1, 0, 0) := by decide +kernel
theorem xX5_startDay_18 : dcd mX5_startDay 18 = some (.getfield 11, 3, 0, 0) := by decide +kernel
theorem xX5_startDay_21 : dcd mX5_startDay 21 = some (.iload 1, 1, 0, 0) := by decide +kernel
theorem xX5_startDay_22 : dcd mX5_startDay 22 = some (.aaload, 1, 0, 0) := by decide +kernel
theorem xX5_startDay_23 : dcd mX5_startDay 23 = some (.iload 2, 1, 0, 0) := by decide +kernel
theorem xX5_startDay_24 : dcd mX5_startDay 24 = some (.invokevirtual 132, 3, 0, 0) := by decide +kernel
theorem xX5_startDay_27 : dcd mX5_startDay 27 = some (.aload 0, 1, 0, 0) := by decide +kernel
theorem xX5_startDay_28 : dcd mX5_startDay 28 = some (.getfield 11, 3, 0, 0) := by decide +kernel
theorem xX5_startDay_31 : dcd mX5_startDay 31 = some (.iload 1, 1, 0, 0) := by decide +kernel
theorem xX5_startDay_32 : dcd mX5_startDay 32 = some (.aaload, 1, 0, 0) := by decide +kernel
theorem xX5_startDay_33 : dcd mX5_startDay 33 = some (.aload 0, 1, 0, 0) := by decide +kernel
theorem xX5_startDay_34 : dcd mX5_startDay 34 = some (.getfield 23, 3, 0, 0) := by decide +kernel
theorem xX5_startDay_37 : dcd mX5_startDay 37 = some (.iload 1, 1, 0, 0) := by decide +kernel
theorem xX5_startDay_38 : dcd mX5_startDay 38 = some (.aaload, 1, 0, 0) := by decide +kernel
theorem xX5_startDay_39 : dcd mX5_startDay 39 = some (.invokevirtual 136, 3, 0, 0) := by decide +kernel
theorem xX5_startDay_42 : dcd mX5_startDay 42 = some (.return_, 1, 0, 0) := by decide +kernel
theorem xX5_weighChanges_0 : dcd mX5_weighChanges 0 = some (.iload 1, 1, 0, 0) := by decide +kernel
theorem xX5_weighChanges_1 : dcd mX5_weighChanges 1 = some (.ifCond .lt 0, 3, 10, 0) := by decide +kernel
theorem xX5_weighChanges_4 : dcd mX5_weighChanges 4 = some (.iload 1, 1, 0, 0) := by decide +kernel
theorem xX5_weighChanges_5 : dcd mX5_weighChanges 5 = some (.iconst 0, 2, 0, 6) := by decide +kernel
theorem xX5_weighChanges_7 : dcd mX5_weighChanges 7 = some (.if_icmp .lt 0, 3, 11, 0) := by decide +kernel
theorem xX5_weighChanges_10 : dcd mX5_weighChanges 10 = some (.return_, 1, 0, 0) := by decide +kernel
theorem xX5_weighChanges_11 : dcd mX5_weighChanges 11 = some (.iconst 0, 1, 0, 0) := by decide +kernel
theorem xX5_weighChanges_12 : dcd mX5_weighChanges 12 = some (.istore 3, 1, 0, 0) := by decide +kernel
theorem xX5_weighChanges_13 : dcd mX5_weighChanges 13 = some (.iload 3, 1, 0, 0) := by decide +kernel
theorem xX5_weighChanges_14 : dcd mX5_weighChanges 14 = some (.aload 0, 1, 0, 0) := by decide +kernel
theorem xX5_weighChanges_15 : dcd mX5_weighChanges 15 = some (.getfield 32, 3, 0, 0) := by decide +kernel
theorem xX5_weighChanges_18 : dcd mX5_weighChanges 18 = some (.getfield 65, 3, 0, 0) := by decide +kernel
theorem xX5_weighChanges_21 : dcd mX5_weighChanges 21 = some (.if_icmp .ge 0, 3, 149, 0) := by decide +kernel
theorem xX5_weighChanges_24 : dcd mX5_weighChanges 24 = some (.aload 0, 1, 0, 0) := by decide +kernel
theorem xX5_weighChanges_25 : dcd mX5_weighChanges 25 = some (.iload 3, 1, 0, 0) := by decide +kernel
theorem xX5_weighChanges_26 : dcd mX5_weighChanges 26 = some (.iload 2, 1, 0, 0) := by decide +kernel
theorem xX5_weighChanges_27 : dcd mX5_weighChanges 27 = some (.invokevirtual 68, 3, 0, 0) := by decide +kernel
theorem xX5_weighChanges_30 : dcd mX5_weighChanges 30 = some (.istore 4, 2, 0, 0) := by decide +kernel
theorem xX5_weighChanges_32 : dcd mX5_weighChanges 32 = some (.iload 4, 2, 0, 0) := by decide +kernel
theorem xX5_weighChanges_34 : dcd mX5_weighChanges 34 = some (.ifCond .ne 0, 3, 46, 0) := by decide +kernel
theorem xX5_weighChanges_37 : dcd mX5_weighChanges 37 = some (.aload 0, 1, 0, 0) := by decide +kernel
theorem xX5_weighChanges_38 : dcd mX5_weighChanges 38 = some (.iload 3, 1, 0, 0) := by decide +kernel
theorem xX5_weighChanges_39 : dcd mX5_weighChanges 39 = some (.iload 2, 1, 0, 0) := by decide +kernel
theorem xX5_weighChanges_40 : dcd mX5_weighChanges 40 = some (.invokevirtual 79, 3, 0, 0) := by decide +kernel
theorem xX5_weighChanges_43 : dcd mX5_weighChanges 43 = some (.ifCond .eq 0, 3, 143, 0) := by decide +kernel
theorem xX5_weighChanges_46 : dcd mX5_weighChanges 46 = some (.aload 0, 1, 0, 0) := by decide +kernel
theorem xX5_weighChanges_47 : dcd mX5_weighChanges 47 = some (.getfield 36, 3, 0, 0) := by decide +kernel
theorem xX5_weighChanges_50 : dcd mX5_weighChanges 50 = some (.aload 0, 1, 0, 0) := by decide +kernel
theorem xX5_weighChanges_51 : dcd mX5_weighChanges 51 = some (.getfield 32, 3, 0, 0) := by decide +kernel
theorem xX5_weighChanges_54 : dcd mX5_weighChanges 54 = some (.iload 3, 1, 0, 0) := by decide +kernel
theorem xX5_weighChanges_55 : dcd mX5_weighChanges 55 = some (.aload 0, 1, 0, 0) := by decide +kernel
theorem xX5_weighChanges_56 : dcd mX5_weighChanges 56 = some (.getfield 32, 3, 0, 0) := by decide +kernel
theorem xX5_weighChanges_59 : dcd mX5_weighChanges 59 = some (.getfield 96, 3, 0, 0) := by decide +kernel
theorem xX5_weighChanges_62 : dcd mX5_weighChanges 62 = some (.iload 3, 1, 0, 0) := by decide +kernel
theorem xX5_weighChanges_63 : dcd mX5_weighChanges 63 = some (.iaload, 1, 0, 0) := by decide +kernel
theorem xX5_weighChanges_64 : dcd mX5_weighChanges 64 = some (.iload 4, 2, 0, 0) := by decide +kernel
theorem xX5_weighChanges_66 : dcd mX5_weighChanges 66 = some (.ifCond .eq 0, 3, 74, 0) := by decide +kernel
theorem xX5_weighChanges_69 : dcd mX5_weighChanges 69 = some (.iload 2, 1, 0, 0) := by decide +kernel
theorem xX5_weighChanges_70 : dcd mX5_weighChanges 70 = some (.ineg, 1, 0, 0) := by decide +kernel
theorem xX5_weighChanges_71 : dcd mX5_weighChanges 71 = some (.goto 0, 3, 75, 0) := by decide +kernel
theorem xX5_weighChanges_74 : dcd mX5_weighChanges 74 = some (.iload 2, 1, 0, 0) := by decide +kernel
theorem xX5_weighChanges_75 : dcd mX5_weighChanges 75 = some (.iadd, 1, 0, 0) := by decide +kernel
theorem xX5_weighChanges_76 : dcd mX5_weighChanges 76 = some (.aload 0, 1, 0, 0) := by decide +kernel
theorem xX5_weighChanges_77 : dcd mX5_weighChanges 77 = some (.getfield 17, 3, 0, 0) := by decide +kernel
theorem xX5_weighChanges_80 : dcd mX5_weighChanges 80 = some (.iload 1, 1, 0, 0) := by decide +kernel
theorem xX5_weighChanges_81 : dcd mX5_weighChanges 81 = some (.iaload, 1, 0, 0) := by decide +kernel
theorem xX5_weighChanges_82 : dcd mX5_weighChanges 82 = some (.invokevirtual 140, 3, 0, 0) := by decide +kernel
theorem xX5_weighChanges_85 : dcd mX5_weighChanges 85 = some (.aload 0, 1, 0, 0) := by decide +kernel
theorem xX5_weighChanges_86 : dcd mX5_weighChanges 86 = some (.getfield 26, 3, 0, 0) := by decide +kernel
theorem xX5_weighChanges_89 : dcd mX5_weighChanges 89 = some (.iload 1, 1, 0, 0) := by decide +kernel
theorem xX5_weighChanges_90 : dcd mX5_weighChanges 90 = some (.aaload, 1, 0, 0) := by decide +kernel
theorem xX5_weighChanges_91 : dcd mX5_weighChanges 91 = some (.iload 3, 1, 0, 0) := by decide +kernel
theorem xX5_weighChanges_92 : dcd mX5_weighChanges 92 = some (.aload 0, 1, 0, 0) := by decide +kernel
theorem xX5_weighChanges_93 : dcd mX5_weighChanges 93 = some (.getfield 36, 3, 0, 0) := by decide +kernel
theorem xX5_weighChanges_96 : dcd mX5_weighChanges 96 = some (.iconst 0, 2, 0, 103) := by decide +kernel
theorem xX5_weighChanges_98 : dcd mX5_weighChanges 98 = some (.invokevirtual 146, 3, 0, 0) := by decide +kernel
theorem xX5_weighChanges_101 : dcd mX5_weighChanges 101 = some (.aload 0, 1, 0, 0) := by decide +kernel
theorem xX5_weighChanges_102 : dcd mX5_weighChanges 102 = some (.getfield 11, 3, 0, 0) := by decide +kernel
theorem xX5_weighChanges_105 : dcd mX5_weighChanges 105 = some (.iload 1, 1, 0, 0) := by decide +kernel
theorem xX5_weighChanges_106 : dcd mX5_weighChanges 106 = some (.aaload, 1, 0, 0) := by decide +kernel
theorem xX5_weighChanges_107 : dcd mX5_weighChanges 107 = some (.getfield 149, 3, 0, 0) := by decide +kernel
theorem xX5_weighChanges_110 : dcd mX5_weighChanges 110 = some (.iload 3, 1, 0, 0) := by decide +kernel
theorem xX5_weighChanges_111 : dcd mX5_weighChanges 111 = some (.iaload, 1, 0, 0) := by decide +kernel
theorem xX5_weighChanges_112 : dcd mX5_weighChanges 112 = some (.isub, 1, 0, 0) := by decide +kernel
theorem xX5_weighChanges_113 : dcd mX5_weighChanges 113 = some (.iastore, 1, 0, 0) := by decide +kernel
theorem xX5_weighChanges_114 : dcd mX5_weighChanges 114 = some (.aload 0, 1, 0, 0) := by decide +kernel
theorem xX5_weighChanges_115 : dcd mX5_weighChanges 115 = some (.getfield 29, 3, 0, 0) := by decide +kernel
theorem xX5_weighChanges_118 : dcd mX5_weighChanges 118 = some (.iload 1, 1, 0, 0) := by decide +kernel
theorem xX5_weighChanges_119 : dcd mX5_weighChanges 119 = some (.aaload, 1, 0, 0) := by decide +kernel
theorem xX5_weighChanges_120 : dcd mX5_weighChanges 120 = some (.iload 3, 1, 0, 0) := by decide +kernel
theorem xX5_weighChanges_121 : dcd mX5_weighChanges 121 = some (.aload 0, 1, 0, 0) := by decide +kernel
theorem xX5_weighChanges_122 : dcd mX5_weighChanges 122 = some (.getfield 36, 3, 0, 0) := by decide +kernel
theorem xX5_weighChanges_125 : dcd mX5_weighChanges 125 = some (.iconst 0, 2, 0, 112) := by decide +kernel
theorem xX5_weighChanges_127 : dcd mX5_weighChanges 127 = some (.invokevirtual 146, 3, 0, 0) := by decide +kernel
theorem xX5_weighChanges_130 : dcd mX5_weighChanges 130 = some (.aload 0, 1, 0, 0) := by decide +kernel
theorem xX5_weighChanges_131 : dcd mX5_weighChanges 131 = some (.getfield 11, 3, 0, 0) := by decide +kernel
theorem xX5_weighChanges_134 : dcd mX5_weighChanges 134 = some (.iload 1, 1, 0, 0) := by decide +kernel
theorem xX5_weighChanges_135 : dcd mX5_weighChanges 135 = some (.aaload, 1, 0, 0) := by decide +kernel
theorem xX5_weighChanges_136 : dcd mX5_weighChanges 136 = some (.getfield 152, 3, 0, 0) := by decide +kernel
theorem xX5_weighChanges_139 : dcd mX5_weighChanges 139 = some (.iload 3, 1, 0, 0) := by decide +kernel
theorem xX5_weighChanges_140 : dcd mX5_weighChanges 140 = some (.iaload, 1, 0, 0) := by decide +kernel
theorem xX5_weighChanges_141 : dcd mX5_weighChanges 141 = some (.isub, 1, 0, 0) := by decide +kernel
theorem xX5_weighChanges_142 : dcd mX5_weighChanges 142 = some (.iastore, 1, 0, 0) := by decide +kernel
theorem xX5_weighChanges_143 : dcd mX5_weighChanges 143 = some (.iinc 3 0, 3, 0, 1) := by decide +kernel
theorem xX5_weighChanges_146 : dcd mX5_weighChanges 146 = some (.goto 0, 3, 13, 0) := by decide +kernel
theorem xX5_weighChanges_149 : dcd mX5_weighChanges 149 = some (.return_, 1, 0, 0) := by decide +kernel
theorem xX5_shift_0 : dcd mX5_shift 0 = some (.iload 1, 1, 0, 0) := by decide +kernel
theorem xX5_shift_1 : dcd mX5_shift 1 = some (.ifCond .lt 0, 3, 72, 0) := by decide +kernel
theorem xX5_shift_4 : dcd mX5_shift 4 = some (.iload 1, 1, 0, 0) := by decide +kernel
theorem xX5_shift_5 : dcd mX5_shift 5 = some (.iconst 0, 2, 0, 6) := by decide +kernel
theorem xX5_shift_7 : dcd mX5_shift 7 = some (.if_icmp .ge 0, 3, 72, 0) := by decide +kernel
theorem xX5_shift_10 : dcd mX5_shift 10 = some (.aload 0, 1, 0, 0) := by decide +kernel
theorem xX5_shift_11 : dcd mX5_shift 11 = some (.getfield 32, 3, 0, 0) := by decide +kernel
theorem xX5_shift_14 : dcd mX5_shift 14 = some (.iload 2, 1, 0, 0) := by decide +kernel
theorem xX5_shift_15 : dcd mX5_shift 15 = some (.invokevirtual 92, 3, 0, 0) := by decide +kernel
theorem xX5_shift_18 : dcd mX5_shift 18 = some (.ifCond .eq 0, 3, 72, 0) := by decide +kernel
theorem xX5_shift_21 : dcd mX5_shift 21 = some (.iload 3, 1, 0, 0) := by decide +kernel
theorem xX5_shift_22 : dcd mX5_shift 22 = some (.aload 0, 1, 0, 0) := by decide +kernel
theorem xX5_shift_23 : dcd mX5_shift 23 = some (.getfield 26, 3, 0, 0) := by decide +kernel
theorem xX5_shift_26 : dcd mX5_shift 26 = some (.iload 1, 1, 0, 0) := by decide +kernel
theorem xX5_shift_27 : dcd mX5_shift 27 = some (.aaload, 1, 0, 0) := by decide +kernel
theorem xX5_shift_28 : dcd mX5_shift 28 = some (.iload 2, 1, 0, 0) := by decide +kernel
theorem xX5_shift_29 : dcd mX5_shift 29 = some (.iaload, 1, 0, 0) := by decide +kernel
theorem xX5_shift_30 : dcd mX5_shift 30 = some (.imul, 1, 0, 0) := by decide +kernel
theorem xX5_shift_31 : dcd mX5_shift 31 = some (.istore 4, 2, 0, 0) := by decide +kernel
theorem xX5_shift_33 : dcd mX5_shift 33 = some (.aload 0, 1, 0, 0) := by decide +kernel
theorem xX5_shift_34 : dcd mX5_shift 34 = some (.getfield 11, 3, 0, 0) := by decide +kernel
theorem xX5_shift_37 : dcd mX5_shift 37 = some (.iload 1, 1, 0, 0) := by decide +kernel
theorem xX5_shift_38 : dcd mX5_shift 38 = some (.aaload, 1, 0, 0) := by decide +kernel
theorem xX5_shift_39 : dcd mX5_shift 39 = some (.aload 0, 1, 0, 0) := by decide +kernel
theorem xX5_shift_40 : dcd mX5_shift 40 = some (.getfield 32, 3, 0, 0) := by decide +kernel
theorem xX5_shift_43 : dcd mX5_shift 43 = some (.getfield 155, 3, 0, 0) := by decide +kernel
theorem xX5_shift_46 : dcd mX5_shift 46 = some (.iload 2, 1, 0, 0) := by decide +kernel
theorem xX5_shift_47 : dcd mX5_shift 47 = some (.iaload, 1, 0, 0) := by decide +kernel
theorem xX5_shift_48 : dcd mX5_shift 48 = some (.aload 0, 1, 0, 0) := by decide +kernel
theorem xX5_shift_49 : dcd mX5_shift 49 = some (.getfield 32, 3, 0, 0) := by decide +kernel
theorem xX5_shift_52 : dcd mX5_shift 52 = some (.getfield 158, 3, 0, 0) := by decide +kernel
theorem xX5_shift_55 : dcd mX5_shift 55 = some (.iload 2, 1, 0, 0) := by decide +kernel
theorem xX5_shift_56 : dcd mX5_shift 56 = some (.iaload, 1, 0, 0) := by decide +kernel
theorem xX5_shift_57 : dcd mX5_shift 57 = some (.iload 4, 2, 0, 0) := by decide +kernel
theorem xX5_shift_59 : dcd mX5_shift 59 = some (.iload 3, 1, 0, 0) := by decide +kernel
theorem xX5_shift_60 : dcd mX5_shift 60 = some (.aload 0, 1, 0, 0) := by decide +kernel
theorem xX5_shift_61 : dcd mX5_shift 61 = some (.getfield 29, 3, 0, 0) := by decide +kernel
theorem xX5_shift_64 : dcd mX5_shift 64 = some (.iload 1, 1, 0, 0) := by decide +kernel
theorem xX5_shift_65 : dcd mX5_shift 65 = some (.aaload, 1, 0, 0) := by decide +kernel
theorem xX5_shift_66 : dcd mX5_shift 66 = some (.iload 2, 1, 0, 0) := by decide +kernel
theorem xX5_shift_67 : dcd mX5_shift 67 = some (.iaload, 1, 0, 0) := by decide +kernel
theorem xX5_shift_68 : dcd mX5_shift 68 = some (.imul, 1, 0, 0) := by decide +kernel
theorem xX5_shift_69 : dcd mX5_shift 69 = some (.invokevirtual 161, 3, 0, 0) := by decide +kernel
theorem xX5_shift_72 : dcd mX5_shift 72 = some (.return_, 1, 0, 0) := by decide +kernel
theorem xX6_init_0 : dcd mX6_init 0 = some (.aload 0, 1, 0, 0) := by decide +kernel
theorem xX6_init_1 : dcd mX6_init 1 = some (.invokespecial 3, 3, 0, 0) := by decide +kernel
theorem xX6_init_4 : dcd mX6_init 4 = some (.aload 0, 1, 0, 0) := by decide +kernel
theorem xX6_init_5 : dcd mX6_init 5 = some (.iconst 0, 2, 0, 8) := by decide +kernel
theorem xX6_init_7 : dcd mX6_init 7 = some (.newarray .int, 2, 0, 0) := by decide +kernel
theorem xX6_init_9 : dcd mX6_init 9 = some (.putfield 9, 3, 0, 0) := by decide +kernel
theorem xX6_init_12 : dcd mX6_init 12 = some (.aload 0, 1, 0, 0) := by decide +kernel
theorem xX6_init_13 : dcd mX6_init 13 = some (.iconst 0, 2, 0, 8) := by decide +kernel
theorem xX6_init_15 : dcd mX6_init 15 = some (.newarray .int, 2, 0, 0) := by decide +kernel
theorem xX6_init_17 : dcd mX6_init 17 = some (.putfield 15, 3, 0, 0) := by decide +kernel
theorem xX6_init_20 : dcd mX6_init 20 = some (.aload 0, 1, 0, 0) := by decide +kernel
theorem xX6_init_21 : dcd mX6_init 21 = some (.iconst 0, 2, 0, 8) := by decide +kernel
theorem xX6_init_23 : dcd mX6_init 23 = some (.newarray .int, 2, 0, 0) := by decide +kernel
theorem xX6_init_25 : dcd mX6_init 25 = some (.putfield 18, 3, 0, 0) := by decide +kernel
theorem xX6_init_28 : dcd mX6_init 28 = some (.aload 0, 1, 0, 0) := by decide +kernel
theorem xX6_init_29 : dcd mX6_init 29 = some (.iconst 0, 3, 0, 256) := by decide +kernel
theorem xX6_init_32 : dcd mX6_init 32 = some (.newarray .int, 2, 0, 0) := by decide +kernel
theorem xX6_init_34 : dcd mX6_init 34 = some (.putfield 21, 3, 0, 0) := by decide +kernel
theorem xX6_init_37 : dcd mX6_init 37 = some (.aload 0, 1, 0, 0) := by decide +kernel
theorem xX6_init_38 : dcd mX6_init 38 = some (.aload 1, 1, 0, 0) := by decide +kernel
theorem xX6_init_39 : dcd mX6_init 39 = some (.putfield 24, 3, 0, 0) := by decide +kernel
theorem xX6_init_42 : dcd mX6_init 42 = some (.aload 0, 1, 0, 0) := by decide +kernel
theorem xX6_init_43 : dcd mX6_init 43 = some (.aload 2, 1, 0, 0) := by decide +kernel
theorem xX6_init_44 : dcd mX6_init 44 = some (.putfield 28, 3, 0, 0) := by decide +kernel
theorem xX6_init_47 : dcd mX6_init 47 = some (.return_, 1, 0, 0) := by decide +kernel
theorem xX6_readPeople_0 : dcd mX6_readPeople 0 = some (.iconst 0, 1, 0, 0) := by decide +kernel
theorem xX6_readPeople_1 : dcd mX6_readPeople 1 = some (.istore 3, 1, 0, 0) := by decide +kernel
theorem xX6_readPeople_2 : dcd mX6_readPeople 2 = some (.iconst 0, 1, 0, 0) := by decide +kernel
theorem xX6_readPeople_3 : dcd mX6_readPeople 3 = some (.istore 4, 2, 0, 0) := by decide +kernel
theorem xX6_readPeople_5 : dcd mX6_readPeople 5 = some (.iload 4, 2, 0, 0) := by decide +kernel
theorem xX6_readPeople_7 : dcd mX6_readPeople 7 = some (.iload 2, 1, 0, 0) := by decide +kernel
theorem xX6_readPeople_8 : dcd mX6_readPeople 8 = some (.if_icmp .ge 0, 3, 67, 0) := by decide +kernel
theorem xX6_readPeople_11 : dcd mX6_readPeople 11 = some (.iload 4, 2, 0, 0) := by decide +kernel
theorem xX6_readPeople_13 : dcd mX6_readPeople 13 = some (.iconst 0, 2, 0, 8) := by decide +kernel
theorem xX6_readPeople_15 : dcd mX6_readPeople 15 = some (.if_icmp .ge 0, 3, 67, 0) := by decide +kernel
theorem xX6_readPeople_18 : dcd mX6_readPeople 18 = some (.aload 1, 1, 0, 0) := by decide +kernel
theorem xX6_readPeople_19 : dcd mX6_readPeople 19 = some (.iload 4, 2, 0, 0) := by decide +kernel
theorem xX6_readPeople_21 : dcd mX6_readPeople 21 = some (.invokevirtual 32, 3, 0, 0) := by decide +kernel
theorem xX6_readPeople_24 : dcd mX6_readPeople 24 = some (.istore 5, 2, 0, 0) := by decide +kernel
theorem xX6_readPeople_26 : dcd mX6_readPeople 26 = some (.iload 5, 2, 0, 0) := by decide +kernel
theorem xX6_readPeople_28 : dcd mX6_readPeople 28 = some (.invokestatic 38, 3, 0, 0) := by decide +kernel
theorem xX6_readPeople_31 : dcd mX6_readPeople 31 = some (.ifCond .eq 0, 3, 43, 0) := by decide +kernel
theorem xX6_readPeople_34 : dcd mX6_readPeople 34 = some (.iload 3, 1, 0, 0) := by decide +kernel
theorem xX6_readPeople_35 : dcd mX6_readPeople 35 = some (.iload 5, 2, 0, 0) := by decide +kernel
theorem xX6_readPeople_37 : dcd mX6_readPeople 37 = some (.ishr, 1, 0, 0) := by decide +kernel
theorem xX6_readPeople_38 : dcd mX6_readPeople 38 = some (.iconst 0, 1, 0, 1) := by decide +kernel
theorem xX6_readPeople_39 : dcd mX6_readPeople 39 = some (.iand, 1, 0, 0) := by decide +kernel
theorem xX6_readPeople_40 : dcd mX6_readPeople 40 = some (.ifCond .eq 0, 3, 45, 0) := by decide +kernel
theorem xX6_readPeople_43 : dcd mX6_readPeople 43 = some (.iconst 0, 1, 0, 0) := by decide +kernel
theorem xX6_readPeople_44 : dcd mX6_readPeople 44 = some (.ireturn, 1, 0, 0) := by decide +kernel
theorem xX6_readPeople_45 : dcd mX6_readPeople 45 = some (.aload 0, 1, 0, 0) := by decide +kernel
theorem xX6_readPeople_46 : dcd mX6_readPeople 46 = some (.getfield 9, 3, 0, 0) := by decide +kernel
theorem xX6_readPeople_49 : dcd mX6_readPeople 49 = some (.iload 4, 2, 0, 0) := by decide +kernel
theorem xX6_readPeople_51 : dcd mX6_readPeople 51 = some (.iload 5, 2, 0, 0) := by decide +kernel
theorem xX6_readPeople_53 : dcd mX6_readPeople 53 = some (.iastore, 1, 0, 0) := by decide +kernel
theorem xX6_readPeople_54 : dcd mX6_readPeople 54 = some (.iload 3, 1, 0, 0) := by decide +kernel
theorem xX6_readPeople_55 : dcd mX6_readPeople 55 = some (.iconst 0, 1, 0, 1) := by decide +kernel
theorem xX6_readPeople_56 : dcd mX6_readPeople 56 = some (.iload 5, 2, 0, 0) := by decide +kernel
theorem xX6_readPeople_58 : dcd mX6_readPeople 58 = some (.ishl, 1, 0, 0) := by decide +kernel
theorem xX6_readPeople_59 : dcd mX6_readPeople 59 = some (.ior, 1, 0, 0) := by decide +kernel
theorem xX6_readPeople_60 : dcd mX6_readPeople 60 = some (.istore 3, 1, 0, 0) := by decide +kernel
theorem xX6_readPeople_61 : dcd mX6_readPeople 61 = some (.iinc 4 0, 3, 0, 1) := by decide +kernel
theorem xX6_readPeople_64 : dcd mX6_readPeople 64 = some (.goto 0, 3, 5, 0) := by decide +kernel
theorem xX6_readPeople_67 : dcd mX6_readPeople 67 = some (.iconst 0, 1, 0, 1) := by decide +kernel
theorem xX6_readPeople_68 : dcd mX6_readPeople 68 = some (.ireturn, 1, 0, 0) := by decide +kernel
theorem xX6_weighPeople_0 : dcd mX6_weighPeople 0 = some (.aload 0, 1, 0, 0) := by decide +kernel
theorem xX6_weighPeople_1 : dcd mX6_weighPeople 1 = some (.getfield 28, 3, 0, 0) := by decide +kernel
theorem xX6_weighPeople_4 : dcd mX6_weighPeople 4 = some (.aload 0, 1, 0, 0) := by decide +kernel
theorem xX6_weighPeople_5 : dcd mX6_weighPeople 5 = some (.getfield 24, 3, 0, 0) := by decide +kernel
theorem xX6_weighPeople_8 : dcd mX6_weighPeople 8 = some (.getfield 42, 3, 0, 0) := by decide +kernel
theorem xX6_weighPeople_11 : dcd mX6_weighPeople 11 = some (.invokevirtual 48, 3, 0, 0) := by decide +kernel
theorem xX6_weighPeople_14 : dcd mX6_weighPeople 14 = some (.iconst 0, 1, 0, 0) := by decide +kernel
theorem xX6_weighPeople_15 : dcd mX6_weighPeople 15 = some (.istore 1, 1, 0, 0) := by decide +kernel
theorem xX6_weighPeople_16 : dcd mX6_weighPeople 16 = some (.iload 1, 1, 0, 0) := by decide +kernel
theorem xX6_weighPeople_17 : dcd mX6_weighPeople 17 = some (.iconst 0, 2, 0, 8) := by decide +kernel
theorem xX6_weighPeople_19 : dcd mX6_weighPeople 19 = some (.if_icmp .ge 0, 3, 108, 0) := by decide +kernel
theorem xX6_weighPeople_22 : dcd mX6_weighPeople 22 = some (.aload 0, 1, 0, 0) := by decide +kernel
theorem xX6_weighPeople_23 : dcd mX6_weighPeople 23 = some (.getfield 15, 3, 0, 0) := by decide +kernel
theorem xX6_weighPeople_26 : dcd mX6_weighPeople 26 = some (.iload 1, 1, 0, 0) := by decide +kernel
theorem xX6_weighPeople_27 : dcd mX6_weighPeople 27 = some (.iconst 0, 1, 0, 0) := by decide +kernel
theorem xX6_weighPeople_28 : dcd mX6_weighPeople 28 = some (.iastore, 1, 0, 0) := by decide +kernel
theorem xX6_weighPeople_29 : dcd mX6_weighPeople 29 = some (.aload 0, 1, 0, 0) := by decide +kernel
theorem xX6_weighPeople_30 : dcd mX6_weighPeople 30 = some (.getfield 18, 3, 0, 0) := by decide +kernel
theorem xX6_weighPeople_33 : dcd mX6_weighPeople 33 = some (.iload 1, 1, 0, 0) := by decide +kernel
theorem xX6_weighPeople_34 : dcd mX6_weighPeople 34 = some (.iconst 0, 1, 0, 0) := by decide +kernel
theorem xX6_weighPeople_35 : dcd mX6_weighPeople 35 = some (.iastore, 1, 0, 0) := by decide +kernel
theorem xX6_weighPeople_36 : dcd mX6_weighPeople 36 = some (.iconst 0, 1, 0, 0) := by decide +kernel
theorem xX6_weighPeople_37 : dcd mX6_weighPeople 37 = some (.istore 2, 1, 0, 0) := by decide +kernel
theorem xX6_weighPeople_38 : dcd mX6_weighPeople 38 = some (.iload 2, 1, 0, 0) := by decide +kernel
theorem xX6_weighPeople_39 : dcd mX6_weighPeople 39 = some (.aload 0, 1, 0, 0) := by decide +kernel
theorem xX6_weighPeople_40 : dcd mX6_weighPeople 40 = some (.getfield 24, 3, 0, 0) := by decide +kernel
theorem xX6_weighPeople_43 : dcd mX6_weighPeople 43 = some (.getfield 54, 3, 0, 0) := by decide +kernel
theorem xX6_weighPeople_46 : dcd mX6_weighPeople 46 = some (.if_icmp .ge 0, 3, 102, 0) := by decide +kernel
theorem xX6_weighPeople_49 : dcd mX6_weighPeople 49 = some (.aload 0, 1, 0, 0) := by decide +kernel
theorem xX6_weighPeople_50 : dcd mX6_weighPeople 50 = some (.getfield 24, 3, 0, 0) := by decide +kernel
theorem xX6_weighPeople_53 : dcd mX6_weighPeople 53 = some (.iload 2, 1, 0, 0) := by decide +kernel
theorem xX6_weighPeople_54 : dcd mX6_weighPeople 54 = some (.iload 1, 1, 0, 0) := by decide +kernel
theorem xX6_weighPeople_55 : dcd mX6_weighPeople 55 = some (.invokevirtual 57, 3, 0, 0) := by decide +kernel
theorem xX6_weighPeople_58 : dcd mX6_weighPeople 58 = some (.ifCond .eq 0, 3, 96, 0) := by decide +kernel
theorem xX6_weighPeople_61 : dcd mX6_weighPeople 61 = some (.aload 0, 1, 0, 0) := by decide +kernel
theorem xX6_weighPeople_62 : dcd mX6_weighPeople 62 = some (.getfield 15, 3, 0, 0) := by decide +kernel
theorem xX6_weighPeople_65 : dcd mX6_weighPeople 65 = some (.iload 1, 1, 0, 0) := by decide +kernel
theorem xX6_weighPeople_66 : dcd mX6_weighPeople 66 = some (.dup2, 1, 0, 0) := by decide +kernel
theorem xX6_weighPeople_67 : dcd mX6_weighPeople 67 = some (.iaload, 1, 0, 0) := by decide +kernel
theorem xX6_weighPeople_68 : dcd mX6_weighPeople 68 = some (.aload 0, 1, 0, 0) := by decide +kernel
theorem xX6_weighPeople_69 : dcd mX6_weighPeople 69 = some (.getfield 24, 3, 0, 0) := by decide +kernel
theorem xX6_weighPeople_72 : dcd mX6_weighPeople 72 = some (.getfield 61, 3, 0, 0) := by decide +kernel
theorem xX6_weighPeople_75 : dcd mX6_weighPeople 75 = some (.iload 2, 1, 0, 0) := by decide +kernel
theorem xX6_weighPeople_76 : dcd mX6_weighPeople 76 = some (.iaload, 1, 0, 0) := by decide +kernel
theorem xX6_weighPeople_77 : dcd mX6_weighPeople 77 = some (.iadd, 1, 0, 0) := by decide +kernel
theorem xX6_weighPeople_78 : dcd mX6_weighPeople 78 = some (.iastore, 1, 0, 0) := by decide +kernel
theorem xX6_weighPeople_79 : dcd mX6_weighPeople 79 = some (.aload 0, 1, 0, 0) := by decide +kernel
theorem xX6_weighPeople_80 : dcd mX6_weighPeople 80 = some (.getfield 18, 3, 0, 0) := by decide +kernel
theorem xX6_weighPeople_83 : dcd mX6_weighPeople 83 = some (.iload 1, 1, 0, 0) := by decide +kernel
theorem xX6_weighPeople_84 : dcd mX6_weighPeople 84 = some (.dup2, 1, 0, 0) := by decide +kernel
theorem xX6_weighPeople_85 : dcd mX6_weighPeople 85 = some (.iaload, 1, 0, 0) := by decide +kernel
theorem xX6_weighPeople_86 : dcd mX6_weighPeople 86 = some (.aload 0, 1, 0, 0) := by decide +kernel
theorem xX6_weighPeople_87 : dcd mX6_weighPeople 87 = some (.getfield 28, 3, 0, 0) := by decide +kernel
theorem xX6_weighPeople_90 : dcd mX6_weighPeople 90 = some (.iload 2, 1, 0, 0) := by decide +kernel
theorem xX6_weighPeople_91 : dcd mX6_weighPeople 91 = some (.invokevirtual 64, 3, 0, 0) := by decide +kernel
theorem xX6_weighPeople_94 : dcd mX6_weighPeople 94 = some (.iadd, 1, 0, 0) := by decide +kernel
theorem xX6_weighPeople_95 : dcd mX6_weighPeople 95 = some (.iastore, 1, 0, 0) := by decide +kernel
theorem xX6_weighPeople_96 : dcd mX6_weighPeople 96 = some (.iinc 2 0, 3, 0, 1) := by decide +kernel
theorem xX6_weighPeople_99 : dcd mX6_weighPeople 99 = some (.goto 0, 3, 38, 0) := by decide +kernel
theorem xX6_weighPeople_102 : dcd mX6_weighPeople 102 = some (.iinc 1 0, 3, 0, 1) := by decide +kernel
theorem xX6_weighPeople_105 : dcd mX6_weighPeople 105 = some (.goto 0, 3, 16, 0) := by decide +kernel
theorem xX6_weighPeople_108 : dcd mX6_weighPeople 108 = some (.return_, 1, 0, 0) := by decide +kernel
theorem xX6_isTipped_0 : dcd mX6_isTipped 0 = some (.aload 0, 1, 0, 0) := by decide +kernel
theorem xX6_isTipped_1 : dcd mX6_isTipped 1 = some (.getfield 28, 3, 0, 0) := by decide +kernel
theorem xX6_isTipped_4 : dcd mX6_isTipped 4 = some (.getfield 67, 3, 0, 0) := by decide +kernel
theorem xX6_isTipped_7 : dcd mX6_isTipped 7 = some (.iconst 0, 1, 0, 0) := by decide +kernel
theorem xX6_isTipped_8 : dcd mX6_isTipped 8 = some (.iaload, 1, 0, 0) := by decide +kernel
theorem xX6_isTipped_9 : dcd mX6_isTipped 9 = some (.istore 3, 1, 0, 0) := by decide +kernel
theorem xX6_isTipped_10 : dcd mX6_isTipped 10 = some (.iconst 0, 1, 0, 0) := by decide +kernel
theorem xX6_isTipped_11 : dcd mX6_isTipped 11 = some (.istore 4, 2, 0, 0) := by decide +kernel
theorem xX6_isTipped_13 : dcd mX6_isTipped 13 = some (.iload 4, 2, 0, 0) := by decide +kernel
theorem xX6_isTipped_15 : dcd mX6_isTipped 15 = some (.iconst 0, 2, 0, 8) := by decide +kernel
theorem xX6_isTipped_17 : dcd mX6_isTipped 17 = some (.if_icmp .ge 0, 3, 45, 0) := by decide +kernel
theorem xX6_isTipped_20 : dcd mX6_isTipped 20 = some (.iload 1, 1, 0, 0) := by decide +kernel
theorem xX6_isTipped_21 : dcd mX6_isTipped 21 = some (.iload 4, 2, 0, 0) := by decide +kernel
theorem xX6_isTipped_23 : dcd mX6_isTipped 23 = some (.ishr, 1, 0, 0) := by decide +kernel
theorem xX6_isTipped_24 : dcd mX6_isTipped 24 = some (.iconst 0, 1, 0, 1) := by decide +kernel
theorem xX6_isTipped_25 : dcd mX6_isTipped 25 = some (.iand, 1, 0, 0) := by decide +kernel
theorem xX6_isTipped_26 : dcd mX6_isTipped 26 = some (.ifCond .eq 0, 3, 39, 0) := by decide +kernel
theorem xX6_isTipped_29 : dcd mX6_isTipped 29 = some (.iload 3, 1, 0, 0) := by decide +kernel
theorem xX6_isTipped_30 : dcd mX6_isTipped 30 = some (.aload 0, 1, 0, 0) := by decide +kernel
theorem xX6_isTipped_31 : dcd mX6_isTipped 31 = some (.getfield 18, 3, 0, 0) := by decide +kernel
theorem xX6_isTipped_34 : dcd mX6_isTipped 34 = some (.iload 4, 2, 0, 0) := by decide +kernel
theorem xX6_isTipped_36 : dcd mX6_isTipped 36 = some (.iaload, 1, 0, 0) := by decide +kernel
theorem xX6_isTipped_37 : dcd mX6_isTipped 37 = some (.isub, 1, 0, 0) := by decide +kernel
theorem xX6_isTipped_38 : dcd mX6_isTipped 38 = some (.istore 3, 1, 0, 0) := by decide +kernel
theorem xX6_isTipped_39 : dcd mX6_isTipped 39 = some (.iinc 4 0, 3, 0, 1) := by decide +kernel
theorem xX6_isTipped_42 : dcd mX6_isTipped 42 = some (.goto 0, 3, 13, 0) := by decide +kernel
theorem xX6_isTipped_45 : dcd mX6_isTipped 45 = some (.iload 3, 1, 0, 0) := by decide +kernel
theorem xX6_isTipped_46 : dcd mX6_isTipped 46 = some (.aload 0, 1, 0, 0) := by decide +kernel
theorem xX6_isTipped_47 : dcd mX6_isTipped 47 = some (.getfield 24, 3, 0, 0) := by decide +kernel
theorem xX6_isTipped_50 : dcd mX6_isTipped 50 = some (.getfield 70, 3, 0, 0) := by decide +kernel
theorem xX6_isTipped_53 : dcd mX6_isTipped 53 = some (.iconst 0, 1, 0, 0) := by decide +kernel
theorem xX6_isTipped_54 : dcd mX6_isTipped 54 = some (.iaload, 1, 0, 0) := by decide +kernel
theorem xX6_isTipped_55 : dcd mX6_isTipped 55 = some (.invokestatic 73, 3, 0, 0) := by decide +kernel
theorem xX6_isTipped_58 : dcd mX6_isTipped 58 = some (.invokestatic 77, 3, 0, 0) := by decide +kernel
theorem xX6_isTipped_61 : dcd mX6_isTipped 61 = some (.iload 2, 1, 0, 0) := by decide +kernel
theorem xX6_isTipped_62 : dcd mX6_isTipped 62 = some (.if_icmp .le 0, 3, 69, 0) := by decide +kernel
theorem xX6_isTipped_65 : dcd mX6_isTipped 65 = some (.iconst 0, 1, 0, 1) := by decide +kernel
theorem xX6_isTipped_66 : dcd mX6_isTipped 66 = some (.goto 0, 3, 70, 0) := by decide +kernel
theorem xX6_isTipped_69 : dcd mX6_isTipped 69 = some (.iconst 0, 1, 0, 0) := by decide +kernel
theorem xX6_isTipped_70 : dcd mX6_isTipped 70 = some (.ireturn, 1, 0, 0) := by decide +kernel
theorem xX6_happen_0 : dcd mX6_happen 0 = some (.aload 0, 1, 0, 0) := by decide +kernel
theorem xX6_happen_1 : dcd mX6_happen 1 = some (.invokevirtual 82, 3, 0, 0) := by decide +kernel
theorem xX6_happen_4 : dcd mX6_happen 4 = some (.aload 0, 1, 0, 0) := by decide +kernel
theorem xX6_happen_5 : dcd mX6_happen 5 = some (.iconst 0, 1, 0, 0) := by decide +kernel
theorem xX6_happen_6 : dcd mX6_happen 6 = some (.putfield 85, 3, 0, 0) := by decide +kernel
theorem xX6_happen_9 : dcd mX6_happen 9 = some (.aload 0, 1, 0, 0) := by decide +kernel
theorem xX6_happen_10 : dcd mX6_happen 10 = some (.iconst 0, 1, 0, 0) := by decide +kernel
theorem xX6_happen_11 : dcd mX6_happen 11 = some (.putfield 88, 3, 0, 0) := by decide +kernel
theorem xX6_happen_14 : dcd mX6_happen 14 = some (.iconst 0, 1, 0, 0) := by decide +kernel
theorem xX6_happen_15 : dcd mX6_happen 15 = some (.istore 3, 1, 0, 0) := by decide +kernel
theorem xX6_happen_16 : dcd mX6_happen 16 = some (.iload 3, 1, 0, 0) := by decide +kernel
theorem xX6_happen_17 : dcd mX6_happen 17 = some (.iload 1, 1, 0, 0) := by decide +kernel
theorem xX6_happen_18 : dcd mX6_happen 18 = some (.if_icmp .ge 0, 3, 90, 0) := by decide +kernel
theorem xX6_happen_21 : dcd mX6_happen 21 = some (.iload 3, 1, 0, 0) := by decide +kernel
theorem xX6_happen_22 : dcd mX6_happen 22 = some (.iconst 0, 2, 0, 8) := by decide +kernel
theorem xX6_happen_24 : dcd mX6_happen 24 = some (.if_icmp .ge 0, 3, 90, 0) := by decide +kernel
theorem xX6_happen_27 : dcd mX6_happen 27 = some (.aload 0, 1, 0, 0) := by decide +kernel
theorem xX6_happen_28 : dcd mX6_happen 28 = some (.aload 0, 1, 0, 0) := by decide +kernel
theorem xX6_happen_29 : dcd mX6_happen 29 = some (.getfield 85, 3, 0, 0) := by decide +kernel
theorem xX6_happen_32 : dcd mX6_happen 32 = some (.iload 2, 1, 0, 0) := by decide +kernel
theorem xX6_happen_33 : dcd mX6_happen 33 = some (.invokevirtual 91, 3, 0, 0) := by decide +kernel
theorem xX6_happen_36 : dcd mX6_happen 36 = some (.ifCond .ne 0, 3, 90, 0) := by decide +kernel
theorem xX6_happen_39 : dcd mX6_happen 39 = some (.aload 0, 1, 0, 0) := by decide +kernel
theorem xX6_happen_40 : dcd mX6_happen 40 = some (.getfield 9, 3, 0, 0) := by decide +kernel
theorem xX6_happen_43 : dcd mX6_happen 43 = some (.iload 3, 1, 0, 0) := by decide +kernel
theorem xX6_happen_44 : dcd mX6_happen 44 = some (.iaload, 1, 0, 0) := by decide +kernel
theorem xX6_happen_45 : dcd mX6_happen 45 = some (.istore 4, 2, 0, 0) := by decide +kernel
theorem xX6_happen_47 : dcd mX6_happen 47 = some (.iload 4, 2, 0, 0) := by decide +kernel
theorem xX6_happen_49 : dcd mX6_happen 49 = some (.invokestatic 38, 3, 0, 0) := by decide +kernel
theorem xX6_happen_52 : dcd mX6_happen 52 = some (.ifCond .eq 0, 3, 84, 0) := by decide +kernel
theorem xX6_happen_55 : dcd mX6_happen 55 = some (.aload 0, 1, 0, 0) := by decide +kernel
theorem xX6_happen_56 : dcd mX6_happen 56 = some (.dup, 1, 0, 0) := by decide +kernel
theorem xX6_happen_57 : dcd mX6_happen 57 = some (.getfield 85, 3, 0, 0) := by decide +kernel
theorem xX6_happen_60 : dcd mX6_happen 60 = some (.iconst 0, 1, 0, 1) := by decide +kernel
theorem xX6_happen_61 : dcd mX6_happen 61 = some (.iload 4, 2, 0, 0) := by decide +kernel
theorem xX6_happen_63 : dcd mX6_happen 63 = some (.ishl, 1, 0, 0) := by decide +kernel
theorem xX6_happen_64 : dcd mX6_happen 64 = some (.ior, 1, 0, 0) := by decide +kernel
theorem xX6_happen_65 : dcd mX6_happen 65 = some (.putfield 85, 3, 0, 0) := by decide +kernel
theorem xX6_happen_68 : dcd mX6_happen 68 = some (.aload 0, 1, 0, 0) := by decide +kernel
theorem xX6_happen_69 : dcd mX6_happen 69 = some (.dup, 1, 0, 0) := by decide +kernel
theorem xX6_happen_70 : dcd mX6_happen 70 = some (.getfield 88, 3, 0, 0) := by decide +kernel
theorem xX6_happen_73 : dcd mX6_happen 73 = some (.aload 0, 1, 0, 0) := by decide +kernel
theorem xX6_happen_74 : dcd mX6_happen 74 = some (.getfield 15, 3, 0, 0) := by decide +kernel
theorem xX6_happen_77 : dcd mX6_happen 77 = some (.iload 4, 2, 0, 0) := by decide +kernel
theorem xX6_happen_79 : dcd mX6_happen 79 = some (.iaload, 1, 0, 0) := by decide +kernel
theorem xX6_happen_80 : dcd mX6_happen 80 = some (.iadd, 1, 0, 0) := by decide +kernel
theorem xX6_happen_81 : dcd mX6_happen 81 = some (.putfield 88, 3, 0, 0) := by decide +kernel
theorem xX6_happen_84 : dcd mX6_happen 84 = some (.iinc 3 0, 3, 0, 1) := by decide +kernel
theorem xX6_happen_87 : dcd mX6_happen 87 = some (.goto 0, 3, 16, 0) := by decide +kernel
theorem xX6_happen_90 : dcd mX6_happen 90 = some (.return_, 1, 0, 0) := by decide +kernel
theorem xX6_findBest_0 : dcd mX6_findBest 0 = some (.aload 0, 1, 0, 0) := by decide +kernel
theorem xX6_findBest_1 : dcd mX6_findBest 1 = some (.invokevirtual 82, 3, 0, 0) := by decide +kernel
theorem xX6_findBest_4 : dcd mX6_findBest 4 = some (.iconst 0, 3, 0, 255) := by decide +kernel
theorem xX6_findBest_7 : dcd mX6_findBest 7 = some (.istore 3, 1, 0, 0) := by decide +kernel
theorem xX6_findBest_8 : dcd mX6_findBest 8 = some (.iload 3, 1, 0, 0) := by decide +kernel
theorem xX6_findBest_9 : dcd mX6_findBest 9 = some (.ifCond .lt 0, 3, 51, 0) := by decide +kernel
theorem xX6_findBest_12 : dcd mX6_findBest 12 = some (.iload 3, 1, 0, 0) := by decide +kernel
theorem xX6_findBest_13 : dcd mX6_findBest 13 = some (.iload 1, 1, 0, 0) := by decide +kernel
theorem xX6_findBest_14 : dcd mX6_findBest 14 = some (.iconst 0, 1, 0, (-1)) := by decide +kernel
theorem xX6_findBest_15 : dcd mX6_findBest 15 = some (.ixor, 1, 0, 0) := by decide +kernel
theorem xX6_findBest_16 : dcd mX6_findBest 16 = some (.iand, 1, 0, 0) := by decide +kernel
theorem xX6_findBest_17 : dcd mX6_findBest 17 = some (.ifCond .ne 0, 3, 45, 0) := by decide +kernel
theorem xX6_findBest_20 : dcd mX6_findBest 20 = some (.aload 0, 1, 0, 0) := by decide +kernel
theorem xX6_findBest_21 : dcd mX6_findBest 21 = some (.getfield 21, 3, 0, 0) := by decide +kernel
theorem xX6_findBest_24 : dcd mX6_findBest 24 = some (.iload 3, 1, 0, 0) := by decide +kernel
theorem xX6_findBest_25 : dcd mX6_findBest 25 = some (.aload 0, 1, 0, 0) := by decide +kernel
theorem xX6_findBest_26 : dcd mX6_findBest 26 = some (.iload 3, 1, 0, 0) := by decide +kernel
theorem xX6_findBest_27 : dcd mX6_findBest 27 = some (.iload 2, 1, 0, 0) := by decide +kernel
theorem xX6_findBest_28 : dcd mX6_findBest 28 = some (.invokevirtual 91, 3, 0, 0) := by decide +kernel
theorem xX6_findBest_31 : dcd mX6_findBest 31 = some (.ifCond .eq 0, 3, 38, 0) := by decide +kernel
theorem xX6_findBest_34 : dcd mX6_findBest 34 = some (.iconst 0, 1, 0, (-1)) := by decide +kernel
theorem xX6_findBest_35 : dcd mX6_findBest 35 = some (.goto 0, 3, 44, 0) := by decide +kernel
theorem xX6_findBest_38 : dcd mX6_findBest 38 = some (.aload 0, 1, 0, 0) := by decide +kernel
theorem xX6_findBest_39 : dcd mX6_findBest 39 = some (.iload 3, 1, 0, 0) := by decide +kernel
theorem xX6_findBest_40 : dcd mX6_findBest 40 = some (.iload 1, 1, 0, 0) := by decide +kernel
theorem xX6_findBest_41 : dcd mX6_findBest 41 = some (.invokevirtual 94, 3, 0, 0) := by decide +kernel
theorem xX6_findBest_44 : dcd mX6_findBest 44 = some (.iastore, 1, 0, 0) := by decide +kernel
theorem xX6_findBest_45 : dcd mX6_findBest 45 = some (.iinc 3 0, 3, 0, (-1)) := by decide +kernel
theorem xX6_findBest_48 : dcd mX6_findBest 48 = some (.goto 0, 3, 8, 0) := by decide +kernel
theorem xX6_findBest_51 : dcd mX6_findBest 51 = some (.return_, 1, 0, 0) := by decide +kernel
theorem xX6_bestFrom_0 : dcd mX6_bestFrom 0 = some (.iconst 0, 1, 0, 0) := by decide +kernel
theorem xX6_bestFrom_1 : dcd mX6_bestFrom 1 = some (.istore 3, 1, 0, 0) := by decide +kernel
theorem xX6_bestFrom_2 : dcd mX6_bestFrom 2 = some (.iconst 0, 1, 0, 0) := by decide +kernel
theorem xX6_bestFrom_3 : dcd mX6_bestFrom 3 = some (.istore 4, 2, 0, 0) := by decide +kernel
theorem xX6_bestFrom_5 : dcd mX6_bestFrom 5 = some (.iload 4, 2, 0, 0) := by decide +kernel
theorem xX6_bestFrom_7 : dcd mX6_bestFrom 7 = some (.iconst 0, 2, 0, 8) := by decide +kernel
theorem xX6_bestFrom_9 : dcd mX6_bestFrom 9 = some (.if_icmp .ge 0, 3, 43, 0) := by decide +kernel
theorem xX6_bestFrom_12 : dcd mX6_bestFrom 12 = some (.iload 2, 1, 0, 0) := by decide +kernel
theorem xX6_bestFrom_13 : dcd mX6_bestFrom 13 = some (.iload 1, 1, 0, 0) := by decide +kernel
theorem xX6_bestFrom_14 : dcd mX6_bestFrom 14 = some (.iconst 0, 1, 0, (-1)) := by decide +kernel
theorem xX6_bestFrom_15 : dcd mX6_bestFrom 15 = some (.ixor, 1, 0, 0) := by decide +kernel
theorem xX6_bestFrom_16 : dcd mX6_bestFrom 16 = some (.iand, 1, 0, 0) := by decide +kernel
theorem xX6_bestFrom_17 : dcd mX6_bestFrom 17 = some (.iload 4, 2, 0, 0) := by decide +kernel
theorem xX6_bestFrom_19 : dcd mX6_bestFrom 19 = some (.ishr, 1, 0, 0) := by decide +kernel
theorem xX6_bestFrom_20 : dcd mX6_bestFrom 20 = some (.iconst 0, 1, 0, 1) := by decide +kernel
theorem xX6_bestFrom_21 : dcd mX6_bestFrom 21 = some (.iand, 1, 0, 0) := by decide +kernel
theorem xX6_bestFrom_22 : dcd mX6_bestFrom 22 = some (.ifCond .eq 0, 3, 37, 0) := by decide +kernel
theorem xX6_bestFrom_25 : dcd mX6_bestFrom 25 = some (.iload 3, 1, 0, 0) := by decide +kernel
theorem xX6_bestFrom_26 : dcd mX6_bestFrom 26 = some (.aload 0, 1, 0, 0) := by decide +kernel
theorem xX6_bestFrom_27 : dcd mX6_bestFrom 27 = some (.iload 1, 1, 0, 0) := by decide +kernel
theorem xX6_bestFrom_28 : dcd mX6_bestFrom 28 = some (.iload 4, 2, 0, 0) := by decide +kernel
theorem xX6_bestFrom_30 : dcd mX6_bestFrom 30 = some (.invokevirtual 97, 3, 0, 0) := by decide +kernel
theorem xX6_bestFrom_33 : dcd mX6_bestFrom 33 = some (.invokestatic 100, 3, 0, 0) := by decide +kernel
theorem xX6_bestFrom_36 : dcd mX6_bestFrom 36 = some (.istore 3, 1, 0, 0) := by decide +kernel
theorem xX6_bestFrom_37 : dcd mX6_bestFrom 37 = some (.iinc 4 0, 3, 0, 1) := by decide +kernel
theorem xX6_bestFrom_40 : dcd mX6_bestFrom 40 = some (.goto 0, 3, 5, 0) := by decide +kernel
theorem xX6_bestFrom_43 : dcd mX6_bestFrom 43 = some (.iload 3, 1, 0, 0) := by decide +kernel
theorem xX6_bestFrom_44 : dcd mX6_bestFrom 44 = some (.ireturn, 1, 0, 0) := by decide +kernel
theorem xX6_hopeBy_0 : dcd mX6_hopeBy 0 = some (.iload 2, 1, 0, 0) := by decide +kernel
theorem xX6_hopeBy_1 : dcd mX6_hopeBy 1 = some (.invokestatic 38, 3, 0, 0) := by decide +kernel
theorem xX6_hopeBy_4 : dcd mX6_hopeBy 4 = some (.ifCond .eq 0, 3, 30, 0) := by decide +kernel
theorem xX6_hopeBy_7 : dcd mX6_hopeBy 7 = some (.aload 0, 1, 0, 0) := by decide +kernel
theorem xX6_hopeBy_8 : dcd mX6_hopeBy 8 = some (.getfield 15, 3, 0, 0) := by decide +kernel
theorem xX6_hopeBy_11 : dcd mX6_hopeBy 11 = some (.iload 2, 1, 0, 0) := by decide +kernel
theorem xX6_hopeBy_12 : dcd mX6_hopeBy 12 = some (.iaload, 1, 0, 0) := by decide +kernel
theorem xX6_hopeBy_13 : dcd mX6_hopeBy 13 = some (.iconst 0, 1, 0, 0) := by decide +kernel
theorem xX6_hopeBy_14 : dcd mX6_hopeBy 14 = some (.aload 0, 1, 0, 0) := by decide +kernel
theorem xX6_hopeBy_15 : dcd mX6_hopeBy 15 = some (.iload 1, 1, 0, 0) := by decide +kernel
theorem xX6_hopeBy_16 : dcd mX6_hopeBy 16 = some (.iconst 0, 1, 0, 1) := by decide +kernel
theorem xX6_hopeBy_17 : dcd mX6_hopeBy 17 = some (.iload 2, 1, 0, 0) := by decide +kernel
theorem xX6_hopeBy_18 : dcd mX6_hopeBy 18 = some (.ishl, 1, 0, 0) := by decide +kernel
theorem xX6_hopeBy_19 : dcd mX6_hopeBy 19 = some (.ior, 1, 0, 0) := by decide +kernel
theorem xX6_hopeBy_20 : dcd mX6_hopeBy 20 = some (.invokevirtual 103, 3, 0, 0) := by decide +kernel
theorem xX6_hopeBy_23 : dcd mX6_hopeBy 23 = some (.invokestatic 100, 3, 0, 0) := by decide +kernel
theorem xX6_hopeBy_26 : dcd mX6_hopeBy 26 = some (.iadd, 1, 0, 0) := by decide +kernel
theorem xX6_hopeBy_27 : dcd mX6_hopeBy 27 = some (.goto 0, 3, 31, 0) := by decide +kernel
theorem xX6_hopeBy_30 : dcd mX6_hopeBy 30 = some (.iconst 0, 1, 0, 0) := by decide +kernel
theorem xX6_hopeBy_31 : dcd mX6_hopeBy 31 = some (.ireturn, 1, 0, 0) := by decide +kernel
theorem xX6_hopeOf_0 : dcd mX6_hopeOf 0 = some (.iload 1, 1, 0, 0) := by decide +kernel
theorem xX6_hopeOf_1 : dcd mX6_hopeOf 1 = some (.ifCond .lt 0, 3, 20, 0) := by decide +kernel
theorem xX6_hopeOf_4 : dcd mX6_hopeOf 4 = some (.iload 1, 1, 0, 0) := by decide +kernel
theorem xX6_hopeOf_5 : dcd mX6_hopeOf 5 = some (.iconst 0, 3, 0, 256) := by decide +kernel
theorem xX6_hopeOf_8 : dcd mX6_hopeOf 8 = some (.if_icmp .ge 0, 3, 20, 0) := by decide +kernel
theorem xX6_hopeOf_11 : dcd mX6_hopeOf 11 = some (.aload 0, 1, 0, 0) := by decide +kernel
theorem xX6_hopeOf_12 : dcd mX6_hopeOf 12 = some (.getfield 21, 3, 0, 0) := by decide +kernel
theorem xX6_hopeOf_15 : dcd mX6_hopeOf 15 = some (.iload 1, 1, 0, 0) := by decide +kernel
theorem xX6_hopeOf_16 : dcd mX6_hopeOf 16 = some (.iaload, 1, 0, 0) := by decide +kernel
theorem xX6_hopeOf_17 : dcd mX6_hopeOf 17 = some (.goto 0, 3, 21, 0) := by decide +kernel
theorem xX6_hopeOf_20 : dcd mX6_hopeOf 20 = some (.iconst 0, 1, 0, (-1)) := by decide +kernel
theorem xX6_hopeOf_21 : dcd mX6_hopeOf 21 = some (.ireturn, 1, 0, 0) := by decide +kernel
theorem xX6_most_0 : dcd mX6_most 0 = some (.iconst 0, 1, 0, 0) := by decide +kernel
theorem xX6_most_1 : dcd mX6_most 1 = some (.aload 0, 1, 0, 0) := by decide +kernel
theorem xX6_most_2 : dcd mX6_most 2 = some (.iconst 0, 1, 0, 0) := by decide +kernel
theorem xX6_most_3 : dcd mX6_most 3 = some (.invokevirtual 103, 3, 0, 0) := by decide +kernel
theorem xX6_most_6 : dcd mX6_most 6 = some (.invokestatic 100, 3, 0, 0) := by decide +kernel
theorem xX6_most_9 : dcd mX6_most 9 = some (.ireturn, 1, 0, 0) := by decide +kernel
theorem xX6_personAt_0 : dcd mX6_personAt 0 = some (.iconst 0, 1, 0, 0) := by decide +kernel
theorem xX6_personAt_1 : dcd mX6_personAt 1 = some (.istore 3, 1, 0, 0) := by decide +kernel
theorem xX6_personAt_2 : dcd mX6_personAt 2 = some (.iconst 0, 1, 0, (-1)) := by decide +kernel
theorem xX6_personAt_3 : dcd mX6_personAt 3 = some (.istore 4, 2, 0, 0) := by decide +kernel
theorem xX6_personAt_5 : dcd mX6_personAt 5 = some (.iconst 0, 1, 0, 0) := by decide +kernel
theorem xX6_personAt_6 : dcd mX6_personAt 6 = some (.istore 5, 2, 0, 0) := by decide +kernel
theorem xX6_personAt_8 : dcd mX6_personAt 8 = some (.iconst 0, 1, 0, 0) := by decide +kernel
theorem xX6_personAt_9 : dcd mX6_personAt 9 = some (.istore 6, 2, 0, 0) := by decide +kernel
theorem xX6_personAt_11 : dcd mX6_personAt 11 = some (.iload 6, 2, 0, 0) := by decide +kernel
theorem xX6_personAt_13 : dcd mX6_personAt 13 = some (.iload 2, 1, 0, 0) := by decide +kernel
theorem xX6_personAt_14 : dcd mX6_personAt 14 = some (.if_icmp .gt 0, 3, 78, 0) := by decide +kernel
theorem xX6_personAt_17 : dcd mX6_personAt 17 = some (.iload 6, 2, 0, 0) := by decide +kernel
theorem xX6_personAt_19 : dcd mX6_personAt 19 = some (.iconst 0, 2, 0, 8) := by decide +kernel
theorem xX6_personAt_21 : dcd mX6_personAt 21 = some (.if_icmp .ge 0, 3, 78, 0) := by decide +kernel
theorem xX6_personAt_24 : dcd mX6_personAt 24 = some (.iload 5, 2, 0, 0) := by decide +kernel
theorem xX6_personAt_26 : dcd mX6_personAt 26 = some (.ifCond .ne 0, 3, 38, 0) := by decide +kernel
theorem xX6_personAt_29 : dcd mX6_personAt 29 = some (.aload 0, 1, 0, 0) := by decide +kernel
theorem xX6_personAt_30 : dcd mX6_personAt 30 = some (.iload 3, 1, 0, 0) := by decide +kernel
theorem xX6_personAt_31 : dcd mX6_personAt 31 = some (.invokevirtual 103, 3, 0, 0) := by decide +kernel
theorem xX6_personAt_34 : dcd mX6_personAt 34 = some (.iconst 0, 1, 0, (-1)) := by decide +kernel
theorem xX6_personAt_35 : dcd mX6_personAt 35 = some (.if_icmp .ne 0, 3, 42, 0) := by decide +kernel
theorem xX6_personAt_38 : dcd mX6_personAt 38 = some (.iconst 0, 1, 0, 1) := by decide +kernel
theorem xX6_personAt_39 : dcd mX6_personAt 39 = some (.goto 0, 3, 43, 0) := by decide +kernel
theorem xX6_personAt_42 : dcd mX6_personAt 42 = some (.iconst 0, 1, 0, 0) := by decide +kernel
theorem xX6_personAt_43 : dcd mX6_personAt 43 = some (.istore 5, 2, 0, 0) := by decide +kernel
theorem xX6_personAt_45 : dcd mX6_personAt 45 = some (.aload 0, 1, 0, 0) := by decide +kernel
theorem xX6_personAt_46 : dcd mX6_personAt 46 = some (.iload 1, 1, 0, 0) := by decide +kernel
theorem xX6_personAt_47 : dcd mX6_personAt 47 = some (.iload 3, 1, 0, 0) := by decide +kernel
theorem xX6_personAt_48 : dcd mX6_personAt 48 = some (.iload 5, 2, 0, 0) := by decide +kernel
theorem xX6_personAt_50 : dcd mX6_personAt 50 = some (.invokevirtual 106, 3, 0, 0) := by decide +kernel
theorem xX6_personAt_53 : dcd mX6_personAt 53 = some (.istore 4, 2, 0, 0) := by decide +kernel
theorem xX6_personAt_55 : dcd mX6_personAt 55 = some (.iload 4, 2, 0, 0) := by decide +kernel
theorem xX6_personAt_57 : dcd mX6_personAt 57 = some (.invokestatic 38, 3, 0, 0) := by decide +kernel
theorem xX6_personAt_60 : dcd mX6_personAt 60 = some (.ifCond .ne 0, 3, 65, 0) := by decide +kernel
theorem xX6_personAt_63 : dcd mX6_personAt 63 = some (.iconst 0, 1, 0, (-1)) := by decide +kernel
theorem xX6_personAt_64 : dcd mX6_personAt 64 = some (.ireturn, 1, 0, 0) := by decide +kernel
theorem xX6_personAt_65 : dcd mX6_personAt 65 = some (.iload 3, 1, 0, 0) := by decide +kernel
theorem xX6_personAt_66 : dcd mX6_personAt 66 = some (.iconst 0, 1, 0, 1) := by decide +kernel
theorem xX6_personAt_67 : dcd mX6_personAt 67 = some (.iload 4, 2, 0, 0) := by decide +kernel
theorem xX6_personAt_69 : dcd mX6_personAt 69 = some (.ishl, 1, 0, 0) := by decide +kernel
theorem xX6_personAt_70 : dcd mX6_personAt 70 = some (.ior, 1, 0, 0) := by decide +kernel
theorem xX6_personAt_71 : dcd mX6_personAt 71 = some (.istore 3, 1, 0, 0) := by decide +kernel
theorem xX6_personAt_72 : dcd mX6_personAt 72 = some (.iinc 6 0, 3, 0, 1) := by decide +kernel
theorem xX6_personAt_75 : dcd mX6_personAt 75 = some (.goto 0, 3, 11, 0) := by decide +kernel
theorem xX6_personAt_78 : dcd mX6_personAt 78 = some (.iload 4, 2, 0, 0) := by decide +kernel
theorem xX6_personAt_80 : dcd mX6_personAt 80 = some (.ireturn, 1, 0, 0) := by decide +kernel
theorem xX6_nextPerson_0 : dcd mX6_nextPerson 0 = some (.iconst 0, 1, 0, 0) := by decide +kernel
theorem xX6_nextPerson_1 : dcd mX6_nextPerson 1 = some (.istore 4, 2, 0, 0) := by decide +kernel
theorem xX6_nextPerson_3 : dcd mX6_nextPerson 3 = some (.iload 4, 2, 0, 0) := by decide +kernel
theorem xX6_nextPerson_5 : dcd mX6_nextPerson 5 = some (.iconst 0, 2, 0, 8) := by decide +kernel
theorem xX6_nextPerson_7 : dcd mX6_nextPerson 7 = some (.if_icmp .ge 0, 3, 63, 0) := by decide +kernel
theorem xX6_nextPerson_10 : dcd mX6_nextPerson 10 = some (.iload 1, 1, 0, 0) := by decide +kernel
theorem xX6_nextPerson_11 : dcd mX6_nextPerson 11 = some (.iload 2, 1, 0, 0) := by decide +kernel
theorem xX6_nextPerson_12 : dcd mX6_nextPerson 12 = some (.iconst 0, 1, 0, (-1)) := by decide +kernel
theorem xX6_nextPerson_13 : dcd mX6_nextPerson 13 = some (.ixor, 1, 0, 0) := by decide +kernel
theorem xX6_nextPerson_14 : dcd mX6_nextPerson 14 = some (.iand, 1, 0, 0) := by decide +kernel
theorem xX6_nextPerson_15 : dcd mX6_nextPerson 15 = some (.iload 4, 2, 0, 0) := by decide +kernel
theorem xX6_nextPerson_17 : dcd mX6_nextPerson 17 = some (.ishr, 1, 0, 0) := by decide +kernel
theorem xX6_nextPerson_18 : dcd mX6_nextPerson 18 = some (.iconst 0, 1, 0, 1) := by decide +kernel
theorem xX6_nextPerson_19 : dcd mX6_nextPerson 19 = some (.iand, 1, 0, 0) := by decide +kernel
theorem xX6_nextPerson_20 : dcd mX6_nextPerson 20 = some (.ifCond .eq 0, 3, 27, 0) := by decide +kernel
theorem xX6_nextPerson_23 : dcd mX6_nextPerson 23 = some (.iconst 0, 1, 0, 1) := by decide +kernel
theorem xX6_nextPerson_24 : dcd mX6_nextPerson 24 = some (.goto 0, 3, 28, 0) := by decide +kernel
theorem xX6_nextPerson_27 : dcd mX6_nextPerson 27 = some (.iconst 0, 1, 0, 0) := by decide +kernel
theorem xX6_nextPerson_28 : dcd mX6_nextPerson 28 = some (.istore 5, 2, 0, 0) := by decide +kernel
theorem xX6_nextPerson_30 : dcd mX6_nextPerson 30 = some (.iload 5, 2, 0, 0) := by decide +kernel
theorem xX6_nextPerson_32 : dcd mX6_nextPerson 32 = some (.ifCond .eq 0, 3, 57, 0) := by decide +kernel
theorem xX6_nextPerson_35 : dcd mX6_nextPerson 35 = some (.iload 3, 1, 0, 0) := by decide +kernel
theorem xX6_nextPerson_36 : dcd mX6_nextPerson 36 = some (.ifCond .ne 0, 3, 54, 0) := by decide +kernel
theorem xX6_nextPerson_39 : dcd mX6_nextPerson 39 = some (.aload 0, 1, 0, 0) := by decide +kernel
theorem xX6_nextPerson_40 : dcd mX6_nextPerson 40 = some (.iload 2, 1, 0, 0) := by decide +kernel
theorem xX6_nextPerson_41 : dcd mX6_nextPerson 41 = some (.iload 4, 2, 0, 0) := by decide +kernel
theorem xX6_nextPerson_43 : dcd mX6_nextPerson 43 = some (.invokevirtual 97, 3, 0, 0) := by decide +kernel
theorem xX6_nextPerson_46 : dcd mX6_nextPerson 46 = some (.aload 0, 1, 0, 0) := by decide +kernel
theorem xX6_nextPerson_47 : dcd mX6_nextPerson 47 = some (.iload 2, 1, 0, 0) := by decide +kernel
theorem xX6_nextPerson_48 : dcd mX6_nextPerson 48 = some (.invokevirtual 103, 3, 0, 0) := by decide +kernel
theorem xX6_nextPerson_51 : dcd mX6_nextPerson 51 = some (.if_icmp .ne 0, 3, 57, 0) := by decide +kernel
theorem xX6_nextPerson_54 : dcd mX6_nextPerson 54 = some (.iload 4, 2, 0, 0) := by decide +kernel
theorem xX6_nextPerson_56 : dcd mX6_nextPerson 56 = some (.ireturn, 1, 0, 0) := by decide +kernel
theorem xX6_nextPerson_57 : dcd mX6_nextPerson 57 = some (.iinc 4 0, 3, 0, 1) := by decide +kernel
theorem xX6_nextPerson_60 : dcd mX6_nextPerson 60 = some (.goto 0, 3, 3, 0) := by decide +kernel
theorem xX6_nextPerson_63 : dcd mX6_nextPerson 63 = some (.iconst 0, 1, 0, (-1)) := by decide +kernel
theorem xX6_nextPerson_64 : dcd mX6_nextPerson 64 = some (.ireturn, 1, 0, 0) := by decide +kernel
theorem xX7_init_0 : dcd mX7_init 0 = some (.aload 0, 1, 0, 0) := by decide +kernel
theorem xX7_init_1 : dcd mX7_init 1 = some (.invokespecial 3, 3, 0, 0) := by decide +kernel
theorem xX7_init_4 : dcd mX7_init 4 = some (.aload 0, 1, 0, 0) := by decide +kernel
theorem xX7_init_5 : dcd mX7_init 5 = some (.iconst 0, 2, 0, 40) := by decide +kernel
theorem xX7_init_7 : dcd mX7_init 7 = some (.newarray .int, 2, 0, 0) := by decide +kernel
theorem xX7_init_9 : dcd mX7_init 9 = some (.putfield 9, 3, 0, 0) := by decide +kernel
theorem xX7_init_12 : dcd mX7_init 12 = some (.aload 0, 1, 0, 0) := by decide +kernel
theorem xX7_init_13 : dcd mX7_init 13 = some (.iconst 0, 2, 0, 40) := by decide +kernel
theorem xX7_init_15 : dcd mX7_init 15 = some (.newarray .int, 2, 0, 0) := by decide +kernel
theorem xX7_init_17 : dcd mX7_init 17 = some (.putfield 15, 3, 0, 0) := by decide +kernel
theorem xX7_init_20 : dcd mX7_init 20 = some (.aload 0, 1, 0, 0) := by decide +kernel
theorem xX7_init_21 : dcd mX7_init 21 = some (.iconst 0, 2, 0, 10) := by decide +kernel
theorem xX7_init_23 : dcd mX7_init 23 = some (.newarray .int, 2, 0, 0) := by decide +kernel
theorem xX7_init_25 : dcd mX7_init 25 = some (.putfield 18, 3, 0, 0) := by decide +kernel
theorem xX7_init_28 : dcd mX7_init 28 = some (.aload 0, 1, 0, 0) := by decide +kernel
theorem xX7_init_29 : dcd mX7_init 29 = some (.iconst 0, 2, 0, 10) := by decide +kernel
theorem xX7_init_31 : dcd mX7_init 31 = some (.newarray .int, 2, 0, 0) := by decide +kernel
theorem xX7_init_33 : dcd mX7_init 33 = some (.putfield 21, 3, 0, 0) := by decide +kernel
theorem xX7_init_36 : dcd mX7_init 36 = some (.aload 0, 1, 0, 0) := by decide +kernel
theorem xX7_init_37 : dcd mX7_init 37 = some (.aload 1, 1, 0, 0) := by decide +kernel
theorem xX7_init_38 : dcd mX7_init 38 = some (.putfield 24, 3, 0, 0) := by decide +kernel
theorem xX7_init_41 : dcd mX7_init 41 = some (.aload 0, 1, 0, 0) := by decide +kernel
theorem xX7_init_42 : dcd mX7_init 42 = some (.aload 2, 1, 0, 0) := by decide +kernel
theorem xX7_init_43 : dcd mX7_init 43 = some (.putfield 28, 3, 0, 0) := by decide +kernel
theorem xX7_init_46 : dcd mX7_init 46 = some (.return_, 1, 0, 0) := by decide +kernel
theorem xX7_weigh_0 : dcd mX7_weigh 0 = some (.iconst 0, 1, 0, 0) := by decide +kernel
theorem xX7_weigh_1 : dcd mX7_weigh 1 = some (.istore 2, 1, 0, 0) := by decide +kernel
theorem xX7_weigh_2 : dcd mX7_weigh 2 = some (.iload 2, 1, 0, 0) := by decide +kernel
theorem xX7_weigh_3 : dcd mX7_weigh 3 = some (.iconst 0, 2, 0, 10) := by decide +kernel
theorem xX7_weigh_5 : dcd mX7_weigh 5 = some (.if_icmp .ge 0, 3, 28, 0) := by decide +kernel
theorem xX7_weigh_8 : dcd mX7_weigh 8 = some (.aload 0, 1, 0, 0) := by decide +kernel
theorem xX7_weigh_9 : dcd mX7_weigh 9 = some (.getfield 18, 3, 0, 0) := by decide +kernel
theorem xX7_weigh_12 : dcd mX7_weigh 12 = some (.iload 2, 1, 0, 0) := by decide +kernel
theorem xX7_weigh_13 : dcd mX7_weigh 13 = some (.iconst 0, 1, 0, 0) := by decide +kernel
theorem xX7_weigh_14 : dcd mX7_weigh 14 = some (.iastore, 1, 0, 0) := by decide +kernel
theorem xX7_weigh_15 : dcd mX7_weigh 15 = some (.aload 0, 1, 0, 0) := by decide +kernel
theorem xX7_weigh_16 : dcd mX7_weigh 16 = some (.getfield 21, 3, 0, 0) := by decide +kernel
theorem xX7_weigh_19 : dcd mX7_weigh 19 = some (.iload 2, 1, 0, 0) := by decide +kernel
theorem xX7_weigh_20 : dcd mX7_weigh 20 = some (.iconst 0, 1, 0, 0) := by decide +kernel
theorem xX7_weigh_21 : dcd mX7_weigh 21 = some (.iastore, 1, 0, 0) := by decide +kernel
theorem xX7_weigh_22 : dcd mX7_weigh 22 = some (.iinc 2 0, 3, 0, 1) := by decide +kernel
theorem xX7_weigh_25 : dcd mX7_weigh 25 = some (.goto 0, 3, 2, 0) := by decide +kernel
theorem xX7_weigh_28 : dcd mX7_weigh 28 = some (.iconst 0, 1, 0, 0) := by decide +kernel
theorem xX7_weigh_29 : dcd mX7_weigh 29 = some (.istore 2, 1, 0, 0) := by decide +kernel
theorem xX7_weigh_30 : dcd mX7_weigh 30 = some (.iload 2, 1, 0, 0) := by decide +kernel
theorem xX7_weigh_31 : dcd mX7_weigh 31 = some (.aload 0, 1, 0, 0) := by decide +kernel
theorem xX7_weigh_32 : dcd mX7_weigh 32 = some (.getfield 24, 3, 0, 0) := by decide +kernel
theorem xX7_weigh_35 : dcd mX7_weigh 35 = some (.getfield 32, 3, 0, 0) := by decide +kernel
theorem xX7_weigh_38 : dcd mX7_weigh 38 = some (.if_icmp .ge 0, 3, 193, 0) := by decide +kernel
theorem xX7_weigh_41 : dcd mX7_weigh 41 = some (.aload 0, 1, 0, 0) := by decide +kernel
theorem xX7_weigh_42 : dcd mX7_weigh 42 = some (.getfield 9, 3, 0, 0) := by decide +kernel
theorem xX7_weigh_45 : dcd mX7_weigh 45 = some (.iload 2, 1, 0, 0) := by decide +kernel
theorem xX7_weigh_46 : dcd mX7_weigh 46 = some (.iconst 0, 1, 0, 0) := by decide +kernel
theorem xX7_weigh_47 : dcd mX7_weigh 47 = some (.iastore, 1, 0, 0) := by decide +kernel
theorem xX7_weigh_48 : dcd mX7_weigh 48 = some (.aload 0, 1, 0, 0) := by decide +kernel
theorem xX7_weigh_49 : dcd mX7_weigh 49 = some (.getfield 15, 3, 0, 0) := by decide +kernel
theorem xX7_weigh_52 : dcd mX7_weigh 52 = some (.iload 2, 1, 0, 0) := by decide +kernel
theorem xX7_weigh_53 : dcd mX7_weigh 53 = some (.iconst 0, 1, 0, 0) := by decide +kernel
theorem xX7_weigh_54 : dcd mX7_weigh 54 = some (.iastore, 1, 0, 0) := by decide +kernel
theorem xX7_weigh_55 : dcd mX7_weigh 55 = some (.aload 0, 1, 0, 0) := by decide +kernel
theorem xX7_weigh_56 : dcd mX7_weigh 56 = some (.getfield 24, 3, 0, 0) := by decide +kernel
theorem xX7_weigh_59 : dcd mX7_weigh 59 = some (.getfield 38, 3, 0, 0) := by decide +kernel
theorem xX7_weigh_62 : dcd mX7_weigh 62 = some (.iload 2, 1, 0, 0) := by decide +kernel
theorem xX7_weigh_63 : dcd mX7_weigh 63 = some (.iaload, 1, 0, 0) := by decide +kernel
theorem xX7_weigh_64 : dcd mX7_weigh 64 = some (.istore 3, 1, 0, 0) := by decide +kernel
theorem xX7_weigh_65 : dcd mX7_weigh 65 = some (.aload 0, 1, 0, 0) := by decide +kernel
theorem xX7_weigh_66 : dcd mX7_weigh 66 = some (.getfield 24, 3, 0, 0) := by decide +kernel
theorem xX7_weigh_69 : dcd mX7_weigh 69 = some (.getfield 41, 3, 0, 0) := by decide +kernel
theorem xX7_weigh_72 : dcd mX7_weigh 72 = some (.iload 2, 1, 0, 0) := by decide +kernel
theorem xX7_weigh_73 : dcd mX7_weigh 73 = some (.baload, 1, 0, 0) := by decide +kernel
theorem xX7_weigh_74 : dcd mX7_weigh 74 = some (.ifCond .eq 0, 3, 187, 0) := by decide +kernel
theorem xX7_weigh_77 : dcd mX7_weigh 77 = some (.aload 0, 1, 0, 0) := by decide +kernel
theorem xX7_weigh_78 : dcd mX7_weigh 78 = some (.getfield 24, 3, 0, 0) := by decide +kernel
theorem xX7_weigh_81 : dcd mX7_weigh 81 = some (.iload 3, 1, 0, 0) := by decide +kernel
theorem xX7_weigh_82 : dcd mX7_weigh 82 = some (.invokevirtual 45, 3, 0, 0) := by decide +kernel
theorem xX7_weigh_85 : dcd mX7_weigh 85 = some (.ifCond .eq 0, 3, 187, 0) := by decide +kernel
theorem xX7_weigh_88 : dcd mX7_weigh 88 = some (.aload 0, 1, 0, 0) := by decide +kernel
theorem xX7_weigh_89 : dcd mX7_weigh 89 = some (.getfield 28, 3, 0, 0) := by decide +kernel
theorem xX7_weigh_92 : dcd mX7_weigh 92 = some (.aload 0, 1, 0, 0) := by decide +kernel
theorem xX7_weigh_93 : dcd mX7_weigh 93 = some (.getfield 24, 3, 0, 0) := by decide +kernel
theorem xX7_weigh_96 : dcd mX7_weigh 96 = some (.iload 2, 1, 0, 0) := by decide +kernel
theorem xX7_weigh_97 : dcd mX7_weigh 97 = some (.aload 0, 1, 0, 0) := by decide +kernel
theorem xX7_weigh_98 : dcd mX7_weigh 98 = some (.getfield 24, 3, 0, 0) := by decide +kernel
theorem xX7_weigh_101 : dcd mX7_weigh 101 = some (.getfield 49, 3, 0, 0) := by decide +kernel
theorem xX7_weigh_104 : dcd mX7_weigh 104 = some (.iload 2, 1, 0, 0) := by decide +kernel
theorem xX7_weigh_105 : dcd mX7_weigh 105 = some (.iaload, 1, 0, 0) := by decide +kernel
theorem xX7_weigh_106 : dcd mX7_weigh 106 = some (.iload 1, 1, 0, 0) := by decide +kernel
theorem xX7_weigh_107 : dcd mX7_weigh 107 = some (.invokevirtual 52, 3, 0, 0) := by decide +kernel
theorem xX7_weigh_110 : dcd mX7_weigh 110 = some (.aload 0, 1, 0, 0) := by decide +kernel
theorem xX7_weigh_111 : dcd mX7_weigh 111 = some (.getfield 9, 3, 0, 0) := by decide +kernel
theorem xX7_weigh_114 : dcd mX7_weigh 114 = some (.iload 2, 1, 0, 0) := by decide +kernel
theorem xX7_weigh_115 : dcd mX7_weigh 115 = some (.aload 0, 1, 0, 0) := by decide +kernel
theorem xX7_weigh_116 : dcd mX7_weigh 116 = some (.getfield 28, 3, 0, 0) := by decide +kernel
theorem xX7_weigh_119 : dcd mX7_weigh 119 = some (.iconst 0, 2, 0, 103) := by decide +kernel
theorem xX7_weigh_121 : dcd mX7_weigh 121 = some (.invokevirtual 58, 3, 0, 0) := by decide +kernel
theorem xX7_weigh_124 : dcd mX7_weigh 124 = some (.iastore, 1, 0, 0) := by decide +kernel
theorem xX7_weigh_125 : dcd mX7_weigh 125 = some (.aload 0, 1, 0, 0) := by decide +kernel
theorem xX7_weigh_126 : dcd mX7_weigh 126 = some (.getfield 15, 3, 0, 0) := by decide +kernel
theorem xX7_weigh_129 : dcd mX7_weigh 129 = some (.iload 2, 1, 0, 0) := by decide +kernel
theorem xX7_weigh_130 : dcd mX7_weigh 130 = some (.aload 0, 1, 0, 0) := by decide +kernel
theorem xX7_weigh_131 : dcd mX7_weigh 131 = some (.getfield 28, 3, 0, 0) := by decide +kernel
theorem xX7_weigh_134 : dcd mX7_weigh 134 = some (.iconst 0, 2, 0, 112) := by decide +kernel
theorem xX7_weigh_136 : dcd mX7_weigh 136 = some (.invokevirtual 58, 3, 0, 0) := by decide +kernel
theorem xX7_weigh_139 : dcd mX7_weigh 139 = some (.iastore, 1, 0, 0) := by decide +kernel
theorem xX7_weigh_140 : dcd mX7_weigh 140 = some (.aload 0, 1, 0, 0) := by decide +kernel
theorem xX7_weigh_141 : dcd mX7_weigh 141 = some (.getfield 18, 3, 0, 0) := by decide +kernel
theorem xX7_weigh_144 : dcd mX7_weigh 144 = some (.iload 3, 1, 0, 0) := by decide +kernel
theorem xX7_weigh_145 : dcd mX7_weigh 145 = some (.dup2, 1, 0, 0) := by decide +kernel
theorem xX7_weigh_146 : dcd mX7_weigh 146 = some (.iaload, 1, 0, 0) := by decide +kernel
theorem xX7_weigh_147 : dcd mX7_weigh 147 = some (.aload 0, 1, 0, 0) := by decide +kernel
theorem xX7_weigh_148 : dcd mX7_weigh 148 = some (.getfield 9, 3, 0, 0) := by decide +kernel
theorem xX7_weigh_151 : dcd mX7_weigh 151 = some (.iload 2, 1, 0, 0) := by decide +kernel
theorem xX7_weigh_152 : dcd mX7_weigh 152 = some (.iaload, 1, 0, 0) := by decide +kernel
theorem xX7_weigh_153 : dcd mX7_weigh 153 = some (.iadd, 1, 0, 0) := by decide +kernel
theorem xX7_weigh_154 : dcd mX7_weigh 154 = some (.iastore, 1, 0, 0) := by decide +kernel
theorem xX7_weigh_155 : dcd mX7_weigh 155 = some (.aload 0, 1, 0, 0) := by decide +kernel
theorem xX7_weigh_156 : dcd mX7_weigh 156 = some (.getfield 21, 3, 0, 0) := by decide +kernel
theorem xX7_weigh_159 : dcd mX7_weigh 159 = some (.iload 3, 1, 0, 0) := by decide +kernel
theorem xX7_weigh_160 : dcd mX7_weigh 160 = some (.dup2, 1, 0, 0) := by decide +kernel
theorem xX7_weigh_161 : dcd mX7_weigh 161 = some (.iaload, 1, 0, 0) := by decide +kernel
theorem xX7_weigh_162 : dcd mX7_weigh 162 = some (.aload 0, 1, 0, 0) := by decide +kernel
theorem xX7_weigh_163 : dcd mX7_weigh 163 = some (.getfield 24, 3, 0, 0) := by decide +kernel
theorem xX7_weigh_166 : dcd mX7_weigh 166 = some (.getfield 62, 3, 0, 0) := by decide +kernel
theorem xX7_weigh_169 : dcd mX7_weigh 169 = some (.iload 2, 1, 0, 0) := by decide +kernel
theorem xX7_weigh_170 : dcd mX7_weigh 170 = some (.iaload, 1, 0, 0) := by decide +kernel
theorem xX7_weigh_171 : dcd mX7_weigh 171 = some (.aload 0, 1, 0, 0) := by decide +kernel
theorem xX7_weigh_172 : dcd mX7_weigh 172 = some (.getfield 9, 3, 0, 0) := by decide +kernel
theorem xX7_weigh_175 : dcd mX7_weigh 175 = some (.iload 2, 1, 0, 0) := by decide +kernel
theorem xX7_weigh_176 : dcd mX7_weigh 176 = some (.iaload, 1, 0, 0) := by decide +kernel
theorem xX7_weigh_177 : dcd mX7_weigh 177 = some (.imul, 1, 0, 0) := by decide +kernel
theorem xX7_weigh_178 : dcd mX7_weigh 178 = some (.aload 0, 1, 0, 0) := by decide +kernel
theorem xX7_weigh_179 : dcd mX7_weigh 179 = some (.getfield 15, 3, 0, 0) := by decide +kernel
theorem xX7_weigh_182 : dcd mX7_weigh 182 = some (.iload 2, 1, 0, 0) := by decide +kernel
theorem xX7_weigh_183 : dcd mX7_weigh 183 = some (.iaload, 1, 0, 0) := by decide +kernel
theorem xX7_weigh_184 : dcd mX7_weigh 184 = some (.iadd, 1, 0, 0) := by decide +kernel
theorem xX7_weigh_185 : dcd mX7_weigh 185 = some (.iadd, 1, 0, 0) := by decide +kernel
theorem xX7_weigh_186 : dcd mX7_weigh 186 = some (.iastore, 1, 0, 0) := by decide +kernel
theorem xX7_weigh_187 : dcd mX7_weigh 187 = some (.iinc 2 0, 3, 0, 1) := by decide +kernel
theorem xX7_weigh_190 : dcd mX7_weigh 190 = some (.goto 0, 3, 30, 0) := by decide +kernel
theorem xX7_weigh_193 : dcd mX7_weigh 193 = some (.aload 0, 1, 0, 0) := by decide +kernel
theorem xX7_weigh_194 : dcd mX7_weigh 194 = some (.getfield 24, 3, 0, 0) := by decide +kernel
theorem xX7_weigh_197 : dcd mX7_weigh 197 = some (.getfield 65, 3, 0, 0) := by decide +kernel
theorem xX7_weigh_200 : dcd mX7_weigh 200 = some (.iconst 0, 1, 0, 1) := by decide +kernel
theorem xX7_weigh_201 : dcd mX7_weigh 201 = some (.isub, 1, 0, 0) := by decide +kernel
theorem xX7_weigh_202 : dcd mX7_weigh 202 = some (.istore 2, 1, 0, 0) := by decide +kernel
theorem xX7_weigh_203 : dcd mX7_weigh 203 = some (.iload 2, 1, 0, 0) := by decide +kernel
theorem xX7_weigh_204 : dcd mX7_weigh 204 = some (.ifCond .le 0, 3, 274, 0) := by decide +kernel
theorem xX7_weigh_207 : dcd mX7_weigh 207 = some (.aload 0, 1, 0, 0) := by decide +kernel
theorem xX7_weigh_208 : dcd mX7_weigh 208 = some (.getfield 24, 3, 0, 0) := by decide +kernel
theorem xX7_weigh_211 : dcd mX7_weigh 211 = some (.getfield 68, 3, 0, 0) := by decide +kernel
theorem xX7_weigh_214 : dcd mX7_weigh 214 = some (.iload 2, 1, 0, 0) := by decide +kernel
theorem xX7_weigh_215 : dcd mX7_weigh 215 = some (.iaload, 1, 0, 0) := by decide +kernel
theorem xX7_weigh_216 : dcd mX7_weigh 216 = some (.istore 3, 1, 0, 0) := by decide +kernel
theorem xX7_weigh_217 : dcd mX7_weigh 217 = some (.aload 0, 1, 0, 0) := by decide +kernel
theorem xX7_weigh_218 : dcd mX7_weigh 218 = some (.getfield 24, 3, 0, 0) := by decide +kernel
theorem xX7_weigh_221 : dcd mX7_weigh 221 = some (.iload 3, 1, 0, 0) := by decide +kernel
theorem xX7_weigh_222 : dcd mX7_weigh 222 = some (.invokevirtual 45, 3, 0, 0) := by decide +kernel
theorem xX7_weigh_225 : dcd mX7_weigh 225 = some (.ifCond .eq 0, 3, 268, 0) := by decide +kernel
theorem xX7_weigh_228 : dcd mX7_weigh 228 = some (.aload 0, 1, 0, 0) := by decide +kernel
theorem xX7_weigh_229 : dcd mX7_weigh 229 = some (.getfield 18, 3, 0, 0) := by decide +kernel
theorem xX7_weigh_232 : dcd mX7_weigh 232 = some (.iload 3, 1, 0, 0) := by decide +kernel
theorem xX7_weigh_233 : dcd mX7_weigh 233 = some (.dup2, 1, 0, 0) := by decide +kernel
theorem xX7_weigh_234 : dcd mX7_weigh 234 = some (.iaload, 1, 0, 0) := by decide +kernel
theorem xX7_weigh_235 : dcd mX7_weigh 235 = some (.aload 0, 1, 0, 0) := by decide +kernel
theorem xX7_weigh_236 : dcd mX7_weigh 236 = some (.getfield 18, 3, 0, 0) := by decide +kernel
theorem xX7_weigh_239 : dcd mX7_weigh 239 = some (.iload 2, 1, 0, 0) := by decide +kernel
theorem xX7_weigh_240 : dcd mX7_weigh 240 = some (.iaload, 1, 0, 0) := by decide +kernel
theorem xX7_weigh_241 : dcd mX7_weigh 241 = some (.iadd, 1, 0, 0) := by decide +kernel
theorem xX7_weigh_242 : dcd mX7_weigh 242 = some (.iastore, 1, 0, 0) := by decide +kernel
theorem xX7_weigh_243 : dcd mX7_weigh 243 = some (.aload 0, 1, 0, 0) := by decide +kernel
theorem xX7_weigh_244 : dcd mX7_weigh 244 = some (.getfield 21, 3, 0, 0) := by decide +kernel
theorem xX7_weigh_247 : dcd mX7_weigh 247 = some (.iload 3, 1, 0, 0) := by decide +kernel
theorem xX7_weigh_248 : dcd mX7_weigh 248 = some (.dup2, 1, 0, 0) := by decide +kernel
theorem xX7_weigh_249 : dcd mX7_weigh 249 = some (.iaload, 1, 0, 0) := by decide +kernel
theorem xX7_weigh_250 : dcd mX7_weigh 250 = some (.aload 0, 1, 0, 0) := by decide +kernel
theorem xX7_weigh_251 : dcd mX7_weigh 251 = some (.getfield 24, 3, 0, 0) := by decide +kernel
theorem xX7_weigh_254 : dcd mX7_weigh 254 = some (.getfield 71, 3, 0, 0) := by decide +kernel
theorem xX7_weigh_257 : dcd mX7_weigh 257 = some (.iload 2, 1, 0, 0) := by decide +kernel
theorem xX7_weigh_258 : dcd mX7_weigh 258 = some (.iaload, 1, 0, 0) := by decide +kernel
theorem xX7_weigh_259 : dcd mX7_weigh 259 = some (.aload 0, 1, 0, 0) := by decide +kernel
theorem xX7_weigh_260 : dcd mX7_weigh 260 = some (.getfield 18, 3, 0, 0) := by decide +kernel
theorem xX7_weigh_263 : dcd mX7_weigh 263 = some (.iload 2, 1, 0, 0) := by decide +kernel
theorem xX7_weigh_264 : dcd mX7_weigh 264 = some (.iaload, 1, 0, 0) := by decide +kernel
theorem xX7_weigh_265 : dcd mX7_weigh 265 = some (.imul, 1, 0, 0) := by decide +kernel
theorem xX7_weigh_266 : dcd mX7_weigh 266 = some (.iadd, 1, 0, 0) := by decide +kernel
theorem xX7_weigh_267 : dcd mX7_weigh 267 = some (.iastore, 1, 0, 0) := by decide +kernel
theorem xX7_weigh_268 : dcd mX7_weigh 268 = some (.iinc 2 0, 3, 0, (-1)) := by decide +kernel
theorem xX7_weigh_271 : dcd mX7_weigh 271 = some (.goto 0, 3, 203, 0) := by decide +kernel
theorem xX7_weigh_274 : dcd mX7_weigh 274 = some (.return_, 1, 0, 0) := by decide +kernel
theorem xX7_shift_0 : dcd mX7_shift 0 = some (.aload 0, 1, 0, 0) := by decide +kernel
theorem xX7_shift_1 : dcd mX7_shift 1 = some (.getfield 24, 3, 0, 0) := by decide +kernel
theorem xX7_shift_4 : dcd mX7_shift 4 = some (.iload 1, 1, 0, 0) := by decide +kernel
theorem xX7_shift_5 : dcd mX7_shift 5 = some (.invokevirtual 45, 3, 0, 0) := by decide +kernel
theorem xX7_shift_8 : dcd mX7_shift 8 = some (.ifCond .ne 0, 3, 12, 0) := by decide +kernel
theorem xX7_shift_11 : dcd mX7_shift 11 = some (.return_, 1, 0, 0) := by decide +kernel
theorem xX7_shift_12 : dcd mX7_shift 12 = some (.aload 0, 1, 0, 0) := by decide +kernel
theorem xX7_shift_13 : dcd mX7_shift 13 = some (.getfield 21, 3, 0, 0) := by decide +kernel
theorem xX7_shift_16 : dcd mX7_shift 16 = some (.iload 1, 1, 0, 0) := by decide +kernel
theorem xX7_shift_17 : dcd mX7_shift 17 = some (.dup2, 1, 0, 0) := by decide +kernel
theorem xX7_shift_18 : dcd mX7_shift 18 = some (.iaload, 1, 0, 0) := by decide +kernel
theorem xX7_shift_19 : dcd mX7_shift 19 = some (.iload 2, 1, 0, 0) := by decide +kernel
theorem xX7_shift_20 : dcd mX7_shift 20 = some (.iload 3, 1, 0, 0) := by decide +kernel
theorem xX7_shift_21 : dcd mX7_shift 21 = some (.imul, 1, 0, 0) := by decide +kernel
theorem xX7_shift_22 : dcd mX7_shift 22 = some (.iload 4, 2, 0, 0) := by decide +kernel
theorem xX7_shift_24 : dcd mX7_shift 24 = some (.iadd, 1, 0, 0) := by decide +kernel
theorem xX7_shift_25 : dcd mX7_shift 25 = some (.iadd, 1, 0, 0) := by decide +kernel
theorem xX7_shift_26 : dcd mX7_shift 26 = some (.iastore, 1, 0, 0) := by decide +kernel
theorem xX7_shift_27 : dcd mX7_shift 27 = some (.iload 1, 1, 0, 0) := by decide +kernel
theorem xX7_shift_28 : dcd mX7_shift 28 = some (.istore 5, 2, 0, 0) := by decide +kernel
theorem xX7_shift_30 : dcd mX7_shift 30 = some (.iconst 0, 1, 0, 0) := by decide +kernel
theorem xX7_shift_31 : dcd mX7_shift 31 = some (.istore 6, 2, 0, 0) := by decide +kernel
theorem xX7_shift_33 : dcd mX7_shift 33 = some (.iload 6, 2, 0, 0) := by decide +kernel
theorem xX7_shift_35 : dcd mX7_shift 35 = some (.iconst 0, 2, 0, 10) := by decide +kernel
theorem xX7_shift_37 : dcd mX7_shift 37 = some (.if_icmp .ge 0, 3, 102, 0) := by decide +kernel
theorem xX7_shift_40 : dcd mX7_shift 40 = some (.iload 5, 2, 0, 0) := by decide +kernel
theorem xX7_shift_42 : dcd mX7_shift 42 = some (.ifCond .le 0, 3, 102, 0) := by decide +kernel
theorem xX7_shift_45 : dcd mX7_shift 45 = some (.aload 0, 1, 0, 0) := by decide +kernel
theorem xX7_shift_46 : dcd mX7_shift 46 = some (.getfield 24, 3, 0, 0) := by decide +kernel
theorem xX7_shift_49 : dcd mX7_shift 49 = some (.getfield 68, 3, 0, 0) := by decide +kernel
theorem xX7_shift_52 : dcd mX7_shift 52 = some (.iload 5, 2, 0, 0) := by decide +kernel
theorem xX7_shift_54 : dcd mX7_shift 54 = some (.iaload, 1, 0, 0) := by decide +kernel
theorem xX7_shift_55 : dcd mX7_shift 55 = some (.istore 7, 2, 0, 0) := by decide +kernel
theorem xX7_shift_57 : dcd mX7_shift 57 = some (.aload 0, 1, 0, 0) := by decide +kernel
theorem xX7_shift_58 : dcd mX7_shift 58 = some (.getfield 24, 3, 0, 0) := by decide +kernel
theorem xX7_shift_61 : dcd mX7_shift 61 = some (.iload 7, 2, 0, 0) := by decide +kernel
theorem xX7_shift_63 : dcd mX7_shift 63 = some (.invokevirtual 45, 3, 0, 0) := by decide +kernel
theorem xX7_shift_66 : dcd mX7_shift 66 = some (.ifCond .ne 0, 3, 70, 0) := by decide +kernel
theorem xX7_shift_69 : dcd mX7_shift 69 = some (.return_, 1, 0, 0) := by decide +kernel
theorem xX7_shift_70 : dcd mX7_shift 70 = some (.aload 0, 1, 0, 0) := by decide +kernel
theorem xX7_shift_71 : dcd mX7_shift 71 = some (.getfield 21, 3, 0, 0) := by decide +kernel
theorem xX7_shift_74 : dcd mX7_shift 74 = some (.iload 7, 2, 0, 0) := by decide +kernel
theorem xX7_shift_76 : dcd mX7_shift 76 = some (.dup2, 1, 0, 0) := by decide +kernel
theorem xX7_shift_77 : dcd mX7_shift 77 = some (.iaload, 1, 0, 0) := by decide +kernel
theorem xX7_shift_78 : dcd mX7_shift 78 = some (.aload 0, 1, 0, 0) := by decide +kernel
theorem xX7_shift_79 : dcd mX7_shift 79 = some (.getfield 24, 3, 0, 0) := by decide +kernel
theorem xX7_shift_82 : dcd mX7_shift 82 = some (.getfield 71, 3, 0, 0) := by decide +kernel
theorem xX7_shift_85 : dcd mX7_shift 85 = some (.iload 5, 2, 0, 0) := by decide +kernel
theorem xX7_shift_87 : dcd mX7_shift 87 = some (.iaload, 1, 0, 0) := by decide +kernel
theorem xX7_shift_88 : dcd mX7_shift 88 = some (.iload 3, 1, 0, 0) := by decide +kernel
theorem xX7_shift_89 : dcd mX7_shift 89 = some (.imul, 1, 0, 0) := by decide +kernel
theorem xX7_shift_90 : dcd mX7_shift 90 = some (.iadd, 1, 0, 0) := by decide +kernel
theorem xX7_shift_91 : dcd mX7_shift 91 = some (.iastore, 1, 0, 0) := by decide +kernel
theorem xX7_shift_92 : dcd mX7_shift 92 = some (.iload 7, 2, 0, 0) := by decide +kernel
theorem xX7_shift_94 : dcd mX7_shift 94 = some (.istore 5, 2, 0, 0) := by decide +kernel
theorem xX7_shift_96 : dcd mX7_shift 96 = some (.iinc 6 0, 3, 0, 1) := by decide +kernel
theorem xX7_shift_99 : dcd mX7_shift 99 = some (.goto 0, 3, 33, 0) := by decide +kernel
theorem xX7_shift_102 : dcd mX7_shift 102 = some (.return_, 1, 0, 0) := by decide +kernel
theorem xX7_wouldLean_0 : dcd mX7_wouldLean 0 = some (.aload 0, 1, 0, 0) := by decide +kernel
theorem xX7_wouldLean_1 : dcd mX7_wouldLean 1 = some (.getfield 24, 3, 0, 0) := by decide +kernel
theorem xX7_wouldLean_4 : dcd mX7_wouldLean 4 = some (.iload 1, 1, 0, 0) := by decide +kernel
theorem xX7_wouldLean_5 : dcd mX7_wouldLean 5 = some (.invokevirtual 74, 3, 0, 0) := by decide +kernel
theorem xX7_wouldLean_8 : dcd mX7_wouldLean 8 = some (.ifCond .eq 0, 3, 23, 0) := by decide +kernel
theorem xX7_wouldLean_11 : dcd mX7_wouldLean 11 = some (.aload 0, 1, 0, 0) := by decide +kernel
theorem xX7_wouldLean_12 : dcd mX7_wouldLean 12 = some (.getfield 24, 3, 0, 0) := by decide +kernel
theorem xX7_wouldLean_15 : dcd mX7_wouldLean 15 = some (.getfield 38, 3, 0, 0) := by decide +kernel
theorem xX7_wouldLean_18 : dcd mX7_wouldLean 18 = some (.iload 1, 1, 0, 0) := by decide +kernel
theorem xX7_wouldLean_19 : dcd mX7_wouldLean 19 = some (.iaload, 1, 0, 0) := by decide +kernel
theorem xX7_wouldLean_20 : dcd mX7_wouldLean 20 = some (.goto 0, 3, 24, 0) := by decide +kernel
theorem xX7_wouldLean_23 : dcd mX7_wouldLean 23 = some (.iconst 0, 1, 0, (-1)) := by decide +kernel
theorem xX7_wouldLean_24 : dcd mX7_wouldLean 24 = some (.istore 5, 2, 0, 0) := by decide +kernel
theorem xX7_wouldLean_26 : dcd mX7_wouldLean 26 = some (.aload 0, 1, 0, 0) := by decide +kernel
theorem xX7_wouldLean_27 : dcd mX7_wouldLean 27 = some (.getfield 24, 3, 0, 0) := by decide +kernel
theorem xX7_wouldLean_30 : dcd mX7_wouldLean 30 = some (.iload 1, 1, 0, 0) := by decide +kernel
theorem xX7_wouldLean_31 : dcd mX7_wouldLean 31 = some (.invokevirtual 74, 3, 0, 0) := by decide +kernel
theorem xX7_wouldLean_34 : dcd mX7_wouldLean 34 = some (.ifCond .eq 0, 3, 53, 0) := by decide +kernel
theorem xX7_wouldLean_37 : dcd mX7_wouldLean 37 = some (.aload 0, 1, 0, 0) := by decide +kernel
theorem xX7_wouldLean_38 : dcd mX7_wouldLean 38 = some (.getfield 24, 3, 0, 0) := by decide +kernel
theorem xX7_wouldLean_41 : dcd mX7_wouldLean 41 = some (.getfield 62, 3, 0, 0) := by decide +kernel
theorem xX7_wouldLean_44 : dcd mX7_wouldLean 44 = some (.iload 1, 1, 0, 0) := by decide +kernel
theorem xX7_wouldLean_45 : dcd mX7_wouldLean 45 = some (.iaload, 1, 0, 0) := by decide +kernel
theorem xX7_wouldLean_46 : dcd mX7_wouldLean 46 = some (.iload 2, 1, 0, 0) := by decide +kernel
theorem xX7_wouldLean_47 : dcd mX7_wouldLean 47 = some (.imul, 1, 0, 0) := by decide +kernel
theorem xX7_wouldLean_48 : dcd mX7_wouldLean 48 = some (.iload 3, 1, 0, 0) := by decide +kernel
theorem xX7_wouldLean_49 : dcd mX7_wouldLean 49 = some (.iadd, 1, 0, 0) := by decide +kernel
theorem xX7_wouldLean_50 : dcd mX7_wouldLean 50 = some (.goto 0, 3, 54, 0) := by decide +kernel
theorem xX7_wouldLean_53 : dcd mX7_wouldLean 53 = some (.iconst 0, 1, 0, 0) := by decide +kernel
theorem xX7_wouldLean_54 : dcd mX7_wouldLean 54 = some (.istore 6, 2, 0, 0) := by decide +kernel
theorem xX7_wouldLean_56 : dcd mX7_wouldLean 56 = some (.iconst 0, 1, 0, 0) := by decide +kernel
theorem xX7_wouldLean_57 : dcd mX7_wouldLean 57 = some (.istore 7, 2, 0, 0) := by decide +kernel
theorem xX7_wouldLean_59 : dcd mX7_wouldLean 59 = some (.iload 7, 2, 0, 0) := by decide +kernel
theorem xX7_wouldLean_61 : dcd mX7_wouldLean 61 = some (.iconst 0, 2, 0, 10) := by decide +kernel
theorem xX7_wouldLean_63 : dcd mX7_wouldLean 63 = some (.if_icmp .ge 0, 3, 164, 0) := by decide +kernel
theorem xX7_wouldLean_66 : dcd mX7_wouldLean 66 = some (.aload 0, 1, 0, 0) := by decide +kernel
theorem xX7_wouldLean_67 : dcd mX7_wouldLean 67 = some (.getfield 24, 3, 0, 0) := by decide +kernel
theorem xX7_wouldLean_70 : dcd mX7_wouldLean 70 = some (.iload 5, 2, 0, 0) := by decide +kernel
theorem xX7_wouldLean_72 : dcd mX7_wouldLean 72 = some (.invokevirtual 45, 3, 0, 0) := by decide +kernel
theorem xX7_wouldLean_75 : dcd mX7_wouldLean 75 = some (.ifCond .eq 0, 3, 164, 0) := by decide +kernel
theorem xX7_wouldLean_78 : dcd mX7_wouldLean 78 = some (.iload 5, 2, 0, 0) := by decide +kernel
theorem xX7_wouldLean_80 : dcd mX7_wouldLean 80 = some (.aload 4, 2, 0, 0) := by decide +kernel
theorem xX7_wouldLean_82 : dcd mX7_wouldLean 82 = some (.arraylength, 1, 0, 0) := by decide +kernel
theorem xX7_wouldLean_83 : dcd mX7_wouldLean 83 = some (.if_icmp .ge 0, 3, 164, 0) := by decide +kernel
theorem xX7_wouldLean_86 : dcd mX7_wouldLean 86 = some (.aload 0, 1, 0, 0) := by decide +kernel
theorem xX7_wouldLean_87 : dcd mX7_wouldLean 87 = some (.getfield 24, 3, 0, 0) := by decide +kernel
theorem xX7_wouldLean_90 : dcd mX7_wouldLean 90 = some (.getfield 77, 3, 0, 0) := by decide +kernel
theorem xX7_wouldLean_93 : dcd mX7_wouldLean 93 = some (.iload 5, 2, 0, 0) := by decide +kernel
theorem xX7_wouldLean_95 : dcd mX7_wouldLean 95 = some (.baload, 1, 0, 0) := by decide +kernel
theorem xX7_wouldLean_96 : dcd mX7_wouldLean 96 = some (.ifCond .eq 0, 3, 132, 0) := by decide +kernel
theorem xX7_wouldLean_99 : dcd mX7_wouldLean 99 = some (.aload 0, 1, 0, 0) := by decide +kernel
theorem xX7_wouldLean_100 : dcd mX7_wouldLean 100 = some (.getfield 21, 3, 0, 0) := by decide +kernel
theorem xX7_wouldLean_103 : dcd mX7_wouldLean 103 = some (.iload 5, 2, 0, 0) := by decide +kernel
theorem xX7_wouldLean_105 : dcd mX7_wouldLean 105 = some (.iaload, 1, 0, 0) := by decide +kernel
theorem xX7_wouldLean_106 : dcd mX7_wouldLean 106 = some (.iload 6, 2, 0, 0) := by decide +kernel
theorem xX7_wouldLean_108 : dcd mX7_wouldLean 108 = some (.iadd, 1, 0, 0) := by decide +kernel
theorem xX7_wouldLean_109 : dcd mX7_wouldLean 109 = some (.aload 0, 1, 0, 0) := by decide +kernel
theorem xX7_wouldLean_110 : dcd mX7_wouldLean 110 = some (.getfield 24, 3, 0, 0) := by decide +kernel
theorem xX7_wouldLean_113 : dcd mX7_wouldLean 113 = some (.getfield 80, 3, 0, 0) := by decide +kernel
theorem xX7_wouldLean_116 : dcd mX7_wouldLean 116 = some (.iload 5, 2, 0, 0) := by decide +kernel
theorem xX7_wouldLean_118 : dcd mX7_wouldLean 118 = some (.iaload, 1, 0, 0) := by decide +kernel
theorem xX7_wouldLean_119 : dcd mX7_wouldLean 119 = some (.invokestatic 83, 3, 0, 0) := by decide +kernel
theorem xX7_wouldLean_122 : dcd mX7_wouldLean 122 = some (.aload 4, 2, 0, 0) := by decide +kernel
theorem xX7_wouldLean_124 : dcd mX7_wouldLean 124 = some (.iload 5, 2, 0, 0) := by decide +kernel
theorem xX7_wouldLean_126 : dcd mX7_wouldLean 126 = some (.iaload, 1, 0, 0) := by decide +kernel
theorem xX7_wouldLean_127 : dcd mX7_wouldLean 127 = some (.if_icmp .eq 0, 3, 132, 0) := by decide +kernel
theorem xX7_wouldLean_130 : dcd mX7_wouldLean 130 = some (.iconst 0, 1, 0, 0) := by decide +kernel
theorem xX7_wouldLean_131 : dcd mX7_wouldLean 131 = some (.ireturn, 1, 0, 0) := by decide +kernel
theorem xX7_wouldLean_132 : dcd mX7_wouldLean 132 = some (.aload 0, 1, 0, 0) := by decide +kernel
theorem xX7_wouldLean_133 : dcd mX7_wouldLean 133 = some (.getfield 24, 3, 0, 0) := by decide +kernel
theorem xX7_wouldLean_136 : dcd mX7_wouldLean 136 = some (.getfield 71, 3, 0, 0) := by decide +kernel
theorem xX7_wouldLean_139 : dcd mX7_wouldLean 139 = some (.iload 5, 2, 0, 0) := by decide +kernel
theorem xX7_wouldLean_141 : dcd mX7_wouldLean 141 = some (.iaload, 1, 0, 0) := by decide +kernel
theorem xX7_wouldLean_142 : dcd mX7_wouldLean 142 = some (.iload 2, 1, 0, 0) := by decide +kernel
theorem xX7_wouldLean_143 : dcd mX7_wouldLean 143 = some (.imul, 1, 0, 0) := by decide +kernel
theorem xX7_wouldLean_144 : dcd mX7_wouldLean 144 = some (.istore 6, 2, 0, 0) := by decide +kernel
theorem xX7_wouldLean_146 : dcd mX7_wouldLean 146 = some (.aload 0, 1, 0, 0) := by decide +kernel
theorem xX7_wouldLean_147 : dcd mX7_wouldLean 147 = some (.getfield 24, 3, 0, 0) := by decide +kernel
theorem xX7_wouldLean_150 : dcd mX7_wouldLean 150 = some (.getfield 68, 3, 0, 0) := by decide +kernel
theorem xX7_wouldLean_153 : dcd mX7_wouldLean 153 = some (.iload 5, 2, 0, 0) := by decide +kernel
theorem xX7_wouldLean_155 : dcd mX7_wouldLean 155 = some (.iaload, 1, 0, 0) := by decide +kernel
theorem xX7_wouldLean_156 : dcd mX7_wouldLean 156 = some (.istore 5, 2, 0, 0) := by decide +kernel
theorem xX7_wouldLean_158 : dcd mX7_wouldLean 158 = some (.iinc 7 0, 3, 0, 1) := by decide +kernel
theorem xX7_wouldLean_161 : dcd mX7_wouldLean 161 = some (.goto 0, 3, 59, 0) := by decide +kernel
theorem xX7_wouldLean_164 : dcd mX7_wouldLean 164 = some (.iconst 0, 1, 0, 1) := by decide +kernel
theorem xX7_wouldLean_165 : dcd mX7_wouldLean 165 = some (.ireturn, 1, 0, 0) := by decide +kernel
theorem xX7_leanBeside_0 : dcd mX7_leanBeside 0 = some (.iconst 0, 1, 0, 0) := by decide +kernel
theorem xX7_leanBeside_1 : dcd mX7_leanBeside 1 = some (.istore 3, 1, 0, 0) := by decide +kernel
theorem xX7_leanBeside_2 : dcd mX7_leanBeside 2 = some (.aload 0, 1, 0, 0) := by decide +kernel
theorem xX7_leanBeside_3 : dcd mX7_leanBeside 3 = some (.getfield 24, 3, 0, 0) := by decide +kernel
theorem xX7_leanBeside_6 : dcd mX7_leanBeside 6 = some (.iload 1, 1, 0, 0) := by decide +kernel
theorem xX7_leanBeside_7 : dcd mX7_leanBeside 7 = some (.invokevirtual 74, 3, 0, 0) := by decide +kernel
theorem xX7_leanBeside_10 : dcd mX7_leanBeside 10 = some (.ifCond .eq 0, 3, 25, 0) := by decide +kernel
theorem xX7_leanBeside_13 : dcd mX7_leanBeside 13 = some (.aload 0, 1, 0, 0) := by decide +kernel
theorem xX7_leanBeside_14 : dcd mX7_leanBeside 14 = some (.getfield 24, 3, 0, 0) := by decide +kernel
theorem xX7_leanBeside_17 : dcd mX7_leanBeside 17 = some (.getfield 38, 3, 0, 0) := by decide +kernel
theorem xX7_leanBeside_20 : dcd mX7_leanBeside 20 = some (.iload 1, 1, 0, 0) := by decide +kernel
theorem xX7_leanBeside_21 : dcd mX7_leanBeside 21 = some (.iaload, 1, 0, 0) := by decide +kernel
theorem xX7_leanBeside_22 : dcd mX7_leanBeside 22 = some (.goto 0, 3, 26, 0) := by decide +kernel
theorem xX7_leanBeside_25 : dcd mX7_leanBeside 25 = some (.iconst 0, 1, 0, (-1)) := by decide +kernel
theorem xX7_leanBeside_26 : dcd mX7_leanBeside 26 = some (.istore 4, 2, 0, 0) := by decide +kernel
theorem xX7_leanBeside_28 : dcd mX7_leanBeside 28 = some (.iconst 0, 1, 0, 0) := by decide +kernel
theorem xX7_leanBeside_29 : dcd mX7_leanBeside 29 = some (.istore 5, 2, 0, 0) := by decide +kernel
theorem xX7_leanBeside_31 : dcd mX7_leanBeside 31 = some (.iload 5, 2, 0, 0) := by decide +kernel
theorem xX7_leanBeside_33 : dcd mX7_leanBeside 33 = some (.iconst 0, 2, 0, 10) := by decide +kernel
theorem xX7_leanBeside_35 : dcd mX7_leanBeside 35 = some (.if_icmp .ge 0, 3, 75, 0) := by decide +kernel
theorem xX7_leanBeside_38 : dcd mX7_leanBeside 38 = some (.aload 0, 1, 0, 0) := by decide +kernel
theorem xX7_leanBeside_39 : dcd mX7_leanBeside 39 = some (.getfield 24, 3, 0, 0) := by decide +kernel
theorem xX7_leanBeside_42 : dcd mX7_leanBeside 42 = some (.iload 4, 2, 0, 0) := by decide +kernel
theorem xX7_leanBeside_44 : dcd mX7_leanBeside 44 = some (.invokevirtual 45, 3, 0, 0) := by decide +kernel
theorem xX7_leanBeside_47 : dcd mX7_leanBeside 47 = some (.ifCond .eq 0, 3, 75, 0) := by decide +kernel
theorem xX7_leanBeside_50 : dcd mX7_leanBeside 50 = some (.iload 3, 1, 0, 0) := by decide +kernel
theorem xX7_leanBeside_51 : dcd mX7_leanBeside 51 = some (.iconst 0, 1, 0, 1) := by decide +kernel
theorem xX7_leanBeside_52 : dcd mX7_leanBeside 52 = some (.iload 4, 2, 0, 0) := by decide +kernel
theorem xX7_leanBeside_54 : dcd mX7_leanBeside 54 = some (.ishl, 1, 0, 0) := by decide +kernel
theorem xX7_leanBeside_55 : dcd mX7_leanBeside 55 = some (.ior, 1, 0, 0) := by decide +kernel
theorem xX7_leanBeside_56 : dcd mX7_leanBeside 56 = some (.istore 3, 1, 0, 0) := by decide +kernel
theorem xX7_leanBeside_57 : dcd mX7_leanBeside 57 = some (.aload 0, 1, 0, 0) := by decide +kernel
theorem xX7_leanBeside_58 : dcd mX7_leanBeside 58 = some (.getfield 24, 3, 0, 0) := by decide +kernel
theorem xX7_leanBeside_61 : dcd mX7_leanBeside 61 = some (.getfield 68, 3, 0, 0) := by decide +kernel
theorem xX7_leanBeside_64 : dcd mX7_leanBeside 64 = some (.iload 4, 2, 0, 0) := by decide +kernel
theorem xX7_leanBeside_66 : dcd mX7_leanBeside 66 = some (.iaload, 1, 0, 0) := by decide +kernel
theorem xX7_leanBeside_67 : dcd mX7_leanBeside 67 = some (.istore 4, 2, 0, 0) := by decide +kernel
theorem xX7_leanBeside_69 : dcd mX7_leanBeside 69 = some (.iinc 5 0, 3, 0, 1) := by decide +kernel
theorem xX7_leanBeside_72 : dcd mX7_leanBeside 72 = some (.goto 0, 3, 31, 0) := by decide +kernel
theorem xX7_leanBeside_75 : dcd mX7_leanBeside 75 = some (.iconst 0, 1, 0, 0) := by decide +kernel
theorem xX7_leanBeside_76 : dcd mX7_leanBeside 76 = some (.istore 5, 2, 0, 0) := by decide +kernel
theorem xX7_leanBeside_78 : dcd mX7_leanBeside 78 = some (.iload 5, 2, 0, 0) := by decide +kernel
theorem xX7_leanBeside_80 : dcd mX7_leanBeside 80 = some (.aload 0, 1, 0, 0) := by decide +kernel
theorem xX7_leanBeside_81 : dcd mX7_leanBeside 81 = some (.getfield 24, 3, 0, 0) := by decide +kernel
theorem xX7_leanBeside_84 : dcd mX7_leanBeside 84 = some (.getfield 65, 3, 0, 0) := by decide +kernel
theorem xX7_leanBeside_87 : dcd mX7_leanBeside 87 = some (.if_icmp .ge 0, 3, 140, 0) := by decide +kernel
theorem xX7_leanBeside_90 : dcd mX7_leanBeside 90 = some (.iload 5, 2, 0, 0) := by decide +kernel
theorem xX7_leanBeside_92 : dcd mX7_leanBeside 92 = some (.aload 2, 1, 0, 0) := by decide +kernel
theorem xX7_leanBeside_93 : dcd mX7_leanBeside 93 = some (.arraylength, 1, 0, 0) := by decide +kernel
theorem xX7_leanBeside_94 : dcd mX7_leanBeside 94 = some (.if_icmp .ge 0, 3, 140, 0) := by decide +kernel
theorem xX7_leanBeside_97 : dcd mX7_leanBeside 97 = some (.iload 3, 1, 0, 0) := by decide +kernel
theorem xX7_leanBeside_98 : dcd mX7_leanBeside 98 = some (.iload 5, 2, 0, 0) := by decide +kernel
theorem xX7_leanBeside_100 : dcd mX7_leanBeside 100 = some (.ishr, 1, 0, 0) := by decide +kernel
theorem xX7_leanBeside_101 : dcd mX7_leanBeside 101 = some (.iconst 0, 1, 0, 1) := by decide +kernel
theorem xX7_leanBeside_102 : dcd mX7_leanBeside 102 = some (.iand, 1, 0, 0) := by decide +kernel
theorem xX7_leanBeside_103 : dcd mX7_leanBeside 103 = some (.ifCond .ne 0, 3, 134, 0) := by decide +kernel
theorem xX7_leanBeside_106 : dcd mX7_leanBeside 106 = some (.aload 0, 1, 0, 0) := by decide +kernel
theorem xX7_leanBeside_107 : dcd mX7_leanBeside 107 = some (.getfield 24, 3, 0, 0) := by decide +kernel
theorem xX7_leanBeside_110 : dcd mX7_leanBeside 110 = some (.getfield 77, 3, 0, 0) := by decide +kernel
theorem xX7_leanBeside_113 : dcd mX7_leanBeside 113 = some (.iload 5, 2, 0, 0) := by decide +kernel
theorem xX7_leanBeside_115 : dcd mX7_leanBeside 115 = some (.baload, 1, 0, 0) := by decide +kernel
theorem xX7_leanBeside_116 : dcd mX7_leanBeside 116 = some (.ifCond .eq 0, 3, 134, 0) := by decide +kernel
theorem xX7_leanBeside_119 : dcd mX7_leanBeside 119 = some (.aload 0, 1, 0, 0) := by decide +kernel
theorem xX7_leanBeside_120 : dcd mX7_leanBeside 120 = some (.iload 5, 2, 0, 0) := by decide +kernel
theorem xX7_leanBeside_122 : dcd mX7_leanBeside 122 = some (.invokevirtual 87, 3, 0, 0) := by decide +kernel
theorem xX7_leanBeside_125 : dcd mX7_leanBeside 125 = some (.aload 2, 1, 0, 0) := by decide +kernel
theorem xX7_leanBeside_126 : dcd mX7_leanBeside 126 = some (.iload 5, 2, 0, 0) := by decide +kernel
theorem xX7_leanBeside_128 : dcd mX7_leanBeside 128 = some (.iaload, 1, 0, 0) := by decide +kernel
theorem xX7_leanBeside_129 : dcd mX7_leanBeside 129 = some (.if_icmp .eq 0, 3, 134, 0) := by decide +kernel
theorem xX7_leanBeside_132 : dcd mX7_leanBeside 132 = some (.iconst 0, 1, 0, 0) := by decide +kernel
theorem xX7_leanBeside_133 : dcd mX7_leanBeside 133 = some (.ireturn, 1, 0, 0) := by decide +kernel
theorem xX7_leanBeside_134 : dcd mX7_leanBeside 134 = some (.iinc 5 0, 3, 0, 1) := by decide +kernel
theorem xX7_leanBeside_137 : dcd mX7_leanBeside 137 = some (.goto 0, 3, 78, 0) := by decide +kernel
theorem xX7_leanBeside_140 : dcd mX7_leanBeside 140 = some (.iconst 0, 1, 0, 1) := by decide +kernel
theorem xX7_leanBeside_141 : dcd mX7_leanBeside 141 = some (.ireturn, 1, 0, 0) := by decide +kernel
