theorem xX2_readSum_0 : dcd mX2_readSum 0 = some (.aload 0, 1, 0, 0) := by decide +kernel
theorem xX2_readSum_1 : dcd mX2_readSum 1 = some (.iload 1, 1, 0, 0) := by decide +kernel
theorem xX2_readSum_2 : dcd mX2_readSum 2 = some (.invokevirtual 92, 3, 0, 0) := by decide +kernel
theorem xX2_readSum_5 : dcd mX2_readSum 5 = some (.ifCond .ne 0, 3, 10, 0) := by decide +kernel
theorem xX2_readSum_8 : dcd mX2_readSum 8 = some (.iconst 0, 1, 0, 0) := by decide +kernel
theorem xX2_readSum_9 : dcd mX2_readSum 9 = some (.ireturn, 1, 0, 0) := by decide +kernel
theorem xX2_readSum_10 : dcd mX2_readSum 10 = some (.aload 0, 1, 0, 0) := by decide +kernel
theorem xX2_readSum_11 : dcd mX2_readSum 11 = some (.getfield 26, 3, 0, 0) := by decide +kernel
theorem xX2_readSum_14 : dcd mX2_readSum 14 = some (.aload 0, 1, 0, 0) := by decide +kernel
theorem xX2_readSum_15 : dcd mX2_readSum 15 = some (.getfield 22, 3, 0, 0) := by decide +kernel
theorem xX2_readSum_18 : dcd mX2_readSum 18 = some (.if_icmp .ge 0, 3, 76, 0) := by decide +kernel
theorem xX2_readSum_21 : dcd mX2_readSum 21 = some (.aload 0, 1, 0, 0) := by decide +kernel
theorem xX2_readSum_22 : dcd mX2_readSum 22 = some (.invokevirtual 49, 3, 0, 0) := by decide +kernel
theorem xX2_readSum_25 : dcd mX2_readSum 25 = some (.iconst 0, 2, 0, 43) := by decide +kernel
theorem xX2_readSum_27 : dcd mX2_readSum 27 = some (.if_icmp .eq 0, 3, 39, 0) := by decide +kernel
theorem xX2_readSum_30 : dcd mX2_readSum 30 = some (.aload 0, 1, 0, 0) := by decide +kernel
theorem xX2_readSum_31 : dcd mX2_readSum 31 = some (.invokevirtual 49, 3, 0, 0) := by decide +kernel
theorem xX2_readSum_34 : dcd mX2_readSum 34 = some (.iconst 0, 2, 0, 45) := by decide +kernel
theorem xX2_readSum_36 : dcd mX2_readSum 36 = some (.if_icmp .ne 0, 3, 76, 0) := by decide +kernel
theorem xX2_readSum_39 : dcd mX2_readSum 39 = some (.aload 0, 1, 0, 0) := by decide +kernel
theorem xX2_readSum_40 : dcd mX2_readSum 40 = some (.invokevirtual 49, 3, 0, 0) := by decide +kernel
theorem xX2_readSum_43 : dcd mX2_readSum 43 = some (.istore 2, 1, 0, 0) := by decide +kernel
theorem xX2_readSum_44 : dcd mX2_readSum 44 = some (.aload 0, 1, 0, 0) := by decide +kernel
theorem xX2_readSum_45 : dcd mX2_readSum 45 = some (.dup, 1, 0, 0) := by decide +kernel
theorem xX2_readSum_46 : dcd mX2_readSum 46 = some (.getfield 26, 3, 0, 0) := by decide +kernel
theorem xX2_readSum_49 : dcd mX2_readSum 49 = some (.iconst 0, 1, 0, 1) := by decide +kernel
theorem xX2_readSum_50 : dcd mX2_readSum 50 = some (.iadd, 1, 0, 0) := by decide +kernel
theorem xX2_readSum_51 : dcd mX2_readSum 51 = some (.putfield 26, 3, 0, 0) := by decide +kernel
theorem xX2_readSum_54 : dcd mX2_readSum 54 = some (.aload 0, 1, 0, 0) := by decide +kernel
theorem xX2_readSum_55 : dcd mX2_readSum 55 = some (.iload 1, 1, 0, 0) := by decide +kernel
theorem xX2_readSum_56 : dcd mX2_readSum 56 = some (.invokevirtual 92, 3, 0, 0) := by decide +kernel
theorem xX2_readSum_59 : dcd mX2_readSum 59 = some (.ifCond .ne 0, 3, 64, 0) := by decide +kernel
theorem xX2_readSum_62 : dcd mX2_readSum 62 = some (.iconst 0, 1, 0, 0) := by decide +kernel
theorem xX2_readSum_63 : dcd mX2_readSum 63 = some (.ireturn, 1, 0, 0) := by decide +kernel
theorem xX2_readSum_64 : dcd mX2_readSum 64 = some (.aload 0, 1, 0, 0) := by decide +kernel
theorem xX2_readSum_65 : dcd mX2_readSum 65 = some (.getfield 12, 3, 0, 0) := by decide +kernel
theorem xX2_readSum_68 : dcd mX2_readSum 68 = some (.iload 2, 1, 0, 0) := by decide +kernel
theorem xX2_readSum_69 : dcd mX2_readSum 69 = some (.iconst 0, 1, 0, 0) := by decide +kernel
theorem xX2_readSum_70 : dcd mX2_readSum 70 = some (.invokevirtual 72, 3, 0, 0) := by decide +kernel
theorem xX2_readSum_73 : dcd mX2_readSum 73 = some (.goto 0, 3, 10, 0) := by decide +kernel
theorem xX2_readSum_76 : dcd mX2_readSum 76 = some (.iconst 0, 1, 0, 1) := by decide +kernel
theorem xX2_readSum_77 : dcd mX2_readSum 77 = some (.ireturn, 1, 0, 0) := by decide +kernel
theorem xX2_readTerm_0 : dcd mX2_readTerm 0 = some (.aload 0, 1, 0, 0) := by decide +kernel
theorem xX2_readTerm_1 : dcd mX2_readTerm 1 = some (.iload 1, 1, 0, 0) := by decide +kernel
theorem xX2_readTerm_2 : dcd mX2_readTerm 2 = some (.invokevirtual 95, 3, 0, 0) := by decide +kernel
theorem xX2_readTerm_5 : dcd mX2_readTerm 5 = some (.ifCond .ne 0, 3, 10, 0) := by decide +kernel
theorem xX2_readTerm_8 : dcd mX2_readTerm 8 = some (.iconst 0, 1, 0, 0) := by decide +kernel
theorem xX2_readTerm_9 : dcd mX2_readTerm 9 = some (.ireturn, 1, 0, 0) := by decide +kernel
theorem xX2_readTerm_10 : dcd mX2_readTerm 10 = some (.aload 0, 1, 0, 0) := by decide +kernel
theorem xX2_readTerm_11 : dcd mX2_readTerm 11 = some (.getfield 26, 3, 0, 0) := by decide +kernel
theorem xX2_readTerm_14 : dcd mX2_readTerm 14 = some (.aload 0, 1, 0, 0) := by decide +kernel
theorem xX2_readTerm_15 : dcd mX2_readTerm 15 = some (.getfield 22, 3, 0, 0) := by decide +kernel
theorem xX2_readTerm_18 : dcd mX2_readTerm 18 = some (.if_icmp .ge 0, 3, 85, 0) := by decide +kernel
theorem xX2_readTerm_21 : dcd mX2_readTerm 21 = some (.aload 0, 1, 0, 0) := by decide +kernel
theorem xX2_readTerm_22 : dcd mX2_readTerm 22 = some (.invokevirtual 49, 3, 0, 0) := by decide +kernel
theorem xX2_readTerm_25 : dcd mX2_readTerm 25 = some (.iconst 0, 2, 0, 42) := by decide +kernel
theorem xX2_readTerm_27 : dcd mX2_readTerm 27 = some (.if_icmp .eq 0, 3, 48, 0) := by decide +kernel
theorem xX2_readTerm_30 : dcd mX2_readTerm 30 = some (.aload 0, 1, 0, 0) := by decide +kernel
theorem xX2_readTerm_31 : dcd mX2_readTerm 31 = some (.invokevirtual 49, 3, 0, 0) := by decide +kernel
theorem xX2_readTerm_34 : dcd mX2_readTerm 34 = some (.iconst 0, 2, 0, 47) := by decide +kernel
theorem xX2_readTerm_36 : dcd mX2_readTerm 36 = some (.if_icmp .eq 0, 3, 48, 0) := by decide +kernel
theorem xX2_readTerm_39 : dcd mX2_readTerm 39 = some (.aload 0, 1, 0, 0) := by decide +kernel
theorem xX2_readTerm_40 : dcd mX2_readTerm 40 = some (.invokevirtual 49, 3, 0, 0) := by decide +kernel
theorem xX2_readTerm_43 : dcd mX2_readTerm 43 = some (.iconst 0, 2, 0, 37) := by decide +kernel
theorem xX2_readTerm_45 : dcd mX2_readTerm 45 = some (.if_icmp .ne 0, 3, 85, 0) := by decide +kernel
theorem xX2_readTerm_48 : dcd mX2_readTerm 48 = some (.aload 0, 1, 0, 0) := by decide +kernel
theorem xX2_readTerm_49 : dcd mX2_readTerm 49 = some (.invokevirtual 49, 3, 0, 0) := by decide +kernel
theorem xX2_readTerm_52 : dcd mX2_readTerm 52 = some (.istore 2, 1, 0, 0) := by decide +kernel
theorem xX2_readTerm_53 : dcd mX2_readTerm 53 = some (.aload 0, 1, 0, 0) := by decide +kernel
theorem xX2_readTerm_54 : dcd mX2_readTerm 54 = some (.dup, 1, 0, 0) := by decide +kernel
theorem xX2_readTerm_55 : dcd mX2_readTerm 55 = some (.getfield 26, 3, 0, 0) := by decide +kernel
theorem xX2_readTerm_58 : dcd mX2_readTerm 58 = some (.iconst 0, 1, 0, 1) := by decide +kernel
theorem xX2_readTerm_59 : dcd mX2_readTerm 59 = some (.iadd, 1, 0, 0) := by decide +kernel
theorem xX2_readTerm_60 : dcd mX2_readTerm 60 = some (.putfield 26, 3, 0, 0) := by decide +kernel
theorem xX2_readTerm_63 : dcd mX2_readTerm 63 = some (.aload 0, 1, 0, 0) := by decide +kernel
theorem xX2_readTerm_64 : dcd mX2_readTerm 64 = some (.iload 1, 1, 0, 0) := by decide +kernel
theorem xX2_readTerm_65 : dcd mX2_readTerm 65 = some (.invokevirtual 95, 3, 0, 0) := by decide +kernel
theorem xX2_readTerm_68 : dcd mX2_readTerm 68 = some (.ifCond .ne 0, 3, 73, 0) := by decide +kernel
theorem xX2_readTerm_71 : dcd mX2_readTerm 71 = some (.iconst 0, 1, 0, 0) := by decide +kernel
theorem xX2_readTerm_72 : dcd mX2_readTerm 72 = some (.ireturn, 1, 0, 0) := by decide +kernel
theorem xX2_readTerm_73 : dcd mX2_readTerm 73 = some (.aload 0, 1, 0, 0) := by decide +kernel
theorem xX2_readTerm_74 : dcd mX2_readTerm 74 = some (.getfield 12, 3, 0, 0) := by decide +kernel
theorem xX2_readTerm_77 : dcd mX2_readTerm 77 = some (.iload 2, 1, 0, 0) := by decide +kernel
theorem xX2_readTerm_78 : dcd mX2_readTerm 78 = some (.iconst 0, 1, 0, 0) := by decide +kernel
theorem xX2_readTerm_79 : dcd mX2_readTerm 79 = some (.invokevirtual 72, 3, 0, 0) := by decide +kernel
theorem xX2_readTerm_82 : dcd mX2_readTerm 82 = some (.goto 0, 3, 10, 0) := by decide +kernel
theorem xX2_readTerm_85 : dcd mX2_readTerm 85 = some (.iconst 0, 1, 0, 1) := by decide +kernel
theorem xX2_readTerm_86 : dcd mX2_readTerm 86 = some (.ireturn, 1, 0, 0) := by decide +kernel
theorem xX2_readFactor_0 : dcd mX2_readFactor 0 = some (.aload 0, 1, 0, 0) := by decide +kernel
theorem xX2_readFactor_1 : dcd mX2_readFactor 1 = some (.invokevirtual 49, 3, 0, 0) := by decide +kernel
theorem xX2_readFactor_4 : dcd mX2_readFactor 4 = some (.istore 2, 1, 0, 0) := by decide +kernel
theorem xX2_readFactor_5 : dcd mX2_readFactor 5 = some (.iload 2, 1, 0, 0) := by decide +kernel
theorem xX2_readFactor_6 : dcd mX2_readFactor 6 = some (.iconst 0, 2, 0, 91) := by decide +kernel
theorem xX2_readFactor_8 : dcd mX2_readFactor 8 = some (.if_icmp .ne 0, 3, 44, 0) := by decide +kernel
theorem xX2_readFactor_11 : dcd mX2_readFactor 11 = some (.aload 0, 1, 0, 0) := by decide +kernel
theorem xX2_readFactor_12 : dcd mX2_readFactor 12 = some (.iload 1, 1, 0, 0) := by decide +kernel
theorem xX2_readFactor_13 : dcd mX2_readFactor 13 = some (.invokevirtual 89, 3, 0, 0) := by decide +kernel
theorem xX2_readFactor_16 : dcd mX2_readFactor 16 = some (.ifCond .eq 0, 3, 42, 0) := by decide +kernel
theorem xX2_readFactor_19 : dcd mX2_readFactor 19 = some (.aload 0, 1, 0, 0) := by decide +kernel
theorem xX2_readFactor_20 : dcd mX2_readFactor 20 = some (.iload 1, 1, 0, 0) := by decide +kernel
theorem xX2_readFactor_21 : dcd mX2_readFactor 21 = some (.iconst 0, 1, 0, 1) := by decide +kernel
theorem xX2_readFactor_22 : dcd mX2_readFactor 22 = some (.iadd, 1, 0, 0) := by decide +kernel
theorem xX2_readFactor_23 : dcd mX2_readFactor 23 = some (.invokevirtual 63, 3, 0, 0) := by decide +kernel
theorem xX2_readFactor_26 : dcd mX2_readFactor 26 = some (.ifCond .eq 0, 3, 42, 0) := by decide +kernel
theorem xX2_readFactor_29 : dcd mX2_readFactor 29 = some (.aload 0, 1, 0, 0) := by decide +kernel
theorem xX2_readFactor_30 : dcd mX2_readFactor 30 = some (.iconst 0, 2, 0, 93) := by decide +kernel
theorem xX2_readFactor_32 : dcd mX2_readFactor 32 = some (.invokevirtual 39, 3, 0, 0) := by decide +kernel
theorem xX2_readFactor_35 : dcd mX2_readFactor 35 = some (.ifCond .eq 0, 3, 42, 0) := by decide +kernel
theorem xX2_readFactor_38 : dcd mX2_readFactor 38 = some (.iconst 0, 1, 0, 1) := by decide +kernel
theorem xX2_readFactor_39 : dcd mX2_readFactor 39 = some (.goto 0, 3, 43, 0) := by decide +kernel
theorem xX2_readFactor_42 : dcd mX2_readFactor 42 = some (.iconst 0, 1, 0, 0) := by decide +kernel
theorem xX2_readFactor_43 : dcd mX2_readFactor 43 = some (.ireturn, 1, 0, 0) := by decide +kernel
theorem xX2_readFactor_44 : dcd mX2_readFactor 44 = some (.iload 2, 1, 0, 0) := by decide +kernel
theorem xX2_readFactor_45 : dcd mX2_readFactor 45 = some (.invokestatic 98, 3, 0, 0) := by decide +kernel
theorem xX2_readFactor_48 : dcd mX2_readFactor 48 = some (.ifCond .eq 0, 3, 56, 0) := by decide +kernel
theorem xX2_readFactor_51 : dcd mX2_readFactor 51 = some (.aload 0, 1, 0, 0) := by decide +kernel
theorem xX2_readFactor_52 : dcd mX2_readFactor 52 = some (.invokevirtual 101, 3, 0, 0) := by decide +kernel
theorem xX2_readFactor_55 : dcd mX2_readFactor 55 = some (.ireturn, 1, 0, 0) := by decide +kernel
theorem xX2_readFactor_56 : dcd mX2_readFactor 56 = some (.iload 2, 1, 0, 0) := by decide +kernel
theorem xX2_readFactor_57 : dcd mX2_readFactor 57 = some (.invokestatic 104, 3, 0, 0) := by decide +kernel
theorem xX2_readFactor_60 : dcd mX2_readFactor 60 = some (.istore 3, 1, 0, 0) := by decide +kernel
theorem xX2_readFactor_61 : dcd mX2_readFactor 61 = some (.iload 3, 1, 0, 0) := by decide +kernel
theorem xX2_readFactor_62 : dcd mX2_readFactor 62 = some (.iconst 0, 1, 0, (-1)) := by decide +kernel
theorem xX2_readFactor_63 : dcd mX2_readFactor 63 = some (.if_icmp .ne 0, 3, 72, 0) := by decide +kernel
theorem xX2_readFactor_66 : dcd mX2_readFactor 66 = some (.aload 0, 1, 0, 0) := by decide +kernel
theorem xX2_readFactor_67 : dcd mX2_readFactor 67 = some (.iconst 0, 1, 0, 1) := by decide +kernel
theorem xX2_readFactor_68 : dcd mX2_readFactor 68 = some (.invokevirtual 53, 3, 0, 0) := by decide +kernel
theorem xX2_readFactor_71 : dcd mX2_readFactor 71 = some (.ireturn, 1, 0, 0) := by decide +kernel
theorem xX2_readFactor_72 : dcd mX2_readFactor 72 = some (.aload 0, 1, 0, 0) := by decide +kernel
theorem xX2_readFactor_73 : dcd mX2_readFactor 73 = some (.dup, 1, 0, 0) := by decide +kernel
theorem xX2_readFactor_74 : dcd mX2_readFactor 74 = some (.getfield 26, 3, 0, 0) := by decide +kernel
theorem xX2_readFactor_77 : dcd mX2_readFactor 77 = some (.iconst 0, 1, 0, 1) := by decide +kernel
theorem xX2_readFactor_78 : dcd mX2_readFactor 78 = some (.iadd, 1, 0, 0) := by decide +kernel
theorem xX2_readFactor_79 : dcd mX2_readFactor 79 = some (.putfield 26, 3, 0, 0) := by decide +kernel
theorem xX2_readFactor_82 : dcd mX2_readFactor 82 = some (.aload 0, 1, 0, 0) := by decide +kernel
theorem xX2_readFactor_83 : dcd mX2_readFactor 83 = some (.getfield 12, 3, 0, 0) := by decide +kernel
theorem xX2_readFactor_86 : dcd mX2_readFactor 86 = some (.iconst 0, 1, 0, 2) := by decide +kernel
theorem xX2_readFactor_87 : dcd mX2_readFactor 87 = some (.iload 3, 1, 0, 0) := by decide +kernel
theorem xX2_readFactor_88 : dcd mX2_readFactor 88 = some (.invokevirtual 72, 3, 0, 0) := by decide +kernel
theorem xX2_readFactor_91 : dcd mX2_readFactor 91 = some (.iconst 0, 1, 0, 1) := by decide +kernel
theorem xX2_readFactor_92 : dcd mX2_readFactor 92 = some (.ireturn, 1, 0, 0) := by decide +kernel
theorem xX2_readNumber_0 : dcd mX2_readNumber 0 = some (.iconst 0, 1, 0, 0) := by decide +kernel
theorem xX2_readNumber_1 : dcd mX2_readNumber 1 = some (.istore 1, 1, 0, 0) := by decide +kernel
theorem xX2_readNumber_2 : dcd mX2_readNumber 2 = some (.iconst 0, 1, 0, 0) := by decide +kernel
theorem xX2_readNumber_3 : dcd mX2_readNumber 3 = some (.istore 2, 1, 0, 0) := by decide +kernel
theorem xX2_readNumber_4 : dcd mX2_readNumber 4 = some (.iload 2, 1, 0, 0) := by decide +kernel
theorem xX2_readNumber_5 : dcd mX2_readNumber 5 = some (.iconst 0, 1, 0, 5) := by decide +kernel
theorem xX2_readNumber_6 : dcd mX2_readNumber 6 = some (.if_icmp .ge 0, 3, 48, 0) := by decide +kernel
theorem xX2_readNumber_9 : dcd mX2_readNumber 9 = some (.aload 0, 1, 0, 0) := by decide +kernel
theorem xX2_readNumber_10 : dcd mX2_readNumber 10 = some (.invokevirtual 49, 3, 0, 0) := by decide +kernel
theorem xX2_readNumber_13 : dcd mX2_readNumber 13 = some (.invokestatic 98, 3, 0, 0) := by decide +kernel
theorem xX2_readNumber_16 : dcd mX2_readNumber 16 = some (.ifCond .eq 0, 3, 48, 0) := by decide +kernel
theorem xX2_readNumber_19 : dcd mX2_readNumber 19 = some (.iconst 0, 2, 0, 10) := by decide +kernel
theorem xX2_readNumber_21 : dcd mX2_readNumber 21 = some (.iload 1, 1, 0, 0) := by decide +kernel
theorem xX2_readNumber_22 : dcd mX2_readNumber 22 = some (.imul, 1, 0, 0) := by decide +kernel
theorem xX2_readNumber_23 : dcd mX2_readNumber 23 = some (.aload 0, 1, 0, 0) := by decide +kernel
theorem xX2_readNumber_24 : dcd mX2_readNumber 24 = some (.invokevirtual 49, 3, 0, 0) := by decide +kernel
theorem xX2_readNumber_27 : dcd mX2_readNumber 27 = some (.iadd, 1, 0, 0) := by decide +kernel
theorem xX2_readNumber_28 : dcd mX2_readNumber 28 = some (.iconst 0, 2, 0, 48) := by decide +kernel
theorem xX2_readNumber_30 : dcd mX2_readNumber 30 = some (.isub, 1, 0, 0) := by decide +kernel
theorem xX2_readNumber_31 : dcd mX2_readNumber 31 = some (.istore 1, 1, 0, 0) := by decide +kernel
theorem xX2_readNumber_32 : dcd mX2_readNumber 32 = some (.aload 0, 1, 0, 0) := by decide +kernel
theorem xX2_readNumber_33 : dcd mX2_readNumber 33 = some (.dup, 1, 0, 0) := by decide +kernel
theorem xX2_readNumber_34 : dcd mX2_readNumber 34 = some (.getfield 26, 3, 0, 0) := by decide +kernel
theorem xX2_readNumber_37 : dcd mX2_readNumber 37 = some (.iconst 0, 1, 0, 1) := by decide +kernel
theorem xX2_readNumber_38 : dcd mX2_readNumber 38 = some (.iadd, 1, 0, 0) := by decide +kernel
theorem xX2_readNumber_39 : dcd mX2_readNumber 39 = some (.putfield 26, 3, 0, 0) := by decide +kernel
theorem xX2_readNumber_42 : dcd mX2_readNumber 42 = some (.iinc 2 0, 3, 0, 1) := by decide +kernel
theorem xX2_readNumber_45 : dcd mX2_readNumber 45 = some (.goto 0, 3, 4, 0) := by decide +kernel
theorem xX2_readNumber_48 : dcd mX2_readNumber 48 = some (.aload 0, 1, 0, 0) := by decide +kernel
theorem xX2_readNumber_49 : dcd mX2_readNumber 49 = some (.invokevirtual 49, 3, 0, 0) := by decide +kernel
theorem xX2_readNumber_52 : dcd mX2_readNumber 52 = some (.invokestatic 98, 3, 0, 0) := by decide +kernel
theorem xX2_readNumber_55 : dcd mX2_readNumber 55 = some (.ifCond .eq 0, 3, 64, 0) := by decide +kernel
theorem xX2_readNumber_58 : dcd mX2_readNumber 58 = some (.aload 0, 1, 0, 0) := by decide +kernel
theorem xX2_readNumber_59 : dcd mX2_readNumber 59 = some (.iconst 0, 1, 0, 2) := by decide +kernel
theorem xX2_readNumber_60 : dcd mX2_readNumber 60 = some (.invokevirtual 53, 3, 0, 0) := by decide +kernel
theorem xX2_readNumber_63 : dcd mX2_readNumber 63 = some (.ireturn, 1, 0, 0) := by decide +kernel
theorem xX2_readNumber_64 : dcd mX2_readNumber 64 = some (.aload 0, 1, 0, 0) := by decide +kernel
theorem xX2_readNumber_65 : dcd mX2_readNumber 65 = some (.getfield 12, 3, 0, 0) := by decide +kernel
theorem xX2_readNumber_68 : dcd mX2_readNumber 68 = some (.iconst 0, 1, 0, 1) := by decide +kernel
theorem xX2_readNumber_69 : dcd mX2_readNumber 69 = some (.iload 1, 1, 0, 0) := by decide +kernel
theorem xX2_readNumber_70 : dcd mX2_readNumber 70 = some (.invokevirtual 72, 3, 0, 0) := by decide +kernel
theorem xX2_readNumber_73 : dcd mX2_readNumber 73 = some (.iconst 0, 1, 0, 1) := by decide +kernel
theorem xX2_readNumber_74 : dcd mX2_readNumber 74 = some (.ireturn, 1, 0, 0) := by decide +kernel
theorem xX2_isDigit_0 : dcd mX2_isDigit 0 = some (.iload 0, 1, 0, 0) := by decide +kernel
theorem xX2_isDigit_1 : dcd mX2_isDigit 1 = some (.iconst 0, 2, 0, 48) := by decide +kernel
theorem xX2_isDigit_3 : dcd mX2_isDigit 3 = some (.if_icmp .lt 0, 3, 16, 0) := by decide +kernel
theorem xX2_isDigit_6 : dcd mX2_isDigit 6 = some (.iload 0, 1, 0, 0) := by decide +kernel
theorem xX2_isDigit_7 : dcd mX2_isDigit 7 = some (.iconst 0, 2, 0, 57) := by decide +kernel
theorem xX2_isDigit_9 : dcd mX2_isDigit 9 = some (.if_icmp .gt 0, 3, 16, 0) := by decide +kernel
theorem xX2_isDigit_12 : dcd mX2_isDigit 12 = some (.iconst 0, 1, 0, 1) := by decide +kernel
theorem xX2_isDigit_13 : dcd mX2_isDigit 13 = some (.goto 0, 3, 17, 0) := by decide +kernel
theorem xX2_isDigit_16 : dcd mX2_isDigit 16 = some (.iconst 0, 1, 0, 0) := by decide +kernel
theorem xX2_isDigit_17 : dcd mX2_isDigit 17 = some (.ireturn, 1, 0, 0) := by decide +kernel
theorem xX3_init_0 : dcd mX3_init 0 = some (.aload 0, 1, 0, 0) := by decide +kernel
theorem xX3_init_1 : dcd mX3_init 1 = some (.invokespecial 3, 3, 0, 0) := by decide +kernel
theorem xX3_init_4 : dcd mX3_init 4 = some (.aload 0, 1, 0, 0) := by decide +kernel
theorem xX3_init_5 : dcd mX3_init 5 = some (.iconst 0, 2, 0, 10) := by decide +kernel
theorem xX3_init_7 : dcd mX3_init 7 = some (.newarray .int, 2, 0, 0) := by decide +kernel
theorem xX3_init_9 : dcd mX3_init 9 = some (.putfield 9, 3, 0, 0) := by decide +kernel
theorem xX3_init_12 : dcd mX3_init 12 = some (.aload 0, 1, 0, 0) := by decide +kernel
theorem xX3_init_13 : dcd mX3_init 13 = some (.iconst 0, 2, 0, 10) := by decide +kernel
theorem xX3_init_15 : dcd mX3_init 15 = some (.newarray .int, 2, 0, 0) := by decide +kernel
theorem xX3_init_17 : dcd mX3_init 17 = some (.putfield 15, 3, 0, 0) := by decide +kernel
theorem xX3_init_20 : dcd mX3_init 20 = some (.aload 0, 1, 0, 0) := by decide +kernel
theorem xX3_init_21 : dcd mX3_init 21 = some (.iconst 0, 2, 0, 10) := by decide +kernel
theorem xX3_init_23 : dcd mX3_init 23 = some (.newarray .int, 2, 0, 0) := by decide +kernel
theorem xX3_init_25 : dcd mX3_init 25 = some (.putfield 18, 3, 0, 0) := by decide +kernel
theorem xX3_init_28 : dcd mX3_init 28 = some (.aload 0, 1, 0, 0) := by decide +kernel
theorem xX3_init_29 : dcd mX3_init 29 = some (.iconst 0, 2, 0, 10) := by decide +kernel
theorem xX3_init_31 : dcd mX3_init 31 = some (.newarray .boolean, 2, 0, 0) := by decide +kernel
theorem xX3_init_33 : dcd mX3_init 33 = some (.putfield 21, 3, 0, 0) := by decide +kernel
theorem xX3_init_36 : dcd mX3_init 36 = some (.aload 0, 1, 0, 0) := by decide +kernel
theorem xX3_init_37 : dcd mX3_init 37 = some (.iconst 0, 2, 0, 10) := by decide +kernel
theorem xX3_init_39 : dcd mX3_init 39 = some (.newarray .boolean, 2, 0, 0) := by decide +kernel
theorem xX3_init_41 : dcd mX3_init 41 = some (.putfield 25, 3, 0, 0) := by decide +kernel
theorem xX3_init_44 : dcd mX3_init 44 = some (.aload 0, 1, 0, 0) := by decide +kernel
theorem xX3_init_45 : dcd mX3_init 45 = some (.iconst 0, 2, 0, 40) := by decide +kernel
theorem xX3_init_47 : dcd mX3_init 47 = some (.newarray .int, 2, 0, 0) := by decide +kernel
theorem xX3_init_49 : dcd mX3_init 49 = some (.putfield 28, 3, 0, 0) := by decide +kernel
theorem xX3_init_52 : dcd mX3_init 52 = some (.aload 0, 1, 0, 0) := by decide +kernel
theorem xX3_init_53 : dcd mX3_init 53 = some (.iconst 0, 2, 0, 40) := by decide +kernel
theorem xX3_init_55 : dcd mX3_init 55 = some (.newarray .int, 2, 0, 0) := by decide +kernel
theorem xX3_init_57 : dcd mX3_init 57 = some (.putfield 31, 3, 0, 0) := by decide +kernel
theorem xX3_init_60 : dcd mX3_init 60 = some (.aload 0, 1, 0, 0) := by decide +kernel
theorem xX3_init_61 : dcd mX3_init 61 = some (.iconst 0, 2, 0, 40) := by decide +kernel
theorem xX3_init_63 : dcd mX3_init 63 = some (.newarray .int, 2, 0, 0) := by decide +kernel
theorem xX3_init_65 : dcd mX3_init 65 = some (.putfield 34, 3, 0, 0) := by decide +kernel
theorem xX3_init_68 : dcd mX3_init 68 = some (.aload 0, 1, 0, 0) := by decide +kernel
theorem xX3_init_69 : dcd mX3_init 69 = some (.iconst 0, 2, 0, 40) := by decide +kernel
theorem xX3_init_71 : dcd mX3_init 71 = some (.newarray .int, 2, 0, 0) := by decide +kernel
theorem xX3_init_73 : dcd mX3_init 73 = some (.putfield 37, 3, 0, 0) := by decide +kernel
theorem xX3_init_76 : dcd mX3_init 76 = some (.aload 0, 1, 0, 0) := by decide +kernel
theorem xX3_init_77 : dcd mX3_init 77 = some (.iconst 0, 2, 0, 40) := by decide +kernel
theorem xX3_init_79 : dcd mX3_init 79 = some (.newarray .int, 2, 0, 0) := by decide +kernel
theorem xX3_init_81 : dcd mX3_init 81 = some (.putfield 40, 3, 0, 0) := by decide +kernel
theorem xX3_init_84 : dcd mX3_init 84 = some (.aload 0, 1, 0, 0) := by decide +kernel
theorem xX3_init_85 : dcd mX3_init 85 = some (.iconst 0, 2, 0, 40) := by decide +kernel
theorem xX3_init_87 : dcd mX3_init 87 = some (.newarray .int, 2, 0, 0) := by decide +kernel
theorem xX3_init_89 : dcd mX3_init 89 = some (.putfield 43, 3, 0, 0) := by decide +kernel
theorem xX3_init_92 : dcd mX3_init 92 = some (.aload 0, 1, 0, 0) := by decide +kernel
theorem xX3_init_93 : dcd mX3_init 93 = some (.iconst 0, 2, 0, 40) := by decide +kernel
theorem xX3_init_95 : dcd mX3_init 95 = some (.newarray .boolean, 2, 0, 0) := by decide +kernel
theorem xX3_init_97 : dcd mX3_init 97 = some (.putfield 46, 3, 0, 0) := by decide +kernel
theorem xX3_init_100 : dcd mX3_init 100 = some (.return_, 1, 0, 0) := by decide +kernel
theorem xX3_addRod_0 : dcd mX3_addRod 0 = some (.aload 0, 1, 0, 0) := by decide +kernel
theorem xX3_addRod_1 : dcd mX3_addRod 1 = some (.getfield 49, 3, 0, 0) := by decide +kernel
theorem xX3_addRod_4 : dcd mX3_addRod 4 = some (.iconst 0, 2, 0, 10) := by decide +kernel
theorem xX3_addRod_6 : dcd mX3_addRod 6 = some (.if_icmp .lt 0, 3, 11, 0) := by decide +kernel
theorem xX3_addRod_9 : dcd mX3_addRod 9 = some (.iconst 0, 1, 0, (-1)) := by decide +kernel
theorem xX3_addRod_10 : dcd mX3_addRod 10 = some (.ireturn, 1, 0, 0) := by decide +kernel
theorem xX3_addRod_11 : dcd mX3_addRod 11 = some (.aload 0, 1, 0, 0) := by decide +kernel
theorem xX3_addRod_12 : dcd mX3_addRod 12 = some (.getfield 9, 3, 0, 0) := by decide +kernel
theorem xX3_addRod_15 : dcd mX3_addRod 15 = some (.aload 0, 1, 0, 0) := by decide +kernel
theorem xX3_addRod_16 : dcd mX3_addRod 16 = some (.getfield 49, 3, 0, 0) := by decide +kernel
theorem xX3_addRod_19 : dcd mX3_addRod 19 = some (.iload 1, 1, 0, 0) := by decide +kernel
theorem xX3_addRod_20 : dcd mX3_addRod 20 = some (.iastore, 1, 0, 0) := by decide +kernel
theorem xX3_addRod_21 : dcd mX3_addRod 21 = some (.aload 0, 1, 0, 0) := by decide +kernel
theorem xX3_addRod_22 : dcd mX3_addRod 22 = some (.getfield 15, 3, 0, 0) := by decide +kernel
theorem xX3_addRod_25 : dcd mX3_addRod 25 = some (.aload 0, 1, 0, 0) := by decide +kernel
theorem xX3_addRod_26 : dcd mX3_addRod 26 = some (.getfield 49, 3, 0, 0) := by decide +kernel
theorem xX3_addRod_29 : dcd mX3_addRod 29 = some (.iload 2, 1, 0, 0) := by decide +kernel
theorem xX3_addRod_30 : dcd mX3_addRod 30 = some (.iastore, 1, 0, 0) := by decide +kernel
theorem xX3_addRod_31 : dcd mX3_addRod 31 = some (.aload 0, 1, 0, 0) := by decide +kernel
theorem xX3_addRod_32 : dcd mX3_addRod 32 = some (.getfield 18, 3, 0, 0) := by decide +kernel
theorem xX3_addRod_35 : dcd mX3_addRod 35 = some (.aload 0, 1, 0, 0) := by decide +kernel
theorem xX3_addRod_36 : dcd mX3_addRod 36 = some (.getfield 49, 3, 0, 0) := by decide +kernel
theorem xX3_addRod_39 : dcd mX3_addRod 39 = some (.iconst 0, 1, 0, 1) := by decide +kernel
theorem xX3_addRod_40 : dcd mX3_addRod 40 = some (.iastore, 1, 0, 0) := by decide +kernel
theorem xX3_addRod_41 : dcd mX3_addRod 41 = some (.aload 0, 1, 0, 0) := by decide +kernel
theorem xX3_addRod_42 : dcd mX3_addRod 42 = some (.getfield 21, 3, 0, 0) := by decide +kernel
theorem xX3_addRod_45 : dcd mX3_addRod 45 = some (.aload 0, 1, 0, 0) := by decide +kernel
theorem xX3_addRod_46 : dcd mX3_addRod 46 = some (.getfield 49, 3, 0, 0) := by decide +kernel
theorem xX3_addRod_49 : dcd mX3_addRod 49 = some (.iconst 0, 1, 0, 1) := by decide +kernel
theorem xX3_addRod_50 : dcd mX3_addRod 50 = some (.bastore, 1, 0, 0) := by decide +kernel
theorem xX3_addRod_51 : dcd mX3_addRod 51 = some (.aload 0, 1, 0, 0) := by decide +kernel
theorem xX3_addRod_52 : dcd mX3_addRod 52 = some (.getfield 25, 3, 0, 0) := by decide +kernel
theorem xX3_addRod_55 : dcd mX3_addRod 55 = some (.aload 0, 1, 0, 0) := by decide +kernel
theorem xX3_addRod_56 : dcd mX3_addRod 56 = some (.getfield 49, 3, 0, 0) := by decide +kernel
theorem xX3_addRod_59 : dcd mX3_addRod 59 = some (.iconst 0, 1, 0, 0) := by decide +kernel
theorem xX3_addRod_60 : dcd mX3_addRod 60 = some (.bastore, 1, 0, 0) := by decide +kernel
theorem xX3_addRod_61 : dcd mX3_addRod 61 = some (.aload 0, 1, 0, 0) := by decide +kernel
theorem xX3_addRod_62 : dcd mX3_addRod 62 = some (.dup, 1, 0, 0) := by decide +kernel
theorem xX3_addRod_63 : dcd mX3_addRod 63 = some (.getfield 49, 3, 0, 0) := by decide +kernel
theorem xX3_addRod_66 : dcd mX3_addRod 66 = some (.iconst 0, 1, 0, 1) := by decide +kernel
theorem xX3_addRod_67 : dcd mX3_addRod 67 = some (.iadd, 1, 0, 0) := by decide +kernel
theorem xX3_addRod_68 : dcd mX3_addRod 68 = some (.putfield 49, 3, 0, 0) := by decide +kernel
theorem xX3_addRod_71 : dcd mX3_addRod 71 = some (.aload 0, 1, 0, 0) := by decide +kernel
theorem xX3_addRod_72 : dcd mX3_addRod 72 = some (.getfield 49, 3, 0, 0) := by decide +kernel
theorem xX3_addRod_75 : dcd mX3_addRod 75 = some (.iconst 0, 1, 0, 1) := by decide +kernel
theorem xX3_addRod_76 : dcd mX3_addRod 76 = some (.isub, 1, 0, 0) := by decide +kernel
theorem xX3_addRod_77 : dcd mX3_addRod 77 = some (.ireturn, 1, 0, 0) := by decide +kernel
theorem xX3_addRibbon_0 : dcd mX3_addRibbon 0 = some (.aload 0, 1, 0, 0) := by decide +kernel
theorem xX3_addRibbon_1 : dcd mX3_addRibbon 1 = some (.getfield 53, 3, 0, 0) := by decide +kernel
theorem xX3_addRibbon_4 : dcd mX3_addRibbon 4 = some (.iconst 0, 2, 0, 40) := by decide +kernel
theorem xX3_addRibbon_6 : dcd mX3_addRibbon 6 = some (.if_icmp .lt 0, 3, 11, 0) := by decide +kernel
theorem xX3_addRibbon_9 : dcd mX3_addRibbon 9 = some (.iconst 0, 1, 0, (-1)) := by decide +kernel
theorem xX3_addRibbon_10 : dcd mX3_addRibbon 10 = some (.ireturn, 1, 0, 0) := by decide +kernel
theorem xX3_addRibbon_11 : dcd mX3_addRibbon 11 = some (.aload 0, 1, 0, 0) := by decide +kernel
theorem xX3_addRibbon_12 : dcd mX3_addRibbon 12 = some (.getfield 28, 3, 0, 0) := by decide +kernel
theorem xX3_addRibbon_15 : dcd mX3_addRibbon 15 = some (.aload 0, 1, 0, 0) := by decide +kernel
theorem xX3_addRibbon_16 : dcd mX3_addRibbon 16 = some (.getfield 53, 3, 0, 0) := by decide +kernel
theorem xX3_addRibbon_19 : dcd mX3_addRibbon 19 = some (.iload 1, 1, 0, 0) := by decide +kernel
theorem xX3_addRibbon_20 : dcd mX3_addRibbon 20 = some (.iastore, 1, 0, 0) := by decide +kernel
theorem xX3_addRibbon_21 : dcd mX3_addRibbon 21 = some (.aload 0, 1, 0, 0) := by decide +kernel
theorem xX3_addRibbon_22 : dcd mX3_addRibbon 22 = some (.getfield 31, 3, 0, 0) := by decide +kernel
theorem xX3_addRibbon_25 : dcd mX3_addRibbon 25 = some (.aload 0, 1, 0, 0) := by decide +kernel
theorem xX3_addRibbon_26 : dcd mX3_addRibbon 26 = some (.getfield 53, 3, 0, 0) := by decide +kernel
theorem xX3_addRibbon_29 : dcd mX3_addRibbon 29 = some (.iload 2, 1, 0, 0) := by decide +kernel
theorem xX3_addRibbon_30 : dcd mX3_addRibbon 30 = some (.iastore, 1, 0, 0) := by decide +kernel
theorem xX3_addRibbon_31 : dcd mX3_addRibbon 31 = some (.aload 0, 1, 0, 0) := by decide +kernel
theorem xX3_addRibbon_32 : dcd mX3_addRibbon 32 = some (.getfield 34, 3, 0, 0) := by decide +kernel
theorem xX3_addRibbon_35 : dcd mX3_addRibbon 35 = some (.aload 0, 1, 0, 0) := by decide +kernel
theorem xX3_addRibbon_36 : dcd mX3_addRibbon 36 = some (.getfield 53, 3, 0, 0) := by decide +kernel
theorem xX3_addRibbon_39 : dcd mX3_addRibbon 39 = some (.iload 3, 1, 0, 0) := by decide +kernel
theorem xX3_addRibbon_40 : dcd mX3_addRibbon 40 = some (.iastore, 1, 0, 0) := by decide +kernel
theorem xX3_addRibbon_41 : dcd mX3_addRibbon 41 = some (.aload 0, 1, 0, 0) := by decide +kernel
theorem xX3_addRibbon_42 : dcd mX3_addRibbon 42 = some (.getfield 37, 3, 0, 0) := by decide +kernel
theorem xX3_addRibbon_45 : dcd mX3_addRibbon 45 = some (.aload 0, 1, 0, 0) := by decide +kernel
theorem xX3_addRibbon_46 : dcd mX3_addRibbon 46 = some (.getfield 53, 3, 0, 0) := by decide +kernel
theorem xX3_addRibbon_49 : dcd mX3_addRibbon 49 = some (.iload 4, 2, 0, 0) := by decide +kernel
theorem xX3_addRibbon_51 : dcd mX3_addRibbon 51 = some (.iastore, 1, 0, 0) := by decide +kernel
theorem xX3_addRibbon_52 : dcd mX3_addRibbon 52 = some (.aload 0, 1, 0, 0) := by decide +kernel
theorem xX3_addRibbon_53 : dcd mX3_addRibbon 53 = some (.getfield 40, 3, 0, 0) := by decide +kernel
theorem xX3_addRibbon_56 : dcd mX3_addRibbon 56 = some (.aload 0, 1, 0, 0) := by decide +kernel
theorem xX3_addRibbon_57 : dcd mX3_addRibbon 57 = some (.getfield 53, 3, 0, 0) := by decide +kernel
theorem xX3_addRibbon_60 : dcd mX3_addRibbon 60 = some (.iload 5, 2, 0, 0) := by decide +kernel
theorem xX3_addRibbon_62 : dcd mX3_addRibbon 62 = some (.iastore, 1, 0, 0) := by decide +kernel
theorem xX3_addRibbon_63 : dcd mX3_addRibbon 63 = some (.aload 0, 1, 0, 0) := by decide +kernel
theorem xX3_addRibbon_64 : dcd mX3_addRibbon 64 = some (.getfield 43, 3, 0, 0) := by decide +kernel
theorem xX3_addRibbon_67 : dcd mX3_addRibbon 67 = some (.aload 0, 1, 0, 0) := by decide +kernel
theorem xX3_addRibbon_68 : dcd mX3_addRibbon 68 = some (.getfield 53, 3, 0, 0) := by decide +kernel
theorem xX3_addRibbon_71 : dcd mX3_addRibbon 71 = some (.iload 6, 2, 0, 0) := by decide +kernel
theorem xX3_addRibbon_73 : dcd mX3_addRibbon 73 = some (.iastore, 1, 0, 0) := by decide +kernel
theorem xX3_addRibbon_74 : dcd mX3_addRibbon 74 = some (.aload 0, 1, 0, 0) := by decide +kernel
theorem xX3_addRibbon_75 : dcd mX3_addRibbon 75 = some (.getfield 46, 3, 0, 0) := by decide +kernel
theorem xX3_addRibbon_78 : dcd mX3_addRibbon 78 = some (.aload 0, 1, 0, 0) := by decide +kernel
theorem xX3_addRibbon_79 : dcd mX3_addRibbon 79 = some (.getfield 53, 3, 0, 0) := by decide +kernel
theorem xX3_addRibbon_82 : dcd mX3_addRibbon 82 = some (.iconst 0, 1, 0, 1) := by decide +kernel
theorem xX3_addRibbon_83 : dcd mX3_addRibbon 83 = some (.bastore, 1, 0, 0) := by decide +kernel
theorem xX3_addRibbon_84 : dcd mX3_addRibbon 84 = some (.aload 0, 1, 0, 0) := by decide +kernel
theorem xX3_addRibbon_85 : dcd mX3_addRibbon 85 = some (.dup, 1, 0, 0) := by decide +kernel
theorem xX3_addRibbon_86 : dcd mX3_addRibbon 86 = some (.getfield 53, 3, 0, 0) := by decide +kernel
theorem xX3_addRibbon_89 : dcd mX3_addRibbon 89 = some (.iconst 0, 1, 0, 1) := by decide +kernel
theorem xX3_addRibbon_90 : dcd mX3_addRibbon 90 = some (.iadd, 1, 0, 0) := by decide +kernel
theorem xX3_addRibbon_91 : dcd mX3_addRibbon 91 = some (.putfield 53, 3, 0, 0) := by decide +kernel
theorem xX3_addRibbon_94 : dcd mX3_addRibbon 94 = some (.aload 0, 1, 0, 0) := by decide +kernel
theorem xX3_addRibbon_95 : dcd mX3_addRibbon 95 = some (.getfield 53, 3, 0, 0) := by decide +kernel
theorem xX3_addRibbon_98 : dcd mX3_addRibbon 98 = some (.iconst 0, 1, 0, 1) := by decide +kernel
theorem xX3_addRibbon_99 : dcd mX3_addRibbon 99 = some (.isub, 1, 0, 0) := by decide +kernel
theorem xX3_addRibbon_100 : dcd mX3_addRibbon 100 = some (.ireturn, 1, 0, 0) := by decide +kernel
theorem xX3_hasRod_0 : dcd mX3_hasRod 0 = some (.iload 1, 1, 0, 0) := by decide +kernel
theorem xX3_hasRod_1 : dcd mX3_hasRod 1 = some (.ifCond .lt 0, 3, 16, 0) := by decide +kernel
theorem xX3_hasRod_4 : dcd mX3_hasRod 4 = some (.iload 1, 1, 0, 0) := by decide +kernel
theorem xX3_hasRod_5 : dcd mX3_hasRod 5 = some (.aload 0, 1, 0, 0) := by decide +kernel
theorem xX3_hasRod_6 : dcd mX3_hasRod 6 = some (.getfield 49, 3, 0, 0) := by decide +kernel
theorem xX3_hasRod_9 : dcd mX3_hasRod 9 = some (.if_icmp .ge 0, 3, 16, 0) := by decide +kernel
theorem xX3_hasRod_12 : dcd mX3_hasRod 12 = some (.iconst 0, 1, 0, 1) := by decide +kernel
theorem xX3_hasRod_13 : dcd mX3_hasRod 13 = some (.goto 0, 3, 17, 0) := by decide +kernel
theorem xX3_hasRod_16 : dcd mX3_hasRod 16 = some (.iconst 0, 1, 0, 0) := by decide +kernel
theorem xX3_hasRod_17 : dcd mX3_hasRod 17 = some (.ireturn, 1, 0, 0) := by decide +kernel
theorem xX3_hasRibbon_0 : dcd mX3_hasRibbon 0 = some (.iload 1, 1, 0, 0) := by decide +kernel
theorem xX3_hasRibbon_1 : dcd mX3_hasRibbon 1 = some (.ifCond .lt 0, 3, 16, 0) := by decide +kernel
theorem xX3_hasRibbon_4 : dcd mX3_hasRibbon 4 = some (.iload 1, 1, 0, 0) := by decide +kernel
theorem xX3_hasRibbon_5 : dcd mX3_hasRibbon 5 = some (.aload 0, 1, 0, 0) := by decide +kernel
theorem xX3_hasRibbon_6 : dcd mX3_hasRibbon 6 = some (.getfield 53, 3, 0, 0) := by decide +kernel
theorem xX3_hasRibbon_9 : dcd mX3_hasRibbon 9 = some (.if_icmp .ge 0, 3, 16, 0) := by decide +kernel
theorem xX3_hasRibbon_12 : dcd mX3_hasRibbon 12 = some (.iconst 0, 1, 0, 1) := by decide +kernel
theorem xX3_hasRibbon_13 : dcd mX3_hasRibbon 13 = some (.goto 0, 3, 17, 0) := by decide +kernel
theorem xX3_hasRibbon_16 : dcd mX3_hasRibbon 16 = some (.iconst 0, 1, 0, 0) := by decide +kernel
theorem xX3_hasRibbon_17 : dcd mX3_hasRibbon 17 = some (.ireturn, 1, 0, 0) := by decide +kernel
theorem xX3_isHanging_0 : dcd mX3_isHanging 0 = some (.aload 0, 1, 0, 0) := by decide +kernel
theorem xX3_isHanging_1 : dcd mX3_isHanging 1 = some (.iload 1, 1, 0, 0) := by decide +kernel
theorem xX3_isHanging_2 : dcd mX3_isHanging 2 = some (.invokevirtual 56, 3, 0, 0) := by decide +kernel
theorem xX3_isHanging_5 : dcd mX3_isHanging 5 = some (.ifCond .eq 0, 3, 21, 0) := by decide +kernel
theorem xX3_isHanging_8 : dcd mX3_isHanging 8 = some (.aload 0, 1, 0, 0) := by decide +kernel
theorem xX3_isHanging_9 : dcd mX3_isHanging 9 = some (.getfield 46, 3, 0, 0) := by decide +kernel
theorem xX3_isHanging_12 : dcd mX3_isHanging 12 = some (.iload 1, 1, 0, 0) := by decide +kernel
theorem xX3_isHanging_13 : dcd mX3_isHanging 13 = some (.baload, 1, 0, 0) := by decide +kernel
theorem xX3_isHanging_14 : dcd mX3_isHanging 14 = some (.ifCond .eq 0, 3, 21, 0) := by decide +kernel
theorem xX3_isHanging_17 : dcd mX3_isHanging 17 = some (.iconst 0, 1, 0, 1) := by decide +kernel
theorem xX3_isHanging_18 : dcd mX3_isHanging 18 = some (.goto 0, 3, 22, 0) := by decide +kernel
theorem xX3_isHanging_21 : dcd mX3_isHanging 21 = some (.iconst 0, 1, 0, 0) := by decide +kernel
theorem xX3_isHanging_22 : dcd mX3_isHanging 22 = some (.ireturn, 1, 0, 0) := by decide +kernel
theorem xX3_isWhiteOf_0 : dcd mX3_isWhiteOf 0 = some (.aload 0, 1, 0, 0) := by decide +kernel
theorem xX3_isWhiteOf_1 : dcd mX3_isWhiteOf 1 = some (.iload 1, 1, 0, 0) := by decide +kernel
theorem xX3_isWhiteOf_2 : dcd mX3_isWhiteOf 2 = some (.invokevirtual 56, 3, 0, 0) := by decide +kernel
theorem xX3_isWhiteOf_5 : dcd mX3_isWhiteOf 5 = some (.ifCond .eq 0, 3, 40, 0) := by decide +kernel
theorem xX3_isWhiteOf_8 : dcd mX3_isWhiteOf 8 = some (.aload 0, 1, 0, 0) := by decide +kernel
theorem xX3_isWhiteOf_9 : dcd mX3_isWhiteOf 9 = some (.getfield 46, 3, 0, 0) := by decide +kernel
theorem xX3_isWhiteOf_12 : dcd mX3_isWhiteOf 12 = some (.iload 1, 1, 0, 0) := by decide +kernel
theorem xX3_isWhiteOf_13 : dcd mX3_isWhiteOf 13 = some (.baload, 1, 0, 0) := by decide +kernel
theorem xX3_isWhiteOf_14 : dcd mX3_isWhiteOf 14 = some (.ifCond .eq 0, 3, 40, 0) := by decide +kernel
theorem xX3_isWhiteOf_17 : dcd mX3_isWhiteOf 17 = some (.aload 0, 1, 0, 0) := by decide +kernel
theorem xX3_isWhiteOf_18 : dcd mX3_isWhiteOf 18 = some (.getfield 37, 3, 0, 0) := by decide +kernel
theorem xX3_isWhiteOf_21 : dcd mX3_isWhiteOf 21 = some (.iload 1, 1, 0, 0) := by decide +kernel
theorem xX3_isWhiteOf_22 : dcd mX3_isWhiteOf 22 = some (.iaload, 1, 0, 0) := by decide +kernel
theorem xX3_isWhiteOf_23 : dcd mX3_isWhiteOf 23 = some (.ifCond .ne 0, 3, 40, 0) := by decide +kernel
theorem xX3_isWhiteOf_26 : dcd mX3_isWhiteOf 26 = some (.aload 0, 1, 0, 0) := by decide +kernel
theorem xX3_isWhiteOf_27 : dcd mX3_isWhiteOf 27 = some (.getfield 40, 3, 0, 0) := by decide +kernel
theorem xX3_isWhiteOf_30 : dcd mX3_isWhiteOf 30 = some (.iload 1, 1, 0, 0) := by decide +kernel
theorem xX3_isWhiteOf_31 : dcd mX3_isWhiteOf 31 = some (.iaload, 1, 0, 0) := by decide +kernel
theorem xX3_isWhiteOf_32 : dcd mX3_isWhiteOf 32 = some (.iload 2, 1, 0, 0) := by decide +kernel
theorem xX3_isWhiteOf_33 : dcd mX3_isWhiteOf 33 = some (.if_icmp .ne 0, 3, 40, 0) := by decide +kernel
theorem xX3_isWhiteOf_36 : dcd mX3_isWhiteOf 36 = some (.iconst 0, 1, 0, 1) := by decide +kernel
theorem xX3_isWhiteOf_37 : dcd mX3_isWhiteOf 37 = some (.goto 0, 3, 41, 0) := by decide +kernel
theorem xX3_isWhiteOf_40 : dcd mX3_isWhiteOf 40 = some (.iconst 0, 1, 0, 0) := by decide +kernel
theorem xX3_isWhiteOf_41 : dcd mX3_isWhiteOf 41 = some (.ireturn, 1, 0, 0) := by decide +kernel
theorem xX3_isDebt_0 : dcd mX3_isDebt 0 = some (.aload 0, 1, 0, 0) := by decide +kernel
theorem xX3_isDebt_1 : dcd mX3_isDebt 1 = some (.iload 1, 1, 0, 0) := by decide +kernel
theorem xX3_isDebt_2 : dcd mX3_isDebt 2 = some (.invokevirtual 56, 3, 0, 0) := by decide +kernel
theorem xX3_isDebt_5 : dcd mX3_isDebt 5 = some (.ifCond .eq 0, 3, 51, 0) := by decide +kernel
theorem xX3_isDebt_8 : dcd mX3_isDebt 8 = some (.aload 0, 1, 0, 0) := by decide +kernel
theorem xX3_isDebt_9 : dcd mX3_isDebt 9 = some (.getfield 46, 3, 0, 0) := by decide +kernel
theorem xX3_isDebt_12 : dcd mX3_isDebt 12 = some (.iload 1, 1, 0, 0) := by decide +kernel
theorem xX3_isDebt_13 : dcd mX3_isDebt 13 = some (.baload, 1, 0, 0) := by decide +kernel
theorem xX3_isDebt_14 : dcd mX3_isDebt 14 = some (.ifCond .eq 0, 3, 51, 0) := by decide +kernel
theorem xX3_isDebt_17 : dcd mX3_isDebt 17 = some (.aload 0, 1, 0, 0) := by decide +kernel
theorem xX3_isDebt_18 : dcd mX3_isDebt 18 = some (.getfield 37, 3, 0, 0) := by decide +kernel
theorem xX3_isDebt_21 : dcd mX3_isDebt 21 = some (.iload 1, 1, 0, 0) := by decide +kernel
theorem xX3_isDebt_22 : dcd mX3_isDebt 22 = some (.iaload, 1, 0, 0) := by decide +kernel
theorem xX3_isDebt_23 : dcd mX3_isDebt 23 = some (.iconst 0, 1, 0, 1) := by decide +kernel
theorem xX3_isDebt_24 : dcd mX3_isDebt 24 = some (.if_icmp .ne 0, 3, 51, 0) := by decide +kernel
theorem xX3_isDebt_27 : dcd mX3_isDebt 27 = some (.aload 0, 1, 0, 0) := by decide +kernel
theorem xX3_isDebt_28 : dcd mX3_isDebt 28 = some (.getfield 40, 3, 0, 0) := by decide +kernel
theorem xX3_isDebt_31 : dcd mX3_isDebt 31 = some (.iload 1, 1, 0, 0) := by decide +kernel
theorem xX3_isDebt_32 : dcd mX3_isDebt 32 = some (.iaload, 1, 0, 0) := by decide +kernel
theorem xX3_isDebt_33 : dcd mX3_isDebt 33 = some (.iload 2, 1, 0, 0) := by decide +kernel
theorem xX3_isDebt_34 : dcd mX3_isDebt 34 = some (.if_icmp .ne 0, 3, 51, 0) := by decide +kernel
theorem xX3_isDebt_37 : dcd mX3_isDebt 37 = some (.aload 0, 1, 0, 0) := by decide +kernel
theorem xX3_isDebt_38 : dcd mX3_isDebt 38 = some (.getfield 43, 3, 0, 0) := by decide +kernel
theorem xX3_isDebt_41 : dcd mX3_isDebt 41 = some (.iload 1, 1, 0, 0) := by decide +kernel
theorem xX3_isDebt_42 : dcd mX3_isDebt 42 = some (.iaload, 1, 0, 0) := by decide +kernel
theorem xX3_isDebt_43 : dcd mX3_isDebt 43 = some (.iload 3, 1, 0, 0) := by decide +kernel
theorem xX3_isDebt_44 : dcd mX3_isDebt 44 = some (.if_icmp .ne 0, 3, 51, 0) := by decide +kernel
theorem xX3_isDebt_47 : dcd mX3_isDebt 47 = some (.iconst 0, 1, 0, 1) := by decide +kernel
theorem xX3_isDebt_48 : dcd mX3_isDebt 48 = some (.goto 0, 3, 52, 0) := by decide +kernel
theorem xX3_isDebt_51 : dcd mX3_isDebt 51 = some (.iconst 0, 1, 0, 0) := by decide +kernel
theorem xX3_isDebt_52 : dcd mX3_isDebt 52 = some (.ireturn, 1, 0, 0) := by decide +kernel
theorem xX3_hanging_0 : dcd mX3_hanging 0 = some (.iconst 0, 1, 0, 0) := by decide +kernel
theorem xX3_hanging_1 : dcd mX3_hanging 1 = some (.istore 1, 1, 0, 0) := by decide +kernel
theorem xX3_hanging_2 : dcd mX3_hanging 2 = some (.iconst 0, 1, 0, 0) := by decide +kernel
theorem xX3_hanging_3 : dcd mX3_hanging 3 = some (.istore 2, 1, 0, 0) := by decide +kernel
theorem xX3_hanging_4 : dcd mX3_hanging 4 = some (.iload 2, 1, 0, 0) := by decide +kernel
theorem xX3_hanging_5 : dcd mX3_hanging 5 = some (.aload 0, 1, 0, 0) := by decide +kernel
theorem xX3_hanging_6 : dcd mX3_hanging 6 = some (.getfield 53, 3, 0, 0) := by decide +kernel
theorem xX3_hanging_9 : dcd mX3_hanging 9 = some (.if_icmp .ge 0, 3, 30, 0) := by decide +kernel
theorem xX3_hanging_12 : dcd mX3_hanging 12 = some (.aload 0, 1, 0, 0) := by decide +kernel
theorem xX3_hanging_13 : dcd mX3_hanging 13 = some (.getfield 46, 3, 0, 0) := by decide +kernel
theorem xX3_hanging_16 : dcd mX3_hanging 16 = some (.iload 2, 1, 0, 0) := by decide +kernel
theorem xX3_hanging_17 : dcd mX3_hanging 17 = some (.baload, 1, 0, 0) := by decide +kernel
theorem xX3_hanging_18 : dcd mX3_hanging 18 = some (.ifCond .eq 0, 3, 24, 0) := by decide +kernel
theorem xX3_hanging_21 : dcd mX3_hanging 21 = some (.iinc 1 0, 3, 0, 1) := by decide +kernel
theorem xX3_hanging_24 : dcd mX3_hanging 24 = some (.iinc 2 0, 3, 0, 1) := by decide +kernel
theorem xX3_hanging_27 : dcd mX3_hanging 27 = some (.goto 0, 3, 4, 0) := by decide +kernel
theorem xX3_hanging_30 : dcd mX3_hanging 30 = some (.iload 1, 1, 0, 0) := by decide +kernel
theorem xX3_hanging_31 : dcd mX3_hanging 31 = some (.ireturn, 1, 0, 0) := by decide +kernel
theorem xX3_seenRods_0 : dcd mX3_seenRods 0 = some (.iconst 0, 1, 0, 0) := by decide +kernel
theorem xX3_seenRods_1 : dcd mX3_seenRods 1 = some (.istore 1, 1, 0, 0) := by decide +kernel
theorem xX3_seenRods_2 : dcd mX3_seenRods 2 = some (.iconst 0, 1, 0, 0) := by decide +kernel
theorem xX3_seenRods_3 : dcd mX3_seenRods 3 = some (.istore 2, 1, 0, 0) := by decide +kernel
theorem xX3_seenRods_4 : dcd mX3_seenRods 4 = some (.iload 2, 1, 0, 0) := by decide +kernel
theorem xX3_seenRods_5 : dcd mX3_seenRods 5 = some (.aload 0, 1, 0, 0) := by decide +kernel
theorem xX3_seenRods_6 : dcd mX3_seenRods 6 = some (.getfield 49, 3, 0, 0) := by decide +kernel
theorem xX3_seenRods_9 : dcd mX3_seenRods 9 = some (.if_icmp .ge 0, 3, 30, 0) := by decide +kernel
theorem xX3_seenRods_12 : dcd mX3_seenRods 12 = some (.aload 0, 1, 0, 0) := by decide +kernel
theorem xX3_seenRods_13 : dcd mX3_seenRods 13 = some (.getfield 21, 3, 0, 0) := by decide +kernel
theorem xX3_seenRods_16 : dcd mX3_seenRods 16 = some (.iload 2, 1, 0, 0) := by decide +kernel
theorem xX3_seenRods_17 : dcd mX3_seenRods 17 = some (.baload, 1, 0, 0) := by decide +kernel
theorem xX3_seenRods_18 : dcd mX3_seenRods 18 = some (.ifCond .eq 0, 3, 24, 0) := by decide +kernel
theorem xX3_seenRods_21 : dcd mX3_seenRods 21 = some (.iinc 1 0, 3, 0, 1) := by decide +kernel
theorem xX3_seenRods_24 : dcd mX3_seenRods 24 = some (.iinc 2 0, 3, 0, 1) := by decide +kernel
theorem xX3_seenRods_27 : dcd mX3_seenRods 27 = some (.goto 0, 3, 4, 0) := by decide +kernel
theorem xX3_seenRods_30 : dcd mX3_seenRods 30 = some (.iload 1, 1, 0, 0) := by decide +kernel
theorem xX3_seenRods_31 : dcd mX3_seenRods 31 = some (.ireturn, 1, 0, 0) := by decide +kernel
theorem xX3_balanceOf_0 : dcd mX3_balanceOf 0 = some (.iconst 0, 1, 0, 0) := by decide +kernel
theorem xX3_balanceOf_1 : dcd mX3_balanceOf 1 = some (.istore 2, 1, 0, 0) := by decide +kernel
theorem xX3_balanceOf_2 : dcd mX3_balanceOf 2 = some (.iconst 0, 1, 0, 0) := by decide +kernel
theorem xX3_balanceOf_3 : dcd mX3_balanceOf 3 = some (.istore 3, 1, 0, 0) := by decide +kernel
theorem xX3_balanceOf_4 : dcd mX3_balanceOf 4 = some (.iload 3, 1, 0, 0) := by decide +kernel
theorem xX3_balanceOf_5 : dcd mX3_balanceOf 5 = some (.aload 0, 1, 0, 0) := by decide +kernel
theorem xX3_balanceOf_6 : dcd mX3_balanceOf 6 = some (.getfield 53, 3, 0, 0) := by decide +kernel
theorem xX3_balanceOf_9 : dcd mX3_balanceOf 9 = some (.if_icmp .ge 0, 3, 90, 0) := by decide +kernel
theorem xX3_balanceOf_12 : dcd mX3_balanceOf 12 = some (.aload 0, 1, 0, 0) := by decide +kernel
theorem xX3_balanceOf_13 : dcd mX3_balanceOf 13 = some (.getfield 46, 3, 0, 0) := by decide +kernel
theorem xX3_balanceOf_16 : dcd mX3_balanceOf 16 = some (.iload 3, 1, 0, 0) := by decide +kernel
theorem xX3_balanceOf_17 : dcd mX3_balanceOf 17 = some (.baload, 1, 0, 0) := by decide +kernel
theorem xX3_balanceOf_18 : dcd mX3_balanceOf 18 = some (.ifCond .ne 0, 3, 24, 0) := by decide +kernel
theorem xX3_balanceOf_21 : dcd mX3_balanceOf 21 = some (.goto 0, 3, 84, 0) := by decide +kernel
theorem xX3_balanceOf_24 : dcd mX3_balanceOf 24 = some (.aload 0, 1, 0, 0) := by decide +kernel
theorem xX3_balanceOf_25 : dcd mX3_balanceOf 25 = some (.getfield 40, 3, 0, 0) := by decide +kernel
theorem xX3_balanceOf_28 : dcd mX3_balanceOf 28 = some (.iload 3, 1, 0, 0) := by decide +kernel
theorem xX3_balanceOf_29 : dcd mX3_balanceOf 29 = some (.iaload, 1, 0, 0) := by decide +kernel
theorem xX3_balanceOf_30 : dcd mX3_balanceOf 30 = some (.iload 1, 1, 0, 0) := by decide +kernel
theorem xX3_balanceOf_31 : dcd mX3_balanceOf 31 = some (.if_icmp .ne 0, 3, 65, 0) := by decide +kernel
theorem xX3_balanceOf_34 : dcd mX3_balanceOf 34 = some (.iload 2, 1, 0, 0) := by decide +kernel
theorem xX3_balanceOf_35 : dcd mX3_balanceOf 35 = some (.aload 0, 1, 0, 0) := by decide +kernel
theorem xX3_balanceOf_36 : dcd mX3_balanceOf 36 = some (.getfield 37, 3, 0, 0) := by decide +kernel
theorem xX3_balanceOf_39 : dcd mX3_balanceOf 39 = some (.iload 3, 1, 0, 0) := by decide +kernel
theorem xX3_balanceOf_40 : dcd mX3_balanceOf 40 = some (.iaload, 1, 0, 0) := by decide +kernel
theorem xX3_balanceOf_41 : dcd mX3_balanceOf 41 = some (.ifCond .ne 0, 3, 53, 0) := by decide +kernel
theorem xX3_balanceOf_44 : dcd mX3_balanceOf 44 = some (.aload 0, 1, 0, 0) := by decide +kernel
theorem xX3_balanceOf_45 : dcd mX3_balanceOf 45 = some (.getfield 34, 3, 0, 0) := by decide +kernel
theorem xX3_balanceOf_48 : dcd mX3_balanceOf 48 = some (.iload 3, 1, 0, 0) := by decide +kernel
theorem xX3_balanceOf_49 : dcd mX3_balanceOf 49 = some (.iaload, 1, 0, 0) := by decide +kernel
theorem xX3_balanceOf_50 : dcd mX3_balanceOf 50 = some (.goto 0, 3, 60, 0) := by decide +kernel
theorem xX3_balanceOf_53 : dcd mX3_balanceOf 53 = some (.aload 0, 1, 0, 0) := by decide +kernel
theorem xX3_balanceOf_54 : dcd mX3_balanceOf 54 = some (.getfield 34, 3, 0, 0) := by decide +kernel
theorem xX3_balanceOf_57 : dcd mX3_balanceOf 57 = some (.iload 3, 1, 0, 0) := by decide +kernel
theorem xX3_balanceOf_58 : dcd mX3_balanceOf 58 = some (.iaload, 1, 0, 0) := by decide +kernel
theorem xX3_balanceOf_59 : dcd mX3_balanceOf 59 = some (.ineg, 1, 0, 0) := by decide +kernel
theorem xX3_balanceOf_60 : dcd mX3_balanceOf 60 = some (.iadd, 1, 0, 0) := by decide +kernel
theorem xX3_balanceOf_61 : dcd mX3_balanceOf 61 = some (.istore 2, 1, 0, 0) := by decide +kernel
theorem xX3_balanceOf_62 : dcd mX3_balanceOf 62 = some (.goto 0, 3, 84, 0) := by decide +kernel
theorem xX3_balanceOf_65 : dcd mX3_balanceOf 65 = some (.aload 0, 1, 0, 0) := by decide +kernel
theorem xX3_balanceOf_66 : dcd mX3_balanceOf 66 = some (.getfield 43, 3, 0, 0) := by decide +kernel
theorem xX3_balanceOf_69 : dcd mX3_balanceOf 69 = some (.iload 3, 1, 0, 0) := by decide +kernel
theorem xX3_balanceOf_70 : dcd mX3_balanceOf 70 = some (.iaload, 1, 0, 0) := by decide +kernel
theorem xX3_balanceOf_71 : dcd mX3_balanceOf 71 = some (.iload 1, 1, 0, 0) := by decide +kernel
theorem xX3_balanceOf_72 : dcd mX3_balanceOf 72 = some (.if_icmp .ne 0, 3, 84, 0) := by decide +kernel
theorem xX3_balanceOf_75 : dcd mX3_balanceOf 75 = some (.iload 2, 1, 0, 0) := by decide +kernel
theorem xX3_balanceOf_76 : dcd mX3_balanceOf 76 = some (.aload 0, 1, 0, 0) := by decide +kernel
theorem xX3_balanceOf_77 : dcd mX3_balanceOf 77 = some (.getfield 34, 3, 0, 0) := by decide +kernel
theorem xX3_balanceOf_80 : dcd mX3_balanceOf 80 = some (.iload 3, 1, 0, 0) := by decide +kernel
theorem xX3_balanceOf_81 : dcd mX3_balanceOf 81 = some (.iaload, 1, 0, 0) := by decide +kernel
theorem xX3_balanceOf_82 : dcd mX3_balanceOf 82 = some (.iadd, 1, 0, 0) := by decide +kernel
theorem xX3_balanceOf_83 : dcd mX3_balanceOf 83 = some (.istore 2, 1, 0, 0) := by decide +kernel
theorem xX3_balanceOf_84 : dcd mX3_balanceOf 84 = some (.iinc 3 0, 3, 0, 1) := by decide +kernel
theorem xX3_balanceOf_87 : dcd mX3_balanceOf 87 = some (.goto 0, 3, 4, 0) := by decide +kernel
theorem xX3_balanceOf_90 : dcd mX3_balanceOf 90 = some (.iload 2, 1, 0, 0) := by decide +kernel
theorem xX3_balanceOf_91 : dcd mX3_balanceOf 91 = some (.ireturn, 1, 0, 0) := by decide +kernel
theorem xX3_debt_0 : dcd mX3_debt 0 = some (.iconst 0, 1, 0, 0) := by decide +kernel
theorem xX3_debt_1 : dcd mX3_debt 1 = some (.istore 3, 1, 0, 0) := by decide +kernel
theorem xX3_debt_2 : dcd mX3_debt 2 = some (.iconst 0, 1, 0, 0) := by decide +kernel
theorem xX3_debt_3 : dcd mX3_debt 3 = some (.istore 4, 2, 0, 0) := by decide +kernel
theorem xX3_debt_5 : dcd mX3_debt 5 = some (.iload 4, 2, 0, 0) := by decide +kernel
theorem xX3_debt_7 : dcd mX3_debt 7 = some (.aload 0, 1, 0, 0) := by decide +kernel
theorem xX3_debt_8 : dcd mX3_debt 8 = some (.getfield 53, 3, 0, 0) := by decide +kernel
theorem xX3_debt_11 : dcd mX3_debt 11 = some (.if_icmp .ge 0, 3, 41, 0) := by decide +kernel
theorem xX3_debt_14 : dcd mX3_debt 14 = some (.aload 0, 1, 0, 0) := by decide +kernel
theorem xX3_debt_15 : dcd mX3_debt 15 = some (.iload 4, 2, 0, 0) := by decide +kernel
theorem xX3_debt_17 : dcd mX3_debt 17 = some (.iload 1, 1, 0, 0) := by decide +kernel
theorem xX3_debt_18 : dcd mX3_debt 18 = some (.iload 2, 1, 0, 0) := by decide +kernel
theorem xX3_debt_19 : dcd mX3_debt 19 = some (.invokevirtual 60, 3, 0, 0) := by decide +kernel
theorem xX3_debt_22 : dcd mX3_debt 22 = some (.ifCond .eq 0, 3, 35, 0) := by decide +kernel
theorem xX3_debt_25 : dcd mX3_debt 25 = some (.iload 3, 1, 0, 0) := by decide +kernel
theorem xX3_debt_26 : dcd mX3_debt 26 = some (.aload 0, 1, 0, 0) := by decide +kernel
theorem xX3_debt_27 : dcd mX3_debt 27 = some (.getfield 34, 3, 0, 0) := by decide +kernel
theorem xX3_debt_30 : dcd mX3_debt 30 = some (.iload 4, 2, 0, 0) := by decide +kernel
theorem xX3_debt_32 : dcd mX3_debt 32 = some (.iaload, 1, 0, 0) := by decide +kernel
theorem xX3_debt_33 : dcd mX3_debt 33 = some (.iadd, 1, 0, 0) := by decide +kernel
theorem xX3_debt_34 : dcd mX3_debt 34 = some (.istore 3, 1, 0, 0) := by decide +kernel
theorem xX3_debt_35 : dcd mX3_debt 35 = some (.iinc 4 0, 3, 0, 1) := by decide +kernel
theorem xX3_debt_38 : dcd mX3_debt 38 = some (.goto 0, 3, 5, 0) := by decide +kernel
theorem xX3_debt_41 : dcd mX3_debt 41 = some (.iload 3, 1, 0, 0) := by decide +kernel
theorem xX3_debt_42 : dcd mX3_debt 42 = some (.ireturn, 1, 0, 0) := by decide +kernel
theorem xX3_cutDebt_0 : dcd mX3_cutDebt 0 = some (.iload 3, 1, 0, 0) := by decide +kernel
theorem xX3_cutDebt_1 : dcd mX3_cutDebt 1 = some (.istore 4, 2, 0, 0) := by decide +kernel
theorem xX3_cutDebt_3 : dcd mX3_cutDebt 3 = some (.iconst 0, 1, 0, 0) := by decide +kernel
theorem xX3_cutDebt_4 : dcd mX3_cutDebt 4 = some (.istore 5, 2, 0, 0) := by decide +kernel
theorem xX3_cutDebt_6 : dcd mX3_cutDebt 6 = some (.iload 5, 2, 0, 0) := by decide +kernel
theorem xX3_cutDebt_8 : dcd mX3_cutDebt 8 = some (.aload 0, 1, 0, 0) := by decide +kernel
theorem xX3_cutDebt_9 : dcd mX3_cutDebt 9 = some (.getfield 53, 3, 0, 0) := by decide +kernel
theorem xX3_cutDebt_12 : dcd mX3_cutDebt 12 = some (.if_icmp .ge 0, 3, 92, 0) := by decide +kernel
theorem xX3_cutDebt_15 : dcd mX3_cutDebt 15 = some (.iload 4, 2, 0, 0) := by decide +kernel
theorem xX3_cutDebt_17 : dcd mX3_cutDebt 17 = some (.ifCond .le 0, 3, 92, 0) := by decide +kernel
theorem xX3_cutDebt_20 : dcd mX3_cutDebt 20 = some (.aload 0, 1, 0, 0) := by decide +kernel
theorem xX3_cutDebt_21 : dcd mX3_cutDebt 21 = some (.iload 5, 2, 0, 0) := by decide +kernel
theorem xX3_cutDebt_23 : dcd mX3_cutDebt 23 = some (.iload 1, 1, 0, 0) := by decide +kernel
theorem xX3_cutDebt_24 : dcd mX3_cutDebt 24 = some (.iload 2, 1, 0, 0) := by decide +kernel
theorem xX3_cutDebt_25 : dcd mX3_cutDebt 25 = some (.invokevirtual 60, 3, 0, 0) := by decide +kernel
theorem xX3_cutDebt_28 : dcd mX3_cutDebt 28 = some (.ifCond .eq 0, 3, 86, 0) := by decide +kernel
theorem xX3_cutDebt_31 : dcd mX3_cutDebt 31 = some (.iload 4, 2, 0, 0) := by decide +kernel
theorem xX3_cutDebt_33 : dcd mX3_cutDebt 33 = some (.aload 0, 1, 0, 0) := by decide +kernel
theorem xX3_cutDebt_34 : dcd mX3_cutDebt 34 = some (.getfield 34, 3, 0, 0) := by decide +kernel
theorem xX3_cutDebt_37 : dcd mX3_cutDebt 37 = some (.iload 5, 2, 0, 0) := by decide +kernel
theorem xX3_cutDebt_39 : dcd mX3_cutDebt 39 = some (.iaload, 1, 0, 0) := by decide +kernel
theorem xX3_cutDebt_40 : dcd mX3_cutDebt 40 = some (.invokestatic 64, 3, 0, 0) := by decide +kernel
theorem xX3_cutDebt_43 : dcd mX3_cutDebt 43 = some (.istore 6, 2, 0, 0) := by decide +kernel
theorem xX3_cutDebt_45 : dcd mX3_cutDebt 45 = some (.aload 0, 1, 0, 0) := by decide +kernel
theorem xX3_cutDebt_46 : dcd mX3_cutDebt 46 = some (.getfield 34, 3, 0, 0) := by decide +kernel
theorem xX3_cutDebt_49 : dcd mX3_cutDebt 49 = some (.iload 5, 2, 0, 0) := by decide +kernel
theorem xX3_cutDebt_51 : dcd mX3_cutDebt 51 = some (.dup2, 1, 0, 0) := by decide +kernel
theorem xX3_cutDebt_52 : dcd mX3_cutDebt 52 = some (.iaload, 1, 0, 0) := by decide +kernel
theorem xX3_cutDebt_53 : dcd mX3_cutDebt 53 = some (.iload 6, 2, 0, 0) := by decide +kernel
theorem xX3_cutDebt_55 : dcd mX3_cutDebt 55 = some (.isub, 1, 0, 0) := by decide +kernel
theorem xX3_cutDebt_56 : dcd mX3_cutDebt 56 = some (.iastore, 1, 0, 0) := by decide +kernel
theorem xX3_cutDebt_57 : dcd mX3_cutDebt 57 = some (.iload 4, 2, 0, 0) := by decide +kernel
theorem xX3_cutDebt_59 : dcd mX3_cutDebt 59 = some (.iload 6, 2, 0, 0) := by decide +kernel
theorem xX3_cutDebt_61 : dcd mX3_cutDebt 61 = some (.isub, 1, 0, 0) := by decide +kernel
theorem xX3_cutDebt_62 : dcd mX3_cutDebt 62 = some (.istore 4, 2, 0, 0) := by decide +kernel
theorem xX3_cutDebt_64 : dcd mX3_cutDebt 64 = some (.aload 0, 1, 0, 0) := by decide +kernel
theorem xX3_cutDebt_65 : dcd mX3_cutDebt 65 = some (.getfield 46, 3, 0, 0) := by decide +kernel
theorem xX3_cutDebt_68 : dcd mX3_cutDebt 68 = some (.iload 5, 2, 0, 0) := by decide +kernel
theorem xX3_cutDebt_70 : dcd mX3_cutDebt 70 = some (.aload 0, 1, 0, 0) := by decide +kernel
theorem xX3_cutDebt_71 : dcd mX3_cutDebt 71 = some (.getfield 34, 3, 0, 0) := by decide +kernel
theorem xX3_cutDebt_74 : dcd mX3_cutDebt 74 = some (.iload 5, 2, 0, 0) := by decide +kernel
theorem xX3_cutDebt_76 : dcd mX3_cutDebt 76 = some (.iaload, 1, 0, 0) := by decide +kernel
theorem xX3_cutDebt_77 : dcd mX3_cutDebt 77 = some (.ifCond .le 0, 3, 84, 0) := by decide +kernel
theorem xX3_cutDebt_80 : dcd mX3_cutDebt 80 = some (.iconst 0, 1, 0, 1) := by decide +kernel
theorem xX3_cutDebt_81 : dcd mX3_cutDebt 81 = some (.goto 0, 3, 85, 0) := by decide +kernel
theorem xX3_cutDebt_84 : dcd mX3_cutDebt 84 = some (.iconst 0, 1, 0, 0) := by decide +kernel
theorem xX3_cutDebt_85 : dcd mX3_cutDebt 85 = some (.bastore, 1, 0, 0) := by decide +kernel
theorem xX3_cutDebt_86 : dcd mX3_cutDebt 86 = some (.iinc 5 0, 3, 0, 1) := by decide +kernel
theorem xX3_cutDebt_89 : dcd mX3_cutDebt 89 = some (.goto 0, 3, 6, 0) := by decide +kernel
theorem xX3_cutDebt_92 : dcd mX3_cutDebt 92 = some (.return_, 1, 0, 0) := by decide +kernel
theorem xX3_copyFrom_0 : dcd mX3_copyFrom 0 = some (.aload 1, 1, 0, 0) := by decide +kernel
theorem xX3_copyFrom_1 : dcd mX3_copyFrom 1 = some (.getfield 9, 3, 0, 0) := by decide +kernel
theorem xX3_copyFrom_4 : dcd mX3_copyFrom 4 = some (.iconst 0, 1, 0, 0) := by decide +kernel
theorem xX3_copyFrom_5 : dcd mX3_copyFrom 5 = some (.aload 0, 1, 0, 0) := by decide +kernel
theorem xX3_copyFrom_6 : dcd mX3_copyFrom 6 = some (.getfield 9, 3, 0, 0) := by decide +kernel
theorem xX3_copyFrom_9 : dcd mX3_copyFrom 9 = some (.iconst 0, 1, 0, 0) := by decide +kernel
theorem xX3_copyFrom_10 : dcd mX3_copyFrom 10 = some (.iconst 0, 2, 0, 10) := by decide +kernel
theorem xX3_copyFrom_12 : dcd mX3_copyFrom 12 = some (.invokestatic 70, 3, 0, 0) := by decide +kernel
theorem xX3_copyFrom_15 : dcd mX3_copyFrom 15 = some (.aload 1, 1, 0, 0) := by decide +kernel
theorem xX3_copyFrom_16 : dcd mX3_copyFrom 16 = some (.getfield 15, 3, 0, 0) := by decide +kernel
theorem xX3_copyFrom_19 : dcd mX3_copyFrom 19 = some (.iconst 0, 1, 0, 0) := by decide +kernel
theorem xX3_copyFrom_20 : dcd mX3_copyFrom 20 = some (.aload 0, 1, 0, 0) := by decide +kernel
theorem xX3_copyFrom_21 : dcd mX3_copyFrom 21 = some (.getfield 15, 3, 0, 0) := by decide +kernel
theorem xX3_copyFrom_24 : dcd mX3_copyFrom 24 = some (.iconst 0, 1, 0, 0) := by decide +kernel
theorem xX3_copyFrom_25 : dcd mX3_copyFrom 25 = some (.iconst 0, 2, 0, 10) := by decide +kernel
theorem xX3_copyFrom_27 : dcd mX3_copyFrom 27 = some (.invokestatic 70, 3, 0, 0) := by decide +kernel
theorem xX3_copyFrom_30 : dcd mX3_copyFrom 30 = some (.aload 1, 1, 0, 0) := by decide +kernel
theorem xX3_copyFrom_31 : dcd mX3_copyFrom 31 = some (.getfield 18, 3, 0, 0) := by decide +kernel
theorem xX3_copyFrom_34 : dcd mX3_copyFrom 34 = some (.iconst 0, 1, 0, 0) := by decide +kernel
theorem xX3_copyFrom_35 : dcd mX3_copyFrom 35 = some (.aload 0, 1, 0, 0) := by decide +kernel
theorem xX3_copyFrom_36 : dcd mX3_copyFrom 36 = some (.getfield 18, 3, 0, 0) := by decide +kernel
theorem xX3_copyFrom_39 : dcd mX3_copyFrom 39 = some (.iconst 0, 1, 0, 0) := by decide +kernel
theorem xX3_copyFrom_40 : dcd mX3_copyFrom 40 = some (.iconst 0, 2, 0, 10) := by decide +kernel
theorem xX3_copyFrom_42 : dcd mX3_copyFrom 42 = some (.invokestatic 70, 3, 0, 0) := by decide +kernel
theorem xX3_copyFrom_45 : dcd mX3_copyFrom 45 = some (.aload 1, 1, 0, 0) := by decide +kernel
theorem xX3_copyFrom_46 : dcd mX3_copyFrom 46 = some (.getfield 21, 3, 0, 0) := by decide +kernel
theorem xX3_copyFrom_49 : dcd mX3_copyFrom 49 = some (.iconst 0, 1, 0, 0) := by decide +kernel
theorem xX3_copyFrom_50 : dcd mX3_copyFrom 50 = some (.aload 0, 1, 0, 0) := by decide +kernel
theorem xX3_copyFrom_51 : dcd mX3_copyFrom 51 = some (.getfield 21, 3, 0, 0) := by decide +kernel
theorem xX3_copyFrom_54 : dcd mX3_copyFrom 54 = some (.iconst 0, 1, 0, 0) := by decide +kernel
theorem xX3_copyFrom_55 : dcd mX3_copyFrom 55 = some (.iconst 0, 2, 0, 10) := by decide +kernel
theorem xX3_copyFrom_57 : dcd mX3_copyFrom 57 = some (.invokestatic 70, 3, 0, 0) := by decide +kernel
theorem xX3_copyFrom_60 : dcd mX3_copyFrom 60 = some (.aload 1, 1, 0, 0) := by decide +kernel
theorem xX3_copyFrom_61 : dcd mX3_copyFrom 61 = some (.getfield 25, 3, 0, 0) := by decide +kernel
theorem xX3_copyFrom_64 : dcd mX3_copyFrom 64 = some (.iconst 0, 1, 0, 0) := by decide +kernel
theorem xX3_copyFrom_65 : dcd mX3_copyFrom 65 = some (.aload 0, 1, 0, 0) := by decide +kernel
theorem xX3_copyFrom_66 : dcd mX3_copyFrom 66 = some (.getfield 25, 3, 0, 0) := by decide +kernel
theorem xX3_copyFrom_69 : dcd mX3_copyFrom 69 = some (.iconst 0, 1, 0, 0) := by decide +kernel
theorem xX3_copyFrom_70 : dcd mX3_copyFrom 70 = some (.iconst 0, 2, 0, 10) := by decide +kernel
theorem xX3_copyFrom_72 : dcd mX3_copyFrom 72 = some (.invokestatic 70, 3, 0, 0) := by decide +kernel
theorem xX3_copyFrom_75 : dcd mX3_copyFrom 75 = some (.aload 1, 1, 0, 0) := by decide +kernel
theorem xX3_copyFrom_76 : dcd mX3_copyFrom 76 = some (.getfield 28, 3, 0, 0) := by decide +kernel
theorem xX3_copyFrom_79 : dcd mX3_copyFrom 79 = some (.iconst 0, 1, 0, 0) := by decide +kernel
theorem xX3_copyFrom_80 : dcd mX3_copyFrom 80 = some (.aload 0, 1, 0, 0) := by decide +kernel
theorem xX3_copyFrom_81 : dcd mX3_copyFrom 81 = some (.getfield 28, 3, 0, 0) := by decide +kernel
theorem xX3_copyFrom_84 : dcd mX3_copyFrom 84 = some (.iconst 0, 1, 0, 0) := by decide +kernel
theorem xX3_copyFrom_85 : dcd mX3_copyFrom 85 = some (.iconst 0, 2, 0, 40) := by decide +kernel
theorem xX3_copyFrom_87 : dcd mX3_copyFrom 87 = some (.invokestatic 70, 3, 0, 0) := by decide +kernel
theorem xX3_copyFrom_90 : dcd mX3_copyFrom 90 = some (.aload 1, 1, 0, 0) := by decide +kernel
theorem xX3_copyFrom_91 : dcd mX3_copyFrom 91 = some (.getfield 31, 3, 0, 0) := by decide +kernel
theorem xX3_copyFrom_94 : dcd mX3_copyFrom 94 = some (.iconst 0, 1, 0, 0) := by decide +kernel
theorem xX3_copyFrom_95 : dcd mX3_copyFrom 95 = some (.aload 0, 1, 0, 0) := by decide +kernel
theorem xX3_copyFrom_96 : dcd mX3_copyFrom 96 = some (.getfield 31, 3, 0, 0) := by decide +kernel
theorem xX3_copyFrom_99 : dcd mX3_copyFrom 99 = some (.iconst 0, 1, 0, 0) := by decide +kernel
theorem xX3_copyFrom_100 : dcd mX3_copyFrom 100 = some (.iconst 0, 2, 0, 40) := by decide +kernel
theorem xX3_copyFrom_102 : dcd mX3_copyFrom 102 = some (.invokestatic 70, 3, 0, 0) := by decide +kernel
theorem xX3_copyFrom_105 : dcd mX3_copyFrom 105 = some (.aload 1, 1, 0, 0) := by decide +kernel
theorem xX3_copyFrom_106 : dcd mX3_copyFrom 106 = some (.getfield 34, 3, 0, 0) := by decide +kernel
theorem xX3_copyFrom_109 : dcd mX3_copyFrom 109 = some (.iconst 0, 1, 0, 0) := by decide +kernel
theorem xX3_copyFrom_110 : dcd mX3_copyFrom 110 = some (.aload 0, 1, 0, 0) := by decide +kernel
theorem xX3_copyFrom_111 : dcd mX3_copyFrom 111 = some (.getfield 34, 3, 0, 0) := by decide +kernel
theorem xX3_copyFrom_114 : dcd mX3_copyFrom 114 = some (.iconst 0, 1, 0, 0) := by decide +kernel
theorem xX3_copyFrom_115 : dcd mX3_copyFrom 115 = some (.iconst 0, 2, 0, 40) := by decide +kernel
theorem xX3_copyFrom_117 : dcd mX3_copyFrom 117 = some (.invokestatic 70, 3, 0, 0) := by decide +kernel
theorem xX3_copyFrom_120 : dcd mX3_copyFrom 120 = some (.aload 1, 1, 0, 0) := by decide +kernel
theorem xX3_copyFrom_121 : dcd mX3_copyFrom 121 = some (.getfield 37, 3, 0, 0) := by decide +kernel
theorem xX3_copyFrom_124 : dcd mX3_copyFrom 124 = some (.iconst 0, 1, 0, 0) := by decide +kernel
theorem xX3_copyFrom_125 : dcd mX3_copyFrom 125 = some (.aload 0, 1, 0, 0) := by decide +kernel
theorem xX3_copyFrom_126 : dcd mX3_copyFrom 126 = some (.getfield 37, 3, 0, 0) := by decide +kernel
theorem xX3_copyFrom_129 : dcd mX3_copyFrom 129 = some (.iconst 0, 1, 0, 0) := by decide +kernel
theorem xX3_copyFrom_130 : dcd mX3_copyFrom 130 = some (.iconst 0, 2, 0, 40) := by decide +kernel
theorem xX3_copyFrom_132 : dcd mX3_copyFrom 132 = some (.invokestatic 70, 3, 0, 0) := by decide +kernel
theorem xX3_copyFrom_135 : dcd mX3_copyFrom 135 = some (.aload 1, 1, 0, 0) := by decide +kernel
theorem xX3_copyFrom_136 : dcd mX3_copyFrom 136 = some (.getfield 40, 3, 0, 0) := by decide +kernel
theorem xX3_copyFrom_139 : dcd mX3_copyFrom 139 = some (.iconst 0, 1, 0, 0) := by decide +kernel
theorem xX3_copyFrom_140 : dcd mX3_copyFrom 140 = some (.aload 0, 1, 0, 0) := by decide +kernel
theorem xX3_copyFrom_141 : dcd mX3_copyFrom 141 = some (.getfield 40, 3, 0, 0) := by decide +kernel
theorem xX3_copyFrom_144 : dcd mX3_copyFrom 144 = some (.iconst 0, 1, 0, 0) := by decide +kernel
theorem xX3_copyFrom_145 : dcd mX3_copyFrom 145 = some (.iconst 0, 2, 0, 40) := by decide +kernel
theorem xX3_copyFrom_147 : dcd mX3_copyFrom 147 = some (.invokestatic 70, 3, 0, 0) := by decide +kernel
theorem xX3_copyFrom_150 : dcd mX3_copyFrom 150 = some (.aload 1, 1, 0, 0) := by decide +kernel
theorem xX3_copyFrom_151 : dcd mX3_copyFrom 151 = some (.getfield 43, 3, 0, 0) := by decide +kernel
theorem xX3_copyFrom_154 : dcd mX3_copyFrom 154 = some (.iconst 0, 1, 0, 0) := by decide +kernel
theorem xX3_copyFrom_155 : dcd mX3_copyFrom 155 = some (.aload 0, 1, 0, 0) := by decide +kernel
theorem xX3_copyFrom_156 : dcd mX3_copyFrom 156 = some (.getfield 43, 3, 0, 0) := by decide +kernel
theorem xX3_copyFrom_159 : dcd mX3_copyFrom 159 = some (.iconst 0, 1, 0, 0) := by decide +kernel
theorem xX3_copyFrom_160 : dcd mX3_copyFrom 160 = some (.iconst 0, 2, 0, 40) := by decide +kernel
theorem xX3_copyFrom_162 : dcd mX3_copyFrom 162 = some (.invokestatic 70, 3, 0, 0) := by decide +kernel
theorem xX3_copyFrom_165 : dcd mX3_copyFrom 165 = some (.aload 1, 1, 0, 0) := by decide +kernel
theorem xX3_copyFrom_166 : dcd mX3_copyFrom 166 = some (.getfield 46, 3, 0, 0) := by decide +kernel
theorem xX3_copyFrom_169 : dcd mX3_copyFrom 169 = some (.iconst 0, 1, 0, 0) := by decide +kernel
theorem xX3_copyFrom_170 : dcd mX3_copyFrom 170 = some (.aload 0, 1, 0, 0) := by decide +kernel
theorem xX3_copyFrom_171 : dcd mX3_copyFrom 171 = some (.getfield 46, 3, 0, 0) := by decide +kernel
theorem xX3_copyFrom_174 : dcd mX3_copyFrom 174 = some (.iconst 0, 1, 0, 0) := by decide +kernel
theorem xX3_copyFrom_175 : dcd mX3_copyFrom 175 = some (.iconst 0, 2, 0, 40) := by decide +kernel
theorem xX3_copyFrom_177 : dcd mX3_copyFrom 177 = some (.invokestatic 70, 3, 0, 0) := by decide +kernel
theorem xX3_copyFrom_180 : dcd mX3_copyFrom 180 = some (.aload 0, 1, 0, 0) := by decide +kernel
theorem xX3_copyFrom_181 : dcd mX3_copyFrom 181 = some (.aload 1, 1, 0, 0) := by decide +kernel
theorem xX3_copyFrom_182 : dcd mX3_copyFrom 182 = some (.getfield 49, 3, 0, 0) := by decide +kernel
theorem xX3_copyFrom_185 : dcd mX3_copyFrom 185 = some (.putfield 49, 3, 0, 0) := by decide +kernel
theorem xX3_copyFrom_188 : dcd mX3_copyFrom 188 = some (.aload 0, 1, 0, 0) := by decide +kernel
theorem xX3_copyFrom_189 : dcd mX3_copyFrom 189 = some (.aload 1, 1, 0, 0) := by decide +kernel
theorem xX3_copyFrom_190 : dcd mX3_copyFrom 190 = some (.getfield 53, 3, 0, 0) := by decide +kernel
theorem xX3_copyFrom_193 : dcd mX3_copyFrom 193 = some (.putfield 53, 3, 0, 0) := by decide +kernel
theorem xX3_copyFrom_196 : dcd mX3_copyFrom 196 = some (.aload 0, 1, 0, 0) := by decide +kernel
theorem xX3_copyFrom_197 : dcd mX3_copyFrom 197 = some (.aload 1, 1, 0, 0) := by decide +kernel
theorem xX3_copyFrom_198 : dcd mX3_copyFrom 198 = some (.getfield 76, 3, 0, 0) := by decide +kernel
theorem xX3_copyFrom_201 : dcd mX3_copyFrom 201 = some (.putfield 76, 3, 0, 0) := by decide +kernel
theorem xX3_copyFrom_204 : dcd mX3_copyFrom 204 = some (.aload 0, 1, 0, 0) := by decide +kernel
theorem xX3_copyFrom_205 : dcd mX3_copyFrom 205 = some (.aload 1, 1, 0, 0) := by decide +kernel
theorem xX3_copyFrom_206 : dcd mX3_copyFrom 206 = some (.getfield 79, 3, 0, 0) := by decide +kernel
theorem xX3_copyFrom_209 : dcd mX3_copyFrom 209 = some (.putfield 79, 3, 0, 0) := by decide +kernel
theorem xX3_copyFrom_212 : dcd mX3_copyFrom 212 = some (.return_, 1, 0, 0) := by decide +kernel
theorem xX4_init_0 : dcd mX4_init 0 = some (.aload 0, 1, 0, 0) := by decide +kernel
theorem xX4_init_1 : dcd mX4_init 1 = some (.invokespecial 3, 3, 0, 0) := by decide +kernel
theorem xX4_init_4 : dcd mX4_init 4 = some (.aload 0, 1, 0, 0) := by decide +kernel
theorem xX4_init_5 : dcd mX4_init 5 = some (.iconst 0, 2, 0, 6) := by decide +kernel
theorem xX4_init_7 : dcd mX4_init 7 = some (.newarray .int, 2, 0, 0) := by decide +kernel
theorem xX4_init_9 : dcd mX4_init 9 = some (.putfield 9, 3, 0, 0) := by decide +kernel
theorem xX4_init_12 : dcd mX4_init 12 = some (.aload 0, 1, 0, 0) := by decide +kernel
theorem xX4_init_13 : dcd mX4_init 13 = some (.iconst 0, 2, 0, 6) := by decide +kernel
theorem xX4_init_15 : dcd mX4_init 15 = some (.newarray .int, 2, 0, 0) := by decide +kernel
theorem xX4_init_17 : dcd mX4_init 17 = some (.putfield 15, 3, 0, 0) := by decide +kernel
theorem xX4_init_20 : dcd mX4_init 20 = some (.aload 0, 1, 0, 0) := by decide +kernel
theorem xX4_init_21 : dcd mX4_init 21 = some (.iconst 0, 2, 0, 6) := by decide +kernel
theorem xX4_init_23 : dcd mX4_init 23 = some (.newarray .int, 2, 0, 0) := by decide +kernel
theorem xX4_init_25 : dcd mX4_init 25 = some (.putfield 18, 3, 0, 0) := by decide +kernel
theorem xX4_init_28 : dcd mX4_init 28 = some (.aload 0, 1, 0, 0) := by decide +kernel
theorem xX4_init_29 : dcd mX4_init 29 = some (.iconst 0, 2, 0, 6) := by decide +kernel
theorem xX4_init_31 : dcd mX4_init 31 = some (.iconst 0, 2, 0, 6) := by decide +kernel
theorem xX4_init_33 : dcd mX4_init 33 = some (.multianewarray 21 2, 4, 0, 0) := by decide +kernel
theorem xX4_init_37 : dcd mX4_init 37 = some (.putfield 23, 3, 0, 0) := by decide +kernel
theorem xX4_init_40 : dcd mX4_init 40 = some (.aload 0, 1, 0, 0) := by decide +kernel
theorem xX4_init_41 : dcd mX4_init 41 = some (.iconst 0, 2, 0, 6) := by decide +kernel
theorem xX4_init_43 : dcd mX4_init 43 = some (.iconst 0, 2, 0, 6) := by decide +kernel
theorem xX4_init_45 : dcd mX4_init 45 = some (.multianewarray 21 2, 4, 0, 0) := by decide +kernel
theorem xX4_init_49 : dcd mX4_init 49 = some (.putfield 26, 3, 0, 0) := by decide +kernel
theorem xX4_init_52 : dcd mX4_init 52 = some (.aload 0, 1, 0, 0) := by decide +kernel
theorem xX4_init_53 : dcd mX4_init 53 = some (.iconst 0, 2, 0, 6) := by decide +kernel
theorem xX4_init_55 : dcd mX4_init 55 = some (.newarray .int, 2, 0, 0) := by decide +kernel
theorem xX4_init_57 : dcd mX4_init 57 = some (.putfield 29, 3, 0, 0) := by decide +kernel
theorem xX4_init_60 : dcd mX4_init 60 = some (.aload 0, 1, 0, 0) := by decide +kernel
theorem xX4_init_61 : dcd mX4_init 61 = some (.iconst 0, 2, 0, 6) := by decide +kernel
theorem xX4_init_63 : dcd mX4_init 63 = some (.newarray .int, 2, 0, 0) := by decide +kernel
theorem xX4_init_65 : dcd mX4_init 65 = some (.putfield 32, 3, 0, 0) := by decide +kernel
theorem xX4_init_68 : dcd mX4_init 68 = some (.aload 0, 1, 0, 0) := by decide +kernel
theorem xX4_init_69 : dcd mX4_init 69 = some (.aload 1, 1, 0, 0) := by decide +kernel
theorem xX4_init_70 : dcd mX4_init 70 = some (.putfield 35, 3, 0, 0) := by decide +kernel
theorem xX4_init_73 : dcd mX4_init 73 = some (.aload 0, 1, 0, 0) := by decide +kernel
theorem xX4_init_74 : dcd mX4_init 74 = some (.aload 2, 1, 0, 0) := by decide +kernel
theorem xX4_init_75 : dcd mX4_init 75 = some (.putfield 39, 3, 0, 0) := by decide +kernel
theorem xX4_init_78 : dcd mX4_init 78 = some (.aload 0, 1, 0, 0) := by decide +kernel
theorem xX4_init_79 : dcd mX4_init 79 = some (.aload 3, 1, 0, 0) := by decide +kernel
theorem xX4_init_80 : dcd mX4_init 80 = some (.putfield 43, 3, 0, 0) := by decide +kernel
theorem xX4_init_83 : dcd mX4_init 83 = some (.return_, 1, 0, 0) := by decide +kernel
theorem xX4_read_0 : dcd mX4_read 0 = some (.aload 0, 1, 0, 0) := by decide +kernel
theorem xX4_read_1 : dcd mX4_read 1 = some (.iconst 0, 1, 0, 0) := by decide +kernel
theorem xX4_read_2 : dcd mX4_read 2 = some (.iconst 0, 2, 0, 6) := by decide +kernel
theorem xX4_read_4 : dcd mX4_read 4 = some (.iload 2, 1, 0, 0) := by decide +kernel
theorem xX4_read_5 : dcd mX4_read 5 = some (.invokestatic 47, 3, 0, 0) := by decide +kernel
theorem xX4_read_8 : dcd mX4_read 8 = some (.invokestatic 53, 3, 0, 0) := by decide +kernel
theorem xX4_read_11 : dcd mX4_read 11 = some (.putfield 56, 3, 0, 0) := by decide +kernel
theorem xX4_read_14 : dcd mX4_read 14 = some (.iconst 0, 1, 0, 0) := by decide +kernel
theorem xX4_read_15 : dcd mX4_read 15 = some (.istore 3, 1, 0, 0) := by decide +kernel
theorem xX4_read_16 : dcd mX4_read 16 = some (.iload 3, 1, 0, 0) := by decide +kernel
theorem xX4_read_17 : dcd mX4_read 17 = some (.aload 0, 1, 0, 0) := by decide +kernel
theorem xX4_read_18 : dcd mX4_read 18 = some (.getfield 56, 3, 0, 0) := by decide +kernel
theorem xX4_read_21 : dcd mX4_read 21 = some (.if_icmp .ge 0, 3, 130, 0) := by decide +kernel
theorem xX4_read_24 : dcd mX4_read 24 = some (.aload 0, 1, 0, 0) := by decide +kernel
theorem xX4_read_25 : dcd mX4_read 25 = some (.getfield 9, 3, 0, 0) := by decide +kernel
theorem xX4_read_28 : dcd mX4_read 28 = some (.iload 3, 1, 0, 0) := by decide +kernel
theorem xX4_read_29 : dcd mX4_read 29 = some (.aload 1, 1, 0, 0) := by decide +kernel
theorem xX4_read_30 : dcd mX4_read 30 = some (.iconst 0, 1, 0, 3) := by decide +kernel
theorem xX4_read_31 : dcd mX4_read 31 = some (.iload 3, 1, 0, 0) := by decide +kernel
theorem xX4_read_32 : dcd mX4_read 32 = some (.imul, 1, 0, 0) := by decide +kernel
theorem xX4_read_33 : dcd mX4_read 33 = some (.invokevirtual 60, 3, 0, 0) := by decide +kernel
theorem xX4_read_36 : dcd mX4_read 36 = some (.iastore, 1, 0, 0) := by decide +kernel
theorem xX4_read_37 : dcd mX4_read 37 = some (.aload 0, 1, 0, 0) := by decide +kernel
theorem xX4_read_38 : dcd mX4_read 38 = some (.getfield 15, 3, 0, 0) := by decide +kernel
theorem xX4_read_41 : dcd mX4_read 41 = some (.iload 3, 1, 0, 0) := by decide +kernel
theorem xX4_read_42 : dcd mX4_read 42 = some (.aload 1, 1, 0, 0) := by decide +kernel
theorem xX4_read_43 : dcd mX4_read 43 = some (.iconst 0, 1, 0, 3) := by decide +kernel
theorem xX4_read_44 : dcd mX4_read 44 = some (.iload 3, 1, 0, 0) := by decide +kernel
theorem xX4_read_45 : dcd mX4_read 45 = some (.imul, 1, 0, 0) := by decide +kernel
theorem xX4_read_46 : dcd mX4_read 46 = some (.iconst 0, 1, 0, 1) := by decide +kernel
theorem xX4_read_47 : dcd mX4_read 47 = some (.iadd, 1, 0, 0) := by decide +kernel
theorem xX4_read_48 : dcd mX4_read 48 = some (.invokevirtual 60, 3, 0, 0) := by decide +kernel
theorem xX4_read_51 : dcd mX4_read 51 = some (.iastore, 1, 0, 0) := by decide +kernel
theorem xX4_read_52 : dcd mX4_read 52 = some (.aload 0, 1, 0, 0) := by decide +kernel
theorem xX4_read_53 : dcd mX4_read 53 = some (.getfield 18, 3, 0, 0) := by decide +kernel
theorem xX4_read_56 : dcd mX4_read 56 = some (.iload 3, 1, 0, 0) := by decide +kernel
theorem xX4_read_57 : dcd mX4_read 57 = some (.aload 1, 1, 0, 0) := by decide +kernel
theorem xX4_read_58 : dcd mX4_read 58 = some (.iconst 0, 1, 0, 3) := by decide +kernel
theorem xX4_read_59 : dcd mX4_read 59 = some (.iload 3, 1, 0, 0) := by decide +kernel
theorem xX4_read_60 : dcd mX4_read 60 = some (.imul, 1, 0, 0) := by decide +kernel
theorem xX4_read_61 : dcd mX4_read 61 = some (.iconst 0, 1, 0, 2) := by decide +kernel
theorem xX4_read_62 : dcd mX4_read 62 = some (.iadd, 1, 0, 0) := by decide +kernel
theorem xX4_read_63 : dcd mX4_read 63 = some (.invokevirtual 60, 3, 0, 0) := by decide +kernel
theorem xX4_read_66 : dcd mX4_read 66 = some (.iconst 0, 2, 0, 9) := by decide +kernel
theorem xX4_read_68 : dcd mX4_read 68 = some (.isub, 1, 0, 0) := by decide +kernel
theorem xX4_read_69 : dcd mX4_read 69 = some (.iastore, 1, 0, 0) := by decide +kernel
theorem xX4_read_70 : dcd mX4_read 70 = some (.aload 0, 1, 0, 0) := by decide +kernel
theorem xX4_read_71 : dcd mX4_read 71 = some (.getfield 35, 3, 0, 0) := by decide +kernel
theorem xX4_read_74 : dcd mX4_read 74 = some (.aload 0, 1, 0, 0) := by decide +kernel
theorem xX4_read_75 : dcd mX4_read 75 = some (.getfield 9, 3, 0, 0) := by decide +kernel
theorem xX4_read_78 : dcd mX4_read 78 = some (.iload 3, 1, 0, 0) := by decide +kernel
theorem xX4_read_79 : dcd mX4_read 79 = some (.iaload, 1, 0, 0) := by decide +kernel
theorem xX4_read_80 : dcd mX4_read 80 = some (.invokevirtual 66, 3, 0, 0) := by decide +kernel
theorem xX4_read_83 : dcd mX4_read 83 = some (.ifCond .eq 0, 3, 122, 0) := by decide +kernel
theorem xX4_read_86 : dcd mX4_read 86 = some (.aload 0, 1, 0, 0) := by decide +kernel
theorem xX4_read_87 : dcd mX4_read 87 = some (.getfield 35, 3, 0, 0) := by decide +kernel
theorem xX4_read_90 : dcd mX4_read 90 = some (.aload 0, 1, 0, 0) := by decide +kernel
theorem xX4_read_91 : dcd mX4_read 91 = some (.getfield 15, 3, 0, 0) := by decide +kernel
theorem xX4_read_94 : dcd mX4_read 94 = some (.iload 3, 1, 0, 0) := by decide +kernel
theorem xX4_read_95 : dcd mX4_read 95 = some (.iaload, 1, 0, 0) := by decide +kernel
theorem xX4_read_96 : dcd mX4_read 96 = some (.invokevirtual 72, 3, 0, 0) := by decide +kernel
theorem xX4_read_99 : dcd mX4_read 99 = some (.ifCond .eq 0, 3, 122, 0) := by decide +kernel
theorem xX4_read_102 : dcd mX4_read 102 = some (.aload 0, 1, 0, 0) := by decide +kernel
theorem xX4_read_103 : dcd mX4_read 103 = some (.getfield 18, 3, 0, 0) := by decide +kernel
theorem xX4_read_106 : dcd mX4_read 106 = some (.iload 3, 1, 0, 0) := by decide +kernel
theorem xX4_read_107 : dcd mX4_read 107 = some (.iaload, 1, 0, 0) := by decide +kernel
theorem xX4_read_108 : dcd mX4_read 108 = some (.invokestatic 75, 3, 0, 0) := by decide +kernel
theorem xX4_read_111 : dcd mX4_read 111 = some (.ifCond .eq 0, 3, 122, 0) := by decide +kernel
theorem xX4_read_114 : dcd mX4_read 114 = some (.aload 0, 1, 0, 0) := by decide +kernel
theorem xX4_read_115 : dcd mX4_read 115 = some (.iload 3, 1, 0, 0) := by decide +kernel
theorem xX4_read_116 : dcd mX4_read 116 = some (.invokevirtual 78, 3, 0, 0) := by decide +kernel
theorem xX4_read_119 : dcd mX4_read 119 = some (.ifCond .eq 0, 3, 124, 0) := by decide +kernel
theorem xX4_read_122 : dcd mX4_read 122 = some (.iconst 0, 1, 0, 0) := by decide +kernel
theorem xX4_read_123 : dcd mX4_read 123 = some (.ireturn, 1, 0, 0) := by decide +kernel
theorem xX4_read_124 : dcd mX4_read 124 = some (.iinc 3 0, 3, 0, 1) := by decide +kernel
theorem xX4_read_127 : dcd mX4_read 127 = some (.goto 0, 3, 16, 0) := by decide +kernel
theorem xX4_read_130 : dcd mX4_read 130 = some (.iconst 0, 1, 0, 1) := by decide +kernel
theorem xX4_read_131 : dcd mX4_read 131 = some (.ireturn, 1, 0, 0) := by decide +kernel
theorem xX4_isTwice_0 : dcd mX4_isTwice 0 = some (.iconst 0, 1, 0, 0) := by decide +kernel
theorem xX4_isTwice_1 : dcd mX4_isTwice 1 = some (.istore 2, 1, 0, 0) := by decide +kernel
theorem xX4_isTwice_2 : dcd mX4_isTwice 2 = some (.iload 2, 1, 0, 0) := by decide +kernel
theorem xX4_isTwice_3 : dcd mX4_isTwice 3 = some (.iload 1, 1, 0, 0) := by decide +kernel
theorem xX4_isTwice_4 : dcd mX4_isTwice 4 = some (.if_icmp .ge 0, 3, 66, 0) := by decide +kernel
theorem xX4_isTwice_7 : dcd mX4_isTwice 7 = some (.iload 1, 1, 0, 0) := by decide +kernel
theorem xX4_isTwice_8 : dcd mX4_isTwice 8 = some (.iconst 0, 2, 0, 6) := by decide +kernel
theorem xX4_isTwice_10 : dcd mX4_isTwice 10 = some (.if_icmp .ge 0, 3, 66, 0) := by decide +kernel
theorem xX4_isTwice_13 : dcd mX4_isTwice 13 = some (.aload 0, 1, 0, 0) := by decide +kernel
theorem xX4_isTwice_14 : dcd mX4_isTwice 14 = some (.getfield 9, 3, 0, 0) := by decide +kernel
theorem xX4_isTwice_17 : dcd mX4_isTwice 17 = some (.iload 2, 1, 0, 0) := by decide +kernel
theorem xX4_isTwice_18 : dcd mX4_isTwice 18 = some (.iaload, 1, 0, 0) := by decide +kernel
theorem xX4_isTwice_19 : dcd mX4_isTwice 19 = some (.aload 0, 1, 0, 0) := by decide +kernel
theorem xX4_isTwice_20 : dcd mX4_isTwice 20 = some (.getfield 9, 3, 0, 0) := by decide +kernel
theorem xX4_isTwice_23 : dcd mX4_isTwice 23 = some (.iload 1, 1, 0, 0) := by decide +kernel
theorem xX4_isTwice_24 : dcd mX4_isTwice 24 = some (.iaload, 1, 0, 0) := by decide +kernel
theorem xX4_isTwice_25 : dcd mX4_isTwice 25 = some (.if_icmp .eq 0, 3, 58, 0) := by decide +kernel
theorem xX4_isTwice_28 : dcd mX4_isTwice 28 = some (.aload 0, 1, 0, 0) := by decide +kernel
theorem xX4_isTwice_29 : dcd mX4_isTwice 29 = some (.getfield 15, 3, 0, 0) := by decide +kernel
theorem xX4_isTwice_32 : dcd mX4_isTwice 32 = some (.iload 2, 1, 0, 0) := by decide +kernel
theorem xX4_isTwice_33 : dcd mX4_isTwice 33 = some (.iaload, 1, 0, 0) := by decide +kernel
theorem xX4_isTwice_34 : dcd mX4_isTwice 34 = some (.aload 0, 1, 0, 0) := by decide +kernel
theorem xX4_isTwice_35 : dcd mX4_isTwice 35 = some (.getfield 15, 3, 0, 0) := by decide +kernel
theorem xX4_isTwice_38 : dcd mX4_isTwice 38 = some (.iload 1, 1, 0, 0) := by decide +kernel
theorem xX4_isTwice_39 : dcd mX4_isTwice 39 = some (.iaload, 1, 0, 0) := by decide +kernel
theorem xX4_isTwice_40 : dcd mX4_isTwice 40 = some (.if_icmp .ne 0, 3, 60, 0) := by decide +kernel
theorem xX4_isTwice_43 : dcd mX4_isTwice 43 = some (.aload 0, 1, 0, 0) := by decide +kernel
theorem xX4_isTwice_44 : dcd mX4_isTwice 44 = some (.getfield 18, 3, 0, 0) := by decide +kernel
theorem xX4_isTwice_47 : dcd mX4_isTwice 47 = some (.iload 2, 1, 0, 0) := by decide +kernel
theorem xX4_isTwice_48 : dcd mX4_isTwice 48 = some (.iaload, 1, 0, 0) := by decide +kernel
theorem xX4_isTwice_49 : dcd mX4_isTwice 49 = some (.aload 0, 1, 0, 0) := by decide +kernel
theorem xX4_isTwice_50 : dcd mX4_isTwice 50 = some (.getfield 18, 3, 0, 0) := by decide +kernel
theorem xX4_isTwice_53 : dcd mX4_isTwice 53 = some (.iload 1, 1, 0, 0) := by decide +kernel
theorem xX4_isTwice_54 : dcd mX4_isTwice 54 = some (.iaload, 1, 0, 0) := by decide +kernel
theorem xX4_isTwice_55 : dcd mX4_isTwice 55 = some (.if_icmp .ne 0, 3, 60, 0) := by decide +kernel
theorem xX4_isTwice_58 : dcd mX4_isTwice 58 = some (.iconst 0, 1, 0, 1) := by decide +kernel
theorem xX4_isTwice_59 : dcd mX4_isTwice 59 = some (.ireturn, 1, 0, 0) := by decide +kernel
theorem xX4_isTwice_60 : dcd mX4_isTwice 60 = some (.iinc 2 0, 3, 0, 1) := by decide +kernel
theorem xX4_isTwice_63 : dcd mX4_isTwice 63 = some (.goto 0, 3, 2, 0) := by decide +kernel
theorem xX4_isTwice_66 : dcd mX4_isTwice 66 = some (.iconst 0, 1, 0, 0) := by decide +kernel
theorem xX4_isTwice_67 : dcd mX4_isTwice 67 = some (.ireturn, 1, 0, 0) := by decide +kernel
theorem xX4_search_0 : dcd mX4_search 0 = some (.aload 0, 1, 0, 0) := by decide +kernel
theorem xX4_search_1 : dcd mX4_search 1 = some (.getfield 43, 3, 0, 0) := by decide +kernel
theorem xX4_search_4 : dcd mX4_search 4 = some (.aload 0, 1, 0, 0) := by decide +kernel
theorem xX4_search_5 : dcd mX4_search 5 = some (.getfield 35, 3, 0, 0) := by decide +kernel
theorem xX4_search_8 : dcd mX4_search 8 = some (.getfield 81, 3, 0, 0) := by decide +kernel
theorem xX4_search_11 : dcd mX4_search 11 = some (.invokevirtual 84, 3, 0, 0) := by decide +kernel
theorem xX4_search_14 : dcd mX4_search 14 = some (.iconst 0, 1, 0, 0) := by decide +kernel
theorem xX4_search_15 : dcd mX4_search 15 = some (.istore 1, 1, 0, 0) := by decide +kernel
theorem xX4_search_16 : dcd mX4_search 16 = some (.iload 1, 1, 0, 0) := by decide +kernel
theorem xX4_search_17 : dcd mX4_search 17 = some (.aload 0, 1, 0, 0) := by decide +kernel
theorem xX4_search_18 : dcd mX4_search 18 = some (.getfield 56, 3, 0, 0) := by decide +kernel
theorem xX4_search_21 : dcd mX4_search 21 = some (.if_icmp .ge 0, 3, 98, 0) := by decide +kernel
theorem xX4_search_24 : dcd mX4_search 24 = some (.aload 0, 1, 0, 0) := by decide +kernel
theorem xX4_search_25 : dcd mX4_search 25 = some (.getfield 9, 3, 0, 0) := by decide +kernel
theorem xX4_search_28 : dcd mX4_search 28 = some (.iload 1, 1, 0, 0) := by decide +kernel
theorem xX4_search_29 : dcd mX4_search 29 = some (.iaload, 1, 0, 0) := by decide +kernel
theorem xX4_search_30 : dcd mX4_search 30 = some (.istore 2, 1, 0, 0) := by decide +kernel
theorem xX4_search_31 : dcd mX4_search 31 = some (.aload 0, 1, 0, 0) := by decide +kernel
theorem xX4_search_32 : dcd mX4_search 32 = some (.getfield 35, 3, 0, 0) := by decide +kernel
theorem xX4_search_35 : dcd mX4_search 35 = some (.iload 2, 1, 0, 0) := by decide +kernel
theorem xX4_search_36 : dcd mX4_search 36 = some (.invokevirtual 90, 3, 0, 0) := by decide +kernel
theorem xX4_search_39 : dcd mX4_search 39 = some (.ifCond .eq 0, 3, 87, 0) := by decide +kernel
theorem xX4_search_42 : dcd mX4_search 42 = some (.aload 0, 1, 0, 0) := by decide +kernel
theorem xX4_search_43 : dcd mX4_search 43 = some (.getfield 43, 3, 0, 0) := by decide +kernel
theorem xX4_search_46 : dcd mX4_search 46 = some (.aload 0, 1, 0, 0) := by decide +kernel
theorem xX4_search_47 : dcd mX4_search 47 = some (.getfield 35, 3, 0, 0) := by decide +kernel
theorem xX4_search_50 : dcd mX4_search 50 = some (.getfield 93, 3, 0, 0) := by decide +kernel
theorem xX4_search_53 : dcd mX4_search 53 = some (.iload 2, 1, 0, 0) := by decide +kernel
theorem xX4_search_54 : dcd mX4_search 54 = some (.iaload, 1, 0, 0) := by decide +kernel
theorem xX4_search_55 : dcd mX4_search 55 = some (.aload 0, 1, 0, 0) := by decide +kernel
theorem xX4_search_56 : dcd mX4_search 56 = some (.getfield 35, 3, 0, 0) := by decide +kernel
theorem xX4_search_59 : dcd mX4_search 59 = some (.getfield 96, 3, 0, 0) := by decide +kernel
theorem xX4_search_62 : dcd mX4_search 62 = some (.iload 2, 1, 0, 0) := by decide +kernel
theorem xX4_search_63 : dcd mX4_search 63 = some (.iaload, 1, 0, 0) := by decide +kernel
theorem xX4_search_64 : dcd mX4_search 64 = some (.aload 0, 1, 0, 0) := by decide +kernel
theorem xX4_search_65 : dcd mX4_search 65 = some (.getfield 43, 3, 0, 0) := by decide +kernel
theorem xX4_search_68 : dcd mX4_search 68 = some (.getfield 99, 3, 0, 0) := by decide +kernel
theorem xX4_search_71 : dcd mX4_search 71 = some (.iload 2, 1, 0, 0) := by decide +kernel
theorem xX4_search_72 : dcd mX4_search 72 = some (.iaload, 1, 0, 0) := by decide +kernel
theorem xX4_search_73 : dcd mX4_search 73 = some (.ineg, 1, 0, 0) := by decide +kernel
theorem xX4_search_74 : dcd mX4_search 74 = some (.aload 0, 1, 0, 0) := by decide +kernel
theorem xX4_search_75 : dcd mX4_search 75 = some (.getfield 43, 3, 0, 0) := by decide +kernel
theorem xX4_search_78 : dcd mX4_search 78 = some (.getfield 101, 3, 0, 0) := by decide +kernel
theorem xX4_search_81 : dcd mX4_search 81 = some (.iload 2, 1, 0, 0) := by decide +kernel
theorem xX4_search_82 : dcd mX4_search 82 = some (.iaload, 1, 0, 0) := by decide +kernel
theorem xX4_search_83 : dcd mX4_search 83 = some (.ineg, 1, 0, 0) := by decide +kernel
theorem xX4_search_84 : dcd mX4_search 84 = some (.invokevirtual 103, 3, 0, 0) := by decide +kernel
theorem xX4_search_87 : dcd mX4_search 87 = some (.aload 0, 1, 0, 0) := by decide +kernel
theorem xX4_search_88 : dcd mX4_search 88 = some (.iload 1, 1, 0, 0) := by decide +kernel
theorem xX4_search_89 : dcd mX4_search 89 = some (.invokevirtual 107, 3, 0, 0) := by decide +kernel
theorem xX4_search_92 : dcd mX4_search 92 = some (.iinc 1 0, 3, 0, 1) := by decide +kernel
theorem xX4_search_95 : dcd mX4_search 95 = some (.goto 0, 3, 16, 0) := by decide +kernel
theorem xX4_search_98 : dcd mX4_search 98 = some (.aload 0, 1, 0, 0) := by decide +kernel
theorem xX4_search_99 : dcd mX4_search 99 = some (.ldc 112, 2, 0, 0) := by decide +kernel
theorem xX4_search_101 : dcd mX4_search 101 = some (.putfield 113, 3, 0, 0) := by decide +kernel
theorem xX4_search_104 : dcd mX4_search 104 = some (.aload 0, 1, 0, 0) := by decide +kernel
theorem xX4_search_105 : dcd mX4_search 105 = some (.iconst 0, 1, 0, 0) := by decide +kernel
theorem xX4_search_106 : dcd mX4_search 106 = some (.iconst 0, 1, 0, 0) := by decide +kernel
theorem xX4_search_107 : dcd mX4_search 107 = some (.invokevirtual 116, 3, 0, 0) := by decide +kernel
theorem xX4_search_110 : dcd mX4_search 110 = some (.return_, 1, 0, 0) := by decide +kernel
theorem xX4_weighAtPlaces_0 : dcd mX4_weighAtPlaces 0 = some (.iconst 0, 1, 0, 0) := by decide +kernel
theorem xX4_weighAtPlaces_1 : dcd mX4_weighAtPlaces 1 = some (.istore 2, 1, 0, 0) := by decide +kernel
theorem xX4_weighAtPlaces_2 : dcd mX4_weighAtPlaces 2 = some (.iload 2, 1, 0, 0) := by decide +kernel
theorem xX4_weighAtPlaces_3 : dcd mX4_weighAtPlaces 3 = some (.aload 0, 1, 0, 0) := by decide +kernel
theorem xX4_weighAtPlaces_4 : dcd mX4_weighAtPlaces 4 = some (.getfield 56, 3, 0, 0) := by decide +kernel
theorem xX4_weighAtPlaces_7 : dcd mX4_weighAtPlaces 7 = some (.if_icmp .ge 0, 3, 116, 0) := by decide +kernel
theorem xX4_weighAtPlaces_10 : dcd mX4_weighAtPlaces 10 = some (.iload 1, 1, 0, 0) := by decide +kernel
theorem xX4_weighAtPlaces_11 : dcd mX4_weighAtPlaces 11 = some (.aload 0, 1, 0, 0) := by decide +kernel
theorem xX4_weighAtPlaces_12 : dcd mX4_weighAtPlaces 12 = some (.getfield 56, 3, 0, 0) := by decide +kernel
theorem xX4_weighAtPlaces_15 : dcd mX4_weighAtPlaces 15 = some (.if_icmp .ge 0, 3, 116, 0) := by decide +kernel
theorem xX4_weighAtPlaces_18 : dcd mX4_weighAtPlaces 18 = some (.aload 0, 1, 0, 0) := by decide +kernel
theorem xX4_weighAtPlaces_19 : dcd mX4_weighAtPlaces 19 = some (.getfield 9, 3, 0, 0) := by decide +kernel
theorem xX4_weighAtPlaces_22 : dcd mX4_weighAtPlaces 22 = some (.iload 1, 1, 0, 0) := by decide +kernel
theorem xX4_weighAtPlaces_23 : dcd mX4_weighAtPlaces 23 = some (.iaload, 1, 0, 0) := by decide +kernel
theorem xX4_weighAtPlaces_24 : dcd mX4_weighAtPlaces 24 = some (.istore 3, 1, 0, 0) := by decide +kernel
theorem xX4_weighAtPlaces_25 : dcd mX4_weighAtPlaces 25 = some (.aload 0, 1, 0, 0) := by decide +kernel
theorem xX4_weighAtPlaces_26 : dcd mX4_weighAtPlaces 26 = some (.getfield 35, 3, 0, 0) := by decide +kernel
theorem xX4_weighAtPlaces_29 : dcd mX4_weighAtPlaces 29 = some (.iload 3, 1, 0, 0) := by decide +kernel
theorem xX4_weighAtPlaces_30 : dcd mX4_weighAtPlaces 30 = some (.invokevirtual 90, 3, 0, 0) := by decide +kernel
theorem xX4_weighAtPlaces_33 : dcd mX4_weighAtPlaces 33 = some (.ifCond .eq 0, 3, 110, 0) := by decide +kernel
theorem xX4_weighAtPlaces_36 : dcd mX4_weighAtPlaces 36 = some (.aload 0, 1, 0, 0) := by decide +kernel
theorem xX4_weighAtPlaces_37 : dcd mX4_weighAtPlaces 37 = some (.getfield 39, 3, 0, 0) := by decide +kernel
theorem xX4_weighAtPlaces_40 : dcd mX4_weighAtPlaces 40 = some (.aload 0, 1, 0, 0) := by decide +kernel
theorem xX4_weighAtPlaces_41 : dcd mX4_weighAtPlaces 41 = some (.getfield 35, 3, 0, 0) := by decide +kernel
theorem xX4_weighAtPlaces_44 : dcd mX4_weighAtPlaces 44 = some (.iload 3, 1, 0, 0) := by decide +kernel
theorem xX4_weighAtPlaces_45 : dcd mX4_weighAtPlaces 45 = some (.aload 0, 1, 0, 0) := by decide +kernel
theorem xX4_weighAtPlaces_46 : dcd mX4_weighAtPlaces 46 = some (.getfield 35, 3, 0, 0) := by decide +kernel
theorem xX4_weighAtPlaces_49 : dcd mX4_weighAtPlaces 49 = some (.getfield 120, 3, 0, 0) := by decide +kernel
theorem xX4_weighAtPlaces_52 : dcd mX4_weighAtPlaces 52 = some (.iload 3, 1, 0, 0) := by decide +kernel
theorem xX4_weighAtPlaces_53 : dcd mX4_weighAtPlaces 53 = some (.iaload, 1, 0, 0) := by decide +kernel
theorem xX4_weighAtPlaces_54 : dcd mX4_weighAtPlaces 54 = some (.aload 0, 1, 0, 0) := by decide +kernel
theorem xX4_weighAtPlaces_55 : dcd mX4_weighAtPlaces 55 = some (.getfield 15, 3, 0, 0) := by decide +kernel
theorem xX4_weighAtPlaces_58 : dcd mX4_weighAtPlaces 58 = some (.iload 2, 1, 0, 0) := by decide +kernel
theorem xX4_weighAtPlaces_59 : dcd mX4_weighAtPlaces 59 = some (.iaload, 1, 0, 0) := by decide +kernel
theorem xX4_weighAtPlaces_60 : dcd mX4_weighAtPlaces 60 = some (.aload 0, 1, 0, 0) := by decide +kernel
theorem xX4_weighAtPlaces_61 : dcd mX4_weighAtPlaces 61 = some (.getfield 18, 3, 0, 0) := by decide +kernel
theorem xX4_weighAtPlaces_64 : dcd mX4_weighAtPlaces 64 = some (.iload 2, 1, 0, 0) := by decide +kernel
theorem xX4_weighAtPlaces_65 : dcd mX4_weighAtPlaces 65 = some (.iaload, 1, 0, 0) := by decide +kernel
theorem xX4_weighAtPlaces_66 : dcd mX4_weighAtPlaces 66 = some (.aload 0, 1, 0, 0) := by decide +kernel
theorem xX4_weighAtPlaces_67 : dcd mX4_weighAtPlaces 67 = some (.getfield 35, 3, 0, 0) := by decide +kernel
theorem xX4_weighAtPlaces_70 : dcd mX4_weighAtPlaces 70 = some (.getfield 81, 3, 0, 0) := by decide +kernel
theorem xX4_weighAtPlaces_73 : dcd mX4_weighAtPlaces 73 = some (.invokevirtual 123, 3, 0, 0) := by decide +kernel
theorem xX4_weighAtPlaces_76 : dcd mX4_weighAtPlaces 76 = some (.aload 0, 1, 0, 0) := by decide +kernel
theorem xX4_weighAtPlaces_77 : dcd mX4_weighAtPlaces 77 = some (.getfield 23, 3, 0, 0) := by decide +kernel
theorem xX4_weighAtPlaces_80 : dcd mX4_weighAtPlaces 80 = some (.iload 1, 1, 0, 0) := by decide +kernel
theorem xX4_weighAtPlaces_81 : dcd mX4_weighAtPlaces 81 = some (.aaload, 1, 0, 0) := by decide +kernel
theorem xX4_weighAtPlaces_82 : dcd mX4_weighAtPlaces 82 = some (.iload 2, 1, 0, 0) := by decide +kernel
theorem xX4_weighAtPlaces_83 : dcd mX4_weighAtPlaces 83 = some (.aload 0, 1, 0, 0) := by decide +kernel
theorem xX4_weighAtPlaces_84 : dcd mX4_weighAtPlaces 84 = some (.getfield 39, 3, 0, 0) := by decide +kernel
theorem xX4_weighAtPlaces_87 : dcd mX4_weighAtPlaces 87 = some (.iconst 0, 2, 0, 103) := by decide +kernel
theorem xX4_weighAtPlaces_89 : dcd mX4_weighAtPlaces 89 = some (.invokevirtual 129, 3, 0, 0) := by decide +kernel
theorem xX4_weighAtPlaces_92 : dcd mX4_weighAtPlaces 92 = some (.iastore, 1, 0, 0) := by decide +kernel
theorem xX4_weighAtPlaces_93 : dcd mX4_weighAtPlaces 93 = some (.aload 0, 1, 0, 0) := by decide +kernel
theorem xX4_weighAtPlaces_94 : dcd mX4_weighAtPlaces 94 = some (.getfield 26, 3, 0, 0) := by decide +kernel
theorem xX4_weighAtPlaces_97 : dcd mX4_weighAtPlaces 97 = some (.iload 1, 1, 0, 0) := by decide +kernel
theorem xX4_weighAtPlaces_98 : dcd mX4_weighAtPlaces 98 = some (.aaload, 1, 0, 0) := by decide +kernel
theorem xX4_weighAtPlaces_99 : dcd mX4_weighAtPlaces 99 = some (.iload 2, 1, 0, 0) := by decide +kernel
theorem xX4_weighAtPlaces_100 : dcd mX4_weighAtPlaces 100 = some (.aload 0, 1, 0, 0) := by decide +kernel
theorem xX4_weighAtPlaces_101 : dcd mX4_weighAtPlaces 101 = some (.getfield 39, 3, 0, 0) := by decide +kernel
theorem xX4_weighAtPlaces_104 : dcd mX4_weighAtPlaces 104 = some (.iconst 0, 2, 0, 112) := by decide +kernel
theorem xX4_weighAtPlaces_106 : dcd mX4_weighAtPlaces 106 = some (.invokevirtual 129, 3, 0, 0) := by decide +kernel
theorem xX4_weighAtPlaces_109 : dcd mX4_weighAtPlaces 109 = some (.iastore, 1, 0, 0) := by decide +kernel
theorem xX4_weighAtPlaces_110 : dcd mX4_weighAtPlaces 110 = some (.iinc 2 0, 3, 0, 1) := by decide +kernel
theorem xX4_weighAtPlaces_113 : dcd mX4_weighAtPlaces 113 = some (.goto 0, 3, 2, 0) := by decide +kernel
theorem xX4_weighAtPlaces_116 : dcd mX4_weighAtPlaces 116 = some (.return_, 1, 0, 0) := by decide +kernel
theorem xX4_hangFrom_0 : dcd mX4_hangFrom 0 = some (.iload 1, 1, 0, 0) := by decide +kernel
theorem xX4_hangFrom_1 : dcd mX4_hangFrom 1 = some (.aload 0, 1, 0, 0) := by decide +kernel
theorem xX4_hangFrom_2 : dcd mX4_hangFrom 2 = some (.getfield 56, 3, 0, 0) := by decide +kernel
theorem xX4_hangFrom_5 : dcd mX4_hangFrom 5 = some (.if_icmp .lt 0, 3, 13, 0) := by decide +kernel
theorem xX4_hangFrom_8 : dcd mX4_hangFrom 8 = some (.aload 0, 1, 0, 0) := by decide +kernel
theorem xX4_hangFrom_9 : dcd mX4_hangFrom 9 = some (.invokevirtual 132, 3, 0, 0) := by decide +kernel
theorem xX4_hangFrom_12 : dcd mX4_hangFrom 12 = some (.return_, 1, 0, 0) := by decide +kernel
theorem xX4_hangFrom_13 : dcd mX4_hangFrom 13 = some (.iconst 0, 1, 0, 0) := by decide +kernel
theorem xX4_hangFrom_14 : dcd mX4_hangFrom 14 = some (.istore 3, 1, 0, 0) := by decide +kernel
theorem xX4_hangFrom_15 : dcd mX4_hangFrom 15 = some (.iload 3, 1, 0, 0) := by decide +kernel
theorem xX4_hangFrom_16 : dcd mX4_hangFrom 16 = some (.aload 0, 1, 0, 0) := by decide +kernel
theorem xX4_hangFrom_17 : dcd mX4_hangFrom 17 = some (.getfield 56, 3, 0, 0) := by decide +kernel
theorem xX4_hangFrom_20 : dcd mX4_hangFrom 20 = some (.if_icmp .ge 0, 3, 128, 0) := by decide +kernel
theorem xX4_hangFrom_23 : dcd mX4_hangFrom 23 = some (.iload 2, 1, 0, 0) := by decide +kernel
theorem xX4_hangFrom_24 : dcd mX4_hangFrom 24 = some (.iload 3, 1, 0, 0) := by decide +kernel
theorem xX4_hangFrom_25 : dcd mX4_hangFrom 25 = some (.ishr, 1, 0, 0) := by decide +kernel
theorem xX4_hangFrom_26 : dcd mX4_hangFrom 26 = some (.iconst 0, 1, 0, 1) := by decide +kernel
theorem xX4_hangFrom_27 : dcd mX4_hangFrom 27 = some (.iand, 1, 0, 0) := by decide +kernel
theorem xX4_hangFrom_28 : dcd mX4_hangFrom 28 = some (.ifCond .ne 0, 3, 122, 0) := by decide +kernel
theorem xX4_hangFrom_31 : dcd mX4_hangFrom 31 = some (.aload 0, 1, 0, 0) := by decide +kernel
theorem xX4_hangFrom_32 : dcd mX4_hangFrom 32 = some (.getfield 29, 3, 0, 0) := by decide +kernel
theorem xX4_hangFrom_35 : dcd mX4_hangFrom 35 = some (.iload 1, 1, 0, 0) := by decide +kernel
theorem xX4_hangFrom_36 : dcd mX4_hangFrom 36 = some (.iload 3, 1, 0, 0) := by decide +kernel
theorem xX4_hangFrom_37 : dcd mX4_hangFrom 37 = some (.iastore, 1, 0, 0) := by decide +kernel
theorem xX4_hangFrom_38 : dcd mX4_hangFrom 38 = some (.aload 0, 1, 0, 0) := by decide +kernel
theorem xX4_hangFrom_39 : dcd mX4_hangFrom 39 = some (.getfield 43, 3, 0, 0) := by decide +kernel
theorem xX4_hangFrom_42 : dcd mX4_hangFrom 42 = some (.aload 0, 1, 0, 0) := by decide +kernel
theorem xX4_hangFrom_43 : dcd mX4_hangFrom 43 = some (.getfield 15, 3, 0, 0) := by decide +kernel
theorem xX4_hangFrom_46 : dcd mX4_hangFrom 46 = some (.iload 3, 1, 0, 0) := by decide +kernel
theorem xX4_hangFrom_47 : dcd mX4_hangFrom 47 = some (.iaload, 1, 0, 0) := by decide +kernel
theorem xX4_hangFrom_48 : dcd mX4_hangFrom 48 = some (.aload 0, 1, 0, 0) := by decide +kernel
theorem xX4_hangFrom_49 : dcd mX4_hangFrom 49 = some (.getfield 18, 3, 0, 0) := by decide +kernel
theorem xX4_hangFrom_52 : dcd mX4_hangFrom 52 = some (.iload 3, 1, 0, 0) := by decide +kernel
theorem xX4_hangFrom_53 : dcd mX4_hangFrom 53 = some (.iaload, 1, 0, 0) := by decide +kernel
theorem xX4_hangFrom_54 : dcd mX4_hangFrom 54 = some (.aload 0, 1, 0, 0) := by decide +kernel
theorem xX4_hangFrom_55 : dcd mX4_hangFrom 55 = some (.getfield 23, 3, 0, 0) := by decide +kernel
theorem xX4_hangFrom_58 : dcd mX4_hangFrom 58 = some (.iload 1, 1, 0, 0) := by decide +kernel
theorem xX4_hangFrom_59 : dcd mX4_hangFrom 59 = some (.aaload, 1, 0, 0) := by decide +kernel
theorem xX4_hangFrom_60 : dcd mX4_hangFrom 60 = some (.iload 3, 1, 0, 0) := by decide +kernel
theorem xX4_hangFrom_61 : dcd mX4_hangFrom 61 = some (.iaload, 1, 0, 0) := by decide +kernel
theorem xX4_hangFrom_62 : dcd mX4_hangFrom 62 = some (.aload 0, 1, 0, 0) := by decide +kernel
theorem xX4_hangFrom_63 : dcd mX4_hangFrom 63 = some (.getfield 26, 3, 0, 0) := by decide +kernel
theorem xX4_hangFrom_66 : dcd mX4_hangFrom 66 = some (.iload 1, 1, 0, 0) := by decide +kernel
theorem xX4_hangFrom_67 : dcd mX4_hangFrom 67 = some (.aaload, 1, 0, 0) := by decide +kernel
theorem xX4_hangFrom_68 : dcd mX4_hangFrom 68 = some (.iload 3, 1, 0, 0) := by decide +kernel
theorem xX4_hangFrom_69 : dcd mX4_hangFrom 69 = some (.iaload, 1, 0, 0) := by decide +kernel
theorem xX4_hangFrom_70 : dcd mX4_hangFrom 70 = some (.invokevirtual 103, 3, 0, 0) := by decide +kernel
theorem xX4_hangFrom_73 : dcd mX4_hangFrom 73 = some (.aload 0, 1, 0, 0) := by decide +kernel
theorem xX4_hangFrom_74 : dcd mX4_hangFrom 74 = some (.iload 1, 1, 0, 0) := by decide +kernel
theorem xX4_hangFrom_75 : dcd mX4_hangFrom 75 = some (.iconst 0, 1, 0, 1) := by decide +kernel
theorem xX4_hangFrom_76 : dcd mX4_hangFrom 76 = some (.iadd, 1, 0, 0) := by decide +kernel
theorem xX4_hangFrom_77 : dcd mX4_hangFrom 77 = some (.iload 2, 1, 0, 0) := by decide +kernel
theorem xX4_hangFrom_78 : dcd mX4_hangFrom 78 = some (.iconst 0, 1, 0, 1) := by decide +kernel
theorem xX4_hangFrom_79 : dcd mX4_hangFrom 79 = some (.iload 3, 1, 0, 0) := by decide +kernel
theorem xX4_hangFrom_80 : dcd mX4_hangFrom 80 = some (.ishl, 1, 0, 0) := by decide +kernel
theorem xX4_hangFrom_81 : dcd mX4_hangFrom 81 = some (.ior, 1, 0, 0) := by decide +kernel
theorem xX4_hangFrom_82 : dcd mX4_hangFrom 82 = some (.invokevirtual 116, 3, 0, 0) := by decide +kernel
theorem xX4_hangFrom_85 : dcd mX4_hangFrom 85 = some (.aload 0, 1, 0, 0) := by decide +kernel
theorem xX4_hangFrom_86 : dcd mX4_hangFrom 86 = some (.getfield 43, 3, 0, 0) := by decide +kernel
theorem xX4_hangFrom_89 : dcd mX4_hangFrom 89 = some (.aload 0, 1, 0, 0) := by decide +kernel
theorem xX4_hangFrom_90 : dcd mX4_hangFrom 90 = some (.getfield 15, 3, 0, 0) := by decide +kernel
theorem xX4_hangFrom_93 : dcd mX4_hangFrom 93 = some (.iload 3, 1, 0, 0) := by decide +kernel
theorem xX4_hangFrom_94 : dcd mX4_hangFrom 94 = some (.iaload, 1, 0, 0) := by decide +kernel
theorem xX4_hangFrom_95 : dcd mX4_hangFrom 95 = some (.aload 0, 1, 0, 0) := by decide +kernel
theorem xX4_hangFrom_96 : dcd mX4_hangFrom 96 = some (.getfield 18, 3, 0, 0) := by decide +kernel
theorem xX4_hangFrom_99 : dcd mX4_hangFrom 99 = some (.iload 3, 1, 0, 0) := by decide +kernel
theorem xX4_hangFrom_100 : dcd mX4_hangFrom 100 = some (.iaload, 1, 0, 0) := by decide +kernel
theorem xX4_hangFrom_101 : dcd mX4_hangFrom 101 = some (.aload 0, 1, 0, 0) := by decide +kernel
theorem xX4_hangFrom_102 : dcd mX4_hangFrom 102 = some (.getfield 23, 3, 0, 0) := by decide +kernel
theorem xX4_hangFrom_105 : dcd mX4_hangFrom 105 = some (.iload 1, 1, 0, 0) := by decide +kernel
theorem xX4_hangFrom_106 : dcd mX4_hangFrom 106 = some (.aaload, 1, 0, 0) := by decide +kernel
theorem xX4_hangFrom_107 : dcd mX4_hangFrom 107 = some (.iload 3, 1, 0, 0) := by decide +kernel
theorem xX4_hangFrom_108 : dcd mX4_hangFrom 108 = some (.iaload, 1, 0, 0) := by decide +kernel
theorem xX4_hangFrom_109 : dcd mX4_hangFrom 109 = some (.ineg, 1, 0, 0) := by decide +kernel
theorem xX4_hangFrom_110 : dcd mX4_hangFrom 110 = some (.aload 0, 1, 0, 0) := by decide +kernel
theorem xX4_hangFrom_111 : dcd mX4_hangFrom 111 = some (.getfield 26, 3, 0, 0) := by decide +kernel
theorem xX4_hangFrom_114 : dcd mX4_hangFrom 114 = some (.iload 1, 1, 0, 0) := by decide +kernel
theorem xX4_hangFrom_115 : dcd mX4_hangFrom 115 = some (.aaload, 1, 0, 0) := by decide +kernel
theorem xX4_hangFrom_116 : dcd mX4_hangFrom 116 = some (.iload 3, 1, 0, 0) := by decide +kernel
theorem xX4_hangFrom_117 : dcd mX4_hangFrom 117 = some (.iaload, 1, 0, 0) := by decide +kernel
theorem xX4_hangFrom_118 : dcd mX4_hangFrom 118 = some (.ineg, 1, 0, 0) := by decide +kernel
theorem xX4_hangFrom_119 : dcd mX4_hangFrom 119 = some (.invokevirtual 103, 3, 0, 0) := by decide +kernel
theorem xX4_hangFrom_122 : dcd mX4_hangFrom 122 = some (.iinc 3 0, 3, 0, 1) := by decide +kernel
theorem xX4_hangFrom_125 : dcd mX4_hangFrom 125 = some (.goto 0, 3, 15, 0) := by decide +kernel
theorem xX4_hangFrom_128 : dcd mX4_hangFrom 128 = some (.return_, 1, 0, 0) := by decide +kernel
theorem xX4_compare_0 : dcd mX4_compare 0 = some (.aload 0, 1, 0, 0) := by decide +kernel
theorem xX4_compare_1 : dcd mX4_compare 1 = some (.getfield 43, 3, 0, 0) := by decide +kernel
theorem xX4_compare_4 : dcd mX4_compare 4 = some (.invokevirtual 135, 3, 0, 0) := by decide +kernel
theorem xX4_compare_7 : dcd mX4_compare 7 = some (.istore 1, 1, 0, 0) := by decide +kernel
theorem xX4_compare_8 : dcd mX4_compare 8 = some (.iload 1, 1, 0, 0) := by decide +kernel
theorem xX4_compare_9 : dcd mX4_compare 9 = some (.aload 0, 1, 0, 0) := by decide +kernel
theorem xX4_compare_10 : dcd mX4_compare 10 = some (.getfield 113, 3, 0, 0) := by decide +kernel
theorem xX4_compare_13 : dcd mX4_compare 13 = some (.if_icmp .ge 0, 3, 36, 0) := by decide +kernel
theorem xX4_compare_16 : dcd mX4_compare 16 = some (.aload 0, 1, 0, 0) := by decide +kernel
theorem xX4_compare_17 : dcd mX4_compare 17 = some (.iload 1, 1, 0, 0) := by decide +kernel
theorem xX4_compare_18 : dcd mX4_compare 18 = some (.putfield 113, 3, 0, 0) := by decide +kernel
theorem xX4_compare_21 : dcd mX4_compare 21 = some (.aload 0, 1, 0, 0) := by decide +kernel
theorem xX4_compare_22 : dcd mX4_compare 22 = some (.getfield 29, 3, 0, 0) := by decide +kernel
theorem xX4_compare_25 : dcd mX4_compare 25 = some (.iconst 0, 1, 0, 0) := by decide +kernel
theorem xX4_compare_26 : dcd mX4_compare 26 = some (.aload 0, 1, 0, 0) := by decide +kernel
theorem xX4_compare_27 : dcd mX4_compare 27 = some (.getfield 32, 3, 0, 0) := by decide +kernel
theorem xX4_compare_30 : dcd mX4_compare 30 = some (.iconst 0, 1, 0, 0) := by decide +kernel
theorem xX4_compare_31 : dcd mX4_compare 31 = some (.iconst 0, 2, 0, 6) := by decide +kernel
theorem xX4_compare_33 : dcd mX4_compare 33 = some (.invokestatic 139, 3, 0, 0) := by decide +kernel
theorem xX4_compare_36 : dcd mX4_compare 36 = some (.return_, 1, 0, 0) := by decide +kernel
theorem xX4_hang_0 : dcd mX4_hang 0 = some (.iconst 0, 1, 0, 0) := by decide +kernel
theorem xX4_hang_1 : dcd mX4_hang 1 = some (.istore 1, 1, 0, 0) := by decide +kernel
theorem xX4_hang_2 : dcd mX4_hang 2 = some (.iload 1, 1, 0, 0) := by decide +kernel
theorem xX4_hang_3 : dcd mX4_hang 3 = some (.aload 0, 1, 0, 0) := by decide +kernel
theorem xX4_hang_4 : dcd mX4_hang 4 = some (.getfield 56, 3, 0, 0) := by decide +kernel
theorem xX4_hang_7 : dcd mX4_hang 7 = some (.if_icmp .ge 0, 3, 83, 0) := by decide +kernel
theorem xX4_hang_10 : dcd mX4_hang 10 = some (.aload 0, 1, 0, 0) := by decide +kernel
theorem xX4_hang_11 : dcd mX4_hang 11 = some (.getfield 9, 3, 0, 0) := by decide +kernel
theorem xX4_hang_14 : dcd mX4_hang 14 = some (.iload 1, 1, 0, 0) := by decide +kernel
theorem xX4_hang_15 : dcd mX4_hang 15 = some (.iaload, 1, 0, 0) := by decide +kernel
theorem xX4_hang_16 : dcd mX4_hang 16 = some (.istore 2, 1, 0, 0) := by decide +kernel
theorem xX4_hang_17 : dcd mX4_hang 17 = some (.aload 0, 1, 0, 0) := by decide +kernel
theorem xX4_hang_18 : dcd mX4_hang 18 = some (.getfield 32, 3, 0, 0) := by decide +kernel
theorem xX4_hang_21 : dcd mX4_hang 21 = some (.iload 1, 1, 0, 0) := by decide +kernel
theorem xX4_hang_22 : dcd mX4_hang 22 = some (.iaload, 1, 0, 0) := by decide +kernel
theorem xX4_hang_23 : dcd mX4_hang 23 = some (.istore 3, 1, 0, 0) := by decide +kernel
theorem xX4_hang_24 : dcd mX4_hang 24 = some (.aload 0, 1, 0, 0) := by decide +kernel
theorem xX4_hang_25 : dcd mX4_hang 25 = some (.getfield 35, 3, 0, 0) := by decide +kernel
theorem xX4_hang_28 : dcd mX4_hang 28 = some (.iload 2, 1, 0, 0) := by decide +kernel
theorem xX4_hang_29 : dcd mX4_hang 29 = some (.invokevirtual 90, 3, 0, 0) := by decide +kernel
theorem xX4_hang_32 : dcd mX4_hang 32 = some (.ifCond .eq 0, 3, 77, 0) := by decide +kernel
theorem xX4_hang_35 : dcd mX4_hang 35 = some (.iload 3, 1, 0, 0) := by decide +kernel
theorem xX4_hang_36 : dcd mX4_hang 36 = some (.ifCond .lt 0, 3, 77, 0) := by decide +kernel
theorem xX4_hang_39 : dcd mX4_hang 39 = some (.iload 3, 1, 0, 0) := by decide +kernel
theorem xX4_hang_40 : dcd mX4_hang 40 = some (.aload 0, 1, 0, 0) := by decide +kernel
theorem xX4_hang_41 : dcd mX4_hang 41 = some (.getfield 56, 3, 0, 0) := by decide +kernel
theorem xX4_hang_44 : dcd mX4_hang 44 = some (.if_icmp .ge 0, 3, 77, 0) := by decide +kernel
theorem xX4_hang_47 : dcd mX4_hang 47 = some (.aload 0, 1, 0, 0) := by decide +kernel
theorem xX4_hang_48 : dcd mX4_hang 48 = some (.getfield 35, 3, 0, 0) := by decide +kernel
theorem xX4_hang_51 : dcd mX4_hang 51 = some (.getfield 93, 3, 0, 0) := by decide +kernel
theorem xX4_hang_54 : dcd mX4_hang 54 = some (.iload 2, 1, 0, 0) := by decide +kernel
theorem xX4_hang_55 : dcd mX4_hang 55 = some (.aload 0, 1, 0, 0) := by decide +kernel
theorem xX4_hang_56 : dcd mX4_hang 56 = some (.getfield 15, 3, 0, 0) := by decide +kernel
theorem xX4_hang_59 : dcd mX4_hang 59 = some (.iload 3, 1, 0, 0) := by decide +kernel
theorem xX4_hang_60 : dcd mX4_hang 60 = some (.iaload, 1, 0, 0) := by decide +kernel
theorem xX4_hang_61 : dcd mX4_hang 61 = some (.iastore, 1, 0, 0) := by decide +kernel
theorem xX4_hang_62 : dcd mX4_hang 62 = some (.aload 0, 1, 0, 0) := by decide +kernel
theorem xX4_hang_63 : dcd mX4_hang 63 = some (.getfield 35, 3, 0, 0) := by decide +kernel
theorem xX4_hang_66 : dcd mX4_hang 66 = some (.getfield 96, 3, 0, 0) := by decide +kernel
theorem xX4_hang_69 : dcd mX4_hang 69 = some (.iload 2, 1, 0, 0) := by decide +kernel
theorem xX4_hang_70 : dcd mX4_hang 70 = some (.aload 0, 1, 0, 0) := by decide +kernel
theorem xX4_hang_71 : dcd mX4_hang 71 = some (.getfield 18, 3, 0, 0) := by decide +kernel
theorem xX4_hang_74 : dcd mX4_hang 74 = some (.iload 3, 1, 0, 0) := by decide +kernel
theorem xX4_hang_75 : dcd mX4_hang 75 = some (.iaload, 1, 0, 0) := by decide +kernel
theorem xX4_hang_76 : dcd mX4_hang 76 = some (.iastore, 1, 0, 0) := by decide +kernel
theorem xX4_hang_77 : dcd mX4_hang 77 = some (.iinc 1 0, 3, 0, 1) := by decide +kernel
theorem xX4_hang_80 : dcd mX4_hang 80 = some (.goto 0, 3, 2, 0) := by decide +kernel
theorem xX4_hang_83 : dcd mX4_hang 83 = some (.return_, 1, 0, 0) := by decide +kernel
theorem xX5_init_0 : dcd mX5_init 0 = some (.aload 0, 1, 0, 0) := by decide +kernel
theorem xX5_init_1 : dcd mX5_init 1 = some (.invokespecial 3, 3, 0, 0) := by decide +kernel
theorem xX5_init_4 : dcd mX5_init 4 = some (.aload 0, 1, 0, 0) := by decide +kernel
theorem xX5_init_5 : dcd mX5_init 5 = some (.iconst 0, 2, 0, 6) := by decide +kernel
theorem xX5_init_7 : dcd mX5_init 7 = some (.anewarray 9, 3, 0, 0) := by decide +kernel
theorem xX5_init_10 : dcd mX5_init 10 = some (.putfield 11, 3, 0, 0) := by decide +kernel
theorem xX5_init_13 : dcd mX5_init 13 = some (.aload 0, 1, 0, 0) := by decide +kernel
theorem xX5_init_14 : dcd mX5_init 14 = some (.iconst 0, 2, 0, 6) := by decide +kernel
theorem xX5_init_16 : dcd mX5_init 16 = some (.newarray .int, 2, 0, 0) := by decide +kernel
theorem xX5_init_18 : dcd mX5_init 18 = some (.putfield 17, 3, 0, 0) := by decide +kernel
theorem xX5_init_21 : dcd mX5_init 21 = some (.aload 0, 1, 0, 0) := by decide +kernel
theorem xX5_init_22 : dcd mX5_init 22 = some (.iconst 0, 2, 0, 6) := by decide +kernel
theorem xX5_init_24 : dcd mX5_init 24 = some (.iconst 0, 2, 0, 10) := by decide +kernel
theorem xX5_init_26 : dcd mX5_init 26 = some (.multianewarray 21 2, 4, 0, 0) := by decide +kernel
theorem xX5_init_30 : dcd mX5_init 30 = some (.putfield 23, 3, 0, 0) := by decide +kernel
theorem xX5_init_33 : dcd mX5_init 33 = some (.aload 0, 1, 0, 0) := by decide +kernel
theorem xX5_init_34 : dcd mX5_init 34 = some (.iconst 0, 2, 0, 6) := by decide +kernel
theorem xX5_init_36 : dcd mX5_init 36 = some (.iconst 0, 2, 0, 40) := by decide +kernel
theorem xX5_init_38 : dcd mX5_init 38 = some (.multianewarray 21 2, 4, 0, 0) := by decide +kernel
theorem xX5_init_42 : dcd mX5_init 42 = some (.putfield 26, 3, 0, 0) := by decide +kernel
theorem xX5_init_45 : dcd mX5_init 45 = some (.aload 0, 1, 0, 0) := by decide +kernel
theorem xX5_init_46 : dcd mX5_init 46 = some (.iconst 0, 2, 0, 6) := by decide +kernel
theorem xX5_init_48 : dcd mX5_init 48 = some (.iconst 0, 2, 0, 40) := by decide +kernel
theorem xX5_init_50 : dcd mX5_init 50 = some (.multianewarray 21 2, 4, 0, 0) := by decide +kernel
theorem xX5_init_54 : dcd mX5_init 54 = some (.putfield 29, 3, 0, 0) := by decide +kernel
theorem xX5_init_57 : dcd mX5_init 57 = some (.aload 0, 1, 0, 0) := by decide +kernel
theorem xX5_init_58 : dcd mX5_init 58 = some (.aload 1, 1, 0, 0) := by decide +kernel
theorem xX5_init_59 : dcd mX5_init 59 = some (.putfield 32, 3, 0, 0) := by decide +kernel
theorem xX5_init_62 : dcd mX5_init 62 = some (.aload 0, 1, 0, 0) := by decide +kernel
theorem xX5_init_63 : dcd mX5_init 63 = some (.aload 2, 1, 0, 0) := by decide +kernel
theorem xX5_init_64 : dcd mX5_init 64 = some (.putfield 36, 3, 0, 0) := by decide +kernel
theorem xX5_init_67 : dcd mX5_init 67 = some (.iconst 0, 1, 0, 0) := by decide +kernel
theorem xX5_init_68 : dcd mX5_init 68 = some (.istore 3, 1, 0, 0) := by decide +kernel
theorem xX5_init_69 : dcd mX5_init 69 = some (.iload 3, 1, 0, 0) := by decide +kernel
theorem xX5_init_70 : dcd mX5_init 70 = some (.iconst 0, 2, 0, 6) := by decide +kernel
theorem xX5_init_72 : dcd mX5_init 72 = some (.if_icmp .ge 0, 3, 96, 0) := by decide +kernel
theorem xX5_init_75 : dcd mX5_init 75 = some (.aload 0, 1, 0, 0) := by decide +kernel
theorem xX5_init_76 : dcd mX5_init 76 = some (.getfield 11, 3, 0, 0) := by decide +kernel
theorem xX5_init_79 : dcd mX5_init 79 = some (.iload 3, 1, 0, 0) := by decide +kernel
theorem xX5_init_80 : dcd mX5_init 80 = some (.new 9, 3, 0, 0) := by decide +kernel
theorem xX5_init_83 : dcd mX5_init 83 = some (.dup, 1, 0, 0) := by decide +kernel
theorem xX5_init_84 : dcd mX5_init 84 = some (.aload 1, 1, 0, 0) := by decide +kernel
theorem xX5_init_85 : dcd mX5_init 85 = some (.aload 2, 1, 0, 0) := by decide +kernel
theorem xX5_init_86 : dcd mX5_init 86 = some (.invokespecial 40, 3, 0, 0) := by decide +kernel
theorem xX5_init_89 : dcd mX5_init 89 = some (.aastore, 1, 0, 0) := by decide +kernel
theorem xX5_init_90 : dcd mX5_init 90 = some (.iinc 3 0, 3, 0, 1) := by decide +kernel
theorem xX5_init_93 : dcd mX5_init 93 = some (.goto 0, 3, 69, 0) := by decide +kernel
theorem xX5_init_96 : dcd mX5_init 96 = some (.return_, 1, 0, 0) := by decide +kernel
theorem xX5_findPayment_0 : dcd mX5_findPayment 0 = some (.aload 0, 1, 0, 0) := by decide +kernel
theorem xX5_findPayment_1 : dcd mX5_findPayment 1 = some (.iload 1, 1, 0, 0) := by decide +kernel
theorem xX5_findPayment_2 : dcd mX5_findPayment 2 = some (.putfield 43, 3, 0, 0) := by decide +kernel
theorem xX5_findPayment_5 : dcd mX5_findPayment 5 = some (.aload 0, 1, 0, 0) := by decide +kernel
theorem xX5_findPayment_6 : dcd mX5_findPayment 6 = some (.iload 2, 1, 0, 0) := by decide +kernel
theorem xX5_findPayment_7 : dcd mX5_findPayment 7 = some (.putfield 47, 3, 0, 0) := by decide +kernel
theorem xX5_findPayment_10 : dcd mX5_findPayment 10 = some (.aload 0, 1, 0, 0) := by decide +kernel
theorem xX5_findPayment_11 : dcd mX5_findPayment 11 = some (.iconst 0, 1, 0, 0) := by decide +kernel
theorem xX5_findPayment_12 : dcd mX5_findPayment 12 = some (.aload 0, 1, 0, 0) := by decide +kernel
theorem xX5_findPayment_13 : dcd mX5_findPayment 13 = some (.getfield 32, 3, 0, 0) := by decide +kernel
theorem xX5_findPayment_16 : dcd mX5_findPayment 16 = some (.getfield 50, 3, 0, 0) := by decide +kernel
theorem xX5_findPayment_19 : dcd mX5_findPayment 19 = some (.invokevirtual 55, 3, 0, 0) := by decide +kernel
theorem xX5_findPayment_22 : dcd mX5_findPayment 22 = some (.aload 0, 1, 0, 0) := by decide +kernel
theorem xX5_findPayment_23 : dcd mX5_findPayment 23 = some (.iconst 0, 1, 0, 0) := by decide +kernel
theorem xX5_findPayment_24 : dcd mX5_findPayment 24 = some (.iload 3, 1, 0, 0) := by decide +kernel
theorem xX5_findPayment_25 : dcd mX5_findPayment 25 = some (.invokevirtual 59, 3, 0, 0) := by decide +kernel
theorem xX5_findPayment_28 : dcd mX5_findPayment 28 = some (.aload 0, 1, 0, 0) := by decide +kernel
theorem xX5_findPayment_29 : dcd mX5_findPayment 29 = some (.iconst 0, 2, 0, 11) := by decide +kernel
theorem xX5_findPayment_31 : dcd mX5_findPayment 31 = some (.putfield 62, 3, 0, 0) := by decide +kernel
theorem xX5_findPayment_34 : dcd mX5_findPayment 34 = some (.iconst 0, 1, 0, 0) := by decide +kernel
theorem xX5_findPayment_35 : dcd mX5_findPayment 35 = some (.istore 4, 2, 0, 0) := by decide +kernel
theorem xX5_findPayment_37 : dcd mX5_findPayment 37 = some (.iload 4, 2, 0, 0) := by decide +kernel
theorem xX5_findPayment_39 : dcd mX5_findPayment 39 = some (.aload 0, 1, 0, 0) := by decide +kernel
theorem xX5_findPayment_40 : dcd mX5_findPayment 40 = some (.getfield 32, 3, 0, 0) := by decide +kernel
theorem xX5_findPayment_43 : dcd mX5_findPayment 43 = some (.getfield 65, 3, 0, 0) := by decide +kernel
theorem xX5_findPayment_46 : dcd mX5_findPayment 46 = some (.if_icmp .ge 0, 3, 88, 0) := by decide +kernel
theorem xX5_findPayment_49 : dcd mX5_findPayment 49 = some (.aload 0, 1, 0, 0) := by decide +kernel
theorem xX5_findPayment_50 : dcd mX5_findPayment 50 = some (.iload 4, 2, 0, 0) := by decide +kernel
theorem xX5_findPayment_52 : dcd mX5_findPayment 52 = some (.iload 3, 1, 0, 0) := by decide +kernel
theorem xX5_findPayment_53 : dcd mX5_findPayment 53 = some (.invokevirtual 68, 3, 0, 0) := by decide +kernel
theorem xX5_findPayment_56 : dcd mX5_findPayment 56 = some (.ifCond .eq 0, 3, 82, 0) := by decide +kernel
theorem xX5_findPayment_59 : dcd mX5_findPayment 59 = some (.aload 0, 1, 0, 0) := by decide +kernel
theorem xX5_findPayment_60 : dcd mX5_findPayment 60 = some (.iconst 0, 1, 0, 0) := by decide +kernel
theorem xX5_findPayment_61 : dcd mX5_findPayment 61 = some (.iload 4, 2, 0, 0) := by decide +kernel
theorem xX5_findPayment_63 : dcd mX5_findPayment 63 = some (.iconst 0, 1, 0, 1) := by decide +kernel
theorem xX5_findPayment_64 : dcd mX5_findPayment 64 = some (.invokevirtual 72, 3, 0, 0) := by decide +kernel
theorem xX5_findPayment_67 : dcd mX5_findPayment 67 = some (.aload 0, 1, 0, 0) := by decide +kernel
theorem xX5_findPayment_68 : dcd mX5_findPayment 68 = some (.iload 4, 2, 0, 0) := by decide +kernel
theorem xX5_findPayment_70 : dcd mX5_findPayment 70 = some (.iload 3, 1, 0, 0) := by decide +kernel
theorem xX5_findPayment_71 : dcd mX5_findPayment 71 = some (.invokevirtual 76, 3, 0, 0) := by decide +kernel
theorem xX5_findPayment_74 : dcd mX5_findPayment 74 = some (.aload 0, 1, 0, 0) := by decide +kernel
theorem xX5_findPayment_75 : dcd mX5_findPayment 75 = some (.iconst 0, 1, 0, 0) := by decide +kernel
theorem xX5_findPayment_76 : dcd mX5_findPayment 76 = some (.iload 4, 2, 0, 0) := by decide +kernel
theorem xX5_findPayment_78 : dcd mX5_findPayment 78 = some (.iconst 0, 1, 0, (-1)) := by decide +kernel
theorem xX5_findPayment_79 : dcd mX5_findPayment 79 = some (.invokevirtual 72, 3, 0, 0) := by decide +kernel
theorem xX5_findPayment_82 : dcd mX5_findPayment 82 = some (.iinc 4 0, 3, 0, 1) := by decide +kernel
theorem xX5_findPayment_85 : dcd mX5_findPayment 85 = some (.goto 0, 3, 37, 0) := by decide +kernel
theorem xX5_findPayment_88 : dcd mX5_findPayment 88 = some (.aload 0, 1, 0, 0) := by decide +kernel
theorem xX5_findPayment_89 : dcd mX5_findPayment 89 = some (.getfield 62, 3, 0, 0) := by decide +kernel
theorem xX5_findPayment_92 : dcd mX5_findPayment 92 = some (.iconst 0, 2, 0, 10) := by decide +kernel
theorem xX5_findPayment_94 : dcd mX5_findPayment 94 = some (.if_icmp .gt 0, 3, 101, 0) := by decide +kernel
theorem xX5_findPayment_97 : dcd mX5_findPayment 97 = some (.iconst 0, 1, 0, 1) := by decide +kernel
theorem xX5_findPayment_98 : dcd mX5_findPayment 98 = some (.goto 0, 3, 102, 0) := by decide +kernel
theorem xX5_findPayment_101 : dcd mX5_findPayment 101 = some (.iconst 0, 1, 0, 0) := by decide +kernel
theorem xX5_findPayment_102 : dcd mX5_findPayment 102 = some (.ireturn, 1, 0, 0) := by decide +kernel
