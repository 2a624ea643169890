theorem xX11_falseBy_0 : dcd mX11_falseBy 0 = some (.aload 0, 1, 0, 0) := by decide +kernel
theorem xX11_falseBy_1 : dcd mX11_falseBy 1 = some (.invokevirtual 440, 3, 0, 0) := by decide +kernel
theorem xX11_falseBy_4 : dcd mX11_falseBy 4 = some (.istore 2, 1, 0, 0) := by decide +kernel
theorem xX11_falseBy_5 : dcd mX11_falseBy 5 = some (.aload 0, 1, 0, 0) := by decide +kernel
theorem xX11_falseBy_6 : dcd mX11_falseBy 6 = some (.iload 1, 1, 0, 0) := by decide +kernel
theorem xX11_falseBy_7 : dcd mX11_falseBy 7 = some (.invokevirtual 387, 3, 0, 0) := by decide +kernel
theorem xX11_falseBy_10 : dcd mX11_falseBy 10 = some (.ifCond .eq 0, 3, 21, 0) := by decide +kernel
theorem xX11_falseBy_13 : dcd mX11_falseBy 13 = some (.iload 2, 1, 0, 0) := by decide +kernel
theorem xX11_falseBy_14 : dcd mX11_falseBy 14 = some (.aload 0, 1, 0, 0) := by decide +kernel
theorem xX11_falseBy_15 : dcd mX11_falseBy 15 = some (.getfield 237, 3, 0, 0) := by decide +kernel
theorem xX11_falseBy_18 : dcd mX11_falseBy 18 = some (.if_icmp .le 0, 3, 23, 0) := by decide +kernel
theorem xX11_falseBy_21 : dcd mX11_falseBy 21 = some (.iconst 0, 1, 0, (-1)) := by decide +kernel
theorem xX11_falseBy_22 : dcd mX11_falseBy 22 = some (.ireturn, 1, 0, 0) := by decide +kernel
theorem xX11_falseBy_23 : dcd mX11_falseBy 23 = some (.aload 0, 1, 0, 0) := by decide +kernel
theorem xX11_falseBy_24 : dcd mX11_falseBy 24 = some (.iconst 0, 1, 0, 0) := by decide +kernel
theorem xX11_falseBy_25 : dcd mX11_falseBy 25 = some (.putfield 237, 3, 0, 0) := by decide +kernel
theorem xX11_falseBy_28 : dcd mX11_falseBy 28 = some (.aload 0, 1, 0, 0) := by decide +kernel
theorem xX11_falseBy_29 : dcd mX11_falseBy 29 = some (.iload 2, 1, 0, 0) := by decide +kernel
theorem xX11_falseBy_30 : dcd mX11_falseBy 30 = some (.invokevirtual 443, 3, 0, 0) := by decide +kernel
theorem xX11_falseBy_33 : dcd mX11_falseBy 33 = some (.lstore 3, 1, 0, 0) := by decide +kernel
theorem xX11_falseBy_34 : dcd mX11_falseBy 34 = some (.lload 3, 1, 0, 0) := by decide +kernel
theorem xX11_falseBy_35 : dcd mX11_falseBy 35 = some (.lconst 0, 1, 0, 0) := by decide +kernel
theorem xX11_falseBy_36 : dcd mX11_falseBy 36 = some (.lcmp, 1, 0, 0) := by decide +kernel
theorem xX11_falseBy_37 : dcd mX11_falseBy 37 = some (.ifCond .ge 0, 3, 45, 0) := by decide +kernel
theorem xX11_falseBy_40 : dcd mX11_falseBy 40 = some (.iconst 0, 2, 0, (-2)) := by decide +kernel
theorem xX11_falseBy_42 : dcd mX11_falseBy 42 = some (.goto 0, 3, 51, 0) := by decide +kernel
theorem xX11_falseBy_45 : dcd mX11_falseBy 45 = some (.aload 0, 1, 0, 0) := by decide +kernel
theorem xX11_falseBy_46 : dcd mX11_falseBy 46 = some (.iload 1, 1, 0, 0) := by decide +kernel
theorem xX11_falseBy_47 : dcd mX11_falseBy 47 = some (.lload 3, 1, 0, 0) := by decide +kernel
theorem xX11_falseBy_48 : dcd mX11_falseBy 48 = some (.invokevirtual 447, 3, 0, 0) := by decide +kernel
theorem xX11_falseBy_51 : dcd mX11_falseBy 51 = some (.ireturn, 1, 0, 0) := by decide +kernel
theorem xX11_suspects_0 : dcd mX11_suspects 0 = some (.aload 0, 1, 0, 0) := by decide +kernel
theorem xX11_suspects_1 : dcd mX11_suspects 1 = some (.invokevirtual 440, 3, 0, 0) := by decide +kernel
theorem xX11_suspects_4 : dcd mX11_suspects 4 = some (.istore 1, 1, 0, 0) := by decide +kernel
theorem xX11_suspects_5 : dcd mX11_suspects 5 = some (.iload 1, 1, 0, 0) := by decide +kernel
theorem xX11_suspects_6 : dcd mX11_suspects 6 = some (.aload 0, 1, 0, 0) := by decide +kernel
theorem xX11_suspects_7 : dcd mX11_suspects 7 = some (.getfield 237, 3, 0, 0) := by decide +kernel
theorem xX11_suspects_10 : dcd mX11_suspects 10 = some (.if_icmp .le 0, 3, 17, 0) := by decide +kernel
theorem xX11_suspects_13 : dcd mX11_suspects 13 = some (.ldc2_w 400, 3, 0, 0) := by decide +kernel
theorem xX11_suspects_16 : dcd mX11_suspects 16 = some (.lreturn, 1, 0, 0) := by decide +kernel
theorem xX11_suspects_17 : dcd mX11_suspects 17 = some (.aload 0, 1, 0, 0) := by decide +kernel
theorem xX11_suspects_18 : dcd mX11_suspects 18 = some (.iconst 0, 1, 0, 0) := by decide +kernel
theorem xX11_suspects_19 : dcd mX11_suspects 19 = some (.putfield 237, 3, 0, 0) := by decide +kernel
theorem xX11_suspects_22 : dcd mX11_suspects 22 = some (.aload 0, 1, 0, 0) := by decide +kernel
theorem xX11_suspects_23 : dcd mX11_suspects 23 = some (.iload 1, 1, 0, 0) := by decide +kernel
theorem xX11_suspects_24 : dcd mX11_suspects 24 = some (.invokevirtual 443, 3, 0, 0) := by decide +kernel
theorem xX11_suspects_27 : dcd mX11_suspects 27 = some (.lstore 2, 1, 0, 0) := by decide +kernel
theorem xX11_suspects_28 : dcd mX11_suspects 28 = some (.lload 2, 1, 0, 0) := by decide +kernel
theorem xX11_suspects_29 : dcd mX11_suspects 29 = some (.lconst 0, 1, 0, 0) := by decide +kernel
theorem xX11_suspects_30 : dcd mX11_suspects 30 = some (.lcmp, 1, 0, 0) := by decide +kernel
theorem xX11_suspects_31 : dcd mX11_suspects 31 = some (.ifCond .ge 0, 3, 38, 0) := by decide +kernel
theorem xX11_suspects_34 : dcd mX11_suspects 34 = some (.ldc2_w 451, 3, 0, 0) := by decide +kernel
theorem xX11_suspects_37 : dcd mX11_suspects 37 = some (.lreturn, 1, 0, 0) := by decide +kernel
theorem xX11_suspects_38 : dcd mX11_suspects 38 = some (.lconst 0, 1, 0, 0) := by decide +kernel
theorem xX11_suspects_39 : dcd mX11_suspects 39 = some (.lstore 4, 2, 0, 0) := by decide +kernel
theorem xX11_suspects_41 : dcd mX11_suspects 41 = some (.iconst 0, 1, 0, 0) := by decide +kernel
theorem xX11_suspects_42 : dcd mX11_suspects 42 = some (.istore 6, 2, 0, 0) := by decide +kernel
theorem xX11_suspects_44 : dcd mX11_suspects 44 = some (.iload 6, 2, 0, 0) := by decide +kernel
theorem xX11_suspects_46 : dcd mX11_suspects 46 = some (.aload 0, 1, 0, 0) := by decide +kernel
theorem xX11_suspects_47 : dcd mX11_suspects 47 = some (.getfield 213, 3, 0, 0) := by decide +kernel
theorem xX11_suspects_50 : dcd mX11_suspects 50 = some (.if_icmp .ge 0, 3, 78, 0) := by decide +kernel
theorem xX11_suspects_53 : dcd mX11_suspects 53 = some (.aload 0, 1, 0, 0) := by decide +kernel
theorem xX11_suspects_54 : dcd mX11_suspects 54 = some (.iload 6, 2, 0, 0) := by decide +kernel
theorem xX11_suspects_56 : dcd mX11_suspects 56 = some (.lload 2, 1, 0, 0) := by decide +kernel
theorem xX11_suspects_57 : dcd mX11_suspects 57 = some (.invokevirtual 447, 3, 0, 0) := by decide +kernel
theorem xX11_suspects_60 : dcd mX11_suspects 60 = some (.ifCond .le 0, 3, 72, 0) := by decide +kernel
theorem xX11_suspects_63 : dcd mX11_suspects 63 = some (.lload 4, 2, 0, 0) := by decide +kernel
theorem xX11_suspects_65 : dcd mX11_suspects 65 = some (.lconst 1, 1, 0, 0) := by decide +kernel
theorem xX11_suspects_66 : dcd mX11_suspects 66 = some (.iload 6, 2, 0, 0) := by decide +kernel
theorem xX11_suspects_68 : dcd mX11_suspects 68 = some (.lshl, 1, 0, 0) := by decide +kernel
theorem xX11_suspects_69 : dcd mX11_suspects 69 = some (.lor, 1, 0, 0) := by decide +kernel
theorem xX11_suspects_70 : dcd mX11_suspects 70 = some (.lstore 4, 2, 0, 0) := by decide +kernel
theorem xX11_suspects_72 : dcd mX11_suspects 72 = some (.iinc 6 0, 3, 0, 1) := by decide +kernel
theorem xX11_suspects_75 : dcd mX11_suspects 75 = some (.goto 0, 3, 44, 0) := by decide +kernel
theorem xX11_suspects_78 : dcd mX11_suspects 78 = some (.lload 4, 2, 0, 0) := by decide +kernel
theorem xX11_suspects_80 : dcd mX11_suspects 80 = some (.lreturn, 1, 0, 0) := by decide +kernel
theorem xX11_laysFalse_0 : dcd mX11_laysFalse 0 = some (.aload 0, 1, 0, 0) := by decide +kernel
theorem xX11_laysFalse_1 : dcd mX11_laysFalse 1 = some (.iconst 0, 1, 0, 0) := by decide +kernel
theorem xX11_laysFalse_2 : dcd mX11_laysFalse 2 = some (.putfield 453, 3, 0, 0) := by decide +kernel
theorem xX11_laysFalse_5 : dcd mX11_laysFalse 5 = some (.iconst 0, 1, 0, 0) := by decide +kernel
theorem xX11_laysFalse_6 : dcd mX11_laysFalse 6 = some (.istore 3, 1, 0, 0) := by decide +kernel
theorem xX11_laysFalse_7 : dcd mX11_laysFalse 7 = some (.iload 3, 1, 0, 0) := by decide +kernel
theorem xX11_laysFalse_8 : dcd mX11_laysFalse 8 = some (.aload 0, 1, 0, 0) := by decide +kernel
theorem xX11_laysFalse_9 : dcd mX11_laysFalse 9 = some (.getfield 213, 3, 0, 0) := by decide +kernel
theorem xX11_laysFalse_12 : dcd mX11_laysFalse 12 = some (.if_icmp .ge 0, 3, 91, 0) := by decide +kernel
theorem xX11_laysFalse_15 : dcd mX11_laysFalse 15 = some (.iconst 0, 1, 0, 1) := by decide +kernel
theorem xX11_laysFalse_16 : dcd mX11_laysFalse 16 = some (.istore 4, 2, 0, 0) := by decide +kernel
theorem xX11_laysFalse_18 : dcd mX11_laysFalse 18 = some (.iload 4, 2, 0, 0) := by decide +kernel
theorem xX11_laysFalse_20 : dcd mX11_laysFalse 20 = some (.iconst 0, 2, 0, 99) := by decide +kernel
theorem xX11_laysFalse_22 : dcd mX11_laysFalse 22 = some (.if_icmp .gt 0, 3, 85, 0) := by decide +kernel
theorem xX11_laysFalse_25 : dcd mX11_laysFalse 25 = some (.aload 0, 1, 0, 0) := by decide +kernel
theorem xX11_laysFalse_26 : dcd mX11_laysFalse 26 = some (.getfield 55, 3, 0, 0) := by decide +kernel
theorem xX11_laysFalse_29 : dcd mX11_laysFalse 29 = some (.iload 3, 1, 0, 0) := by decide +kernel
theorem xX11_laysFalse_30 : dcd mX11_laysFalse 30 = some (.baload, 1, 0, 0) := by decide +kernel
theorem xX11_laysFalse_31 : dcd mX11_laysFalse 31 = some (.ifCond .eq 0, 3, 85, 0) := by decide +kernel
theorem xX11_laysFalse_34 : dcd mX11_laysFalse 34 = some (.aload 0, 1, 0, 0) := by decide +kernel
theorem xX11_laysFalse_35 : dcd mX11_laysFalse 35 = some (.iload 3, 1, 0, 0) := by decide +kernel
theorem xX11_laysFalse_36 : dcd mX11_laysFalse 36 = some (.iload 4, 2, 0, 0) := by decide +kernel
theorem xX11_laysFalse_38 : dcd mX11_laysFalse 38 = some (.lload 1, 1, 0, 0) := by decide +kernel
theorem xX11_laysFalse_39 : dcd mX11_laysFalse 39 = some (.invokevirtual 436, 3, 0, 0) := by decide +kernel
theorem xX11_laysFalse_42 : dcd mX11_laysFalse 42 = some (.ifCond .ne 0, 3, 48, 0) := by decide +kernel
theorem xX11_laysFalse_45 : dcd mX11_laysFalse 45 = some (.goto 0, 3, 79, 0) := by decide +kernel
theorem xX11_laysFalse_48 : dcd mX11_laysFalse 48 = some (.aload 0, 1, 0, 0) := by decide +kernel
theorem xX11_laysFalse_49 : dcd mX11_laysFalse 49 = some (.getfield 136, 3, 0, 0) := by decide +kernel
theorem xX11_laysFalse_52 : dcd mX11_laysFalse 52 = some (.aload 0, 1, 0, 0) := by decide +kernel
theorem xX11_laysFalse_53 : dcd mX11_laysFalse 53 = some (.getfield 453, 3, 0, 0) := by decide +kernel
theorem xX11_laysFalse_56 : dcd mX11_laysFalse 56 = some (.iload 3, 1, 0, 0) := by decide +kernel
theorem xX11_laysFalse_57 : dcd mX11_laysFalse 57 = some (.iastore, 1, 0, 0) := by decide +kernel
theorem xX11_laysFalse_58 : dcd mX11_laysFalse 58 = some (.aload 0, 1, 0, 0) := by decide +kernel
theorem xX11_laysFalse_59 : dcd mX11_laysFalse 59 = some (.getfield 139, 3, 0, 0) := by decide +kernel
theorem xX11_laysFalse_62 : dcd mX11_laysFalse 62 = some (.aload 0, 1, 0, 0) := by decide +kernel
theorem xX11_laysFalse_63 : dcd mX11_laysFalse 63 = some (.getfield 453, 3, 0, 0) := by decide +kernel
theorem xX11_laysFalse_66 : dcd mX11_laysFalse 66 = some (.iload 4, 2, 0, 0) := by decide +kernel
theorem xX11_laysFalse_68 : dcd mX11_laysFalse 68 = some (.iastore, 1, 0, 0) := by decide +kernel
theorem xX11_laysFalse_69 : dcd mX11_laysFalse 69 = some (.aload 0, 1, 0, 0) := by decide +kernel
theorem xX11_laysFalse_70 : dcd mX11_laysFalse 70 = some (.dup, 1, 0, 0) := by decide +kernel
theorem xX11_laysFalse_71 : dcd mX11_laysFalse 71 = some (.getfield 453, 3, 0, 0) := by decide +kernel
theorem xX11_laysFalse_74 : dcd mX11_laysFalse 74 = some (.iconst 0, 1, 0, 1) := by decide +kernel
theorem xX11_laysFalse_75 : dcd mX11_laysFalse 75 = some (.iadd, 1, 0, 0) := by decide +kernel
theorem xX11_laysFalse_76 : dcd mX11_laysFalse 76 = some (.putfield 453, 3, 0, 0) := by decide +kernel
theorem xX11_laysFalse_79 : dcd mX11_laysFalse 79 = some (.iinc 4 0, 3, 0, 1) := by decide +kernel
theorem xX11_laysFalse_82 : dcd mX11_laysFalse 82 = some (.goto 0, 3, 18, 0) := by decide +kernel
theorem xX11_laysFalse_85 : dcd mX11_laysFalse 85 = some (.iinc 3 0, 3, 0, 1) := by decide +kernel
theorem xX11_laysFalse_88 : dcd mX11_laysFalse 88 = some (.goto 0, 3, 7, 0) := by decide +kernel
theorem xX11_laysFalse_91 : dcd mX11_laysFalse 91 = some (.return_, 1, 0, 0) := by decide +kernel
theorem xX11_mostAlike_0 : dcd mX11_mostAlike 0 = some (.aload 0, 1, 0, 0) := by decide +kernel
theorem xX11_mostAlike_1 : dcd mX11_mostAlike 1 = some (.getfield 234, 3, 0, 0) := by decide +kernel
theorem xX11_mostAlike_4 : dcd mX11_mostAlike 4 = some (.istore 2, 1, 0, 0) := by decide +kernel
theorem xX11_mostAlike_5 : dcd mX11_mostAlike 5 = some (.aload 0, 1, 0, 0) := by decide +kernel
theorem xX11_mostAlike_6 : dcd mX11_mostAlike 6 = some (.iload 1, 1, 0, 0) := by decide +kernel
theorem xX11_mostAlike_7 : dcd mX11_mostAlike 7 = some (.putfield 234, 3, 0, 0) := by decide +kernel
theorem xX11_mostAlike_10 : dcd mX11_mostAlike 10 = some (.iconst 0, 1, 0, 0) := by decide +kernel
theorem xX11_mostAlike_11 : dcd mX11_mostAlike 11 = some (.istore 3, 1, 0, 0) := by decide +kernel
theorem xX11_mostAlike_12 : dcd mX11_mostAlike 12 = some (.iload 3, 1, 0, 0) := by decide +kernel
theorem xX11_mostAlike_13 : dcd mX11_mostAlike 13 = some (.aload 0, 1, 0, 0) := by decide +kernel
theorem xX11_mostAlike_14 : dcd mX11_mostAlike 14 = some (.getfield 453, 3, 0, 0) := by decide +kernel
theorem xX11_mostAlike_17 : dcd mX11_mostAlike 17 = some (.if_icmp .ge 0, 3, 79, 0) := by decide +kernel
theorem xX11_mostAlike_20 : dcd mX11_mostAlike 20 = some (.aload 0, 1, 0, 0) := by decide +kernel
theorem xX11_mostAlike_21 : dcd mX11_mostAlike 21 = some (.getfield 43, 3, 0, 0) := by decide +kernel
theorem xX11_mostAlike_24 : dcd mX11_mostAlike 24 = some (.aload 0, 1, 0, 0) := by decide +kernel
theorem xX11_mostAlike_25 : dcd mX11_mostAlike 25 = some (.getfield 136, 3, 0, 0) := by decide +kernel
theorem xX11_mostAlike_28 : dcd mX11_mostAlike 28 = some (.iload 3, 1, 0, 0) := by decide +kernel
theorem xX11_mostAlike_29 : dcd mX11_mostAlike 29 = some (.iaload, 1, 0, 0) := by decide +kernel
theorem xX11_mostAlike_30 : dcd mX11_mostAlike 30 = some (.iaload, 1, 0, 0) := by decide +kernel
theorem xX11_mostAlike_31 : dcd mX11_mostAlike 31 = some (.istore 4, 2, 0, 0) := by decide +kernel
theorem xX11_mostAlike_33 : dcd mX11_mostAlike 33 = some (.aload 0, 1, 0, 0) := by decide +kernel
theorem xX11_mostAlike_34 : dcd mX11_mostAlike 34 = some (.getfield 43, 3, 0, 0) := by decide +kernel
theorem xX11_mostAlike_37 : dcd mX11_mostAlike 37 = some (.aload 0, 1, 0, 0) := by decide +kernel
theorem xX11_mostAlike_38 : dcd mX11_mostAlike 38 = some (.getfield 136, 3, 0, 0) := by decide +kernel
theorem xX11_mostAlike_41 : dcd mX11_mostAlike 41 = some (.iload 3, 1, 0, 0) := by decide +kernel
theorem xX11_mostAlike_42 : dcd mX11_mostAlike 42 = some (.iaload, 1, 0, 0) := by decide +kernel
theorem xX11_mostAlike_43 : dcd mX11_mostAlike 43 = some (.aload 0, 1, 0, 0) := by decide +kernel
theorem xX11_mostAlike_44 : dcd mX11_mostAlike 44 = some (.getfield 139, 3, 0, 0) := by decide +kernel
theorem xX11_mostAlike_47 : dcd mX11_mostAlike 47 = some (.iload 3, 1, 0, 0) := by decide +kernel
theorem xX11_mostAlike_48 : dcd mX11_mostAlike 48 = some (.iaload, 1, 0, 0) := by decide +kernel
theorem xX11_mostAlike_49 : dcd mX11_mostAlike 49 = some (.iastore, 1, 0, 0) := by decide +kernel
theorem xX11_mostAlike_50 : dcd mX11_mostAlike 50 = some (.aload 0, 1, 0, 0) := by decide +kernel
theorem xX11_mostAlike_51 : dcd mX11_mostAlike 51 = some (.getfield 142, 3, 0, 0) := by decide +kernel
theorem xX11_mostAlike_54 : dcd mX11_mostAlike 54 = some (.iload 3, 1, 0, 0) := by decide +kernel
theorem xX11_mostAlike_55 : dcd mX11_mostAlike 55 = some (.aload 0, 1, 0, 0) := by decide +kernel
theorem xX11_mostAlike_56 : dcd mX11_mostAlike 56 = some (.invokevirtual 432, 3, 0, 0) := by decide +kernel
theorem xX11_mostAlike_59 : dcd mX11_mostAlike 59 = some (.lastore, 1, 0, 0) := by decide +kernel
theorem xX11_mostAlike_60 : dcd mX11_mostAlike 60 = some (.aload 0, 1, 0, 0) := by decide +kernel
theorem xX11_mostAlike_61 : dcd mX11_mostAlike 61 = some (.getfield 43, 3, 0, 0) := by decide +kernel
theorem xX11_mostAlike_64 : dcd mX11_mostAlike 64 = some (.aload 0, 1, 0, 0) := by decide +kernel
theorem xX11_mostAlike_65 : dcd mX11_mostAlike 65 = some (.getfield 136, 3, 0, 0) := by decide +kernel
theorem xX11_mostAlike_68 : dcd mX11_mostAlike 68 = some (.iload 3, 1, 0, 0) := by decide +kernel
theorem xX11_mostAlike_69 : dcd mX11_mostAlike 69 = some (.iaload, 1, 0, 0) := by decide +kernel
theorem xX11_mostAlike_70 : dcd mX11_mostAlike 70 = some (.iload 4, 2, 0, 0) := by decide +kernel
theorem xX11_mostAlike_72 : dcd mX11_mostAlike 72 = some (.iastore, 1, 0, 0) := by decide +kernel
theorem xX11_mostAlike_73 : dcd mX11_mostAlike 73 = some (.iinc 3 0, 3, 0, 1) := by decide +kernel
theorem xX11_mostAlike_76 : dcd mX11_mostAlike 76 = some (.goto 0, 3, 12, 0) := by decide +kernel
theorem xX11_mostAlike_79 : dcd mX11_mostAlike 79 = some (.aload 0, 1, 0, 0) := by decide +kernel
theorem xX11_mostAlike_80 : dcd mX11_mostAlike 80 = some (.iload 2, 1, 0, 0) := by decide +kernel
theorem xX11_mostAlike_81 : dcd mX11_mostAlike 81 = some (.putfield 234, 3, 0, 0) := by decide +kernel
theorem xX11_mostAlike_84 : dcd mX11_mostAlike 84 = some (.iconst 0, 1, 0, 0) := by decide +kernel
theorem xX11_mostAlike_85 : dcd mX11_mostAlike 85 = some (.istore 3, 1, 0, 0) := by decide +kernel
theorem xX11_mostAlike_86 : dcd mX11_mostAlike 86 = some (.iconst 0, 1, 0, 0) := by decide +kernel
theorem xX11_mostAlike_87 : dcd mX11_mostAlike 87 = some (.istore 4, 2, 0, 0) := by decide +kernel
theorem xX11_mostAlike_89 : dcd mX11_mostAlike 89 = some (.iload 4, 2, 0, 0) := by decide +kernel
theorem xX11_mostAlike_91 : dcd mX11_mostAlike 91 = some (.aload 0, 1, 0, 0) := by decide +kernel
theorem xX11_mostAlike_92 : dcd mX11_mostAlike 92 = some (.getfield 453, 3, 0, 0) := by decide +kernel
theorem xX11_mostAlike_95 : dcd mX11_mostAlike 95 = some (.if_icmp .ge 0, 3, 167, 0) := by decide +kernel
theorem xX11_mostAlike_98 : dcd mX11_mostAlike 98 = some (.iconst 0, 1, 0, 0) := by decide +kernel
theorem xX11_mostAlike_99 : dcd mX11_mostAlike 99 = some (.istore 5, 2, 0, 0) := by decide +kernel
theorem xX11_mostAlike_101 : dcd mX11_mostAlike 101 = some (.iload 4, 2, 0, 0) := by decide +kernel
theorem xX11_mostAlike_103 : dcd mX11_mostAlike 103 = some (.istore 6, 2, 0, 0) := by decide +kernel
theorem xX11_mostAlike_105 : dcd mX11_mostAlike 105 = some (.iload 6, 2, 0, 0) := by decide +kernel
theorem xX11_mostAlike_107 : dcd mX11_mostAlike 107 = some (.aload 0, 1, 0, 0) := by decide +kernel
theorem xX11_mostAlike_108 : dcd mX11_mostAlike 108 = some (.getfield 453, 3, 0, 0) := by decide +kernel
theorem xX11_mostAlike_111 : dcd mX11_mostAlike 111 = some (.if_icmp .ge 0, 3, 148, 0) := by decide +kernel
theorem xX11_mostAlike_114 : dcd mX11_mostAlike 114 = some (.iload 5, 2, 0, 0) := by decide +kernel
theorem xX11_mostAlike_116 : dcd mX11_mostAlike 116 = some (.aload 0, 1, 0, 0) := by decide +kernel
theorem xX11_mostAlike_117 : dcd mX11_mostAlike 117 = some (.getfield 142, 3, 0, 0) := by decide +kernel
theorem xX11_mostAlike_120 : dcd mX11_mostAlike 120 = some (.iload 6, 2, 0, 0) := by decide +kernel
theorem xX11_mostAlike_122 : dcd mX11_mostAlike 122 = some (.laload, 1, 0, 0) := by decide +kernel
theorem xX11_mostAlike_123 : dcd mX11_mostAlike 123 = some (.aload 0, 1, 0, 0) := by decide +kernel
theorem xX11_mostAlike_124 : dcd mX11_mostAlike 124 = some (.getfield 142, 3, 0, 0) := by decide +kernel
theorem xX11_mostAlike_127 : dcd mX11_mostAlike 127 = some (.iload 4, 2, 0, 0) := by decide +kernel
theorem xX11_mostAlike_129 : dcd mX11_mostAlike 129 = some (.laload, 1, 0, 0) := by decide +kernel
theorem xX11_mostAlike_130 : dcd mX11_mostAlike 130 = some (.lcmp, 1, 0, 0) := by decide +kernel
theorem xX11_mostAlike_131 : dcd mX11_mostAlike 131 = some (.ifCond .ne 0, 3, 138, 0) := by decide +kernel
theorem xX11_mostAlike_134 : dcd mX11_mostAlike 134 = some (.iconst 0, 1, 0, 1) := by decide +kernel
theorem xX11_mostAlike_135 : dcd mX11_mostAlike 135 = some (.goto 0, 3, 139, 0) := by decide +kernel
theorem xX11_mostAlike_138 : dcd mX11_mostAlike 138 = some (.iconst 0, 1, 0, 0) := by decide +kernel
theorem xX11_mostAlike_139 : dcd mX11_mostAlike 139 = some (.iadd, 1, 0, 0) := by decide +kernel
theorem xX11_mostAlike_140 : dcd mX11_mostAlike 140 = some (.istore 5, 2, 0, 0) := by decide +kernel
theorem xX11_mostAlike_142 : dcd mX11_mostAlike 142 = some (.iinc 6 0, 3, 0, 1) := by decide +kernel
theorem xX11_mostAlike_145 : dcd mX11_mostAlike 145 = some (.goto 0, 3, 105, 0) := by decide +kernel
theorem xX11_mostAlike_148 : dcd mX11_mostAlike 148 = some (.iload 5, 2, 0, 0) := by decide +kernel
theorem xX11_mostAlike_150 : dcd mX11_mostAlike 150 = some (.iload 3, 1, 0, 0) := by decide +kernel
theorem xX11_mostAlike_151 : dcd mX11_mostAlike 151 = some (.if_icmp .le 0, 3, 159, 0) := by decide +kernel
theorem xX11_mostAlike_154 : dcd mX11_mostAlike 154 = some (.iload 5, 2, 0, 0) := by decide +kernel
theorem xX11_mostAlike_156 : dcd mX11_mostAlike 156 = some (.goto 0, 3, 160, 0) := by decide +kernel
theorem xX11_mostAlike_159 : dcd mX11_mostAlike 159 = some (.iload 3, 1, 0, 0) := by decide +kernel
theorem xX11_mostAlike_160 : dcd mX11_mostAlike 160 = some (.istore 3, 1, 0, 0) := by decide +kernel
theorem xX11_mostAlike_161 : dcd mX11_mostAlike 161 = some (.iinc 4 0, 3, 0, 1) := by decide +kernel
theorem xX11_mostAlike_164 : dcd mX11_mostAlike 164 = some (.goto 0, 3, 89, 0) := by decide +kernel
theorem xX11_mostAlike_167 : dcd mX11_mostAlike 167 = some (.iload 3, 1, 0, 0) := by decide +kernel
theorem xX11_mostAlike_168 : dcd mX11_mostAlike 168 = some (.ireturn, 1, 0, 0) := by decide +kernel
theorem xX11_gust_0 : dcd mX11_gust 0 = some (.aload 0, 1, 0, 0) := by decide +kernel
theorem xX11_gust_1 : dcd mX11_gust 1 = some (.invokevirtual 440, 3, 0, 0) := by decide +kernel
theorem xX11_gust_4 : dcd mX11_gust 4 = some (.istore 3, 1, 0, 0) := by decide +kernel
theorem xX11_gust_5 : dcd mX11_gust 5 = some (.iload 1, 1, 0, 0) := by decide +kernel
theorem xX11_gust_6 : dcd mX11_gust 6 = some (.i2l, 1, 0, 0) := by decide +kernel
theorem xX11_gust_7 : dcd mX11_gust 7 = some (.lconst 1, 1, 0, 0) := by decide +kernel
theorem xX11_gust_8 : dcd mX11_gust 8 = some (.ldc2_w 417, 3, 0, 0) := by decide +kernel
theorem xX11_gust_11 : dcd mX11_gust 11 = some (.invokestatic 203, 3, 0, 0) := by decide +kernel
theorem xX11_gust_14 : dcd mX11_gust 14 = some (.ifCond .eq 0, 3, 37, 0) := by decide +kernel
theorem xX11_gust_17 : dcd mX11_gust 17 = some (.iload 2, 1, 0, 0) := by decide +kernel
theorem xX11_gust_18 : dcd mX11_gust 18 = some (.i2l, 1, 0, 0) := by decide +kernel
theorem xX11_gust_19 : dcd mX11_gust 19 = some (.lconst 0, 1, 0, 0) := by decide +kernel
theorem xX11_gust_20 : dcd mX11_gust 20 = some (.lconst 1, 1, 0, 0) := by decide +kernel
theorem xX11_gust_21 : dcd mX11_gust 21 = some (.invokestatic 203, 3, 0, 0) := by decide +kernel
theorem xX11_gust_24 : dcd mX11_gust 24 = some (.ifCond .eq 0, 3, 37, 0) := by decide +kernel
theorem xX11_gust_27 : dcd mX11_gust 27 = some (.iload 3, 1, 0, 0) := by decide +kernel
theorem xX11_gust_28 : dcd mX11_gust 28 = some (.iload 1, 1, 0, 0) := by decide +kernel
theorem xX11_gust_29 : dcd mX11_gust 29 = some (.iadd, 1, 0, 0) := by decide +kernel
theorem xX11_gust_30 : dcd mX11_gust 30 = some (.aload 0, 1, 0, 0) := by decide +kernel
theorem xX11_gust_31 : dcd mX11_gust 31 = some (.getfield 237, 3, 0, 0) := by decide +kernel
theorem xX11_gust_34 : dcd mX11_gust 34 = some (.if_icmp .le 0, 3, 39, 0) := by decide +kernel
theorem xX11_gust_37 : dcd mX11_gust 37 = some (.iconst 0, 1, 0, (-1)) := by decide +kernel
theorem xX11_gust_38 : dcd mX11_gust 38 = some (.ireturn, 1, 0, 0) := by decide +kernel
theorem xX11_gust_39 : dcd mX11_gust 39 = some (.aload 0, 1, 0, 0) := by decide +kernel
theorem xX11_gust_40 : dcd mX11_gust 40 = some (.iconst 0, 1, 0, 0) := by decide +kernel
theorem xX11_gust_41 : dcd mX11_gust 41 = some (.putfield 237, 3, 0, 0) := by decide +kernel
theorem xX11_gust_44 : dcd mX11_gust 44 = some (.aload 0, 1, 0, 0) := by decide +kernel
theorem xX11_gust_45 : dcd mX11_gust 45 = some (.iload 3, 1, 0, 0) := by decide +kernel
theorem xX11_gust_46 : dcd mX11_gust 46 = some (.invokevirtual 443, 3, 0, 0) := by decide +kernel
theorem xX11_gust_49 : dcd mX11_gust 49 = some (.lstore 4, 2, 0, 0) := by decide +kernel
theorem xX11_gust_51 : dcd mX11_gust 51 = some (.lload 4, 2, 0, 0) := by decide +kernel
theorem xX11_gust_53 : dcd mX11_gust 53 = some (.lconst 0, 1, 0, 0) := by decide +kernel
theorem xX11_gust_54 : dcd mX11_gust 54 = some (.lcmp, 1, 0, 0) := by decide +kernel
theorem xX11_gust_55 : dcd mX11_gust 55 = some (.ifCond .ge 0, 3, 61, 0) := by decide +kernel
theorem xX11_gust_58 : dcd mX11_gust 58 = some (.iconst 0, 2, 0, (-2)) := by decide +kernel
theorem xX11_gust_60 : dcd mX11_gust 60 = some (.ireturn, 1, 0, 0) := by decide +kernel
theorem xX11_gust_61 : dcd mX11_gust 61 = some (.iconst 0, 1, 0, 0) := by decide +kernel
theorem xX11_gust_62 : dcd mX11_gust 62 = some (.istore 6, 2, 0, 0) := by decide +kernel
theorem xX11_gust_64 : dcd mX11_gust 64 = some (.iload 6, 2, 0, 0) := by decide +kernel
theorem xX11_gust_66 : dcd mX11_gust 66 = some (.iload 1, 1, 0, 0) := by decide +kernel
theorem xX11_gust_67 : dcd mX11_gust 67 = some (.if_icmp .ge 0, 3, 106, 0) := by decide +kernel
theorem xX11_gust_70 : dcd mX11_gust 70 = some (.aload 0, 1, 0, 0) := by decide +kernel
theorem xX11_gust_71 : dcd mX11_gust 71 = some (.getfield 146, 3, 0, 0) := by decide +kernel
theorem xX11_gust_74 : dcd mX11_gust 74 = some (.iload 6, 2, 0, 0) := by decide +kernel
theorem xX11_gust_76 : dcd mX11_gust 76 = some (.aload 0, 1, 0, 0) := by decide +kernel
theorem xX11_gust_77 : dcd mX11_gust 77 = some (.iload 3, 1, 0, 0) := by decide +kernel
theorem xX11_gust_78 : dcd mX11_gust 78 = some (.iload 6, 2, 0, 0) := by decide +kernel
theorem xX11_gust_80 : dcd mX11_gust 80 = some (.iadd, 1, 0, 0) := by decide +kernel
theorem xX11_gust_81 : dcd mX11_gust 81 = some (.invokevirtual 411, 3, 0, 0) := by decide +kernel
theorem xX11_gust_84 : dcd mX11_gust 84 = some (.iastore, 1, 0, 0) := by decide +kernel
theorem xX11_gust_85 : dcd mX11_gust 85 = some (.aload 0, 1, 0, 0) := by decide +kernel
theorem xX11_gust_86 : dcd mX11_gust 86 = some (.getfield 146, 3, 0, 0) := by decide +kernel
theorem xX11_gust_89 : dcd mX11_gust 89 = some (.iload 6, 2, 0, 0) := by decide +kernel
theorem xX11_gust_91 : dcd mX11_gust 91 = some (.iaload, 1, 0, 0) := by decide +kernel
theorem xX11_gust_92 : dcd mX11_gust 92 = some (.iconst 0, 2, 0, 18) := by decide +kernel
theorem xX11_gust_94 : dcd mX11_gust 94 = some (.if_icmp .le 0, 3, 100, 0) := by decide +kernel
theorem xX11_gust_97 : dcd mX11_gust 97 = some (.iconst 0, 2, 0, (-2)) := by decide +kernel
theorem xX11_gust_99 : dcd mX11_gust 99 = some (.ireturn, 1, 0, 0) := by decide +kernel
theorem xX11_gust_100 : dcd mX11_gust 100 = some (.iinc 6 0, 3, 0, 1) := by decide +kernel
theorem xX11_gust_103 : dcd mX11_gust 103 = some (.goto 0, 3, 64, 0) := by decide +kernel
theorem xX11_gust_106 : dcd mX11_gust 106 = some (.aload 0, 1, 0, 0) := by decide +kernel
theorem xX11_gust_107 : dcd mX11_gust 107 = some (.lload 4, 2, 0, 0) := by decide +kernel
theorem xX11_gust_109 : dcd mX11_gust 109 = some (.invokevirtual 456, 3, 0, 0) := by decide +kernel
theorem xX11_gust_112 : dcd mX11_gust 112 = some (.aload 0, 1, 0, 0) := by decide +kernel
theorem xX11_gust_113 : dcd mX11_gust 113 = some (.getfield 453, 3, 0, 0) := by decide +kernel
theorem xX11_gust_116 : dcd mX11_gust 116 = some (.ifCond .ne 0, 3, 122, 0) := by decide +kernel
theorem xX11_gust_119 : dcd mX11_gust 119 = some (.iconst 0, 2, 0, (-3)) := by decide +kernel
theorem xX11_gust_121 : dcd mX11_gust 121 = some (.ireturn, 1, 0, 0) := by decide +kernel
theorem xX11_gust_122 : dcd mX11_gust 122 = some (.iconst 0, 1, 0, (-1)) := by decide +kernel
theorem xX11_gust_123 : dcd mX11_gust 123 = some (.istore 6, 2, 0, 0) := by decide +kernel
theorem xX11_gust_125 : dcd mX11_gust 125 = some (.iconst 0, 1, 0, 0) := by decide +kernel
theorem xX11_gust_126 : dcd mX11_gust 126 = some (.istore 7, 2, 0, 0) := by decide +kernel
theorem xX11_gust_128 : dcd mX11_gust 128 = some (.iconst 0, 1, 0, 0) := by decide +kernel
theorem xX11_gust_129 : dcd mX11_gust 129 = some (.istore 8, 2, 0, 0) := by decide +kernel
theorem xX11_gust_131 : dcd mX11_gust 131 = some (.iload 8, 2, 0, 0) := by decide +kernel
theorem xX11_gust_133 : dcd mX11_gust 133 = some (.iload 1, 1, 0, 0) := by decide +kernel
theorem xX11_gust_134 : dcd mX11_gust 134 = some (.if_icmp .ge 0, 3, 188, 0) := by decide +kernel
theorem xX11_gust_137 : dcd mX11_gust 137 = some (.aload 0, 1, 0, 0) := by decide +kernel
theorem xX11_gust_138 : dcd mX11_gust 138 = some (.aload 0, 1, 0, 0) := by decide +kernel
theorem xX11_gust_139 : dcd mX11_gust 139 = some (.getfield 146, 3, 0, 0) := by decide +kernel
theorem xX11_gust_142 : dcd mX11_gust 142 = some (.iload 8, 2, 0, 0) := by decide +kernel
theorem xX11_gust_144 : dcd mX11_gust 144 = some (.iaload, 1, 0, 0) := by decide +kernel
theorem xX11_gust_145 : dcd mX11_gust 145 = some (.iconst 0, 2, 0, 9) := by decide +kernel
theorem xX11_gust_147 : dcd mX11_gust 147 = some (.isub, 1, 0, 0) := by decide +kernel
theorem xX11_gust_148 : dcd mX11_gust 148 = some (.invokevirtual 460, 3, 0, 0) := by decide +kernel
theorem xX11_gust_151 : dcd mX11_gust 151 = some (.istore 9, 2, 0, 0) := by decide +kernel
theorem xX11_gust_153 : dcd mX11_gust 153 = some (.iload 6, 2, 0, 0) := by decide +kernel
theorem xX11_gust_155 : dcd mX11_gust 155 = some (.iconst 0, 1, 0, (-1)) := by decide +kernel
theorem xX11_gust_156 : dcd mX11_gust 156 = some (.if_icmp .eq 0, 3, 169, 0) := by decide +kernel
theorem xX11_gust_159 : dcd mX11_gust 159 = some (.iload 9, 2, 0, 0) := by decide +kernel
theorem xX11_gust_161 : dcd mX11_gust 161 = some (.iload 7, 2, 0, 0) := by decide +kernel
theorem xX11_gust_163 : dcd mX11_gust 163 = some (.if_icmp .lt 0, 3, 169, 0) := by decide +kernel
theorem xX11_gust_166 : dcd mX11_gust 166 = some (.goto 0, 3, 182, 0) := by decide +kernel
theorem xX11_gust_169 : dcd mX11_gust 169 = some (.aload 0, 1, 0, 0) := by decide +kernel
theorem xX11_gust_170 : dcd mX11_gust 170 = some (.getfield 146, 3, 0, 0) := by decide +kernel
theorem xX11_gust_173 : dcd mX11_gust 173 = some (.iload 8, 2, 0, 0) := by decide +kernel
theorem xX11_gust_175 : dcd mX11_gust 175 = some (.iaload, 1, 0, 0) := by decide +kernel
theorem xX11_gust_176 : dcd mX11_gust 176 = some (.istore 6, 2, 0, 0) := by decide +kernel
theorem xX11_gust_178 : dcd mX11_gust 178 = some (.iload 9, 2, 0, 0) := by decide +kernel
theorem xX11_gust_180 : dcd mX11_gust 180 = some (.istore 7, 2, 0, 0) := by decide +kernel
theorem xX11_gust_182 : dcd mX11_gust 182 = some (.iinc 8 0, 3, 0, 1) := by decide +kernel
theorem xX11_gust_185 : dcd mX11_gust 185 = some (.goto 0, 3, 131, 0) := by decide +kernel
theorem xX11_gust_188 : dcd mX11_gust 188 = some (.iload 2, 1, 0, 0) := by decide +kernel
theorem xX11_gust_189 : dcd mX11_gust 189 = some (.ifCond .ne 0, 3, 197, 0) := by decide +kernel
theorem xX11_gust_192 : dcd mX11_gust 192 = some (.iload 6, 2, 0, 0) := by decide +kernel
theorem xX11_gust_194 : dcd mX11_gust 194 = some (.goto 0, 3, 199, 0) := by decide +kernel
theorem xX11_gust_197 : dcd mX11_gust 197 = some (.iload 7, 2, 0, 0) := by decide +kernel
theorem xX11_gust_199 : dcd mX11_gust 199 = some (.ireturn, 1, 0, 0) := by decide +kernel
theorem xX11_isUnseen_0 : dcd mX11_isUnseen 0 = some (.aload 0, 1, 0, 0) := by decide +kernel
theorem xX11_isUnseen_1 : dcd mX11_isUnseen 1 = some (.getfield 234, 3, 0, 0) := by decide +kernel
theorem xX11_isUnseen_4 : dcd mX11_isUnseen 4 = some (.istore 2, 1, 0, 0) := by decide +kernel
theorem xX11_isUnseen_5 : dcd mX11_isUnseen 5 = some (.iconst 0, 1, 0, 1) := by decide +kernel
theorem xX11_isUnseen_6 : dcd mX11_isUnseen 6 = some (.istore 3, 1, 0, 0) := by decide +kernel
theorem xX11_isUnseen_7 : dcd mX11_isUnseen 7 = some (.iconst 0, 1, 0, 0) := by decide +kernel
theorem xX11_isUnseen_8 : dcd mX11_isUnseen 8 = some (.istore 4, 2, 0, 0) := by decide +kernel
theorem xX11_isUnseen_10 : dcd mX11_isUnseen 10 = some (.iload 4, 2, 0, 0) := by decide +kernel
theorem xX11_isUnseen_12 : dcd mX11_isUnseen 12 = some (.iload 1, 1, 0, 0) := by decide +kernel
theorem xX11_isUnseen_13 : dcd mX11_isUnseen 13 = some (.if_icmp .ge 0, 3, 61, 0) := by decide +kernel
theorem xX11_isUnseen_16 : dcd mX11_isUnseen 16 = some (.iload 3, 1, 0, 0) := by decide +kernel
theorem xX11_isUnseen_17 : dcd mX11_isUnseen 17 = some (.ifCond .eq 0, 3, 61, 0) := by decide +kernel
theorem xX11_isUnseen_20 : dcd mX11_isUnseen 20 = some (.aload 0, 1, 0, 0) := by decide +kernel
theorem xX11_isUnseen_21 : dcd mX11_isUnseen 21 = some (.aload 0, 1, 0, 0) := by decide +kernel
theorem xX11_isUnseen_22 : dcd mX11_isUnseen 22 = some (.getfield 146, 3, 0, 0) := by decide +kernel
theorem xX11_isUnseen_25 : dcd mX11_isUnseen 25 = some (.iload 4, 2, 0, 0) := by decide +kernel
theorem xX11_isUnseen_27 : dcd mX11_isUnseen 27 = some (.iaload, 1, 0, 0) := by decide +kernel
theorem xX11_isUnseen_28 : dcd mX11_isUnseen 28 = some (.iconst 0, 2, 0, 9) := by decide +kernel
theorem xX11_isUnseen_30 : dcd mX11_isUnseen 30 = some (.isub, 1, 0, 0) := by decide +kernel
theorem xX11_isUnseen_31 : dcd mX11_isUnseen 31 = some (.putfield 234, 3, 0, 0) := by decide +kernel
theorem xX11_isUnseen_34 : dcd mX11_isUnseen 34 = some (.aload 0, 1, 0, 0) := by decide +kernel
theorem xX11_isUnseen_35 : dcd mX11_isUnseen 35 = some (.invokevirtual 432, 3, 0, 0) := by decide +kernel
theorem xX11_isUnseen_38 : dcd mX11_isUnseen 38 = some (.aload 0, 1, 0, 0) := by decide +kernel
theorem xX11_isUnseen_39 : dcd mX11_isUnseen 39 = some (.getfield 149, 3, 0, 0) := by decide +kernel
theorem xX11_isUnseen_42 : dcd mX11_isUnseen 42 = some (.iload 4, 2, 0, 0) := by decide +kernel
theorem xX11_isUnseen_44 : dcd mX11_isUnseen 44 = some (.laload, 1, 0, 0) := by decide +kernel
theorem xX11_isUnseen_45 : dcd mX11_isUnseen 45 = some (.lcmp, 1, 0, 0) := by decide +kernel
theorem xX11_isUnseen_46 : dcd mX11_isUnseen 46 = some (.ifCond .ne 0, 3, 53, 0) := by decide +kernel
theorem xX11_isUnseen_49 : dcd mX11_isUnseen 49 = some (.iconst 0, 1, 0, 1) := by decide +kernel
theorem xX11_isUnseen_50 : dcd mX11_isUnseen 50 = some (.goto 0, 3, 54, 0) := by decide +kernel
theorem xX11_isUnseen_53 : dcd mX11_isUnseen 53 = some (.iconst 0, 1, 0, 0) := by decide +kernel
theorem xX11_isUnseen_54 : dcd mX11_isUnseen 54 = some (.istore 3, 1, 0, 0) := by decide +kernel
theorem xX11_isUnseen_55 : dcd mX11_isUnseen 55 = some (.iinc 4 0, 3, 0, 1) := by decide +kernel
theorem xX11_isUnseen_58 : dcd mX11_isUnseen 58 = some (.goto 0, 3, 10, 0) := by decide +kernel
theorem xX11_isUnseen_61 : dcd mX11_isUnseen 61 = some (.aload 0, 1, 0, 0) := by decide +kernel
theorem xX11_isUnseen_62 : dcd mX11_isUnseen 62 = some (.iload 2, 1, 0, 0) := by decide +kernel
theorem xX11_isUnseen_63 : dcd mX11_isUnseen 63 = some (.putfield 234, 3, 0, 0) := by decide +kernel
theorem xX11_isUnseen_66 : dcd mX11_isUnseen 66 = some (.iload 3, 1, 0, 0) := by decide +kernel
theorem xX11_isUnseen_67 : dcd mX11_isUnseen 67 = some (.ireturn, 1, 0, 0) := by decide +kernel
theorem xX11_isFraud_0 : dcd mX11_isFraud 0 = some (.aload 0, 1, 0, 0) := by decide +kernel
theorem xX11_isFraud_1 : dcd mX11_isFraud 1 = some (.iload 1, 1, 0, 0) := by decide +kernel
theorem xX11_isFraud_2 : dcd mX11_isFraud 2 = some (.iload 2, 1, 0, 0) := by decide +kernel
theorem xX11_isFraud_3 : dcd mX11_isFraud 3 = some (.iload 3, 1, 0, 0) := by decide +kernel
theorem xX11_isFraud_4 : dcd mX11_isFraud 4 = some (.invokevirtual 394, 3, 0, 0) := by decide +kernel
theorem xX11_isFraud_7 : dcd mX11_isFraud 7 = some (.aload 0, 1, 0, 0) := by decide +kernel
theorem xX11_isFraud_8 : dcd mX11_isFraud 8 = some (.iload 4, 2, 0, 0) := by decide +kernel
theorem xX11_isFraud_10 : dcd mX11_isFraud 10 = some (.invokevirtual 463, 3, 0, 0) := by decide +kernel
theorem xX11_isFraud_13 : dcd mX11_isFraud 13 = some (.istore 5, 2, 0, 0) := by decide +kernel
theorem xX11_isFraud_15 : dcd mX11_isFraud 15 = some (.aload 0, 1, 0, 0) := by decide +kernel
theorem xX11_isFraud_16 : dcd mX11_isFraud 16 = some (.iload 1, 1, 0, 0) := by decide +kernel
theorem xX11_isFraud_17 : dcd mX11_isFraud 17 = some (.iload 2, 1, 0, 0) := by decide +kernel
theorem xX11_isFraud_18 : dcd mX11_isFraud 18 = some (.iload 3, 1, 0, 0) := by decide +kernel
theorem xX11_isFraud_19 : dcd mX11_isFraud 19 = some (.ineg, 1, 0, 0) := by decide +kernel
theorem xX11_isFraud_20 : dcd mX11_isFraud 20 = some (.invokevirtual 394, 3, 0, 0) := by decide +kernel
theorem xX11_isFraud_23 : dcd mX11_isFraud 23 = some (.iload 5, 2, 0, 0) := by decide +kernel
theorem xX11_isFraud_25 : dcd mX11_isFraud 25 = some (.ireturn, 1, 0, 0) := by decide +kernel
theorem xX11_fraud_0 : dcd mX11_fraud 0 = some (.iload 1, 1, 0, 0) := by decide +kernel
theorem xX11_fraud_1 : dcd mX11_fraud 1 = some (.invokestatic 227, 3, 0, 0) := by decide +kernel
theorem xX11_fraud_4 : dcd mX11_fraud 4 = some (.ifCond .eq 0, 3, 52, 0) := by decide +kernel
theorem xX11_fraud_7 : dcd mX11_fraud 7 = some (.iload 2, 1, 0, 0) := by decide +kernel
theorem xX11_fraud_8 : dcd mX11_fraud 8 = some (.invokestatic 227, 3, 0, 0) := by decide +kernel
theorem xX11_fraud_11 : dcd mX11_fraud 11 = some (.ifCond .eq 0, 3, 52, 0) := by decide +kernel
theorem xX11_fraud_14 : dcd mX11_fraud 14 = some (.iload 1, 1, 0, 0) := by decide +kernel
theorem xX11_fraud_15 : dcd mX11_fraud 15 = some (.iload 2, 1, 0, 0) := by decide +kernel
theorem xX11_fraud_16 : dcd mX11_fraud 16 = some (.if_icmp .eq 0, 3, 52, 0) := by decide +kernel
theorem xX11_fraud_19 : dcd mX11_fraud 19 = some (.iload 3, 1, 0, 0) := by decide +kernel
theorem xX11_fraud_20 : dcd mX11_fraud 20 = some (.i2l, 1, 0, 0) := by decide +kernel
theorem xX11_fraud_21 : dcd mX11_fraud 21 = some (.lconst 1, 1, 0, 0) := by decide +kernel
theorem xX11_fraud_22 : dcd mX11_fraud 22 = some (.ldc2_w 417, 3, 0, 0) := by decide +kernel
theorem xX11_fraud_25 : dcd mX11_fraud 25 = some (.invokestatic 203, 3, 0, 0) := by decide +kernel
theorem xX11_fraud_28 : dcd mX11_fraud 28 = some (.ifCond .eq 0, 3, 52, 0) := by decide +kernel
theorem xX11_fraud_31 : dcd mX11_fraud 31 = some (.iload 4, 2, 0, 0) := by decide +kernel
theorem xX11_fraud_33 : dcd mX11_fraud 33 = some (.i2l, 1, 0, 0) := by decide +kernel
theorem xX11_fraud_34 : dcd mX11_fraud 34 = some (.lconst 0, 1, 0, 0) := by decide +kernel
theorem xX11_fraud_35 : dcd mX11_fraud 35 = some (.ldc2_w 402, 3, 0, 0) := by decide +kernel
theorem xX11_fraud_38 : dcd mX11_fraud 38 = some (.invokestatic 203, 3, 0, 0) := by decide +kernel
theorem xX11_fraud_41 : dcd mX11_fraud 41 = some (.ifCond .eq 0, 3, 52, 0) := by decide +kernel
theorem xX11_fraud_44 : dcd mX11_fraud 44 = some (.iload 3, 1, 0, 0) := by decide +kernel
theorem xX11_fraud_45 : dcd mX11_fraud 45 = some (.aload 0, 1, 0, 0) := by decide +kernel
theorem xX11_fraud_46 : dcd mX11_fraud 46 = some (.getfield 237, 3, 0, 0) := by decide +kernel
theorem xX11_fraud_49 : dcd mX11_fraud 49 = some (.if_icmp .le 0, 3, 54, 0) := by decide +kernel
theorem xX11_fraud_52 : dcd mX11_fraud 52 = some (.iconst 0, 1, 0, (-1)) := by decide +kernel
theorem xX11_fraud_53 : dcd mX11_fraud 53 = some (.ireturn, 1, 0, 0) := by decide +kernel
theorem xX11_fraud_54 : dcd mX11_fraud 54 = some (.aload 0, 1, 0, 0) := by decide +kernel
theorem xX11_fraud_55 : dcd mX11_fraud 55 = some (.iconst 0, 1, 0, 0) := by decide +kernel
theorem xX11_fraud_56 : dcd mX11_fraud 56 = some (.putfield 237, 3, 0, 0) := by decide +kernel
theorem xX11_fraud_59 : dcd mX11_fraud 59 = some (.iconst 0, 1, 0, 0) := by decide +kernel
theorem xX11_fraud_60 : dcd mX11_fraud 60 = some (.istore 5, 2, 0, 0) := by decide +kernel
theorem xX11_fraud_62 : dcd mX11_fraud 62 = some (.iload 5, 2, 0, 0) := by decide +kernel
theorem xX11_fraud_64 : dcd mX11_fraud 64 = some (.iload 3, 1, 0, 0) := by decide +kernel
theorem xX11_fraud_65 : dcd mX11_fraud 65 = some (.if_icmp .ge 0, 3, 102, 0) := by decide +kernel
theorem xX11_fraud_68 : dcd mX11_fraud 68 = some (.aload 0, 1, 0, 0) := by decide +kernel
theorem xX11_fraud_69 : dcd mX11_fraud 69 = some (.getfield 146, 3, 0, 0) := by decide +kernel
theorem xX11_fraud_72 : dcd mX11_fraud 72 = some (.iload 5, 2, 0, 0) := by decide +kernel
theorem xX11_fraud_74 : dcd mX11_fraud 74 = some (.aload 0, 1, 0, 0) := by decide +kernel
theorem xX11_fraud_75 : dcd mX11_fraud 75 = some (.iload 5, 2, 0, 0) := by decide +kernel
theorem xX11_fraud_77 : dcd mX11_fraud 77 = some (.invokevirtual 411, 3, 0, 0) := by decide +kernel
theorem xX11_fraud_80 : dcd mX11_fraud 80 = some (.iastore, 1, 0, 0) := by decide +kernel
theorem xX11_fraud_81 : dcd mX11_fraud 81 = some (.aload 0, 1, 0, 0) := by decide +kernel
theorem xX11_fraud_82 : dcd mX11_fraud 82 = some (.getfield 146, 3, 0, 0) := by decide +kernel
theorem xX11_fraud_85 : dcd mX11_fraud 85 = some (.iload 5, 2, 0, 0) := by decide +kernel
theorem xX11_fraud_87 : dcd mX11_fraud 87 = some (.iaload, 1, 0, 0) := by decide +kernel
theorem xX11_fraud_88 : dcd mX11_fraud 88 = some (.iconst 0, 2, 0, 18) := by decide +kernel
theorem xX11_fraud_90 : dcd mX11_fraud 90 = some (.if_icmp .le 0, 3, 96, 0) := by decide +kernel
theorem xX11_fraud_93 : dcd mX11_fraud 93 = some (.iconst 0, 2, 0, (-2)) := by decide +kernel
theorem xX11_fraud_95 : dcd mX11_fraud 95 = some (.ireturn, 1, 0, 0) := by decide +kernel
theorem xX11_fraud_96 : dcd mX11_fraud 96 = some (.iinc 5 0, 3, 0, 1) := by decide +kernel
theorem xX11_fraud_99 : dcd mX11_fraud 99 = some (.goto 0, 3, 62, 0) := by decide +kernel
theorem xX11_fraud_102 : dcd mX11_fraud 102 = some (.aload 0, 1, 0, 0) := by decide +kernel
theorem xX11_fraud_103 : dcd mX11_fraud 103 = some (.getfield 234, 3, 0, 0) := by decide +kernel
theorem xX11_fraud_106 : dcd mX11_fraud 106 = some (.istore 5, 2, 0, 0) := by decide +kernel
theorem xX11_fraud_108 : dcd mX11_fraud 108 = some (.iconst 0, 1, 0, 0) := by decide +kernel
theorem xX11_fraud_109 : dcd mX11_fraud 109 = some (.istore 6, 2, 0, 0) := by decide +kernel
theorem xX11_fraud_111 : dcd mX11_fraud 111 = some (.iload 6, 2, 0, 0) := by decide +kernel
theorem xX11_fraud_113 : dcd mX11_fraud 113 = some (.iload 3, 1, 0, 0) := by decide +kernel
theorem xX11_fraud_114 : dcd mX11_fraud 114 = some (.if_icmp .ge 0, 3, 148, 0) := by decide +kernel
theorem xX11_fraud_117 : dcd mX11_fraud 117 = some (.aload 0, 1, 0, 0) := by decide +kernel
theorem xX11_fraud_118 : dcd mX11_fraud 118 = some (.aload 0, 1, 0, 0) := by decide +kernel
theorem xX11_fraud_119 : dcd mX11_fraud 119 = some (.getfield 146, 3, 0, 0) := by decide +kernel
theorem xX11_fraud_122 : dcd mX11_fraud 122 = some (.iload 6, 2, 0, 0) := by decide +kernel
theorem xX11_fraud_124 : dcd mX11_fraud 124 = some (.iaload, 1, 0, 0) := by decide +kernel
theorem xX11_fraud_125 : dcd mX11_fraud 125 = some (.iconst 0, 2, 0, 9) := by decide +kernel
theorem xX11_fraud_127 : dcd mX11_fraud 127 = some (.isub, 1, 0, 0) := by decide +kernel
theorem xX11_fraud_128 : dcd mX11_fraud 128 = some (.putfield 234, 3, 0, 0) := by decide +kernel
theorem xX11_fraud_131 : dcd mX11_fraud 131 = some (.aload 0, 1, 0, 0) := by decide +kernel
theorem xX11_fraud_132 : dcd mX11_fraud 132 = some (.getfield 149, 3, 0, 0) := by decide +kernel
theorem xX11_fraud_135 : dcd mX11_fraud 135 = some (.iload 6, 2, 0, 0) := by decide +kernel
theorem xX11_fraud_137 : dcd mX11_fraud 137 = some (.aload 0, 1, 0, 0) := by decide +kernel
theorem xX11_fraud_138 : dcd mX11_fraud 138 = some (.invokevirtual 432, 3, 0, 0) := by decide +kernel
theorem xX11_fraud_141 : dcd mX11_fraud 141 = some (.lastore, 1, 0, 0) := by decide +kernel
theorem xX11_fraud_142 : dcd mX11_fraud 142 = some (.iinc 6 0, 3, 0, 1) := by decide +kernel
theorem xX11_fraud_145 : dcd mX11_fraud 145 = some (.goto 0, 3, 111, 0) := by decide +kernel
theorem xX11_fraud_148 : dcd mX11_fraud 148 = some (.aload 0, 1, 0, 0) := by decide +kernel
theorem xX11_fraud_149 : dcd mX11_fraud 149 = some (.iload 5, 2, 0, 0) := by decide +kernel
theorem xX11_fraud_151 : dcd mX11_fraud 151 = some (.putfield 234, 3, 0, 0) := by decide +kernel
theorem xX11_fraud_154 : dcd mX11_fraud 154 = some (.iconst 0, 2, 0, 98) := by decide +kernel
theorem xX11_fraud_156 : dcd mX11_fraud 156 = some (.istore 6, 2, 0, 0) := by decide +kernel
theorem xX11_fraud_158 : dcd mX11_fraud 158 = some (.iload 6, 2, 0, 0) := by decide +kernel
theorem xX11_fraud_160 : dcd mX11_fraud 160 = some (.ifCond .le 0, 3, 258, 0) := by decide +kernel
theorem xX11_fraud_163 : dcd mX11_fraud 163 = some (.iconst 0, 1, 0, 0) := by decide +kernel
theorem xX11_fraud_164 : dcd mX11_fraud 164 = some (.istore 7, 2, 0, 0) := by decide +kernel
theorem xX11_fraud_166 : dcd mX11_fraud 166 = some (.iload 7, 2, 0, 0) := by decide +kernel
theorem xX11_fraud_168 : dcd mX11_fraud 168 = some (.aload 0, 1, 0, 0) := by decide +kernel
theorem xX11_fraud_169 : dcd mX11_fraud 169 = some (.getfield 213, 3, 0, 0) := by decide +kernel
theorem xX11_fraud_172 : dcd mX11_fraud 172 = some (.if_icmp .ge 0, 3, 252, 0) := by decide +kernel
theorem xX11_fraud_175 : dcd mX11_fraud 175 = some (.iconst 0, 1, 0, 0) := by decide +kernel
theorem xX11_fraud_176 : dcd mX11_fraud 176 = some (.istore 8, 2, 0, 0) := by decide +kernel
theorem xX11_fraud_178 : dcd mX11_fraud 178 = some (.iload 8, 2, 0, 0) := by decide +kernel
theorem xX11_fraud_180 : dcd mX11_fraud 180 = some (.aload 0, 1, 0, 0) := by decide +kernel
theorem xX11_fraud_181 : dcd mX11_fraud 181 = some (.getfield 213, 3, 0, 0) := by decide +kernel
theorem xX11_fraud_184 : dcd mX11_fraud 184 = some (.if_icmp .ge 0, 3, 246, 0) := by decide +kernel
theorem xX11_fraud_187 : dcd mX11_fraud 187 = some (.aload 0, 1, 0, 0) := by decide +kernel
theorem xX11_fraud_188 : dcd mX11_fraud 188 = some (.iload 7, 2, 0, 0) := by decide +kernel
theorem xX11_fraud_190 : dcd mX11_fraud 190 = some (.iload 8, 2, 0, 0) := by decide +kernel
theorem xX11_fraud_192 : dcd mX11_fraud 192 = some (.iload 1, 1, 0, 0) := by decide +kernel
theorem xX11_fraud_193 : dcd mX11_fraud 193 = some (.iload 2, 1, 0, 0) := by decide +kernel
theorem xX11_fraud_194 : dcd mX11_fraud 194 = some (.iload 6, 2, 0, 0) := by decide +kernel
theorem xX11_fraud_196 : dcd mX11_fraud 196 = some (.invokevirtual 404, 3, 0, 0) := by decide +kernel
theorem xX11_fraud_199 : dcd mX11_fraud 199 = some (.ifCond .eq 0, 3, 240, 0) := by decide +kernel
theorem xX11_fraud_202 : dcd mX11_fraud 202 = some (.aload 0, 1, 0, 0) := by decide +kernel
theorem xX11_fraud_203 : dcd mX11_fraud 203 = some (.iload 7, 2, 0, 0) := by decide +kernel
theorem xX11_fraud_205 : dcd mX11_fraud 205 = some (.iload 8, 2, 0, 0) := by decide +kernel
theorem xX11_fraud_207 : dcd mX11_fraud 207 = some (.iload 6, 2, 0, 0) := by decide +kernel
theorem xX11_fraud_209 : dcd mX11_fraud 209 = some (.iload 3, 1, 0, 0) := by decide +kernel
theorem xX11_fraud_210 : dcd mX11_fraud 210 = some (.invokevirtual 466, 3, 0, 0) := by decide +kernel
theorem xX11_fraud_213 : dcd mX11_fraud 213 = some (.ifCond .eq 0, 3, 240, 0) := by decide +kernel
theorem xX11_fraud_216 : dcd mX11_fraud 216 = some (.iload 4, 2, 0, 0) := by decide +kernel
theorem xX11_fraud_218 : dcd mX11_fraud 218 = some (.ifCond .ne 0, 3, 226, 0) := by decide +kernel
theorem xX11_fraud_221 : dcd mX11_fraud 221 = some (.iload 6, 2, 0, 0) := by decide +kernel
theorem xX11_fraud_223 : dcd mX11_fraud 223 = some (.goto 0, 3, 239, 0) := by decide +kernel
theorem xX11_fraud_226 : dcd mX11_fraud 226 = some (.iload 4, 2, 0, 0) := by decide +kernel
theorem xX11_fraud_228 : dcd mX11_fraud 228 = some (.iconst 0, 1, 0, 1) := by decide +kernel
theorem xX11_fraud_229 : dcd mX11_fraud 229 = some (.if_icmp .ne 0, 3, 237, 0) := by decide +kernel
theorem xX11_fraud_232 : dcd mX11_fraud 232 = some (.iload 7, 2, 0, 0) := by decide +kernel
theorem xX11_fraud_234 : dcd mX11_fraud 234 = some (.goto 0, 3, 239, 0) := by decide +kernel
theorem xX11_fraud_237 : dcd mX11_fraud 237 = some (.iload 8, 2, 0, 0) := by decide +kernel
theorem xX11_fraud_239 : dcd mX11_fraud 239 = some (.ireturn, 1, 0, 0) := by decide +kernel
theorem xX11_fraud_240 : dcd mX11_fraud 240 = some (.iinc 8 0, 3, 0, 1) := by decide +kernel
theorem xX11_fraud_243 : dcd mX11_fraud 243 = some (.goto 0, 3, 178, 0) := by decide +kernel
theorem xX11_fraud_246 : dcd mX11_fraud 246 = some (.iinc 7 0, 3, 0, 1) := by decide +kernel
theorem xX11_fraud_249 : dcd mX11_fraud 249 = some (.goto 0, 3, 166, 0) := by decide +kernel
theorem xX11_fraud_252 : dcd mX11_fraud 252 = some (.iinc 6 0, 3, 0, (-1)) := by decide +kernel
theorem xX11_fraud_255 : dcd mX11_fraud 255 = some (.goto 0, 3, 158, 0) := by decide +kernel
theorem xX11_fraud_258 : dcd mX11_fraud 258 = some (.iconst 0, 2, 0, (-2)) := by decide +kernel
theorem xX11_fraud_260 : dcd mX11_fraud 260 = some (.ireturn, 1, 0, 0) := by decide +kernel
theorem xX11_laysDebts_0 : dcd mX11_laysDebts 0 = some (.iconst 0, 1, 0, 0) := by decide +kernel
theorem xX11_laysDebts_1 : dcd mX11_laysDebts 1 = some (.istore 1, 1, 0, 0) := by decide +kernel
theorem xX11_laysDebts_2 : dcd mX11_laysDebts 2 = some (.iload 1, 1, 0, 0) := by decide +kernel
theorem xX11_laysDebts_3 : dcd mX11_laysDebts 3 = some (.iconst 0, 2, 0, 64) := by decide +kernel
theorem xX11_laysDebts_5 : dcd mX11_laysDebts 5 = some (.if_icmp .ge 0, 3, 21, 0) := by decide +kernel
theorem xX11_laysDebts_8 : dcd mX11_laysDebts 8 = some (.aload 0, 1, 0, 0) := by decide +kernel
theorem xX11_laysDebts_9 : dcd mX11_laysDebts 9 = some (.getfield 152, 3, 0, 0) := by decide +kernel
theorem xX11_laysDebts_12 : dcd mX11_laysDebts 12 = some (.iload 1, 1, 0, 0) := by decide +kernel
theorem xX11_laysDebts_13 : dcd mX11_laysDebts 13 = some (.iconst 0, 1, 0, 0) := by decide +kernel
theorem xX11_laysDebts_14 : dcd mX11_laysDebts 14 = some (.iastore, 1, 0, 0) := by decide +kernel
theorem xX11_laysDebts_15 : dcd mX11_laysDebts 15 = some (.iinc 1 0, 3, 0, 1) := by decide +kernel
theorem xX11_laysDebts_18 : dcd mX11_laysDebts 18 = some (.goto 0, 3, 2, 0) := by decide +kernel
theorem xX11_laysDebts_21 : dcd mX11_laysDebts 21 = some (.iconst 0, 1, 0, 0) := by decide +kernel
theorem xX11_laysDebts_22 : dcd mX11_laysDebts 22 = some (.istore 1, 1, 0, 0) := by decide +kernel
theorem xX11_laysDebts_23 : dcd mX11_laysDebts 23 = some (.iload 1, 1, 0, 0) := by decide +kernel
theorem xX11_laysDebts_24 : dcd mX11_laysDebts 24 = some (.aload 0, 1, 0, 0) := by decide +kernel
theorem xX11_laysDebts_25 : dcd mX11_laysDebts 25 = some (.getfield 213, 3, 0, 0) := by decide +kernel
theorem xX11_laysDebts_28 : dcd mX11_laysDebts 28 = some (.if_icmp .ge 0, 3, 86, 0) := by decide +kernel
theorem xX11_laysDebts_31 : dcd mX11_laysDebts 31 = some (.aload 0, 1, 0, 0) := by decide +kernel
theorem xX11_laysDebts_32 : dcd mX11_laysDebts 32 = some (.getfield 55, 3, 0, 0) := by decide +kernel
theorem xX11_laysDebts_35 : dcd mX11_laysDebts 35 = some (.iload 1, 1, 0, 0) := by decide +kernel
theorem xX11_laysDebts_36 : dcd mX11_laysDebts 36 = some (.baload, 1, 0, 0) := by decide +kernel
theorem xX11_laysDebts_37 : dcd mX11_laysDebts 37 = some (.ifCond .eq 0, 3, 80, 0) := by decide +kernel
theorem xX11_laysDebts_40 : dcd mX11_laysDebts 40 = some (.aload 0, 1, 0, 0) := by decide +kernel
theorem xX11_laysDebts_41 : dcd mX11_laysDebts 41 = some (.getfield 46, 3, 0, 0) := by decide +kernel
theorem xX11_laysDebts_44 : dcd mX11_laysDebts 44 = some (.iload 1, 1, 0, 0) := by decide +kernel
theorem xX11_laysDebts_45 : dcd mX11_laysDebts 45 = some (.iaload, 1, 0, 0) := by decide +kernel
theorem xX11_laysDebts_46 : dcd mX11_laysDebts 46 = some (.iconst 0, 1, 0, 1) := by decide +kernel
theorem xX11_laysDebts_47 : dcd mX11_laysDebts 47 = some (.if_icmp .ne 0, 3, 80, 0) := by decide +kernel
theorem xX11_laysDebts_50 : dcd mX11_laysDebts 50 = some (.aload 0, 1, 0, 0) := by decide +kernel
theorem xX11_laysDebts_51 : dcd mX11_laysDebts 51 = some (.getfield 152, 3, 0, 0) := by decide +kernel
theorem xX11_laysDebts_54 : dcd mX11_laysDebts 54 = some (.iconst 0, 2, 0, 8) := by decide +kernel
theorem xX11_laysDebts_56 : dcd mX11_laysDebts 56 = some (.aload 0, 1, 0, 0) := by decide +kernel
theorem xX11_laysDebts_57 : dcd mX11_laysDebts 57 = some (.getfield 49, 3, 0, 0) := by decide +kernel
theorem xX11_laysDebts_60 : dcd mX11_laysDebts 60 = some (.iload 1, 1, 0, 0) := by decide +kernel
theorem xX11_laysDebts_61 : dcd mX11_laysDebts 61 = some (.iaload, 1, 0, 0) := by decide +kernel
theorem xX11_laysDebts_62 : dcd mX11_laysDebts 62 = some (.imul, 1, 0, 0) := by decide +kernel
theorem xX11_laysDebts_63 : dcd mX11_laysDebts 63 = some (.aload 0, 1, 0, 0) := by decide +kernel
theorem xX11_laysDebts_64 : dcd mX11_laysDebts 64 = some (.getfield 52, 3, 0, 0) := by decide +kernel
theorem xX11_laysDebts_67 : dcd mX11_laysDebts 67 = some (.iload 1, 1, 0, 0) := by decide +kernel
theorem xX11_laysDebts_68 : dcd mX11_laysDebts 68 = some (.iaload, 1, 0, 0) := by decide +kernel
theorem xX11_laysDebts_69 : dcd mX11_laysDebts 69 = some (.iadd, 1, 0, 0) := by decide +kernel
theorem xX11_laysDebts_70 : dcd mX11_laysDebts 70 = some (.dup2, 1, 0, 0) := by decide +kernel
theorem xX11_laysDebts_71 : dcd mX11_laysDebts 71 = some (.iaload, 1, 0, 0) := by decide +kernel
theorem xX11_laysDebts_72 : dcd mX11_laysDebts 72 = some (.aload 0, 1, 0, 0) := by decide +kernel
theorem xX11_laysDebts_73 : dcd mX11_laysDebts 73 = some (.getfield 43, 3, 0, 0) := by decide +kernel
theorem xX11_laysDebts_76 : dcd mX11_laysDebts 76 = some (.iload 1, 1, 0, 0) := by decide +kernel
theorem xX11_laysDebts_77 : dcd mX11_laysDebts 77 = some (.iaload, 1, 0, 0) := by decide +kernel
theorem xX11_laysDebts_78 : dcd mX11_laysDebts 78 = some (.iadd, 1, 0, 0) := by decide +kernel
theorem xX11_laysDebts_79 : dcd mX11_laysDebts 79 = some (.iastore, 1, 0, 0) := by decide +kernel
theorem xX11_laysDebts_80 : dcd mX11_laysDebts 80 = some (.iinc 1 0, 3, 0, 1) := by decide +kernel
theorem xX11_laysDebts_83 : dcd mX11_laysDebts 83 = some (.goto 0, 3, 23, 0) := by decide +kernel
theorem xX11_laysDebts_86 : dcd mX11_laysDebts 86 = some (.return_, 1, 0, 0) := by decide +kernel
theorem xX11_owes_0 : dcd mX11_owes 0 = some (.iload 1, 1, 0, 0) := by decide +kernel
theorem xX11_owes_1 : dcd mX11_owes 1 = some (.invokestatic 227, 3, 0, 0) := by decide +kernel
theorem xX11_owes_4 : dcd mX11_owes 4 = some (.ifCond .eq 0, 3, 19, 0) := by decide +kernel
theorem xX11_owes_7 : dcd mX11_owes 7 = some (.iload 2, 1, 0, 0) := by decide +kernel
theorem xX11_owes_8 : dcd mX11_owes 8 = some (.invokestatic 227, 3, 0, 0) := by decide +kernel
theorem xX11_owes_11 : dcd mX11_owes 11 = some (.ifCond .eq 0, 3, 19, 0) := by decide +kernel
theorem xX11_owes_14 : dcd mX11_owes 14 = some (.iload 1, 1, 0, 0) := by decide +kernel
theorem xX11_owes_15 : dcd mX11_owes 15 = some (.iload 2, 1, 0, 0) := by decide +kernel
theorem xX11_owes_16 : dcd mX11_owes 16 = some (.if_icmp .ne 0, 3, 21, 0) := by decide +kernel
theorem xX11_owes_19 : dcd mX11_owes 19 = some (.iconst 0, 1, 0, (-1)) := by decide +kernel
theorem xX11_owes_20 : dcd mX11_owes 20 = some (.ireturn, 1, 0, 0) := by decide +kernel
theorem xX11_owes_21 : dcd mX11_owes 21 = some (.aload 0, 1, 0, 0) := by decide +kernel
theorem xX11_owes_22 : dcd mX11_owes 22 = some (.invokevirtual 470, 3, 0, 0) := by decide +kernel
theorem xX11_owes_25 : dcd mX11_owes 25 = some (.aload 0, 1, 0, 0) := by decide +kernel
theorem xX11_owes_26 : dcd mX11_owes 26 = some (.getfield 152, 3, 0, 0) := by decide +kernel
theorem xX11_owes_29 : dcd mX11_owes 29 = some (.iconst 0, 2, 0, 8) := by decide +kernel
theorem xX11_owes_31 : dcd mX11_owes 31 = some (.iload 1, 1, 0, 0) := by decide +kernel
theorem xX11_owes_32 : dcd mX11_owes 32 = some (.imul, 1, 0, 0) := by decide +kernel
theorem xX11_owes_33 : dcd mX11_owes 33 = some (.iload 2, 1, 0, 0) := by decide +kernel
theorem xX11_owes_34 : dcd mX11_owes 34 = some (.iadd, 1, 0, 0) := by decide +kernel
theorem xX11_owes_35 : dcd mX11_owes 35 = some (.iaload, 1, 0, 0) := by decide +kernel
theorem xX11_owes_36 : dcd mX11_owes 36 = some (.ireturn, 1, 0, 0) := by decide +kernel
theorem xX11_isOn_0 : dcd mX11_isOn 0 = some (.iconst 0, 1, 0, 0) := by decide +kernel
theorem xX11_isOn_1 : dcd mX11_isOn 1 = some (.istore 3, 1, 0, 0) := by decide +kernel
theorem xX11_isOn_2 : dcd mX11_isOn 2 = some (.iload 3, 1, 0, 0) := by decide +kernel
theorem xX11_isOn_3 : dcd mX11_isOn 3 = some (.iload 1, 1, 0, 0) := by decide +kernel
theorem xX11_isOn_4 : dcd mX11_isOn 4 = some (.if_icmp .ge 0, 3, 25, 0) := by decide +kernel
theorem xX11_isOn_7 : dcd mX11_isOn 7 = some (.aload 0, 1, 0, 0) := by decide +kernel
theorem xX11_isOn_8 : dcd mX11_isOn 8 = some (.getfield 155, 3, 0, 0) := by decide +kernel
theorem xX11_isOn_11 : dcd mX11_isOn 11 = some (.iload 3, 1, 0, 0) := by decide +kernel
theorem xX11_isOn_12 : dcd mX11_isOn 12 = some (.iaload, 1, 0, 0) := by decide +kernel
theorem xX11_isOn_13 : dcd mX11_isOn 13 = some (.iload 2, 1, 0, 0) := by decide +kernel
theorem xX11_isOn_14 : dcd mX11_isOn 14 = some (.if_icmp .ne 0, 3, 19, 0) := by decide +kernel
theorem xX11_isOn_17 : dcd mX11_isOn 17 = some (.iconst 0, 1, 0, 1) := by decide +kernel
theorem xX11_isOn_18 : dcd mX11_isOn 18 = some (.ireturn, 1, 0, 0) := by decide +kernel
theorem xX11_isOn_19 : dcd mX11_isOn 19 = some (.iinc 3 0, 3, 0, 1) := by decide +kernel
theorem xX11_isOn_22 : dcd mX11_isOn 22 = some (.goto 0, 3, 2, 0) := by decide +kernel
theorem xX11_isOn_25 : dcd mX11_isOn 25 = some (.iconst 0, 1, 0, 0) := by decide +kernel
theorem xX11_isOn_26 : dcd mX11_isOn 26 = some (.ireturn, 1, 0, 0) := by decide +kernel
theorem xX11_looksAt_0 : dcd mX11_looksAt 0 = some (.iload 1, 1, 0, 0) := by decide +kernel
theorem xX11_looksAt_1 : dcd mX11_looksAt 1 = some (.iconst 0, 1, 0, 2) := by decide +kernel
theorem xX11_looksAt_2 : dcd mX11_looksAt 2 = some (.if_icmp .lt 0, 3, 31, 0) := by decide +kernel
theorem xX11_looksAt_5 : dcd mX11_looksAt 5 = some (.aload 0, 1, 0, 0) := by decide +kernel
theorem xX11_looksAt_6 : dcd mX11_looksAt 6 = some (.getfield 152, 3, 0, 0) := by decide +kernel
theorem xX11_looksAt_9 : dcd mX11_looksAt 9 = some (.iconst 0, 2, 0, 8) := by decide +kernel
theorem xX11_looksAt_11 : dcd mX11_looksAt 11 = some (.aload 0, 1, 0, 0) := by decide +kernel
theorem xX11_looksAt_12 : dcd mX11_looksAt 12 = some (.getfield 155, 3, 0, 0) := by decide +kernel
theorem xX11_looksAt_15 : dcd mX11_looksAt 15 = some (.iload 1, 1, 0, 0) := by decide +kernel
theorem xX11_looksAt_16 : dcd mX11_looksAt 16 = some (.iconst 0, 1, 0, 1) := by decide +kernel
theorem xX11_looksAt_17 : dcd mX11_looksAt 17 = some (.isub, 1, 0, 0) := by decide +kernel
theorem xX11_looksAt_18 : dcd mX11_looksAt 18 = some (.iaload, 1, 0, 0) := by decide +kernel
theorem xX11_looksAt_19 : dcd mX11_looksAt 19 = some (.imul, 1, 0, 0) := by decide +kernel
theorem xX11_looksAt_20 : dcd mX11_looksAt 20 = some (.aload 0, 1, 0, 0) := by decide +kernel
theorem xX11_looksAt_21 : dcd mX11_looksAt 21 = some (.getfield 155, 3, 0, 0) := by decide +kernel
theorem xX11_looksAt_24 : dcd mX11_looksAt 24 = some (.iconst 0, 1, 0, 0) := by decide +kernel
theorem xX11_looksAt_25 : dcd mX11_looksAt 25 = some (.iaload, 1, 0, 0) := by decide +kernel
theorem xX11_looksAt_26 : dcd mX11_looksAt 26 = some (.iadd, 1, 0, 0) := by decide +kernel
theorem xX11_looksAt_27 : dcd mX11_looksAt 27 = some (.iaload, 1, 0, 0) := by decide +kernel
theorem xX11_looksAt_28 : dcd mX11_looksAt 28 = some (.ifCond .ne 0, 3, 32, 0) := by decide +kernel
theorem xX11_looksAt_31 : dcd mX11_looksAt 31 = some (.return_, 1, 0, 0) := by decide +kernel
theorem xX11_looksAt_32 : dcd mX11_looksAt 32 = some (.aload 0, 1, 0, 0) := by decide +kernel
theorem xX11_looksAt_33 : dcd mX11_looksAt 33 = some (.getfield 152, 3, 0, 0) := by decide +kernel
theorem xX11_looksAt_36 : dcd mX11_looksAt 36 = some (.iconst 0, 2, 0, 8) := by decide +kernel
theorem xX11_looksAt_38 : dcd mX11_looksAt 38 = some (.aload 0, 1, 0, 0) := by decide +kernel
theorem xX11_looksAt_39 : dcd mX11_looksAt 39 = some (.getfield 155, 3, 0, 0) := by decide +kernel
theorem xX11_looksAt_42 : dcd mX11_looksAt 42 = some (.iload 1, 1, 0, 0) := by decide +kernel
theorem xX11_looksAt_43 : dcd mX11_looksAt 43 = some (.iconst 0, 1, 0, 1) := by decide +kernel
theorem xX11_looksAt_44 : dcd mX11_looksAt 44 = some (.isub, 1, 0, 0) := by decide +kernel
theorem xX11_looksAt_45 : dcd mX11_looksAt 45 = some (.iaload, 1, 0, 0) := by decide +kernel
theorem xX11_looksAt_46 : dcd mX11_looksAt 46 = some (.imul, 1, 0, 0) := by decide +kernel
theorem xX11_looksAt_47 : dcd mX11_looksAt 47 = some (.aload 0, 1, 0, 0) := by decide +kernel
theorem xX11_looksAt_48 : dcd mX11_looksAt 48 = some (.getfield 155, 3, 0, 0) := by decide +kernel
theorem xX11_looksAt_51 : dcd mX11_looksAt 51 = some (.iconst 0, 1, 0, 0) := by decide +kernel
theorem xX11_looksAt_52 : dcd mX11_looksAt 52 = some (.iaload, 1, 0, 0) := by decide +kernel
theorem xX11_looksAt_53 : dcd mX11_looksAt 53 = some (.iadd, 1, 0, 0) := by decide +kernel
theorem xX11_looksAt_54 : dcd mX11_looksAt 54 = some (.iaload, 1, 0, 0) := by decide +kernel
theorem xX11_looksAt_55 : dcd mX11_looksAt 55 = some (.istore 2, 1, 0, 0) := by decide +kernel
theorem xX11_looksAt_56 : dcd mX11_looksAt 56 = some (.iconst 0, 1, 0, 0) := by decide +kernel
theorem xX11_looksAt_57 : dcd mX11_looksAt 57 = some (.istore 3, 1, 0, 0) := by decide +kernel
theorem xX11_looksAt_58 : dcd mX11_looksAt 58 = some (.iload 3, 1, 0, 0) := by decide +kernel
theorem xX11_looksAt_59 : dcd mX11_looksAt 59 = some (.iconst 0, 1, 0, 1) := by decide +kernel
theorem xX11_looksAt_60 : dcd mX11_looksAt 60 = some (.iadd, 1, 0, 0) := by decide +kernel
theorem xX11_looksAt_61 : dcd mX11_looksAt 61 = some (.iload 1, 1, 0, 0) := by decide +kernel
theorem xX11_looksAt_62 : dcd mX11_looksAt 62 = some (.if_icmp .ge 0, 3, 122, 0) := by decide +kernel
theorem xX11_looksAt_65 : dcd mX11_looksAt 65 = some (.aload 0, 1, 0, 0) := by decide +kernel
theorem xX11_looksAt_66 : dcd mX11_looksAt 66 = some (.getfield 152, 3, 0, 0) := by decide +kernel
theorem xX11_looksAt_69 : dcd mX11_looksAt 69 = some (.iconst 0, 2, 0, 8) := by decide +kernel
theorem xX11_looksAt_71 : dcd mX11_looksAt 71 = some (.aload 0, 1, 0, 0) := by decide +kernel
theorem xX11_looksAt_72 : dcd mX11_looksAt 72 = some (.getfield 155, 3, 0, 0) := by decide +kernel
theorem xX11_looksAt_75 : dcd mX11_looksAt 75 = some (.iload 3, 1, 0, 0) := by decide +kernel
theorem xX11_looksAt_76 : dcd mX11_looksAt 76 = some (.iaload, 1, 0, 0) := by decide +kernel
theorem xX11_looksAt_77 : dcd mX11_looksAt 77 = some (.imul, 1, 0, 0) := by decide +kernel
theorem xX11_looksAt_78 : dcd mX11_looksAt 78 = some (.aload 0, 1, 0, 0) := by decide +kernel
theorem xX11_looksAt_79 : dcd mX11_looksAt 79 = some (.getfield 155, 3, 0, 0) := by decide +kernel
theorem xX11_looksAt_82 : dcd mX11_looksAt 82 = some (.iload 3, 1, 0, 0) := by decide +kernel
theorem xX11_looksAt_83 : dcd mX11_looksAt 83 = some (.iconst 0, 1, 0, 1) := by decide +kernel
theorem xX11_looksAt_84 : dcd mX11_looksAt 84 = some (.iadd, 1, 0, 0) := by decide +kernel
theorem xX11_looksAt_85 : dcd mX11_looksAt 85 = some (.iaload, 1, 0, 0) := by decide +kernel
theorem xX11_looksAt_86 : dcd mX11_looksAt 86 = some (.iadd, 1, 0, 0) := by decide +kernel
theorem xX11_looksAt_87 : dcd mX11_looksAt 87 = some (.iaload, 1, 0, 0) := by decide +kernel
theorem xX11_looksAt_88 : dcd mX11_looksAt 88 = some (.iload 2, 1, 0, 0) := by decide +kernel
theorem xX11_looksAt_89 : dcd mX11_looksAt 89 = some (.if_icmp .ge 0, 3, 116, 0) := by decide +kernel
theorem xX11_looksAt_92 : dcd mX11_looksAt 92 = some (.aload 0, 1, 0, 0) := by decide +kernel
theorem xX11_looksAt_93 : dcd mX11_looksAt 93 = some (.getfield 152, 3, 0, 0) := by decide +kernel
theorem xX11_looksAt_96 : dcd mX11_looksAt 96 = some (.iconst 0, 2, 0, 8) := by decide +kernel
theorem xX11_looksAt_98 : dcd mX11_looksAt 98 = some (.aload 0, 1, 0, 0) := by decide +kernel
theorem xX11_looksAt_99 : dcd mX11_looksAt 99 = some (.getfield 155, 3, 0, 0) := by decide +kernel
theorem xX11_looksAt_102 : dcd mX11_looksAt 102 = some (.iload 3, 1, 0, 0) := by decide +kernel
theorem xX11_looksAt_103 : dcd mX11_looksAt 103 = some (.iaload, 1, 0, 0) := by decide +kernel
theorem xX11_looksAt_104 : dcd mX11_looksAt 104 = some (.imul, 1, 0, 0) := by decide +kernel
theorem xX11_looksAt_105 : dcd mX11_looksAt 105 = some (.aload 0, 1, 0, 0) := by decide +kernel
theorem xX11_looksAt_106 : dcd mX11_looksAt 106 = some (.getfield 155, 3, 0, 0) := by decide +kernel
theorem xX11_looksAt_109 : dcd mX11_looksAt 109 = some (.iload 3, 1, 0, 0) := by decide +kernel
theorem xX11_looksAt_110 : dcd mX11_looksAt 110 = some (.iconst 0, 1, 0, 1) := by decide +kernel
theorem xX11_looksAt_111 : dcd mX11_looksAt 111 = some (.iadd, 1, 0, 0) := by decide +kernel
theorem xX11_looksAt_112 : dcd mX11_looksAt 112 = some (.iaload, 1, 0, 0) := by decide +kernel
theorem xX11_looksAt_113 : dcd mX11_looksAt 113 = some (.iadd, 1, 0, 0) := by decide +kernel
theorem xX11_looksAt_114 : dcd mX11_looksAt 114 = some (.iaload, 1, 0, 0) := by decide +kernel
theorem xX11_looksAt_115 : dcd mX11_looksAt 115 = some (.istore 2, 1, 0, 0) := by decide +kernel
theorem xX11_looksAt_116 : dcd mX11_looksAt 116 = some (.iinc 3 0, 3, 0, 1) := by decide +kernel
theorem xX11_looksAt_119 : dcd mX11_looksAt 119 = some (.goto 0, 3, 58, 0) := by decide +kernel
theorem xX11_looksAt_122 : dcd mX11_looksAt 122 = some (.iload 2, 1, 0, 0) := by decide +kernel
theorem xX11_looksAt_123 : dcd mX11_looksAt 123 = some (.iload 1, 1, 0, 0) := by decide +kernel
theorem xX11_looksAt_124 : dcd mX11_looksAt 124 = some (.imul, 1, 0, 0) := by decide +kernel
theorem xX11_looksAt_125 : dcd mX11_looksAt 125 = some (.istore 3, 1, 0, 0) := by decide +kernel
theorem xX11_looksAt_126 : dcd mX11_looksAt 126 = some (.iload 3, 1, 0, 0) := by decide +kernel
theorem xX11_looksAt_127 : dcd mX11_looksAt 127 = some (.aload 0, 1, 0, 0) := by decide +kernel
theorem xX11_looksAt_128 : dcd mX11_looksAt 128 = some (.getfield 473, 3, 0, 0) := by decide +kernel
theorem xX11_looksAt_131 : dcd mX11_looksAt 131 = some (.if_icmp .lt 0, 3, 150, 0) := by decide +kernel
theorem xX11_looksAt_134 : dcd mX11_looksAt 134 = some (.iload 3, 1, 0, 0) := by decide +kernel
theorem xX11_looksAt_135 : dcd mX11_looksAt 135 = some (.aload 0, 1, 0, 0) := by decide +kernel
theorem xX11_looksAt_136 : dcd mX11_looksAt 136 = some (.getfield 473, 3, 0, 0) := by decide +kernel
theorem xX11_looksAt_139 : dcd mX11_looksAt 139 = some (.if_icmp .ne 0, 3, 151, 0) := by decide +kernel
theorem xX11_looksAt_142 : dcd mX11_looksAt 142 = some (.iload 1, 1, 0, 0) := by decide +kernel
theorem xX11_looksAt_143 : dcd mX11_looksAt 143 = some (.aload 0, 1, 0, 0) := by decide +kernel
theorem xX11_looksAt_144 : dcd mX11_looksAt 144 = some (.getfield 476, 3, 0, 0) := by decide +kernel
theorem xX11_looksAt_147 : dcd mX11_looksAt 147 = some (.if_icmp .lt 0, 3, 151, 0) := by decide +kernel
theorem xX11_looksAt_150 : dcd mX11_looksAt 150 = some (.return_, 1, 0, 0) := by decide +kernel
theorem xX11_looksAt_151 : dcd mX11_looksAt 151 = some (.aload 0, 1, 0, 0) := by decide +kernel
theorem xX11_looksAt_152 : dcd mX11_looksAt 152 = some (.iload 3, 1, 0, 0) := by decide +kernel
theorem xX11_looksAt_153 : dcd mX11_looksAt 153 = some (.putfield 473, 3, 0, 0) := by decide +kernel
theorem xX11_looksAt_156 : dcd mX11_looksAt 156 = some (.aload 0, 1, 0, 0) := by decide +kernel
theorem xX11_looksAt_157 : dcd mX11_looksAt 157 = some (.iload 1, 1, 0, 0) := by decide +kernel
theorem xX11_looksAt_158 : dcd mX11_looksAt 158 = some (.putfield 476, 3, 0, 0) := by decide +kernel
theorem xX11_looksAt_161 : dcd mX11_looksAt 161 = some (.iconst 0, 1, 0, 0) := by decide +kernel
theorem xX11_looksAt_162 : dcd mX11_looksAt 162 = some (.istore 4, 2, 0, 0) := by decide +kernel
theorem xX11_looksAt_164 : dcd mX11_looksAt 164 = some (.iload 4, 2, 0, 0) := by decide +kernel
theorem xX11_looksAt_166 : dcd mX11_looksAt 166 = some (.iload 1, 1, 0, 0) := by decide +kernel
theorem xX11_looksAt_167 : dcd mX11_looksAt 167 = some (.if_icmp .ge 0, 3, 190, 0) := by decide +kernel
theorem xX11_looksAt_170 : dcd mX11_looksAt 170 = some (.aload 0, 1, 0, 0) := by decide +kernel
theorem xX11_looksAt_171 : dcd mX11_looksAt 171 = some (.getfield 158, 3, 0, 0) := by decide +kernel
theorem xX11_looksAt_174 : dcd mX11_looksAt 174 = some (.iload 4, 2, 0, 0) := by decide +kernel
theorem xX11_looksAt_176 : dcd mX11_looksAt 176 = some (.aload 0, 1, 0, 0) := by decide +kernel
theorem xX11_looksAt_177 : dcd mX11_looksAt 177 = some (.getfield 155, 3, 0, 0) := by decide +kernel
theorem xX11_looksAt_180 : dcd mX11_looksAt 180 = some (.iload 4, 2, 0, 0) := by decide +kernel
theorem xX11_looksAt_182 : dcd mX11_looksAt 182 = some (.iaload, 1, 0, 0) := by decide +kernel
theorem xX11_looksAt_183 : dcd mX11_looksAt 183 = some (.iastore, 1, 0, 0) := by decide +kernel
theorem xX11_looksAt_184 : dcd mX11_looksAt 184 = some (.iinc 4 0, 3, 0, 1) := by decide +kernel
theorem xX11_looksAt_187 : dcd mX11_looksAt 187 = some (.goto 0, 3, 164, 0) := by decide +kernel
theorem xX11_looksAt_190 : dcd mX11_looksAt 190 = some (.return_, 1, 0, 0) := by decide +kernel
theorem xX11_findsRing_0 : dcd mX11_findsRing 0 = some (.aload 0, 1, 0, 0) := by decide +kernel
theorem xX11_findsRing_1 : dcd mX11_findsRing 1 = some (.invokevirtual 470, 3, 0, 0) := by decide +kernel
theorem xX11_findsRing_4 : dcd mX11_findsRing 4 = some (.aload 0, 1, 0, 0) := by decide +kernel
theorem xX11_findsRing_5 : dcd mX11_findsRing 5 = some (.iconst 0, 1, 0, 0) := by decide +kernel
theorem xX11_findsRing_6 : dcd mX11_findsRing 6 = some (.putfield 473, 3, 0, 0) := by decide +kernel
theorem xX11_findsRing_9 : dcd mX11_findsRing 9 = some (.aload 0, 1, 0, 0) := by decide +kernel
theorem xX11_findsRing_10 : dcd mX11_findsRing 10 = some (.iconst 0, 1, 0, 0) := by decide +kernel
theorem xX11_findsRing_11 : dcd mX11_findsRing 11 = some (.putfield 476, 3, 0, 0) := by decide +kernel
theorem xX11_findsRing_14 : dcd mX11_findsRing 14 = some (.iconst 0, 1, 0, 0) := by decide +kernel
theorem xX11_findsRing_15 : dcd mX11_findsRing 15 = some (.istore 1, 1, 0, 0) := by decide +kernel
theorem xX11_findsRing_16 : dcd mX11_findsRing 16 = some (.iload 1, 1, 0, 0) := by decide +kernel
theorem xX11_findsRing_17 : dcd mX11_findsRing 17 = some (.iconst 0, 2, 0, 8) := by decide +kernel
theorem xX11_findsRing_19 : dcd mX11_findsRing 19 = some (.if_icmp .ge 0, 3, 138, 0) := by decide +kernel
theorem xX11_findsRing_22 : dcd mX11_findsRing 22 = some (.aload 0, 1, 0, 0) := by decide +kernel
theorem xX11_findsRing_23 : dcd mX11_findsRing 23 = some (.getfield 155, 3, 0, 0) := by decide +kernel
theorem xX11_findsRing_26 : dcd mX11_findsRing 26 = some (.iconst 0, 1, 0, 0) := by decide +kernel
theorem xX11_findsRing_27 : dcd mX11_findsRing 27 = some (.iload 1, 1, 0, 0) := by decide +kernel
theorem xX11_findsRing_28 : dcd mX11_findsRing 28 = some (.iastore, 1, 0, 0) := by decide +kernel
theorem xX11_findsRing_29 : dcd mX11_findsRing 29 = some (.iconst 0, 1, 0, 1) := by decide +kernel
theorem xX11_findsRing_30 : dcd mX11_findsRing 30 = some (.istore 2, 1, 0, 0) := by decide +kernel
theorem xX11_findsRing_31 : dcd mX11_findsRing 31 = some (.iload 1, 1, 0, 0) := by decide +kernel
theorem xX11_findsRing_32 : dcd mX11_findsRing 32 = some (.iconst 0, 1, 0, 1) := by decide +kernel
theorem xX11_findsRing_33 : dcd mX11_findsRing 33 = some (.iadd, 1, 0, 0) := by decide +kernel
theorem xX11_findsRing_34 : dcd mX11_findsRing 34 = some (.istore 3, 1, 0, 0) := by decide +kernel
theorem xX11_findsRing_35 : dcd mX11_findsRing 35 = some (.iload 2, 1, 0, 0) := by decide +kernel
theorem xX11_findsRing_36 : dcd mX11_findsRing 36 = some (.ifCond .le 0, 3, 132, 0) := by decide +kernel
theorem xX11_findsRing_39 : dcd mX11_findsRing 39 = some (.iload 3, 1, 0, 0) := by decide +kernel
theorem xX11_findsRing_40 : dcd mX11_findsRing 40 = some (.iconst 0, 2, 0, 8) := by decide +kernel
theorem xX11_findsRing_42 : dcd mX11_findsRing 42 = some (.if_icmp .ge 0, 3, 81, 0) := by decide +kernel
theorem xX11_findsRing_45 : dcd mX11_findsRing 45 = some (.aload 0, 1, 0, 0) := by decide +kernel
theorem xX11_findsRing_46 : dcd mX11_findsRing 46 = some (.iload 2, 1, 0, 0) := by decide +kernel
theorem xX11_findsRing_47 : dcd mX11_findsRing 47 = some (.iload 3, 1, 0, 0) := by decide +kernel
theorem xX11_findsRing_48 : dcd mX11_findsRing 48 = some (.invokevirtual 479, 3, 0, 0) := by decide +kernel
theorem xX11_findsRing_51 : dcd mX11_findsRing 51 = some (.ifCond .ne 0, 3, 75, 0) := by decide +kernel
theorem xX11_findsRing_54 : dcd mX11_findsRing 54 = some (.aload 0, 1, 0, 0) := by decide +kernel
theorem xX11_findsRing_55 : dcd mX11_findsRing 55 = some (.getfield 152, 3, 0, 0) := by decide +kernel
theorem xX11_findsRing_58 : dcd mX11_findsRing 58 = some (.iconst 0, 2, 0, 8) := by decide +kernel
theorem xX11_findsRing_60 : dcd mX11_findsRing 60 = some (.aload 0, 1, 0, 0) := by decide +kernel
theorem xX11_findsRing_61 : dcd mX11_findsRing 61 = some (.getfield 155, 3, 0, 0) := by decide +kernel
theorem xX11_findsRing_64 : dcd mX11_findsRing 64 = some (.iload 2, 1, 0, 0) := by decide +kernel
theorem xX11_findsRing_65 : dcd mX11_findsRing 65 = some (.iconst 0, 1, 0, 1) := by decide +kernel
theorem xX11_findsRing_66 : dcd mX11_findsRing 66 = some (.isub, 1, 0, 0) := by decide +kernel
theorem xX11_findsRing_67 : dcd mX11_findsRing 67 = some (.iaload, 1, 0, 0) := by decide +kernel
theorem xX11_findsRing_68 : dcd mX11_findsRing 68 = some (.imul, 1, 0, 0) := by decide +kernel
theorem xX11_findsRing_69 : dcd mX11_findsRing 69 = some (.iload 3, 1, 0, 0) := by decide +kernel
theorem xX11_findsRing_70 : dcd mX11_findsRing 70 = some (.iadd, 1, 0, 0) := by decide +kernel
theorem xX11_findsRing_71 : dcd mX11_findsRing 71 = some (.iaload, 1, 0, 0) := by decide +kernel
theorem xX11_findsRing_72 : dcd mX11_findsRing 72 = some (.ifCond .ne 0, 3, 81, 0) := by decide +kernel
theorem xX11_findsRing_75 : dcd mX11_findsRing 75 = some (.iinc 3 0, 3, 0, 1) := by decide +kernel
theorem xX11_findsRing_78 : dcd mX11_findsRing 78 = some (.goto 0, 3, 39, 0) := by decide +kernel
theorem xX11_findsRing_81 : dcd mX11_findsRing 81 = some (.iload 3, 1, 0, 0) := by decide +kernel
theorem xX11_findsRing_82 : dcd mX11_findsRing 82 = some (.iconst 0, 2, 0, 8) := by decide +kernel
theorem xX11_findsRing_84 : dcd mX11_findsRing 84 = some (.if_icmp .ge 0, 3, 109, 0) := by decide +kernel
theorem xX11_findsRing_87 : dcd mX11_findsRing 87 = some (.aload 0, 1, 0, 0) := by decide +kernel
theorem xX11_findsRing_88 : dcd mX11_findsRing 88 = some (.getfield 155, 3, 0, 0) := by decide +kernel
theorem xX11_findsRing_91 : dcd mX11_findsRing 91 = some (.iload 2, 1, 0, 0) := by decide +kernel
theorem xX11_findsRing_92 : dcd mX11_findsRing 92 = some (.iload 3, 1, 0, 0) := by decide +kernel
theorem xX11_findsRing_93 : dcd mX11_findsRing 93 = some (.iastore, 1, 0, 0) := by decide +kernel
theorem xX11_findsRing_94 : dcd mX11_findsRing 94 = some (.iinc 2 0, 3, 0, 1) := by decide +kernel
theorem xX11_findsRing_97 : dcd mX11_findsRing 97 = some (.aload 0, 1, 0, 0) := by decide +kernel
theorem xX11_findsRing_98 : dcd mX11_findsRing 98 = some (.iload 2, 1, 0, 0) := by decide +kernel
theorem xX11_findsRing_99 : dcd mX11_findsRing 99 = some (.invokevirtual 482, 3, 0, 0) := by decide +kernel
theorem xX11_findsRing_102 : dcd mX11_findsRing 102 = some (.iload 1, 1, 0, 0) := by decide +kernel
theorem xX11_findsRing_103 : dcd mX11_findsRing 103 = some (.iconst 0, 1, 0, 1) := by decide +kernel
theorem xX11_findsRing_104 : dcd mX11_findsRing 104 = some (.iadd, 1, 0, 0) := by decide +kernel
theorem xX11_findsRing_105 : dcd mX11_findsRing 105 = some (.istore 3, 1, 0, 0) := by decide +kernel
theorem xX11_findsRing_106 : dcd mX11_findsRing 106 = some (.goto 0, 3, 35, 0) := by decide +kernel
theorem xX11_findsRing_109 : dcd mX11_findsRing 109 = some (.iinc 2 0, 3, 0, (-1)) := by decide +kernel
theorem xX11_findsRing_112 : dcd mX11_findsRing 112 = some (.iload 2, 1, 0, 0) := by decide +kernel
theorem xX11_findsRing_113 : dcd mX11_findsRing 113 = some (.ifCond .le 0, 3, 127, 0) := by decide +kernel
theorem xX11_findsRing_116 : dcd mX11_findsRing 116 = some (.aload 0, 1, 0, 0) := by decide +kernel
theorem xX11_findsRing_117 : dcd mX11_findsRing 117 = some (.getfield 155, 3, 0, 0) := by decide +kernel
theorem xX11_findsRing_120 : dcd mX11_findsRing 120 = some (.iload 2, 1, 0, 0) := by decide +kernel
theorem xX11_findsRing_121 : dcd mX11_findsRing 121 = some (.iaload, 1, 0, 0) := by decide +kernel
theorem xX11_findsRing_122 : dcd mX11_findsRing 122 = some (.iconst 0, 1, 0, 1) := by decide +kernel
theorem xX11_findsRing_123 : dcd mX11_findsRing 123 = some (.iadd, 1, 0, 0) := by decide +kernel
theorem xX11_findsRing_124 : dcd mX11_findsRing 124 = some (.goto 0, 3, 128, 0) := by decide +kernel
theorem xX11_findsRing_127 : dcd mX11_findsRing 127 = some (.iconst 0, 1, 0, 0) := by decide +kernel
theorem xX11_findsRing_128 : dcd mX11_findsRing 128 = some (.istore 3, 1, 0, 0) := by decide +kernel
theorem xX11_findsRing_129 : dcd mX11_findsRing 129 = some (.goto 0, 3, 35, 0) := by decide +kernel
theorem xX11_findsRing_132 : dcd mX11_findsRing 132 = some (.iinc 1 0, 3, 0, 1) := by decide +kernel
theorem xX11_findsRing_135 : dcd mX11_findsRing 135 = some (.goto 0, 3, 16, 0) := by decide +kernel
theorem xX11_findsRing_138 : dcd mX11_findsRing 138 = some (.return_, 1, 0, 0) := by decide +kernel
theorem xX11_ring_0 : dcd mX11_ring 0 = some (.iload 1, 1, 0, 0) := by decide +kernel
theorem xX11_ring_1 : dcd mX11_ring 1 = some (.iconst 0, 1, 0, (-1)) := by decide +kernel
theorem xX11_ring_2 : dcd mX11_ring 2 = some (.if_icmp .eq 0, 3, 25, 0) := by decide +kernel
theorem xX11_ring_5 : dcd mX11_ring 5 = some (.iload 1, 1, 0, 0) := by decide +kernel
theorem xX11_ring_6 : dcd mX11_ring 6 = some (.iconst 0, 2, 0, 8) := by decide +kernel
theorem xX11_ring_8 : dcd mX11_ring 8 = some (.if_icmp .eq 0, 3, 25, 0) := by decide +kernel
theorem xX11_ring_11 : dcd mX11_ring 11 = some (.iload 1, 1, 0, 0) := by decide +kernel
theorem xX11_ring_12 : dcd mX11_ring 12 = some (.i2l, 1, 0, 0) := by decide +kernel
theorem xX11_ring_13 : dcd mX11_ring 13 = some (.lconst 0, 1, 0, 0) := by decide +kernel
theorem xX11_ring_14 : dcd mX11_ring 14 = some (.ldc2_w 211, 3, 0, 0) := by decide +kernel
theorem xX11_ring_17 : dcd mX11_ring 17 = some (.invokestatic 203, 3, 0, 0) := by decide +kernel
theorem xX11_ring_20 : dcd mX11_ring 20 = some (.ifCond .ne 0, 3, 25, 0) := by decide +kernel
theorem xX11_ring_23 : dcd mX11_ring 23 = some (.iconst 0, 1, 0, (-1)) := by decide +kernel
theorem xX11_ring_24 : dcd mX11_ring 24 = some (.ireturn, 1, 0, 0) := by decide +kernel
theorem xX11_ring_25 : dcd mX11_ring 25 = some (.aload 0, 1, 0, 0) := by decide +kernel
theorem xX11_ring_26 : dcd mX11_ring 26 = some (.invokevirtual 485, 3, 0, 0) := by decide +kernel
theorem xX11_ring_29 : dcd mX11_ring 29 = some (.aload 0, 1, 0, 0) := by decide +kernel
theorem xX11_ring_30 : dcd mX11_ring 30 = some (.getfield 476, 3, 0, 0) := by decide +kernel
theorem xX11_ring_33 : dcd mX11_ring 33 = some (.ifCond .ne 0, 3, 39, 0) := by decide +kernel
theorem xX11_ring_36 : dcd mX11_ring 36 = some (.iconst 0, 2, 0, (-2)) := by decide +kernel
theorem xX11_ring_38 : dcd mX11_ring 38 = some (.ireturn, 1, 0, 0) := by decide +kernel
theorem xX11_ring_39 : dcd mX11_ring 39 = some (.iload 1, 1, 0, 0) := by decide +kernel
theorem xX11_ring_40 : dcd mX11_ring 40 = some (.iconst 0, 1, 0, (-1)) := by decide +kernel
theorem xX11_ring_41 : dcd mX11_ring 41 = some (.if_icmp .ne 0, 3, 49, 0) := by decide +kernel
theorem xX11_ring_44 : dcd mX11_ring 44 = some (.aload 0, 1, 0, 0) := by decide +kernel
theorem xX11_ring_45 : dcd mX11_ring 45 = some (.getfield 473, 3, 0, 0) := by decide +kernel
theorem xX11_ring_48 : dcd mX11_ring 48 = some (.ireturn, 1, 0, 0) := by decide +kernel
theorem xX11_ring_49 : dcd mX11_ring 49 = some (.iload 1, 1, 0, 0) := by decide +kernel
theorem xX11_ring_50 : dcd mX11_ring 50 = some (.iconst 0, 2, 0, 8) := by decide +kernel
theorem xX11_ring_52 : dcd mX11_ring 52 = some (.if_icmp .ne 0, 3, 62, 0) := by decide +kernel
theorem xX11_ring_55 : dcd mX11_ring 55 = some (.aload 0, 1, 0, 0) := by decide +kernel
theorem xX11_ring_56 : dcd mX11_ring 56 = some (.getfield 476, 3, 0, 0) := by decide +kernel
theorem xX11_ring_59 : dcd mX11_ring 59 = some (.goto 0, 3, 80, 0) := by decide +kernel
theorem xX11_ring_62 : dcd mX11_ring 62 = some (.iload 1, 1, 0, 0) := by decide +kernel
theorem xX11_ring_63 : dcd mX11_ring 63 = some (.aload 0, 1, 0, 0) := by decide +kernel
theorem xX11_ring_64 : dcd mX11_ring 64 = some (.getfield 476, 3, 0, 0) := by decide +kernel
theorem xX11_ring_67 : dcd mX11_ring 67 = some (.if_icmp .ge 0, 3, 79, 0) := by decide +kernel
theorem xX11_ring_70 : dcd mX11_ring 70 = some (.aload 0, 1, 0, 0) := by decide +kernel
theorem xX11_ring_71 : dcd mX11_ring 71 = some (.getfield 158, 3, 0, 0) := by decide +kernel
theorem xX11_ring_74 : dcd mX11_ring 74 = some (.iload 1, 1, 0, 0) := by decide +kernel
theorem xX11_ring_75 : dcd mX11_ring 75 = some (.iaload, 1, 0, 0) := by decide +kernel
theorem xX11_ring_76 : dcd mX11_ring 76 = some (.goto 0, 3, 80, 0) := by decide +kernel
theorem xX11_ring_79 : dcd mX11_ring 79 = some (.iconst 0, 1, 0, (-1)) := by decide +kernel
theorem xX11_ring_80 : dcd mX11_ring 80 = some (.ireturn, 1, 0, 0) := by decide +kernel
theorem xX11_cuts_0 : dcd mX11_cuts 0 = some (.iload 3, 1, 0, 0) := by decide +kernel
theorem xX11_cuts_1 : dcd mX11_cuts 1 = some (.istore 4, 2, 0, 0) := by decide +kernel
theorem xX11_cuts_3 : dcd mX11_cuts 3 = some (.iconst 0, 1, 0, 0) := by decide +kernel
theorem xX11_cuts_4 : dcd mX11_cuts 4 = some (.istore 5, 2, 0, 0) := by decide +kernel
theorem xX11_cuts_6 : dcd mX11_cuts 6 = some (.iload 5, 2, 0, 0) := by decide +kernel
theorem xX11_cuts_8 : dcd mX11_cuts 8 = some (.aload 0, 1, 0, 0) := by decide +kernel
theorem xX11_cuts_9 : dcd mX11_cuts 9 = some (.getfield 213, 3, 0, 0) := by decide +kernel
theorem xX11_cuts_12 : dcd mX11_cuts 12 = some (.if_icmp .ge 0, 3, 139, 0) := by decide +kernel
theorem xX11_cuts_15 : dcd mX11_cuts 15 = some (.iload 4, 2, 0, 0) := by decide +kernel
theorem xX11_cuts_17 : dcd mX11_cuts 17 = some (.ifCond .le 0, 3, 139, 0) := by decide +kernel
theorem xX11_cuts_20 : dcd mX11_cuts 20 = some (.aload 0, 1, 0, 0) := by decide +kernel
theorem xX11_cuts_21 : dcd mX11_cuts 21 = some (.getfield 55, 3, 0, 0) := by decide +kernel
theorem xX11_cuts_24 : dcd mX11_cuts 24 = some (.iload 5, 2, 0, 0) := by decide +kernel
theorem xX11_cuts_26 : dcd mX11_cuts 26 = some (.baload, 1, 0, 0) := by decide +kernel
theorem xX11_cuts_27 : dcd mX11_cuts 27 = some (.ifCond .eq 0, 3, 133, 0) := by decide +kernel
theorem xX11_cuts_30 : dcd mX11_cuts 30 = some (.aload 0, 1, 0, 0) := by decide +kernel
theorem xX11_cuts_31 : dcd mX11_cuts 31 = some (.getfield 46, 3, 0, 0) := by decide +kernel
theorem xX11_cuts_34 : dcd mX11_cuts 34 = some (.iload 5, 2, 0, 0) := by decide +kernel
theorem xX11_cuts_36 : dcd mX11_cuts 36 = some (.iaload, 1, 0, 0) := by decide +kernel
theorem xX11_cuts_37 : dcd mX11_cuts 37 = some (.iconst 0, 1, 0, 1) := by decide +kernel
theorem xX11_cuts_38 : dcd mX11_cuts 38 = some (.if_icmp .ne 0, 3, 133, 0) := by decide +kernel
theorem xX11_cuts_41 : dcd mX11_cuts 41 = some (.aload 0, 1, 0, 0) := by decide +kernel
theorem xX11_cuts_42 : dcd mX11_cuts 42 = some (.getfield 49, 3, 0, 0) := by decide +kernel
theorem xX11_cuts_45 : dcd mX11_cuts 45 = some (.iload 5, 2, 0, 0) := by decide +kernel
theorem xX11_cuts_47 : dcd mX11_cuts 47 = some (.iaload, 1, 0, 0) := by decide +kernel
theorem xX11_cuts_48 : dcd mX11_cuts 48 = some (.iload 1, 1, 0, 0) := by decide +kernel
theorem xX11_cuts_49 : dcd mX11_cuts 49 = some (.if_icmp .ne 0, 3, 133, 0) := by decide +kernel
theorem xX11_cuts_52 : dcd mX11_cuts 52 = some (.aload 0, 1, 0, 0) := by decide +kernel
theorem xX11_cuts_53 : dcd mX11_cuts 53 = some (.getfield 52, 3, 0, 0) := by decide +kernel
theorem xX11_cuts_56 : dcd mX11_cuts 56 = some (.iload 5, 2, 0, 0) := by decide +kernel
theorem xX11_cuts_58 : dcd mX11_cuts 58 = some (.iaload, 1, 0, 0) := by decide +kernel
theorem xX11_cuts_59 : dcd mX11_cuts 59 = some (.iload 2, 1, 0, 0) := by decide +kernel
theorem xX11_cuts_60 : dcd mX11_cuts 60 = some (.if_icmp .eq 0, 3, 66, 0) := by decide +kernel
theorem xX11_cuts_63 : dcd mX11_cuts 63 = some (.goto 0, 3, 133, 0) := by decide +kernel
theorem xX11_cuts_66 : dcd mX11_cuts 66 = some (.aload 0, 1, 0, 0) := by decide +kernel
theorem xX11_cuts_67 : dcd mX11_cuts 67 = some (.getfield 43, 3, 0, 0) := by decide +kernel
theorem xX11_cuts_70 : dcd mX11_cuts 70 = some (.iload 5, 2, 0, 0) := by decide +kernel
theorem xX11_cuts_72 : dcd mX11_cuts 72 = some (.iaload, 1, 0, 0) := by decide +kernel
theorem xX11_cuts_73 : dcd mX11_cuts 73 = some (.iload 4, 2, 0, 0) := by decide +kernel
theorem xX11_cuts_75 : dcd mX11_cuts 75 = some (.if_icmp .ge 0, 3, 88, 0) := by decide +kernel
theorem xX11_cuts_78 : dcd mX11_cuts 78 = some (.aload 0, 1, 0, 0) := by decide +kernel
theorem xX11_cuts_79 : dcd mX11_cuts 79 = some (.getfield 43, 3, 0, 0) := by decide +kernel
theorem xX11_cuts_82 : dcd mX11_cuts 82 = some (.iload 5, 2, 0, 0) := by decide +kernel
theorem xX11_cuts_84 : dcd mX11_cuts 84 = some (.iaload, 1, 0, 0) := by decide +kernel
theorem xX11_cuts_85 : dcd mX11_cuts 85 = some (.goto 0, 3, 90, 0) := by decide +kernel
theorem xX11_cuts_88 : dcd mX11_cuts 88 = some (.iload 4, 2, 0, 0) := by decide +kernel
theorem xX11_cuts_90 : dcd mX11_cuts 90 = some (.istore 6, 2, 0, 0) := by decide +kernel
theorem xX11_cuts_92 : dcd mX11_cuts 92 = some (.aload 0, 1, 0, 0) := by decide +kernel
theorem xX11_cuts_93 : dcd mX11_cuts 93 = some (.getfield 43, 3, 0, 0) := by decide +kernel
theorem xX11_cuts_96 : dcd mX11_cuts 96 = some (.iload 5, 2, 0, 0) := by decide +kernel
theorem xX11_cuts_98 : dcd mX11_cuts 98 = some (.dup2, 1, 0, 0) := by decide +kernel
theorem xX11_cuts_99 : dcd mX11_cuts 99 = some (.iaload, 1, 0, 0) := by decide +kernel
theorem xX11_cuts_100 : dcd mX11_cuts 100 = some (.iload 6, 2, 0, 0) := by decide +kernel
theorem xX11_cuts_102 : dcd mX11_cuts 102 = some (.isub, 1, 0, 0) := by decide +kernel
theorem xX11_cuts_103 : dcd mX11_cuts 103 = some (.iastore, 1, 0, 0) := by decide +kernel
theorem xX11_cuts_104 : dcd mX11_cuts 104 = some (.iload 4, 2, 0, 0) := by decide +kernel
theorem xX11_cuts_106 : dcd mX11_cuts 106 = some (.iload 6, 2, 0, 0) := by decide +kernel
theorem xX11_cuts_108 : dcd mX11_cuts 108 = some (.isub, 1, 0, 0) := by decide +kernel
theorem xX11_cuts_109 : dcd mX11_cuts 109 = some (.istore 4, 2, 0, 0) := by decide +kernel
theorem xX11_cuts_111 : dcd mX11_cuts 111 = some (.aload 0, 1, 0, 0) := by decide +kernel
theorem xX11_cuts_112 : dcd mX11_cuts 112 = some (.getfield 55, 3, 0, 0) := by decide +kernel
theorem xX11_cuts_115 : dcd mX11_cuts 115 = some (.iload 5, 2, 0, 0) := by decide +kernel
theorem xX11_cuts_117 : dcd mX11_cuts 117 = some (.aload 0, 1, 0, 0) := by decide +kernel
theorem xX11_cuts_118 : dcd mX11_cuts 118 = some (.getfield 43, 3, 0, 0) := by decide +kernel
theorem xX11_cuts_121 : dcd mX11_cuts 121 = some (.iload 5, 2, 0, 0) := by decide +kernel
theorem xX11_cuts_123 : dcd mX11_cuts 123 = some (.iaload, 1, 0, 0) := by decide +kernel
theorem xX11_cuts_124 : dcd mX11_cuts 124 = some (.ifCond .le 0, 3, 131, 0) := by decide +kernel
theorem xX11_cuts_127 : dcd mX11_cuts 127 = some (.iconst 0, 1, 0, 1) := by decide +kernel
theorem xX11_cuts_128 : dcd mX11_cuts 128 = some (.goto 0, 3, 132, 0) := by decide +kernel
theorem xX11_cuts_131 : dcd mX11_cuts 131 = some (.iconst 0, 1, 0, 0) := by decide +kernel
theorem xX11_cuts_132 : dcd mX11_cuts 132 = some (.bastore, 1, 0, 0) := by decide +kernel
theorem xX11_cuts_133 : dcd mX11_cuts 133 = some (.iinc 5 0, 3, 0, 1) := by decide +kernel
theorem xX11_cuts_136 : dcd mX11_cuts 136 = some (.goto 0, 3, 6, 0) := by decide +kernel
theorem xX11_cuts_139 : dcd mX11_cuts 139 = some (.return_, 1, 0, 0) := by decide +kernel
theorem xX11_clear_0 : dcd mX11_clear 0 = some (.iconst 0, 1, 0, 0) := by decide +kernel
theorem xX11_clear_1 : dcd mX11_clear 1 = some (.istore 1, 1, 0, 0) := by decide +kernel
theorem xX11_clear_2 : dcd mX11_clear 2 = some (.aload 0, 1, 0, 0) := by decide +kernel
theorem xX11_clear_3 : dcd mX11_clear 3 = some (.invokevirtual 485, 3, 0, 0) := by decide +kernel
theorem xX11_clear_6 : dcd mX11_clear 6 = some (.aload 0, 1, 0, 0) := by decide +kernel
theorem xX11_clear_7 : dcd mX11_clear 7 = some (.getfield 476, 3, 0, 0) := by decide +kernel
theorem xX11_clear_10 : dcd mX11_clear 10 = some (.ifCond .le 0, 3, 75, 0) := by decide +kernel
theorem xX11_clear_13 : dcd mX11_clear 13 = some (.iload 1, 1, 0, 0) := by decide +kernel
theorem xX11_clear_14 : dcd mX11_clear 14 = some (.aload 0, 1, 0, 0) := by decide +kernel
theorem xX11_clear_15 : dcd mX11_clear 15 = some (.getfield 473, 3, 0, 0) := by decide +kernel
theorem xX11_clear_18 : dcd mX11_clear 18 = some (.iadd, 1, 0, 0) := by decide +kernel
theorem xX11_clear_19 : dcd mX11_clear 19 = some (.istore 1, 1, 0, 0) := by decide +kernel
theorem xX11_clear_20 : dcd mX11_clear 20 = some (.iconst 0, 1, 0, 0) := by decide +kernel
theorem xX11_clear_21 : dcd mX11_clear 21 = some (.istore 2, 1, 0, 0) := by decide +kernel
theorem xX11_clear_22 : dcd mX11_clear 22 = some (.iload 2, 1, 0, 0) := by decide +kernel
theorem xX11_clear_23 : dcd mX11_clear 23 = some (.aload 0, 1, 0, 0) := by decide +kernel
theorem xX11_clear_24 : dcd mX11_clear 24 = some (.getfield 476, 3, 0, 0) := by decide +kernel
theorem xX11_clear_27 : dcd mX11_clear 27 = some (.if_icmp .ge 0, 3, 68, 0) := by decide +kernel
theorem xX11_clear_30 : dcd mX11_clear 30 = some (.aload 0, 1, 0, 0) := by decide +kernel
theorem xX11_clear_31 : dcd mX11_clear 31 = some (.aload 0, 1, 0, 0) := by decide +kernel
theorem xX11_clear_32 : dcd mX11_clear 32 = some (.getfield 158, 3, 0, 0) := by decide +kernel
theorem xX11_clear_35 : dcd mX11_clear 35 = some (.iload 2, 1, 0, 0) := by decide +kernel
theorem xX11_clear_36 : dcd mX11_clear 36 = some (.iaload, 1, 0, 0) := by decide +kernel
theorem xX11_clear_37 : dcd mX11_clear 37 = some (.aload 0, 1, 0, 0) := by decide +kernel
theorem xX11_clear_38 : dcd mX11_clear 38 = some (.getfield 158, 3, 0, 0) := by decide +kernel
theorem xX11_clear_41 : dcd mX11_clear 41 = some (.iload 2, 1, 0, 0) := by decide +kernel
theorem xX11_clear_42 : dcd mX11_clear 42 = some (.iconst 0, 1, 0, 1) := by decide +kernel
theorem xX11_clear_43 : dcd mX11_clear 43 = some (.iadd, 1, 0, 0) := by decide +kernel
theorem xX11_clear_44 : dcd mX11_clear 44 = some (.aload 0, 1, 0, 0) := by decide +kernel
theorem xX11_clear_45 : dcd mX11_clear 45 = some (.getfield 476, 3, 0, 0) := by decide +kernel
theorem xX11_clear_48 : dcd mX11_clear 48 = some (.irem, 1, 0, 0) := by decide +kernel
theorem xX11_clear_49 : dcd mX11_clear 49 = some (.iaload, 1, 0, 0) := by decide +kernel
theorem xX11_clear_50 : dcd mX11_clear 50 = some (.aload 0, 1, 0, 0) := by decide +kernel
theorem xX11_clear_51 : dcd mX11_clear 51 = some (.getfield 473, 3, 0, 0) := by decide +kernel
theorem xX11_clear_54 : dcd mX11_clear 54 = some (.aload 0, 1, 0, 0) := by decide +kernel
theorem xX11_clear_55 : dcd mX11_clear 55 = some (.getfield 476, 3, 0, 0) := by decide +kernel
theorem xX11_clear_58 : dcd mX11_clear 58 = some (.idiv, 1, 0, 0) := by decide +kernel
theorem xX11_clear_59 : dcd mX11_clear 59 = some (.invokevirtual 488, 3, 0, 0) := by decide +kernel
theorem xX11_clear_62 : dcd mX11_clear 62 = some (.iinc 2 0, 3, 0, 1) := by decide +kernel
theorem xX11_clear_65 : dcd mX11_clear 65 = some (.goto 0, 3, 22, 0) := by decide +kernel
theorem xX11_clear_68 : dcd mX11_clear 68 = some (.aload 0, 1, 0, 0) := by decide +kernel
theorem xX11_clear_69 : dcd mX11_clear 69 = some (.invokevirtual 485, 3, 0, 0) := by decide +kernel
theorem xX11_clear_72 : dcd mX11_clear 72 = some (.goto 0, 3, 6, 0) := by decide +kernel
theorem xX11_clear_75 : dcd mX11_clear 75 = some (.iload 1, 1, 0, 0) := by decide +kernel
theorem xX11_clear_76 : dcd mX11_clear 76 = some (.ireturn, 1, 0, 0) := by decide +kernel
theorem xX11_isTipped_0 : dcd mX11_isTipped 0 = some (.iconst 0, 1, 0, 0) := by decide +kernel
theorem xX11_isTipped_1 : dcd mX11_isTipped 1 = some (.istore 3, 1, 0, 0) := by decide +kernel
theorem xX11_isTipped_2 : dcd mX11_isTipped 2 = some (.iload 3, 1, 0, 0) := by decide +kernel
theorem xX11_isTipped_3 : dcd mX11_isTipped 3 = some (.aload 0, 1, 0, 0) := by decide +kernel
theorem xX11_isTipped_4 : dcd mX11_isTipped 4 = some (.getfield 213, 3, 0, 0) := by decide +kernel
theorem xX11_isTipped_7 : dcd mX11_isTipped 7 = some (.if_icmp .ge 0, 3, 70, 0) := by decide +kernel
theorem xX11_isTipped_10 : dcd mX11_isTipped 10 = some (.aload 0, 1, 0, 0) := by decide +kernel
theorem xX11_isTipped_11 : dcd mX11_isTipped 11 = some (.getfield 161, 3, 0, 0) := by decide +kernel
theorem xX11_isTipped_14 : dcd mX11_isTipped 14 = some (.iload 3, 1, 0, 0) := by decide +kernel
theorem xX11_isTipped_15 : dcd mX11_isTipped 15 = some (.aload 0, 1, 0, 0) := by decide +kernel
theorem xX11_isTipped_16 : dcd mX11_isTipped 16 = some (.getfield 55, 3, 0, 0) := by decide +kernel
theorem xX11_isTipped_19 : dcd mX11_isTipped 19 = some (.iload 3, 1, 0, 0) := by decide +kernel
theorem xX11_isTipped_20 : dcd mX11_isTipped 20 = some (.baload, 1, 0, 0) := by decide +kernel
theorem xX11_isTipped_21 : dcd mX11_isTipped 21 = some (.bastore, 1, 0, 0) := by decide +kernel
theorem xX11_isTipped_22 : dcd mX11_isTipped 22 = some (.aload 0, 1, 0, 0) := by decide +kernel
theorem xX11_isTipped_23 : dcd mX11_isTipped 23 = some (.getfield 55, 3, 0, 0) := by decide +kernel
theorem xX11_isTipped_26 : dcd mX11_isTipped 26 = some (.iload 3, 1, 0, 0) := by decide +kernel
theorem xX11_isTipped_27 : dcd mX11_isTipped 27 = some (.aload 0, 1, 0, 0) := by decide +kernel
theorem xX11_isTipped_28 : dcd mX11_isTipped 28 = some (.getfield 55, 3, 0, 0) := by decide +kernel
theorem xX11_isTipped_31 : dcd mX11_isTipped 31 = some (.iload 3, 1, 0, 0) := by decide +kernel
theorem xX11_isTipped_32 : dcd mX11_isTipped 32 = some (.baload, 1, 0, 0) := by decide +kernel
theorem xX11_isTipped_33 : dcd mX11_isTipped 33 = some (.ifCond .eq 0, 3, 62, 0) := by decide +kernel
theorem xX11_isTipped_36 : dcd mX11_isTipped 36 = some (.aload 0, 1, 0, 0) := by decide +kernel
theorem xX11_isTipped_37 : dcd mX11_isTipped 37 = some (.getfield 46, 3, 0, 0) := by decide +kernel
theorem xX11_isTipped_40 : dcd mX11_isTipped 40 = some (.iload 3, 1, 0, 0) := by decide +kernel
theorem xX11_isTipped_41 : dcd mX11_isTipped 41 = some (.iaload, 1, 0, 0) := by decide +kernel
theorem xX11_isTipped_42 : dcd mX11_isTipped 42 = some (.ifCond .ne 0, 3, 58, 0) := by decide +kernel
theorem xX11_isTipped_45 : dcd mX11_isTipped 45 = some (.iload 1, 1, 0, 0) := by decide +kernel
theorem xX11_isTipped_46 : dcd mX11_isTipped 46 = some (.aload 0, 1, 0, 0) := by decide +kernel
theorem xX11_isTipped_47 : dcd mX11_isTipped 47 = some (.getfield 49, 3, 0, 0) := by decide +kernel
theorem xX11_isTipped_50 : dcd mX11_isTipped 50 = some (.iload 3, 1, 0, 0) := by decide +kernel
theorem xX11_isTipped_51 : dcd mX11_isTipped 51 = some (.iaload, 1, 0, 0) := by decide +kernel
theorem xX11_isTipped_52 : dcd mX11_isTipped 52 = some (.invokestatic 491, 3, 0, 0) := by decide +kernel
theorem xX11_isTipped_55 : dcd mX11_isTipped 55 = some (.ifCond .ne 0, 3, 62, 0) := by decide +kernel
theorem xX11_isTipped_58 : dcd mX11_isTipped 58 = some (.iconst 0, 1, 0, 1) := by decide +kernel
theorem xX11_isTipped_59 : dcd mX11_isTipped 59 = some (.goto 0, 3, 63, 0) := by decide +kernel
theorem xX11_isTipped_62 : dcd mX11_isTipped 62 = some (.iconst 0, 1, 0, 0) := by decide +kernel
theorem xX11_isTipped_63 : dcd mX11_isTipped 63 = some (.bastore, 1, 0, 0) := by decide +kernel
theorem xX11_isTipped_64 : dcd mX11_isTipped 64 = some (.iinc 3 0, 3, 0, 1) := by decide +kernel
theorem xX11_isTipped_67 : dcd mX11_isTipped 67 = some (.goto 0, 3, 2, 0) := by decide +kernel
theorem xX11_isTipped_70 : dcd mX11_isTipped 70 = some (.aload 0, 1, 0, 0) := by decide +kernel
theorem xX11_isTipped_71 : dcd mX11_isTipped 71 = some (.invokevirtual 381, 3, 0, 0) := by decide +kernel
theorem xX11_isTipped_74 : dcd mX11_isTipped 74 = some (.iconst 0, 1, 0, 0) := by decide +kernel
theorem xX11_isTipped_75 : dcd mX11_isTipped 75 = some (.istore 3, 1, 0, 0) := by decide +kernel
theorem xX11_isTipped_76 : dcd mX11_isTipped 76 = some (.iload 3, 1, 0, 0) := by decide +kernel
theorem xX11_isTipped_77 : dcd mX11_isTipped 77 = some (.aload 0, 1, 0, 0) := by decide +kernel
theorem xX11_isTipped_78 : dcd mX11_isTipped 78 = some (.getfield 213, 3, 0, 0) := by decide +kernel
theorem xX11_isTipped_81 : dcd mX11_isTipped 81 = some (.if_icmp .ge 0, 3, 102, 0) := by decide +kernel
theorem xX11_isTipped_84 : dcd mX11_isTipped 84 = some (.aload 0, 1, 0, 0) := by decide +kernel
theorem xX11_isTipped_85 : dcd mX11_isTipped 85 = some (.getfield 55, 3, 0, 0) := by decide +kernel
theorem xX11_isTipped_88 : dcd mX11_isTipped 88 = some (.iload 3, 1, 0, 0) := by decide +kernel
theorem xX11_isTipped_89 : dcd mX11_isTipped 89 = some (.aload 0, 1, 0, 0) := by decide +kernel
theorem xX11_isTipped_90 : dcd mX11_isTipped 90 = some (.getfield 161, 3, 0, 0) := by decide +kernel
theorem xX11_isTipped_93 : dcd mX11_isTipped 93 = some (.iload 3, 1, 0, 0) := by decide +kernel
theorem xX11_isTipped_94 : dcd mX11_isTipped 94 = some (.baload, 1, 0, 0) := by decide +kernel
theorem xX11_isTipped_95 : dcd mX11_isTipped 95 = some (.bastore, 1, 0, 0) := by decide +kernel
theorem xX11_isTipped_96 : dcd mX11_isTipped 96 = some (.iinc 3 0, 3, 0, 1) := by decide +kernel
theorem xX11_isTipped_99 : dcd mX11_isTipped 99 = some (.goto 0, 3, 76, 0) := by decide +kernel
theorem xX11_isTipped_102 : dcd mX11_isTipped 102 = some (.aload 0, 1, 0, 0) := by decide +kernel
theorem xX11_isTipped_103 : dcd mX11_isTipped 103 = some (.getfield 109, 3, 0, 0) := by decide +kernel
theorem xX11_isTipped_106 : dcd mX11_isTipped 106 = some (.iconst 0, 1, 0, 0) := by decide +kernel
theorem xX11_isTipped_107 : dcd mX11_isTipped 107 = some (.iaload, 1, 0, 0) := by decide +kernel
theorem xX11_isTipped_108 : dcd mX11_isTipped 108 = some (.invokestatic 414, 3, 0, 0) := by decide +kernel
theorem xX11_isTipped_111 : dcd mX11_isTipped 111 = some (.iload 2, 1, 0, 0) := by decide +kernel
theorem xX11_isTipped_112 : dcd mX11_isTipped 112 = some (.if_icmp .le 0, 3, 119, 0) := by decide +kernel
theorem xX11_isTipped_115 : dcd mX11_isTipped 115 = some (.iconst 0, 1, 0, 1) := by decide +kernel
theorem xX11_isTipped_116 : dcd mX11_isTipped 116 = some (.goto 0, 3, 120, 0) := by decide +kernel
theorem xX11_isTipped_119 : dcd mX11_isTipped 119 = some (.iconst 0, 1, 0, 0) := by decide +kernel
theorem xX11_isTipped_120 : dcd mX11_isTipped 120 = some (.ireturn, 1, 0, 0) := by decide +kernel
theorem xX11_whiteOf_0 : dcd mX11_whiteOf 0 = some (.iconst 0, 1, 0, 0) := by decide +kernel
theorem xX11_whiteOf_1 : dcd mX11_whiteOf 1 = some (.istore 2, 1, 0, 0) := by decide +kernel
theorem xX11_whiteOf_2 : dcd mX11_whiteOf 2 = some (.iconst 0, 1, 0, 0) := by decide +kernel
theorem xX11_whiteOf_3 : dcd mX11_whiteOf 3 = some (.istore 3, 1, 0, 0) := by decide +kernel
theorem xX11_whiteOf_4 : dcd mX11_whiteOf 4 = some (.iload 3, 1, 0, 0) := by decide +kernel
theorem xX11_whiteOf_5 : dcd mX11_whiteOf 5 = some (.aload 0, 1, 0, 0) := by decide +kernel
theorem xX11_whiteOf_6 : dcd mX11_whiteOf 6 = some (.getfield 213, 3, 0, 0) := by decide +kernel
theorem xX11_whiteOf_9 : dcd mX11_whiteOf 9 = some (.if_icmp .ge 0, 3, 40, 0) := by decide +kernel
theorem xX11_whiteOf_12 : dcd mX11_whiteOf 12 = some (.iload 2, 1, 0, 0) := by decide +kernel
theorem xX11_whiteOf_13 : dcd mX11_whiteOf 13 = some (.aload 0, 1, 0, 0) := by decide +kernel
theorem xX11_whiteOf_14 : dcd mX11_whiteOf 14 = some (.iload 3, 1, 0, 0) := by decide +kernel
theorem xX11_whiteOf_15 : dcd mX11_whiteOf 15 = some (.iload 1, 1, 0, 0) := by decide +kernel
theorem xX11_whiteOf_16 : dcd mX11_whiteOf 16 = some (.invokevirtual 390, 3, 0, 0) := by decide +kernel
theorem xX11_whiteOf_19 : dcd mX11_whiteOf 19 = some (.ifCond .eq 0, 3, 31, 0) := by decide +kernel
theorem xX11_whiteOf_22 : dcd mX11_whiteOf 22 = some (.aload 0, 1, 0, 0) := by decide +kernel
theorem xX11_whiteOf_23 : dcd mX11_whiteOf 23 = some (.getfield 43, 3, 0, 0) := by decide +kernel
theorem xX11_whiteOf_26 : dcd mX11_whiteOf 26 = some (.iload 3, 1, 0, 0) := by decide +kernel
theorem xX11_whiteOf_27 : dcd mX11_whiteOf 27 = some (.iaload, 1, 0, 0) := by decide +kernel
theorem xX11_whiteOf_28 : dcd mX11_whiteOf 28 = some (.goto 0, 3, 32, 0) := by decide +kernel
theorem xX11_whiteOf_31 : dcd mX11_whiteOf 31 = some (.iconst 0, 1, 0, 0) := by decide +kernel
theorem xX11_whiteOf_32 : dcd mX11_whiteOf 32 = some (.iadd, 1, 0, 0) := by decide +kernel
theorem xX11_whiteOf_33 : dcd mX11_whiteOf 33 = some (.istore 2, 1, 0, 0) := by decide +kernel
theorem xX11_whiteOf_34 : dcd mX11_whiteOf 34 = some (.iinc 3 0, 3, 0, 1) := by decide +kernel
theorem xX11_whiteOf_37 : dcd mX11_whiteOf 37 = some (.goto 0, 3, 4, 0) := by decide +kernel
theorem xX11_whiteOf_40 : dcd mX11_whiteOf 40 = some (.iload 2, 1, 0, 0) := by decide +kernel
theorem xX11_whiteOf_41 : dcd mX11_whiteOf 41 = some (.ireturn, 1, 0, 0) := by decide +kernel
theorem xX11_run_0 : dcd mX11_run 0 = some (.iload 1, 1, 0, 0) := by decide +kernel
theorem xX11_run_1 : dcd mX11_run 1 = some (.i2l, 1, 0, 0) := by decide +kernel
theorem xX11_run_2 : dcd mX11_run 2 = some (.lconst 1, 1, 0, 0) := by decide +kernel
theorem xX11_run_3 : dcd mX11_run 3 = some (.ldc2_w 494, 3, 0, 0) := by decide +kernel
theorem xX11_run_6 : dcd mX11_run 6 = some (.invokestatic 203, 3, 0, 0) := by decide +kernel
theorem xX11_run_9 : dcd mX11_run 9 = some (.ifCond .eq 0, 3, 42, 0) := by decide +kernel
theorem xX11_run_12 : dcd mX11_run 12 = some (.iload 2, 1, 0, 0) := by decide +kernel
theorem xX11_run_13 : dcd mX11_run 13 = some (.i2l, 1, 0, 0) := by decide +kernel
theorem xX11_run_14 : dcd mX11_run 14 = some (.lconst 0, 1, 0, 0) := by decide +kernel
theorem xX11_run_15 : dcd mX11_run 15 = some (.ldc2_w 209, 3, 0, 0) := by decide +kernel
theorem xX11_run_18 : dcd mX11_run 18 = some (.invokestatic 203, 3, 0, 0) := by decide +kernel
theorem xX11_run_21 : dcd mX11_run 21 = some (.ifCond .eq 0, 3, 42, 0) := by decide +kernel
theorem xX11_run_24 : dcd mX11_run 24 = some (.iload 3, 1, 0, 0) := by decide +kernel
theorem xX11_run_25 : dcd mX11_run 25 = some (.i2l, 1, 0, 0) := by decide +kernel
theorem xX11_run_26 : dcd mX11_run 26 = some (.lconst 0, 1, 0, 0) := by decide +kernel
theorem xX11_run_27 : dcd mX11_run 27 = some (.lconst 1, 1, 0, 0) := by decide +kernel
theorem xX11_run_28 : dcd mX11_run 28 = some (.invokestatic 203, 3, 0, 0) := by decide +kernel
theorem xX11_run_31 : dcd mX11_run 31 = some (.ifCond .eq 0, 3, 42, 0) := by decide +kernel
theorem xX11_run_34 : dcd mX11_run 34 = some (.iload 1, 1, 0, 0) := by decide +kernel
theorem xX11_run_35 : dcd mX11_run 35 = some (.aload 0, 1, 0, 0) := by decide +kernel
theorem xX11_run_36 : dcd mX11_run 36 = some (.getfield 237, 3, 0, 0) := by decide +kernel
theorem xX11_run_39 : dcd mX11_run 39 = some (.if_icmp .le 0, 3, 44, 0) := by decide +kernel
theorem xX11_run_42 : dcd mX11_run 42 = some (.iconst 0, 1, 0, (-1)) := by decide +kernel
theorem xX11_run_43 : dcd mX11_run 43 = some (.ireturn, 1, 0, 0) := by decide +kernel
theorem xX11_run_44 : dcd mX11_run 44 = some (.aload 0, 1, 0, 0) := by decide +kernel
theorem xX11_run_45 : dcd mX11_run 45 = some (.iconst 0, 1, 0, 0) := by decide +kernel
theorem xX11_run_46 : dcd mX11_run 46 = some (.putfield 237, 3, 0, 0) := by decide +kernel
theorem xX11_run_49 : dcd mX11_run 49 = some (.iconst 0, 1, 0, 0) := by decide +kernel
theorem xX11_run_50 : dcd mX11_run 50 = some (.istore 4, 2, 0, 0) := by decide +kernel
theorem xX11_run_52 : dcd mX11_run 52 = some (.iconst 0, 1, 0, 0) := by decide +kernel
theorem xX11_run_53 : dcd mX11_run 53 = some (.istore 5, 2, 0, 0) := by decide +kernel
theorem xX11_run_55 : dcd mX11_run 55 = some (.iload 5, 2, 0, 0) := by decide +kernel
theorem xX11_run_57 : dcd mX11_run 57 = some (.iload 1, 1, 0, 0) := by decide +kernel
theorem xX11_run_58 : dcd mX11_run 58 = some (.if_icmp .ge 0, 3, 109, 0) := by decide +kernel
theorem xX11_run_61 : dcd mX11_run 61 = some (.aload 0, 1, 0, 0) := by decide +kernel
theorem xX11_run_62 : dcd mX11_run 62 = some (.iload 5, 2, 0, 0) := by decide +kernel
theorem xX11_run_64 : dcd mX11_run 64 = some (.invokevirtual 411, 3, 0, 0) := by decide +kernel
theorem xX11_run_67 : dcd mX11_run 67 = some (.invokestatic 227, 3, 0, 0) := by decide +kernel
theorem xX11_run_70 : dcd mX11_run 70 = some (.ifCond .eq 0, 3, 87, 0) := by decide +kernel
theorem xX11_run_73 : dcd mX11_run 73 = some (.iload 4, 2, 0, 0) := by decide +kernel
theorem xX11_run_75 : dcd mX11_run 75 = some (.aload 0, 1, 0, 0) := by decide +kernel
theorem xX11_run_76 : dcd mX11_run 76 = some (.iload 5, 2, 0, 0) := by decide +kernel
theorem xX11_run_78 : dcd mX11_run 78 = some (.invokevirtual 411, 3, 0, 0) := by decide +kernel
theorem xX11_run_81 : dcd mX11_run 81 = some (.invokestatic 491, 3, 0, 0) := by decide +kernel
theorem xX11_run_84 : dcd mX11_run 84 = some (.ifCond .eq 0, 3, 90, 0) := by decide +kernel
theorem xX11_run_87 : dcd mX11_run 87 = some (.iconst 0, 2, 0, (-2)) := by decide +kernel
theorem xX11_run_89 : dcd mX11_run 89 = some (.ireturn, 1, 0, 0) := by decide +kernel
theorem xX11_run_90 : dcd mX11_run 90 = some (.iload 4, 2, 0, 0) := by decide +kernel
theorem xX11_run_92 : dcd mX11_run 92 = some (.iconst 0, 1, 0, 1) := by decide +kernel
theorem xX11_run_93 : dcd mX11_run 93 = some (.aload 0, 1, 0, 0) := by decide +kernel
theorem xX11_run_94 : dcd mX11_run 94 = some (.iload 5, 2, 0, 0) := by decide +kernel
theorem xX11_run_96 : dcd mX11_run 96 = some (.invokevirtual 411, 3, 0, 0) := by decide +kernel
theorem xX11_run_99 : dcd mX11_run 99 = some (.ishl, 1, 0, 0) := by decide +kernel
theorem xX11_run_100 : dcd mX11_run 100 = some (.ior, 1, 0, 0) := by decide +kernel
theorem xX11_run_101 : dcd mX11_run 101 = some (.istore 4, 2, 0, 0) := by decide +kernel
theorem xX11_run_103 : dcd mX11_run 103 = some (.iinc 5 0, 3, 0, 1) := by decide +kernel
theorem xX11_run_106 : dcd mX11_run 106 = some (.goto 0, 3, 55, 0) := by decide +kernel
theorem xX11_run_109 : dcd mX11_run 109 = some (.iconst 0, 1, 0, 0) := by decide +kernel
theorem xX11_run_110 : dcd mX11_run 110 = some (.istore 5, 2, 0, 0) := by decide +kernel
theorem xX11_run_112 : dcd mX11_run 112 = some (.iconst 0, 1, 0, 0) := by decide +kernel
theorem xX11_run_113 : dcd mX11_run 113 = some (.istore 6, 2, 0, 0) := by decide +kernel
theorem xX11_run_115 : dcd mX11_run 115 = some (.iconst 0, 1, 0, 0) := by decide +kernel
theorem xX11_run_116 : dcd mX11_run 116 = some (.istore 7, 2, 0, 0) := by decide +kernel
theorem xX11_run_118 : dcd mX11_run 118 = some (.iload 7, 2, 0, 0) := by decide +kernel
theorem xX11_run_120 : dcd mX11_run 120 = some (.iload 1, 1, 0, 0) := by decide +kernel
theorem xX11_run_121 : dcd mX11_run 121 = some (.if_icmp .ge 0, 3, 168, 0) := by decide +kernel
theorem xX11_run_124 : dcd mX11_run 124 = some (.aload 0, 1, 0, 0) := by decide +kernel
theorem xX11_run_125 : dcd mX11_run 125 = some (.iload 5, 2, 0, 0) := by decide +kernel
theorem xX11_run_127 : dcd mX11_run 127 = some (.iload 2, 1, 0, 0) := by decide +kernel
theorem xX11_run_128 : dcd mX11_run 128 = some (.invokevirtual 496, 3, 0, 0) := by decide +kernel
theorem xX11_run_131 : dcd mX11_run 131 = some (.ifCond .ne 0, 3, 168, 0) := by decide +kernel
theorem xX11_run_134 : dcd mX11_run 134 = some (.iload 5, 2, 0, 0) := by decide +kernel
theorem xX11_run_136 : dcd mX11_run 136 = some (.iconst 0, 1, 0, 1) := by decide +kernel
theorem xX11_run_137 : dcd mX11_run 137 = some (.aload 0, 1, 0, 0) := by decide +kernel
theorem xX11_run_138 : dcd mX11_run 138 = some (.iload 7, 2, 0, 0) := by decide +kernel
theorem xX11_run_140 : dcd mX11_run 140 = some (.invokevirtual 411, 3, 0, 0) := by decide +kernel
theorem xX11_run_143 : dcd mX11_run 143 = some (.ishl, 1, 0, 0) := by decide +kernel
theorem xX11_run_144 : dcd mX11_run 144 = some (.ior, 1, 0, 0) := by decide +kernel
theorem xX11_run_145 : dcd mX11_run 145 = some (.istore 5, 2, 0, 0) := by decide +kernel
theorem xX11_run_147 : dcd mX11_run 147 = some (.iload 6, 2, 0, 0) := by decide +kernel
theorem xX11_run_149 : dcd mX11_run 149 = some (.aload 0, 1, 0, 0) := by decide +kernel
theorem xX11_run_150 : dcd mX11_run 150 = some (.aload 0, 1, 0, 0) := by decide +kernel
theorem xX11_run_151 : dcd mX11_run 151 = some (.iload 7, 2, 0, 0) := by decide +kernel
theorem xX11_run_153 : dcd mX11_run 153 = some (.invokevirtual 411, 3, 0, 0) := by decide +kernel
theorem xX11_run_156 : dcd mX11_run 156 = some (.invokevirtual 499, 3, 0, 0) := by decide +kernel
theorem xX11_run_159 : dcd mX11_run 159 = some (.iadd, 1, 0, 0) := by decide +kernel
theorem xX11_run_160 : dcd mX11_run 160 = some (.istore 6, 2, 0, 0) := by decide +kernel
theorem xX11_run_162 : dcd mX11_run 162 = some (.iinc 7 0, 3, 0, 1) := by decide +kernel
theorem xX11_run_165 : dcd mX11_run 165 = some (.goto 0, 3, 118, 0) := by decide +kernel
theorem xX11_run_168 : dcd mX11_run 168 = some (.iload 3, 1, 0, 0) := by decide +kernel
theorem xX11_run_169 : dcd mX11_run 169 = some (.ifCond .ne 0, 3, 177, 0) := by decide +kernel
theorem xX11_run_172 : dcd mX11_run 172 = some (.iload 5, 2, 0, 0) := by decide +kernel
theorem xX11_run_174 : dcd mX11_run 174 = some (.goto 0, 3, 179, 0) := by decide +kernel
theorem xX11_run_177 : dcd mX11_run 177 = some (.iload 6, 2, 0, 0) := by decide +kernel
theorem xX11_run_179 : dcd mX11_run 179 = some (.ireturn, 1, 0, 0) := by decide +kernel
theorem xX11_getsBy_0 : dcd mX11_getsBy 0 = some (.aload 0, 1, 0, 0) := by decide +kernel
theorem xX11_getsBy_1 : dcd mX11_getsBy 1 = some (.iload 2, 1, 0, 0) := by decide +kernel
theorem xX11_getsBy_2 : dcd mX11_getsBy 2 = some (.invokevirtual 499, 3, 0, 0) := by decide +kernel
theorem xX11_getsBy_5 : dcd mX11_getsBy 5 = some (.aload 0, 1, 0, 0) := by decide +kernel
theorem xX11_getsBy_6 : dcd mX11_getsBy 6 = some (.getfield 164, 3, 0, 0) := by decide +kernel
theorem xX11_getsBy_9 : dcd mX11_getsBy 9 = some (.iload 1, 1, 0, 0) := by decide +kernel
theorem xX11_getsBy_10 : dcd mX11_getsBy 10 = some (.iconst 0, 1, 0, 1) := by decide +kernel
theorem xX11_getsBy_11 : dcd mX11_getsBy 11 = some (.iload 2, 1, 0, 0) := by decide +kernel
theorem xX11_getsBy_12 : dcd mX11_getsBy 12 = some (.ishl, 1, 0, 0) := by decide +kernel
theorem xX11_getsBy_13 : dcd mX11_getsBy 13 = some (.ior, 1, 0, 0) := by decide +kernel
theorem xX11_getsBy_14 : dcd mX11_getsBy 14 = some (.iaload, 1, 0, 0) := by decide +kernel
theorem xX11_getsBy_15 : dcd mX11_getsBy 15 = some (.ifCond .ge 0, 3, 22, 0) := by decide +kernel
theorem xX11_getsBy_18 : dcd mX11_getsBy 18 = some (.iconst 0, 1, 0, 0) := by decide +kernel
theorem xX11_getsBy_19 : dcd mX11_getsBy 19 = some (.goto 0, 3, 32, 0) := by decide +kernel
theorem xX11_getsBy_22 : dcd mX11_getsBy 22 = some (.aload 0, 1, 0, 0) := by decide +kernel
theorem xX11_getsBy_23 : dcd mX11_getsBy 23 = some (.getfield 164, 3, 0, 0) := by decide +kernel
theorem xX11_getsBy_26 : dcd mX11_getsBy 26 = some (.iload 1, 1, 0, 0) := by decide +kernel
theorem xX11_getsBy_27 : dcd mX11_getsBy 27 = some (.iconst 0, 1, 0, 1) := by decide +kernel
theorem xX11_getsBy_28 : dcd mX11_getsBy 28 = some (.iload 2, 1, 0, 0) := by decide +kernel
theorem xX11_getsBy_29 : dcd mX11_getsBy 29 = some (.ishl, 1, 0, 0) := by decide +kernel
theorem xX11_getsBy_30 : dcd mX11_getsBy 30 = some (.ior, 1, 0, 0) := by decide +kernel
theorem xX11_getsBy_31 : dcd mX11_getsBy 31 = some (.iaload, 1, 0, 0) := by decide +kernel
theorem xX11_getsBy_32 : dcd mX11_getsBy 32 = some (.iadd, 1, 0, 0) := by decide +kernel
theorem xX11_getsBy_33 : dcd mX11_getsBy 33 = some (.ireturn, 1, 0, 0) := by decide +kernel
theorem xX11_sizeOf_0 : dcd mX11_sizeOf 0 = some (.iconst 0, 1, 0, 0) := by decide +kernel
theorem xX11_sizeOf_1 : dcd mX11_sizeOf 1 = some (.istore 1, 1, 0, 0) := by decide +kernel
theorem xX11_sizeOf_2 : dcd mX11_sizeOf 2 = some (.iload 0, 1, 0, 0) := by decide +kernel
theorem xX11_sizeOf_3 : dcd mX11_sizeOf 3 = some (.istore 2, 1, 0, 0) := by decide +kernel
theorem xX11_sizeOf_4 : dcd mX11_sizeOf 4 = some (.iload 2, 1, 0, 0) := by decide +kernel
theorem xX11_sizeOf_5 : dcd mX11_sizeOf 5 = some (.ifCond .eq 0, 3, 20, 0) := by decide +kernel
theorem xX11_sizeOf_8 : dcd mX11_sizeOf 8 = some (.iinc 1 0, 3, 0, 1) := by decide +kernel
theorem xX11_sizeOf_11 : dcd mX11_sizeOf 11 = some (.iload 2, 1, 0, 0) := by decide +kernel
theorem xX11_sizeOf_12 : dcd mX11_sizeOf 12 = some (.iload 2, 1, 0, 0) := by decide +kernel
theorem xX11_sizeOf_13 : dcd mX11_sizeOf 13 = some (.iconst 0, 1, 0, 1) := by decide +kernel
theorem xX11_sizeOf_14 : dcd mX11_sizeOf 14 = some (.isub, 1, 0, 0) := by decide +kernel
theorem xX11_sizeOf_15 : dcd mX11_sizeOf 15 = some (.iand, 1, 0, 0) := by decide +kernel
theorem xX11_sizeOf_16 : dcd mX11_sizeOf 16 = some (.istore 2, 1, 0, 0) := by decide +kernel
theorem xX11_sizeOf_17 : dcd mX11_sizeOf 17 = some (.goto 0, 3, 4, 0) := by decide +kernel
theorem xX11_sizeOf_20 : dcd mX11_sizeOf 20 = some (.iload 1, 1, 0, 0) := by decide +kernel
theorem xX11_sizeOf_21 : dcd mX11_sizeOf 21 = some (.ireturn, 1, 0, 0) := by decide +kernel
