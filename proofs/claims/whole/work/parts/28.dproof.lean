theorem d_Proof_init_0 : decode b_Proof_init 0 = .ok (.aload_n 0, 1) := by decide +kernel
theorem d_Proof_init_1 : decode b_Proof_init 1 = .ok (.invokespecial 3, 3) := by decide +kernel
theorem d_Proof_init_4 : decode b_Proof_init 4 = .ok (.aload_n 0, 1) := by decide +kernel
theorem d_Proof_init_5 : decode b_Proof_init 5 = .ok (.bipush 80, 2) := by decide +kernel
theorem d_Proof_init_7 : decode b_Proof_init 7 = .ok (.newarray .int, 2) := by decide +kernel
theorem d_Proof_init_9 : decode b_Proof_init 9 = .ok (.putfield 9, 3) := by decide +kernel
theorem d_Proof_init_12 : decode b_Proof_init 12 = .ok (.aload_n 0, 1) := by decide +kernel
theorem d_Proof_init_13 : decode b_Proof_init 13 = .ok (.bipush 80, 2) := by decide +kernel
theorem d_Proof_init_15 : decode b_Proof_init 15 = .ok (.newarray .int, 2) := by decide +kernel
theorem d_Proof_init_17 : decode b_Proof_init 17 = .ok (.putfield 15, 3) := by decide +kernel
theorem d_Proof_init_20 : decode b_Proof_init 20 = .ok (.aload_n 0, 1) := by decide +kernel
theorem d_Proof_init_21 : decode b_Proof_init 21 = .ok (.bipush 6, 2) := by decide +kernel
theorem d_Proof_init_23 : decode b_Proof_init 23 = .ok (.newarray .int, 2) := by decide +kernel
theorem d_Proof_init_25 : decode b_Proof_init 25 = .ok (.putfield 18, 3) := by decide +kernel
theorem d_Proof_init_28 : decode b_Proof_init 28 = .ok (.aload_n 0, 1) := by decide +kernel
theorem d_Proof_init_29 : decode b_Proof_init 29 = .ok (.bipush 6, 2) := by decide +kernel
theorem d_Proof_init_31 : decode b_Proof_init 31 = .ok (.newarray .int, 2) := by decide +kernel
theorem d_Proof_init_33 : decode b_Proof_init 33 = .ok (.putfield 21, 3) := by decide +kernel
theorem d_Proof_init_36 : decode b_Proof_init 36 = .ok (.aload_n 0, 1) := by decide +kernel
theorem d_Proof_init_37 : decode b_Proof_init 37 = .ok (.bipush 6, 2) := by decide +kernel
theorem d_Proof_init_39 : decode b_Proof_init 39 = .ok (.newarray .long, 2) := by decide +kernel
theorem d_Proof_init_41 : decode b_Proof_init 41 = .ok (.putfield 24, 3) := by decide +kernel
theorem d_Proof_init_44 : decode b_Proof_init 44 = .ok (.aload_n 0, 1) := by decide +kernel
theorem d_Proof_init_45 : decode b_Proof_init 45 = .ok (.bipush 6, 2) := by decide +kernel
theorem d_Proof_init_47 : decode b_Proof_init 47 = .ok (.newarray .int, 2) := by decide +kernel
theorem d_Proof_init_49 : decode b_Proof_init 49 = .ok (.putfield 28, 3) := by decide +kernel
theorem d_Proof_init_52 : decode b_Proof_init 52 = .ok (.aload_n 0, 1) := by decide +kernel
theorem d_Proof_init_53 : decode b_Proof_init 53 = .ok (.iconst 0, 1) := by decide +kernel
theorem d_Proof_init_54 : decode b_Proof_init 54 = .ok (.putfield 31, 3) := by decide +kernel
theorem d_Proof_init_57 : decode b_Proof_init 57 = .ok (.aload_n 0, 1) := by decide +kernel
theorem d_Proof_init_58 : decode b_Proof_init 58 = .ok (.iconst 0, 1) := by decide +kernel
theorem d_Proof_init_59 : decode b_Proof_init 59 = .ok (.putfield 35, 3) := by decide +kernel
theorem d_Proof_init_62 : decode b_Proof_init 62 = .ok (.aload_n 0, 1) := by decide +kernel
theorem d_Proof_init_63 : decode b_Proof_init 63 = .ok (.iconst 0, 1) := by decide +kernel
theorem d_Proof_init_64 : decode b_Proof_init 64 = .ok (.putfield 38, 3) := by decide +kernel
theorem d_Proof_init_67 : decode b_Proof_init 67 = .ok (.aload_n 0, 1) := by decide +kernel
theorem d_Proof_init_68 : decode b_Proof_init 68 = .ok (.invokevirtual 42, 3) := by decide +kernel
theorem d_Proof_init_71 : decode b_Proof_init 71 = .ok (.return_, 1) := by decide +kernel
theorem d_Proof_listFunctions_0 : decode b_Proof_listFunctions 0 = .ok (.iconst 0, 1) := by decide +kernel
theorem d_Proof_listFunctions_1 : decode b_Proof_listFunctions 1 = .ok (.istore_n 1, 1) := by decide +kernel
theorem d_Proof_listFunctions_2 : decode b_Proof_listFunctions 2 = .ok (.iconst 1, 1) := by decide +kernel
theorem d_Proof_listFunctions_3 : decode b_Proof_listFunctions 3 = .ok (.istore_n 2, 1) := by decide +kernel
theorem d_Proof_listFunctions_4 : decode b_Proof_listFunctions 4 = .ok (.iload_n 2, 1) := by decide +kernel
theorem d_Proof_listFunctions_5 : decode b_Proof_listFunctions 5 = .ok (.bipush 8, 2) := by decide +kernel
theorem d_Proof_listFunctions_7 : decode b_Proof_listFunctions 7 = .ok (.if_icmp .gt 77, 3) := by decide +kernel
theorem d_Proof_listFunctions_10 : decode b_Proof_listFunctions 10 = .ok (.iconst 4, 1) := by decide +kernel
theorem d_Proof_listFunctions_11 : decode b_Proof_listFunctions 11 = .ok (.istore_n 3, 1) := by decide +kernel
theorem d_Proof_listFunctions_12 : decode b_Proof_listFunctions 12 = .ok (.iload_n 3, 1) := by decide +kernel
theorem d_Proof_listFunctions_13 : decode b_Proof_listFunctions 13 = .ok (.bipush (-4), 2) := by decide +kernel
theorem d_Proof_listFunctions_15 : decode b_Proof_listFunctions 15 = .ok (.if_icmp .lt 63, 3) := by decide +kernel
theorem d_Proof_listFunctions_18 : decode b_Proof_listFunctions 18 = .ok (.iconst 4, 1) := by decide +kernel
theorem d_Proof_listFunctions_19 : decode b_Proof_listFunctions 19 = .ok (.istore 4, 2) := by decide +kernel
theorem d_Proof_listFunctions_21 : decode b_Proof_listFunctions 21 = .ok (.iload 4, 2) := by decide +kernel
theorem d_Proof_listFunctions_23 : decode b_Proof_listFunctions 23 = .ok (.bipush (-4), 2) := by decide +kernel
theorem d_Proof_listFunctions_25 : decode b_Proof_listFunctions 25 = .ok (.if_icmp .lt 47, 3) := by decide +kernel
theorem d_Proof_listFunctions_28 : decode b_Proof_listFunctions 28 = .ok (.iload_n 3, 1) := by decide +kernel
theorem d_Proof_listFunctions_29 : decode b_Proof_listFunctions 29 = .ok (.invokestatic 45, 3) := by decide +kernel
theorem d_Proof_listFunctions_32 : decode b_Proof_listFunctions 32 = .ok (.iload 4, 2) := by decide +kernel
theorem d_Proof_listFunctions_34 : decode b_Proof_listFunctions 34 = .ok (.invokestatic 45, 3) := by decide +kernel
theorem d_Proof_listFunctions_37 : decode b_Proof_listFunctions 37 = .ok (.iadd, 1) := by decide +kernel
theorem d_Proof_listFunctions_38 : decode b_Proof_listFunctions 38 = .ok (.iload_n 2, 1) := by decide +kernel
theorem d_Proof_listFunctions_39 : decode b_Proof_listFunctions 39 = .ok (.if_icmp .ne 27, 3) := by decide +kernel
theorem d_Proof_listFunctions_42 : decode b_Proof_listFunctions 42 = .ok (.iload_n 1, 1) := by decide +kernel
theorem d_Proof_listFunctions_43 : decode b_Proof_listFunctions 43 = .ok (.bipush 80, 2) := by decide +kernel
theorem d_Proof_listFunctions_45 : decode b_Proof_listFunctions 45 = .ok (.if_icmp .ge 21, 3) := by decide +kernel
theorem d_Proof_listFunctions_48 : decode b_Proof_listFunctions 48 = .ok (.aload_n 0, 1) := by decide +kernel
theorem d_Proof_listFunctions_49 : decode b_Proof_listFunctions 49 = .ok (.getfield 9, 3) := by decide +kernel
theorem d_Proof_listFunctions_52 : decode b_Proof_listFunctions 52 = .ok (.iload_n 1, 1) := by decide +kernel
theorem d_Proof_listFunctions_53 : decode b_Proof_listFunctions 53 = .ok (.iload_n 3, 1) := by decide +kernel
theorem d_Proof_listFunctions_54 : decode b_Proof_listFunctions 54 = .ok (.iastore, 1) := by decide +kernel
theorem d_Proof_listFunctions_55 : decode b_Proof_listFunctions 55 = .ok (.aload_n 0, 1) := by decide +kernel
theorem d_Proof_listFunctions_56 : decode b_Proof_listFunctions 56 = .ok (.getfield 15, 3) := by decide +kernel
theorem d_Proof_listFunctions_59 : decode b_Proof_listFunctions 59 = .ok (.iload_n 1, 1) := by decide +kernel
theorem d_Proof_listFunctions_60 : decode b_Proof_listFunctions 60 = .ok (.iload 4, 2) := by decide +kernel
theorem d_Proof_listFunctions_62 : decode b_Proof_listFunctions 62 = .ok (.iastore, 1) := by decide +kernel
theorem d_Proof_listFunctions_63 : decode b_Proof_listFunctions 63 = .ok (.iinc 1 1, 3) := by decide +kernel
theorem d_Proof_listFunctions_66 : decode b_Proof_listFunctions 66 = .ok (.iinc 4 (-1), 3) := by decide +kernel
theorem d_Proof_listFunctions_69 : decode b_Proof_listFunctions 69 = .ok (.goto (-48), 3) := by decide +kernel
theorem d_Proof_listFunctions_72 : decode b_Proof_listFunctions 72 = .ok (.iinc 3 (-1), 3) := by decide +kernel
theorem d_Proof_listFunctions_75 : decode b_Proof_listFunctions 75 = .ok (.goto (-63), 3) := by decide +kernel
theorem d_Proof_listFunctions_78 : decode b_Proof_listFunctions 78 = .ok (.iinc 2 1, 3) := by decide +kernel
theorem d_Proof_listFunctions_81 : decode b_Proof_listFunctions 81 = .ok (.goto (-77), 3) := by decide +kernel
theorem d_Proof_listFunctions_84 : decode b_Proof_listFunctions 84 = .ok (.return_, 1) := by decide +kernel
theorem d_Proof_hasLevel_0 : decode b_Proof_hasLevel 0 = .ok (.iload_n 1, 1) := by decide +kernel
theorem d_Proof_hasLevel_1 : decode b_Proof_hasLevel 1 = .ok (.ifCond .lt 15, 3) := by decide +kernel
theorem d_Proof_hasLevel_4 : decode b_Proof_hasLevel 4 = .ok (.iload_n 1, 1) := by decide +kernel
theorem d_Proof_hasLevel_5 : decode b_Proof_hasLevel 5 = .ok (.aload_n 0, 1) := by decide +kernel
theorem d_Proof_hasLevel_6 : decode b_Proof_hasLevel 6 = .ok (.getfield 31, 3) := by decide +kernel
theorem d_Proof_hasLevel_9 : decode b_Proof_hasLevel 9 = .ok (.if_icmp .ge 7, 3) := by decide +kernel
theorem d_Proof_hasLevel_12 : decode b_Proof_hasLevel 12 = .ok (.iconst 1, 1) := by decide +kernel
theorem d_Proof_hasLevel_13 : decode b_Proof_hasLevel 13 = .ok (.goto 4, 3) := by decide +kernel
theorem d_Proof_hasLevel_16 : decode b_Proof_hasLevel 16 = .ok (.iconst 0, 1) := by decide +kernel
theorem d_Proof_hasLevel_17 : decode b_Proof_hasLevel 17 = .ok (.ireturn, 1) := by decide +kernel
theorem d_Proof_functionValue_0 : decode b_Proof_functionValue 0 = .ok (.aload_n 0, 1) := by decide +kernel
theorem d_Proof_functionValue_1 : decode b_Proof_functionValue 1 = .ok (.getfield 18, 3) := by decide +kernel
theorem d_Proof_functionValue_4 : decode b_Proof_functionValue 4 = .ok (.iload_n 1, 1) := by decide +kernel
theorem d_Proof_functionValue_5 : decode b_Proof_functionValue 5 = .ok (.iaload, 1) := by decide +kernel
theorem d_Proof_functionValue_6 : decode b_Proof_functionValue 6 = .ok (.i2l, 1) := by decide +kernel
theorem d_Proof_functionValue_7 : decode b_Proof_functionValue 7 = .ok (.lload_n 2, 1) := by decide +kernel
theorem d_Proof_functionValue_8 : decode b_Proof_functionValue 8 = .ok (.lmul, 1) := by decide +kernel
theorem d_Proof_functionValue_9 : decode b_Proof_functionValue 9 = .ok (.aload_n 0, 1) := by decide +kernel
theorem d_Proof_functionValue_10 : decode b_Proof_functionValue 10 = .ok (.getfield 21, 3) := by decide +kernel
theorem d_Proof_functionValue_13 : decode b_Proof_functionValue 13 = .ok (.iload_n 1, 1) := by decide +kernel
theorem d_Proof_functionValue_14 : decode b_Proof_functionValue 14 = .ok (.iaload, 1) := by decide +kernel
theorem d_Proof_functionValue_15 : decode b_Proof_functionValue 15 = .ok (.i2l, 1) := by decide +kernel
theorem d_Proof_functionValue_16 : decode b_Proof_functionValue 16 = .ok (.lload 4, 2) := by decide +kernel
theorem d_Proof_functionValue_18 : decode b_Proof_functionValue 18 = .ok (.lmul, 1) := by decide +kernel
theorem d_Proof_functionValue_19 : decode b_Proof_functionValue 19 = .ok (.ladd, 1) := by decide +kernel
theorem d_Proof_functionValue_20 : decode b_Proof_functionValue 20 = .ok (.lreturn, 1) := by decide +kernel
theorem d_Proof_renew_0 : decode b_Proof_renew 0 = .ok (.aload_n 0, 1) := by decide +kernel
theorem d_Proof_renew_1 : decode b_Proof_renew 1 = .ok (.getfield 38, 3) := by decide +kernel
theorem d_Proof_renew_4 : decode b_Proof_renew 4 = .ok (.ifCond .eq 4, 3) := by decide +kernel
theorem d_Proof_renew_7 : decode b_Proof_renew 7 = .ok (.return_, 1) := by decide +kernel
theorem d_Proof_renew_8 : decode b_Proof_renew 8 = .ok (.aload_n 0, 1) := by decide +kernel
theorem d_Proof_renew_9 : decode b_Proof_renew 9 = .ok (.iconst 1, 1) := by decide +kernel
theorem d_Proof_renew_10 : decode b_Proof_renew 10 = .ok (.putfield 38, 3) := by decide +kernel
theorem d_Proof_renew_13 : decode b_Proof_renew 13 = .ok (.aload_n 0, 1) := by decide +kernel
theorem d_Proof_renew_14 : decode b_Proof_renew 14 = .ok (.iconst 0, 1) := by decide +kernel
theorem d_Proof_renew_15 : decode b_Proof_renew 15 = .ok (.putfield 31, 3) := by decide +kernel
theorem d_Proof_renew_18 : decode b_Proof_renew 18 = .ok (.aload_n 0, 1) := by decide +kernel
theorem d_Proof_renew_19 : decode b_Proof_renew 19 = .ok (.iload_n 2, 1) := by decide +kernel
theorem d_Proof_renew_20 : decode b_Proof_renew 20 = .ok (.putfield 35, 3) := by decide +kernel
theorem d_Proof_renew_23 : decode b_Proof_renew 23 = .ok (.iconst 0, 1) := by decide +kernel
theorem d_Proof_renew_24 : decode b_Proof_renew 24 = .ok (.istore_n 3, 1) := by decide +kernel
theorem d_Proof_renew_25 : decode b_Proof_renew 25 = .ok (.iload_n 3, 1) := by decide +kernel
theorem d_Proof_renew_26 : decode b_Proof_renew 26 = .ok (.iload_n 2, 1) := by decide +kernel
theorem d_Proof_renew_27 : decode b_Proof_renew 27 = .ok (.if_icmp .ge 30, 3) := by decide +kernel
theorem d_Proof_renew_30 : decode b_Proof_renew 30 = .ok (.aload_n 0, 1) := by decide +kernel
theorem d_Proof_renew_31 : decode b_Proof_renew 31 = .ok (.getfield 28, 3) := by decide +kernel
theorem d_Proof_renew_34 : decode b_Proof_renew 34 = .ok (.iload_n 3, 1) := by decide +kernel
theorem d_Proof_renew_35 : decode b_Proof_renew 35 = .ok (.iconst (-1), 1) := by decide +kernel
theorem d_Proof_renew_36 : decode b_Proof_renew 36 = .ok (.iastore, 1) := by decide +kernel
theorem d_Proof_renew_37 : decode b_Proof_renew 37 = .ok (.aload_n 1, 1) := by decide +kernel
theorem d_Proof_renew_38 : decode b_Proof_renew 38 = .ok (.iload_n 3, 1) := by decide +kernel
theorem d_Proof_renew_39 : decode b_Proof_renew 39 = .ok (.aaload, 1) := by decide +kernel
theorem d_Proof_renew_40 : decode b_Proof_renew 40 = .ok (.aload_n 0, 1) := by decide +kernel
theorem d_Proof_renew_41 : decode b_Proof_renew 41 = .ok (.getfield 9, 3) := by decide +kernel
theorem d_Proof_renew_44 : decode b_Proof_renew 44 = .ok (.aload_n 0, 1) := by decide +kernel
theorem d_Proof_renew_45 : decode b_Proof_renew 45 = .ok (.getfield 15, 3) := by decide +kernel
theorem d_Proof_renew_48 : decode b_Proof_renew 48 = .ok (.invokevirtual 51, 3) := by decide +kernel
theorem d_Proof_renew_51 : decode b_Proof_renew 51 = .ok (.iinc 3 1, 3) := by decide +kernel
theorem d_Proof_renew_54 : decode b_Proof_renew 54 = .ok (.goto (-29), 3) := by decide +kernel
theorem d_Proof_renew_57 : decode b_Proof_renew 57 = .ok (.iconst 0, 1) := by decide +kernel
theorem d_Proof_renew_58 : decode b_Proof_renew 58 = .ok (.istore_n 3, 1) := by decide +kernel
theorem d_Proof_renew_59 : decode b_Proof_renew 59 = .ok (.iload_n 3, 1) := by decide +kernel
theorem d_Proof_renew_60 : decode b_Proof_renew 60 = .ok (.bipush 6, 2) := by decide +kernel
theorem d_Proof_renew_62 : decode b_Proof_renew 62 = .ok (.if_icmp .ge 41, 3) := by decide +kernel
theorem d_Proof_renew_65 : decode b_Proof_renew 65 = .ok (.aload_n 0, 1) := by decide +kernel
theorem d_Proof_renew_66 : decode b_Proof_renew 66 = .ok (.getfield 35, 3) := by decide +kernel
theorem d_Proof_renew_69 : decode b_Proof_renew 69 = .ok (.ifCond .le 34, 3) := by decide +kernel
theorem d_Proof_renew_72 : decode b_Proof_renew 72 = .ok (.aload_n 0, 1) := by decide +kernel
theorem d_Proof_renew_73 : decode b_Proof_renew 73 = .ok (.aload_n 1, 1) := by decide +kernel
theorem d_Proof_renew_74 : decode b_Proof_renew 74 = .ok (.iload_n 2, 1) := by decide +kernel
theorem d_Proof_renew_75 : decode b_Proof_renew 75 = .ok (.invokevirtual 57, 3) := by decide +kernel
theorem d_Proof_renew_78 : decode b_Proof_renew 78 = .ok (.istore 4, 2) := by decide +kernel
theorem d_Proof_renew_80 : decode b_Proof_renew 80 = .ok (.iload 4, 2) := by decide +kernel
theorem d_Proof_renew_82 : decode b_Proof_renew 82 = .ok (.iconst (-1), 1) := by decide +kernel
theorem d_Proof_renew_83 : decode b_Proof_renew 83 = .ok (.if_icmp .ne 6, 3) := by decide +kernel
theorem d_Proof_renew_86 : decode b_Proof_renew 86 = .ok (.goto 17, 3) := by decide +kernel
theorem d_Proof_renew_89 : decode b_Proof_renew 89 = .ok (.aload_n 0, 1) := by decide +kernel
theorem d_Proof_renew_90 : decode b_Proof_renew 90 = .ok (.iload 4, 2) := by decide +kernel
theorem d_Proof_renew_92 : decode b_Proof_renew 92 = .ok (.aload_n 1, 1) := by decide +kernel
theorem d_Proof_renew_93 : decode b_Proof_renew 93 = .ok (.iload_n 2, 1) := by decide +kernel
theorem d_Proof_renew_94 : decode b_Proof_renew 94 = .ok (.invokevirtual 61, 3) := by decide +kernel
theorem d_Proof_renew_97 : decode b_Proof_renew 97 = .ok (.iinc 3 1, 3) := by decide +kernel
theorem d_Proof_renew_100 : decode b_Proof_renew 100 = .ok (.goto (-41), 3) := by decide +kernel
theorem d_Proof_renew_103 : decode b_Proof_renew 103 = .ok (.return_, 1) := by decide +kernel
theorem d_Proof_bestFunction_0 : decode b_Proof_bestFunction 0 = .ok (.iconst (-1), 1) := by decide +kernel
theorem d_Proof_bestFunction_1 : decode b_Proof_bestFunction 1 = .ok (.istore_n 3, 1) := by decide +kernel
theorem d_Proof_bestFunction_2 : decode b_Proof_bestFunction 2 = .ok (.iconst 0, 1) := by decide +kernel
theorem d_Proof_bestFunction_3 : decode b_Proof_bestFunction 3 = .ok (.istore 4, 2) := by decide +kernel
theorem d_Proof_bestFunction_5 : decode b_Proof_bestFunction 5 = .ok (.iconst 0, 1) := by decide +kernel
theorem d_Proof_bestFunction_6 : decode b_Proof_bestFunction 6 = .ok (.istore 5, 2) := by decide +kernel
theorem d_Proof_bestFunction_8 : decode b_Proof_bestFunction 8 = .ok (.iload 5, 2) := by decide +kernel
theorem d_Proof_bestFunction_10 : decode b_Proof_bestFunction 10 = .ok (.bipush 80, 2) := by decide +kernel
theorem d_Proof_bestFunction_12 : decode b_Proof_bestFunction 12 = .ok (.if_icmp .ge 33, 3) := by decide +kernel
theorem d_Proof_bestFunction_15 : decode b_Proof_bestFunction 15 = .ok (.aload_n 0, 1) := by decide +kernel
theorem d_Proof_bestFunction_16 : decode b_Proof_bestFunction 16 = .ok (.iload 5, 2) := by decide +kernel
theorem d_Proof_bestFunction_18 : decode b_Proof_bestFunction 18 = .ok (.aload_n 1, 1) := by decide +kernel
theorem d_Proof_bestFunction_19 : decode b_Proof_bestFunction 19 = .ok (.iload_n 2, 1) := by decide +kernel
theorem d_Proof_bestFunction_20 : decode b_Proof_bestFunction 20 = .ok (.invokevirtual 65, 3) := by decide +kernel
theorem d_Proof_bestFunction_23 : decode b_Proof_bestFunction 23 = .ok (.istore 6, 2) := by decide +kernel
theorem d_Proof_bestFunction_25 : decode b_Proof_bestFunction 25 = .ok (.iload 6, 2) := by decide +kernel
theorem d_Proof_bestFunction_27 : decode b_Proof_bestFunction 27 = .ok (.iload 4, 2) := by decide +kernel
theorem d_Proof_bestFunction_29 : decode b_Proof_bestFunction 29 = .ok (.if_icmp .le 10, 3) := by decide +kernel
theorem d_Proof_bestFunction_32 : decode b_Proof_bestFunction 32 = .ok (.iload 6, 2) := by decide +kernel
theorem d_Proof_bestFunction_34 : decode b_Proof_bestFunction 34 = .ok (.istore 4, 2) := by decide +kernel
theorem d_Proof_bestFunction_36 : decode b_Proof_bestFunction 36 = .ok (.iload 5, 2) := by decide +kernel
theorem d_Proof_bestFunction_38 : decode b_Proof_bestFunction 38 = .ok (.istore_n 3, 1) := by decide +kernel
theorem d_Proof_bestFunction_39 : decode b_Proof_bestFunction 39 = .ok (.iinc 5 1, 3) := by decide +kernel
theorem d_Proof_bestFunction_42 : decode b_Proof_bestFunction 42 = .ok (.goto (-34), 3) := by decide +kernel
theorem d_Proof_bestFunction_45 : decode b_Proof_bestFunction 45 = .ok (.iload_n 3, 1) := by decide +kernel
theorem d_Proof_bestFunction_46 : decode b_Proof_bestFunction 46 = .ok (.ireturn, 1) := by decide +kernel
theorem d_Proof_countRemoved_0 : decode b_Proof_countRemoved 0 = .ok (.iconst 0, 1) := by decide +kernel
theorem d_Proof_countRemoved_1 : decode b_Proof_countRemoved 1 = .ok (.istore 4, 2) := by decide +kernel
theorem d_Proof_countRemoved_3 : decode b_Proof_countRemoved 3 = .ok (.iconst 0, 1) := by decide +kernel
theorem d_Proof_countRemoved_4 : decode b_Proof_countRemoved 4 = .ok (.istore 5, 2) := by decide +kernel
theorem d_Proof_countRemoved_6 : decode b_Proof_countRemoved 6 = .ok (.iload 5, 2) := by decide +kernel
theorem d_Proof_countRemoved_8 : decode b_Proof_countRemoved 8 = .ok (.iload_n 3, 1) := by decide +kernel
theorem d_Proof_countRemoved_9 : decode b_Proof_countRemoved 9 = .ok (.if_icmp .ge 53, 3) := by decide +kernel
theorem d_Proof_countRemoved_12 : decode b_Proof_countRemoved 12 = .ok (.aload_n 0, 1) := by decide +kernel
theorem d_Proof_countRemoved_13 : decode b_Proof_countRemoved 13 = .ok (.getfield 28, 3) := by decide +kernel
theorem d_Proof_countRemoved_16 : decode b_Proof_countRemoved 16 = .ok (.iload 5, 2) := by decide +kernel
theorem d_Proof_countRemoved_18 : decode b_Proof_countRemoved 18 = .ok (.iaload, 1) := by decide +kernel
theorem d_Proof_countRemoved_19 : decode b_Proof_countRemoved 19 = .ok (.iconst (-1), 1) := by decide +kernel
theorem d_Proof_countRemoved_20 : decode b_Proof_countRemoved 20 = .ok (.if_icmp .eq 6, 3) := by decide +kernel
theorem d_Proof_countRemoved_23 : decode b_Proof_countRemoved 23 = .ok (.goto 33, 3) := by decide +kernel
theorem d_Proof_countRemoved_26 : decode b_Proof_countRemoved 26 = .ok (.aload_n 2, 1) := by decide +kernel
theorem d_Proof_countRemoved_27 : decode b_Proof_countRemoved 27 = .ok (.iload 5, 2) := by decide +kernel
theorem d_Proof_countRemoved_29 : decode b_Proof_countRemoved 29 = .ok (.aaload, 1) := by decide +kernel
theorem d_Proof_countRemoved_30 : decode b_Proof_countRemoved 30 = .ok (.getfield 69, 3) := by decide +kernel
theorem d_Proof_countRemoved_33 : decode b_Proof_countRemoved 33 = .ok (.iload_n 1, 1) := by decide +kernel
theorem d_Proof_countRemoved_34 : decode b_Proof_countRemoved 34 = .ok (.iaload, 1) := by decide +kernel
theorem d_Proof_countRemoved_35 : decode b_Proof_countRemoved 35 = .ok (.ifCond .ne 5, 3) := by decide +kernel
theorem d_Proof_countRemoved_38 : decode b_Proof_countRemoved 38 = .ok (.iconst 0, 1) := by decide +kernel
theorem d_Proof_countRemoved_39 : decode b_Proof_countRemoved 39 = .ok (.ireturn, 1) := by decide +kernel
theorem d_Proof_countRemoved_40 : decode b_Proof_countRemoved 40 = .ok (.aload_n 2, 1) := by decide +kernel
theorem d_Proof_countRemoved_41 : decode b_Proof_countRemoved 41 = .ok (.iload 5, 2) := by decide +kernel
theorem d_Proof_countRemoved_43 : decode b_Proof_countRemoved 43 = .ok (.aaload, 1) := by decide +kernel
theorem d_Proof_countRemoved_44 : decode b_Proof_countRemoved 44 = .ok (.getfield 69, 3) := by decide +kernel
theorem d_Proof_countRemoved_47 : decode b_Proof_countRemoved 47 = .ok (.iload_n 1, 1) := by decide +kernel
theorem d_Proof_countRemoved_48 : decode b_Proof_countRemoved 48 = .ok (.iaload, 1) := by decide +kernel
theorem d_Proof_countRemoved_49 : decode b_Proof_countRemoved 49 = .ok (.iconst 2, 1) := by decide +kernel
theorem d_Proof_countRemoved_50 : decode b_Proof_countRemoved 50 = .ok (.if_icmp .ne 6, 3) := by decide +kernel
theorem d_Proof_countRemoved_53 : decode b_Proof_countRemoved 53 = .ok (.iinc 4 1, 3) := by decide +kernel
theorem d_Proof_countRemoved_56 : decode b_Proof_countRemoved 56 = .ok (.iinc 5 1, 3) := by decide +kernel
theorem d_Proof_countRemoved_59 : decode b_Proof_countRemoved 59 = .ok (.goto (-53), 3) := by decide +kernel
theorem d_Proof_countRemoved_62 : decode b_Proof_countRemoved 62 = .ok (.iload 4, 2) := by decide +kernel
theorem d_Proof_countRemoved_64 : decode b_Proof_countRemoved 64 = .ok (.ireturn, 1) := by decide +kernel
theorem d_Proof_addLevel_0 : decode b_Proof_addLevel 0 = .ok (.ldc2_w 72, 3) := by decide +kernel
theorem d_Proof_addLevel_3 : decode b_Proof_addLevel 3 = .ok (.lstore 4, 2) := by decide +kernel
theorem d_Proof_addLevel_5 : decode b_Proof_addLevel 5 = .ok (.iconst 0, 1) := by decide +kernel
theorem d_Proof_addLevel_6 : decode b_Proof_addLevel 6 = .ok (.istore 6, 2) := by decide +kernel
theorem d_Proof_addLevel_8 : decode b_Proof_addLevel 8 = .ok (.iload 6, 2) := by decide +kernel
theorem d_Proof_addLevel_10 : decode b_Proof_addLevel 10 = .ok (.iload_n 3, 1) := by decide +kernel
theorem d_Proof_addLevel_11 : decode b_Proof_addLevel 11 = .ok (.if_icmp .ge 106, 3) := by decide +kernel
theorem d_Proof_addLevel_14 : decode b_Proof_addLevel 14 = .ok (.aload_n 0, 1) := by decide +kernel
theorem d_Proof_addLevel_15 : decode b_Proof_addLevel 15 = .ok (.getfield 28, 3) := by decide +kernel
theorem d_Proof_addLevel_18 : decode b_Proof_addLevel 18 = .ok (.iload 6, 2) := by decide +kernel
theorem d_Proof_addLevel_20 : decode b_Proof_addLevel 20 = .ok (.iaload, 1) := by decide +kernel
theorem d_Proof_addLevel_21 : decode b_Proof_addLevel 21 = .ok (.iconst (-1), 1) := by decide +kernel
theorem d_Proof_addLevel_22 : decode b_Proof_addLevel 22 = .ok (.if_icmp .ne 89, 3) := by decide +kernel
theorem d_Proof_addLevel_25 : decode b_Proof_addLevel 25 = .ok (.aload_n 2, 1) := by decide +kernel
theorem d_Proof_addLevel_26 : decode b_Proof_addLevel 26 = .ok (.iload 6, 2) := by decide +kernel
theorem d_Proof_addLevel_28 : decode b_Proof_addLevel 28 = .ok (.aaload, 1) := by decide +kernel
theorem d_Proof_addLevel_29 : decode b_Proof_addLevel 29 = .ok (.getfield 69, 3) := by decide +kernel
theorem d_Proof_addLevel_32 : decode b_Proof_addLevel 32 = .ok (.iload_n 1, 1) := by decide +kernel
theorem d_Proof_addLevel_33 : decode b_Proof_addLevel 33 = .ok (.iaload, 1) := by decide +kernel
theorem d_Proof_addLevel_34 : decode b_Proof_addLevel 34 = .ok (.iconst 2, 1) := by decide +kernel
theorem d_Proof_addLevel_35 : decode b_Proof_addLevel 35 = .ok (.if_icmp .eq 6, 3) := by decide +kernel
theorem d_Proof_addLevel_38 : decode b_Proof_addLevel 38 = .ok (.goto 73, 3) := by decide +kernel
theorem d_Proof_addLevel_41 : decode b_Proof_addLevel 41 = .ok (.aload_n 0, 1) := by decide +kernel
theorem d_Proof_addLevel_42 : decode b_Proof_addLevel 42 = .ok (.getfield 28, 3) := by decide +kernel
theorem d_Proof_addLevel_45 : decode b_Proof_addLevel 45 = .ok (.iload 6, 2) := by decide +kernel
theorem d_Proof_addLevel_47 : decode b_Proof_addLevel 47 = .ok (.aload_n 0, 1) := by decide +kernel
theorem d_Proof_addLevel_48 : decode b_Proof_addLevel 48 = .ok (.getfield 31, 3) := by decide +kernel
theorem d_Proof_addLevel_51 : decode b_Proof_addLevel 51 = .ok (.iastore, 1) := by decide +kernel
theorem d_Proof_addLevel_52 : decode b_Proof_addLevel 52 = .ok (.aload_n 0, 1) := by decide +kernel
theorem d_Proof_addLevel_53 : decode b_Proof_addLevel 53 = .ok (.dup, 1) := by decide +kernel
theorem d_Proof_addLevel_54 : decode b_Proof_addLevel 54 = .ok (.getfield 35, 3) := by decide +kernel
theorem d_Proof_addLevel_57 : decode b_Proof_addLevel 57 = .ok (.iconst 1, 1) := by decide +kernel
theorem d_Proof_addLevel_58 : decode b_Proof_addLevel 58 = .ok (.isub, 1) := by decide +kernel
theorem d_Proof_addLevel_59 : decode b_Proof_addLevel 59 = .ok (.putfield 35, 3) := by decide +kernel
theorem d_Proof_addLevel_62 : decode b_Proof_addLevel 62 = .ok (.aload_n 2, 1) := by decide +kernel
theorem d_Proof_addLevel_63 : decode b_Proof_addLevel 63 = .ok (.iload 6, 2) := by decide +kernel
theorem d_Proof_addLevel_65 : decode b_Proof_addLevel 65 = .ok (.aaload, 1) := by decide +kernel
theorem d_Proof_addLevel_66 : decode b_Proof_addLevel 66 = .ok (.getfield 74, 3) := by decide +kernel
theorem d_Proof_addLevel_69 : decode b_Proof_addLevel 69 = .ok (.astore 7, 2) := by decide +kernel
theorem d_Proof_addLevel_71 : decode b_Proof_addLevel 71 = .ok (.aload 7, 2) := by decide +kernel
theorem d_Proof_addLevel_73 : decode b_Proof_addLevel 73 = .ok (.getfield 78, 3) := by decide +kernel
theorem d_Proof_addLevel_76 : decode b_Proof_addLevel 76 = .ok (.ifCond .ne 35, 3) := by decide +kernel
theorem d_Proof_addLevel_79 : decode b_Proof_addLevel 79 = .ok (.aload 7, 2) := by decide +kernel
theorem d_Proof_addLevel_81 : decode b_Proof_addLevel 81 = .ok (.aload_n 0, 1) := by decide +kernel
theorem d_Proof_addLevel_82 : decode b_Proof_addLevel 82 = .ok (.getfield 9, 3) := by decide +kernel
theorem d_Proof_addLevel_85 : decode b_Proof_addLevel 85 = .ok (.iload_n 1, 1) := by decide +kernel
theorem d_Proof_addLevel_86 : decode b_Proof_addLevel 86 = .ok (.iaload, 1) := by decide +kernel
theorem d_Proof_addLevel_87 : decode b_Proof_addLevel 87 = .ok (.ineg, 1) := by decide +kernel
theorem d_Proof_addLevel_88 : decode b_Proof_addLevel 88 = .ok (.aload_n 0, 1) := by decide +kernel
theorem d_Proof_addLevel_89 : decode b_Proof_addLevel 89 = .ok (.getfield 15, 3) := by decide +kernel
theorem d_Proof_addLevel_92 : decode b_Proof_addLevel 92 = .ok (.iload_n 1, 1) := by decide +kernel
theorem d_Proof_addLevel_93 : decode b_Proof_addLevel 93 = .ok (.iaload, 1) := by decide +kernel
theorem d_Proof_addLevel_94 : decode b_Proof_addLevel 94 = .ok (.ineg, 1) := by decide +kernel
theorem d_Proof_addLevel_95 : decode b_Proof_addLevel 95 = .ok (.invokevirtual 83, 3) := by decide +kernel
theorem d_Proof_addLevel_98 : decode b_Proof_addLevel 98 = .ok (.lload 4, 2) := by decide +kernel
theorem d_Proof_addLevel_100 : decode b_Proof_addLevel 100 = .ok (.aload 7, 2) := by decide +kernel
theorem d_Proof_addLevel_102 : decode b_Proof_addLevel 102 = .ok (.invokevirtual 87, 3) := by decide +kernel
theorem d_Proof_addLevel_105 : decode b_Proof_addLevel 105 = .ok (.lneg, 1) := by decide +kernel
theorem d_Proof_addLevel_106 : decode b_Proof_addLevel 106 = .ok (.invokestatic 91, 3) := by decide +kernel
theorem d_Proof_addLevel_109 : decode b_Proof_addLevel 109 = .ok (.lstore 4, 2) := by decide +kernel
theorem d_Proof_addLevel_111 : decode b_Proof_addLevel 111 = .ok (.iinc 6 1, 3) := by decide +kernel
theorem d_Proof_addLevel_114 : decode b_Proof_addLevel 114 = .ok (.goto (-106), 3) := by decide +kernel
theorem d_Proof_addLevel_117 : decode b_Proof_addLevel 117 = .ok (.aload_n 0, 1) := by decide +kernel
theorem d_Proof_addLevel_118 : decode b_Proof_addLevel 118 = .ok (.getfield 18, 3) := by decide +kernel
theorem d_Proof_addLevel_121 : decode b_Proof_addLevel 121 = .ok (.aload_n 0, 1) := by decide +kernel
theorem d_Proof_addLevel_122 : decode b_Proof_addLevel 122 = .ok (.getfield 31, 3) := by decide +kernel
theorem d_Proof_addLevel_125 : decode b_Proof_addLevel 125 = .ok (.aload_n 0, 1) := by decide +kernel
theorem d_Proof_addLevel_126 : decode b_Proof_addLevel 126 = .ok (.getfield 9, 3) := by decide +kernel
theorem d_Proof_addLevel_129 : decode b_Proof_addLevel 129 = .ok (.iload_n 1, 1) := by decide +kernel
theorem d_Proof_addLevel_130 : decode b_Proof_addLevel 130 = .ok (.iaload, 1) := by decide +kernel
theorem d_Proof_addLevel_131 : decode b_Proof_addLevel 131 = .ok (.iastore, 1) := by decide +kernel
theorem d_Proof_addLevel_132 : decode b_Proof_addLevel 132 = .ok (.aload_n 0, 1) := by decide +kernel
theorem d_Proof_addLevel_133 : decode b_Proof_addLevel 133 = .ok (.getfield 21, 3) := by decide +kernel
theorem d_Proof_addLevel_136 : decode b_Proof_addLevel 136 = .ok (.aload_n 0, 1) := by decide +kernel
theorem d_Proof_addLevel_137 : decode b_Proof_addLevel 137 = .ok (.getfield 31, 3) := by decide +kernel
theorem d_Proof_addLevel_140 : decode b_Proof_addLevel 140 = .ok (.aload_n 0, 1) := by decide +kernel
theorem d_Proof_addLevel_141 : decode b_Proof_addLevel 141 = .ok (.getfield 15, 3) := by decide +kernel
theorem d_Proof_addLevel_144 : decode b_Proof_addLevel 144 = .ok (.iload_n 1, 1) := by decide +kernel
theorem d_Proof_addLevel_145 : decode b_Proof_addLevel 145 = .ok (.iaload, 1) := by decide +kernel
theorem d_Proof_addLevel_146 : decode b_Proof_addLevel 146 = .ok (.iastore, 1) := by decide +kernel
theorem d_Proof_addLevel_147 : decode b_Proof_addLevel 147 = .ok (.aload_n 0, 1) := by decide +kernel
theorem d_Proof_addLevel_148 : decode b_Proof_addLevel 148 = .ok (.getfield 24, 3) := by decide +kernel
theorem d_Proof_addLevel_151 : decode b_Proof_addLevel 151 = .ok (.aload_n 0, 1) := by decide +kernel
theorem d_Proof_addLevel_152 : decode b_Proof_addLevel 152 = .ok (.getfield 31, 3) := by decide +kernel
theorem d_Proof_addLevel_155 : decode b_Proof_addLevel 155 = .ok (.lload 4, 2) := by decide +kernel
theorem d_Proof_addLevel_157 : decode b_Proof_addLevel 157 = .ok (.ldc2_w 72, 3) := by decide +kernel
theorem d_Proof_addLevel_160 : decode b_Proof_addLevel 160 = .ok (.lcmp, 1) := by decide +kernel
theorem d_Proof_addLevel_161 : decode b_Proof_addLevel 161 = .ok (.ifCond .ne 7, 3) := by decide +kernel
theorem d_Proof_addLevel_164 : decode b_Proof_addLevel 164 = .ok (.lconst 0, 1) := by decide +kernel
theorem d_Proof_addLevel_165 : decode b_Proof_addLevel 165 = .ok (.goto 5, 3) := by decide +kernel
theorem d_Proof_addLevel_168 : decode b_Proof_addLevel 168 = .ok (.lload 4, 2) := by decide +kernel
theorem d_Proof_addLevel_170 : decode b_Proof_addLevel 170 = .ok (.lastore, 1) := by decide +kernel
theorem d_Proof_addLevel_171 : decode b_Proof_addLevel 171 = .ok (.aload_n 0, 1) := by decide +kernel
theorem d_Proof_addLevel_172 : decode b_Proof_addLevel 172 = .ok (.dup, 1) := by decide +kernel
theorem d_Proof_addLevel_173 : decode b_Proof_addLevel 173 = .ok (.getfield 31, 3) := by decide +kernel
theorem d_Proof_addLevel_176 : decode b_Proof_addLevel 176 = .ok (.iconst 1, 1) := by decide +kernel
theorem d_Proof_addLevel_177 : decode b_Proof_addLevel 177 = .ok (.iadd, 1) := by decide +kernel
theorem d_Proof_addLevel_178 : decode b_Proof_addLevel 178 = .ok (.putfield 31, 3) := by decide +kernel
theorem d_Proof_addLevel_181 : decode b_Proof_addLevel 181 = .ok (.return_, 1) := by decide +kernel
