theorem d_Guard_init_0 : decode b_Guard_init 0 = .ok (.aload_n 0, 1) := by decide +kernel
theorem d_Guard_init_1 : decode b_Guard_init 1 = .ok (.invokespecial 3, 3) := by decide +kernel
theorem d_Guard_init_4 : decode b_Guard_init 4 = .ok (.aload_n 0, 1) := by decide +kernel
theorem d_Guard_init_5 : decode b_Guard_init 5 = .ok (.iconst 4, 1) := by decide +kernel
theorem d_Guard_init_6 : decode b_Guard_init 6 = .ok (.newarray .int, 2) := by decide +kernel
theorem d_Guard_init_8 : decode b_Guard_init 8 = .ok (.putfield 9, 3) := by decide +kernel
theorem d_Guard_init_11 : decode b_Guard_init 11 = .ok (.aload_n 0, 1) := by decide +kernel
theorem d_Guard_init_12 : decode b_Guard_init 12 = .ok (.iconst 4, 1) := by decide +kernel
theorem d_Guard_init_13 : decode b_Guard_init 13 = .ok (.newarray .int, 2) := by decide +kernel
theorem d_Guard_init_15 : decode b_Guard_init 15 = .ok (.putfield 15, 3) := by decide +kernel
theorem d_Guard_init_18 : decode b_Guard_init 18 = .ok (.aload_n 0, 1) := by decide +kernel
theorem d_Guard_init_19 : decode b_Guard_init 19 = .ok (.iconst 4, 1) := by decide +kernel
theorem d_Guard_init_20 : decode b_Guard_init 20 = .ok (.newarray .int, 2) := by decide +kernel
theorem d_Guard_init_22 : decode b_Guard_init 22 = .ok (.putfield 18, 3) := by decide +kernel
theorem d_Guard_init_25 : decode b_Guard_init 25 = .ok (.aload_n 0, 1) := by decide +kernel
theorem d_Guard_init_26 : decode b_Guard_init 26 = .ok (.invokevirtual 21, 3) := by decide +kernel
theorem d_Guard_init_29 : decode b_Guard_init 29 = .ok (.return_, 1) := by decide +kernel
theorem d_Guard_clear_0 : decode b_Guard_clear 0 = .ok (.aload_n 0, 1) := by decide +kernel
theorem d_Guard_clear_1 : decode b_Guard_clear 1 = .ok (.iconst 0, 1) := by decide +kernel
theorem d_Guard_clear_2 : decode b_Guard_clear 2 = .ok (.putfield 24, 3) := by decide +kernel
theorem d_Guard_clear_5 : decode b_Guard_clear 5 = .ok (.aload_n 0, 1) := by decide +kernel
theorem d_Guard_clear_6 : decode b_Guard_clear 6 = .ok (.iconst 0, 1) := by decide +kernel
theorem d_Guard_clear_7 : decode b_Guard_clear 7 = .ok (.putfield 28, 3) := by decide +kernel
theorem d_Guard_clear_10 : decode b_Guard_clear 10 = .ok (.aload_n 0, 1) := by decide +kernel
theorem d_Guard_clear_11 : decode b_Guard_clear 11 = .ok (.lconst 0, 1) := by decide +kernel
theorem d_Guard_clear_12 : decode b_Guard_clear 12 = .ok (.putfield 32, 3) := by decide +kernel
theorem d_Guard_clear_15 : decode b_Guard_clear 15 = .ok (.aload_n 0, 1) := by decide +kernel
theorem d_Guard_clear_16 : decode b_Guard_clear 16 = .ok (.lconst 0, 1) := by decide +kernel
theorem d_Guard_clear_17 : decode b_Guard_clear 17 = .ok (.putfield 36, 3) := by decide +kernel
theorem d_Guard_clear_20 : decode b_Guard_clear 20 = .ok (.return_, 1) := by decide +kernel
theorem d_Guard_add_0 : decode b_Guard_add 0 = .ok (.aload_n 0, 1) := by decide +kernel
theorem d_Guard_add_1 : decode b_Guard_add 1 = .ok (.getfield 24, 3) := by decide +kernel
theorem d_Guard_add_4 : decode b_Guard_add 4 = .ok (.iconst 4, 1) := by decide +kernel
theorem d_Guard_add_5 : decode b_Guard_add 5 = .ok (.if_icmp .lt 4, 3) := by decide +kernel
theorem d_Guard_add_8 : decode b_Guard_add 8 = .ok (.return_, 1) := by decide +kernel
theorem d_Guard_add_9 : decode b_Guard_add 9 = .ok (.aload_n 0, 1) := by decide +kernel
theorem d_Guard_add_10 : decode b_Guard_add 10 = .ok (.getfield 28, 3) := by decide +kernel
theorem d_Guard_add_13 : decode b_Guard_add 13 = .ok (.ifCond .ne 45, 3) := by decide +kernel
theorem d_Guard_add_16 : decode b_Guard_add 16 = .ok (.aload_n 0, 1) := by decide +kernel
theorem d_Guard_add_17 : decode b_Guard_add 17 = .ok (.iload_n 1, 1) := by decide +kernel
theorem d_Guard_add_18 : decode b_Guard_add 18 = .ok (.ineg, 1) := by decide +kernel
theorem d_Guard_add_19 : decode b_Guard_add 19 = .ok (.iload_n 2, 1) := by decide +kernel
theorem d_Guard_add_20 : decode b_Guard_add 20 = .ok (.ineg, 1) := by decide +kernel
theorem d_Guard_add_21 : decode b_Guard_add 21 = .ok (.invokevirtual 39, 3) := by decide +kernel
theorem d_Guard_add_24 : decode b_Guard_add 24 = .ok (.aload_n 0, 1) := by decide +kernel
theorem d_Guard_add_25 : decode b_Guard_add 25 = .ok (.aload_n 0, 1) := by decide +kernel
theorem d_Guard_add_26 : decode b_Guard_add 26 = .ok (.getfield 36, 3) := by decide +kernel
theorem d_Guard_add_29 : decode b_Guard_add 29 = .ok (.lconst 0, 1) := by decide +kernel
theorem d_Guard_add_30 : decode b_Guard_add 30 = .ok (.lcmp, 1) := by decide +kernel
theorem d_Guard_add_31 : decode b_Guard_add 31 = .ok (.ifCond .eq 23, 3) := by decide +kernel
theorem d_Guard_add_34 : decode b_Guard_add 34 = .ok (.aload_n 0, 1) := by decide +kernel
theorem d_Guard_add_35 : decode b_Guard_add 35 = .ok (.getfield 32, 3) := by decide +kernel
theorem d_Guard_add_38 : decode b_Guard_add 38 = .ok (.iload_n 3, 1) := by decide +kernel
theorem d_Guard_add_39 : decode b_Guard_add 39 = .ok (.ineg, 1) := by decide +kernel
theorem d_Guard_add_40 : decode b_Guard_add 40 = .ok (.i2l, 1) := by decide +kernel
theorem d_Guard_add_41 : decode b_Guard_add 41 = .ok (.aload_n 0, 1) := by decide +kernel
theorem d_Guard_add_42 : decode b_Guard_add 42 = .ok (.getfield 36, 3) := by decide +kernel
theorem d_Guard_add_45 : decode b_Guard_add 45 = .ok (.lmul, 1) := by decide +kernel
theorem d_Guard_add_46 : decode b_Guard_add 46 = .ok (.lcmp, 1) := by decide +kernel
theorem d_Guard_add_47 : decode b_Guard_add 47 = .ok (.ifCond .ge 7, 3) := by decide +kernel
theorem d_Guard_add_50 : decode b_Guard_add 50 = .ok (.iconst 1, 1) := by decide +kernel
theorem d_Guard_add_51 : decode b_Guard_add 51 = .ok (.goto 4, 3) := by decide +kernel
theorem d_Guard_add_54 : decode b_Guard_add 54 = .ok (.iconst 0, 1) := by decide +kernel
theorem d_Guard_add_55 : decode b_Guard_add 55 = .ok (.putfield 28, 3) := by decide +kernel
theorem d_Guard_add_58 : decode b_Guard_add 58 = .ok (.aload_n 0, 1) := by decide +kernel
theorem d_Guard_add_59 : decode b_Guard_add 59 = .ok (.getfield 9, 3) := by decide +kernel
theorem d_Guard_add_62 : decode b_Guard_add 62 = .ok (.aload_n 0, 1) := by decide +kernel
theorem d_Guard_add_63 : decode b_Guard_add 63 = .ok (.getfield 24, 3) := by decide +kernel
theorem d_Guard_add_66 : decode b_Guard_add 66 = .ok (.iload_n 1, 1) := by decide +kernel
theorem d_Guard_add_67 : decode b_Guard_add 67 = .ok (.iastore, 1) := by decide +kernel
theorem d_Guard_add_68 : decode b_Guard_add 68 = .ok (.aload_n 0, 1) := by decide +kernel
theorem d_Guard_add_69 : decode b_Guard_add 69 = .ok (.getfield 15, 3) := by decide +kernel
theorem d_Guard_add_72 : decode b_Guard_add 72 = .ok (.aload_n 0, 1) := by decide +kernel
theorem d_Guard_add_73 : decode b_Guard_add 73 = .ok (.getfield 24, 3) := by decide +kernel
theorem d_Guard_add_76 : decode b_Guard_add 76 = .ok (.iload_n 2, 1) := by decide +kernel
theorem d_Guard_add_77 : decode b_Guard_add 77 = .ok (.iastore, 1) := by decide +kernel
theorem d_Guard_add_78 : decode b_Guard_add 78 = .ok (.aload_n 0, 1) := by decide +kernel
theorem d_Guard_add_79 : decode b_Guard_add 79 = .ok (.getfield 18, 3) := by decide +kernel
theorem d_Guard_add_82 : decode b_Guard_add 82 = .ok (.aload_n 0, 1) := by decide +kernel
theorem d_Guard_add_83 : decode b_Guard_add 83 = .ok (.getfield 24, 3) := by decide +kernel
theorem d_Guard_add_86 : decode b_Guard_add 86 = .ok (.iload_n 3, 1) := by decide +kernel
theorem d_Guard_add_87 : decode b_Guard_add 87 = .ok (.iastore, 1) := by decide +kernel
theorem d_Guard_add_88 : decode b_Guard_add 88 = .ok (.aload_n 0, 1) := by decide +kernel
theorem d_Guard_add_89 : decode b_Guard_add 89 = .ok (.dup, 1) := by decide +kernel
theorem d_Guard_add_90 : decode b_Guard_add 90 = .ok (.getfield 24, 3) := by decide +kernel
theorem d_Guard_add_93 : decode b_Guard_add 93 = .ok (.iconst 1, 1) := by decide +kernel
theorem d_Guard_add_94 : decode b_Guard_add 94 = .ok (.iadd, 1) := by decide +kernel
theorem d_Guard_add_95 : decode b_Guard_add 95 = .ok (.putfield 24, 3) := by decide +kernel
theorem d_Guard_add_98 : decode b_Guard_add 98 = .ok (.return_, 1) := by decide +kernel
theorem d_Guard_allows_0 : decode b_Guard_allows 0 = .ok (.iconst 0, 1) := by decide +kernel
theorem d_Guard_allows_1 : decode b_Guard_allows 1 = .ok (.istore 5, 2) := by decide +kernel
theorem d_Guard_allows_3 : decode b_Guard_allows 3 = .ok (.iload 5, 2) := by decide +kernel
theorem d_Guard_allows_5 : decode b_Guard_allows 5 = .ok (.aload_n 0, 1) := by decide +kernel
theorem d_Guard_allows_6 : decode b_Guard_allows 6 = .ok (.getfield 24, 3) := by decide +kernel
theorem d_Guard_allows_9 : decode b_Guard_allows 9 = .ok (.if_icmp .ge 44, 3) := by decide +kernel
theorem d_Guard_allows_12 : decode b_Guard_allows 12 = .ok (.aload_n 0, 1) := by decide +kernel
theorem d_Guard_allows_13 : decode b_Guard_allows 13 = .ok (.getfield 9, 3) := by decide +kernel
theorem d_Guard_allows_16 : decode b_Guard_allows 16 = .ok (.iload 5, 2) := by decide +kernel
theorem d_Guard_allows_18 : decode b_Guard_allows 18 = .ok (.iaload, 1) := by decide +kernel
theorem d_Guard_allows_19 : decode b_Guard_allows 19 = .ok (.i2l, 1) := by decide +kernel
theorem d_Guard_allows_20 : decode b_Guard_allows 20 = .ok (.lload_n 1, 1) := by decide +kernel
theorem d_Guard_allows_21 : decode b_Guard_allows 21 = .ok (.lmul, 1) := by decide +kernel
theorem d_Guard_allows_22 : decode b_Guard_allows 22 = .ok (.aload_n 0, 1) := by decide +kernel
theorem d_Guard_allows_23 : decode b_Guard_allows 23 = .ok (.getfield 15, 3) := by decide +kernel
theorem d_Guard_allows_26 : decode b_Guard_allows 26 = .ok (.iload 5, 2) := by decide +kernel
theorem d_Guard_allows_28 : decode b_Guard_allows 28 = .ok (.iaload, 1) := by decide +kernel
theorem d_Guard_allows_29 : decode b_Guard_allows 29 = .ok (.i2l, 1) := by decide +kernel
theorem d_Guard_allows_30 : decode b_Guard_allows 30 = .ok (.lload_n 3, 1) := by decide +kernel
theorem d_Guard_allows_31 : decode b_Guard_allows 31 = .ok (.lmul, 1) := by decide +kernel
theorem d_Guard_allows_32 : decode b_Guard_allows 32 = .ok (.ladd, 1) := by decide +kernel
theorem d_Guard_allows_33 : decode b_Guard_allows 33 = .ok (.aload_n 0, 1) := by decide +kernel
theorem d_Guard_allows_34 : decode b_Guard_allows 34 = .ok (.getfield 18, 3) := by decide +kernel
theorem d_Guard_allows_37 : decode b_Guard_allows 37 = .ok (.iload 5, 2) := by decide +kernel
theorem d_Guard_allows_39 : decode b_Guard_allows 39 = .ok (.iaload, 1) := by decide +kernel
theorem d_Guard_allows_40 : decode b_Guard_allows 40 = .ok (.i2l, 1) := by decide +kernel
theorem d_Guard_allows_41 : decode b_Guard_allows 41 = .ok (.lcmp, 1) := by decide +kernel
theorem d_Guard_allows_42 : decode b_Guard_allows 42 = .ok (.ifCond .le 5, 3) := by decide +kernel
theorem d_Guard_allows_45 : decode b_Guard_allows 45 = .ok (.iconst 0, 1) := by decide +kernel
theorem d_Guard_allows_46 : decode b_Guard_allows 46 = .ok (.ireturn, 1) := by decide +kernel
theorem d_Guard_allows_47 : decode b_Guard_allows 47 = .ok (.iinc 5 1, 3) := by decide +kernel
theorem d_Guard_allows_50 : decode b_Guard_allows 50 = .ok (.goto (-47), 3) := by decide +kernel
theorem d_Guard_allows_53 : decode b_Guard_allows 53 = .ok (.iconst 1, 1) := by decide +kernel
theorem d_Guard_allows_54 : decode b_Guard_allows 54 = .ok (.ireturn, 1) := by decide +kernel
theorem d_Guard_maximise_0 : decode b_Guard_maximise 0 = .ok (.aload_n 0, 1) := by decide +kernel
theorem d_Guard_maximise_1 : decode b_Guard_maximise 1 = .ok (.lconst 0, 1) := by decide +kernel
theorem d_Guard_maximise_2 : decode b_Guard_maximise 2 = .ok (.putfield 32, 3) := by decide +kernel
theorem d_Guard_maximise_5 : decode b_Guard_maximise 5 = .ok (.aload_n 0, 1) := by decide +kernel
theorem d_Guard_maximise_6 : decode b_Guard_maximise 6 = .ok (.lconst 0, 1) := by decide +kernel
theorem d_Guard_maximise_7 : decode b_Guard_maximise 7 = .ok (.putfield 36, 3) := by decide +kernel
theorem d_Guard_maximise_10 : decode b_Guard_maximise 10 = .ok (.iload_n 1, 1) := by decide +kernel
theorem d_Guard_maximise_11 : decode b_Guard_maximise 11 = .ok (.ifCond .ne 13, 3) := by decide +kernel
theorem d_Guard_maximise_14 : decode b_Guard_maximise 14 = .ok (.iload_n 2, 1) := by decide +kernel
theorem d_Guard_maximise_15 : decode b_Guard_maximise 15 = .ok (.ifCond .ne 9, 3) := by decide +kernel
theorem d_Guard_maximise_18 : decode b_Guard_maximise 18 = .ok (.aload_n 0, 1) := by decide +kernel
theorem d_Guard_maximise_19 : decode b_Guard_maximise 19 = .ok (.lconst 1, 1) := by decide +kernel
theorem d_Guard_maximise_20 : decode b_Guard_maximise 20 = .ok (.putfield 36, 3) := by decide +kernel
theorem d_Guard_maximise_23 : decode b_Guard_maximise 23 = .ok (.return_, 1) := by decide +kernel
theorem d_Guard_maximise_24 : decode b_Guard_maximise 24 = .ok (.iconst 0, 1) := by decide +kernel
theorem d_Guard_maximise_25 : decode b_Guard_maximise 25 = .ok (.istore_n 3, 1) := by decide +kernel
theorem d_Guard_maximise_26 : decode b_Guard_maximise 26 = .ok (.iload_n 3, 1) := by decide +kernel
theorem d_Guard_maximise_27 : decode b_Guard_maximise 27 = .ok (.aload_n 0, 1) := by decide +kernel
theorem d_Guard_maximise_28 : decode b_Guard_maximise 28 = .ok (.getfield 24, 3) := by decide +kernel
theorem d_Guard_maximise_31 : decode b_Guard_maximise 31 = .ok (.if_icmp .ge 45, 3) := by decide +kernel
theorem d_Guard_maximise_34 : decode b_Guard_maximise 34 = .ok (.aload_n 0, 1) := by decide +kernel
theorem d_Guard_maximise_35 : decode b_Guard_maximise 35 = .ok (.iload_n 3, 1) := by decide +kernel
theorem d_Guard_maximise_36 : decode b_Guard_maximise 36 = .ok (.iload_n 1, 1) := by decide +kernel
theorem d_Guard_maximise_37 : decode b_Guard_maximise 37 = .ok (.iload_n 2, 1) := by decide +kernel
theorem d_Guard_maximise_38 : decode b_Guard_maximise 38 = .ok (.invokevirtual 43, 3) := by decide +kernel
theorem d_Guard_maximise_41 : decode b_Guard_maximise 41 = .ok (.iload_n 3, 1) := by decide +kernel
theorem d_Guard_maximise_42 : decode b_Guard_maximise 42 = .ok (.iconst 1, 1) := by decide +kernel
theorem d_Guard_maximise_43 : decode b_Guard_maximise 43 = .ok (.iadd, 1) := by decide +kernel
theorem d_Guard_maximise_44 : decode b_Guard_maximise 44 = .ok (.istore 4, 2) := by decide +kernel
theorem d_Guard_maximise_46 : decode b_Guard_maximise 46 = .ok (.iload 4, 2) := by decide +kernel
theorem d_Guard_maximise_48 : decode b_Guard_maximise 48 = .ok (.aload_n 0, 1) := by decide +kernel
theorem d_Guard_maximise_49 : decode b_Guard_maximise 49 = .ok (.getfield 24, 3) := by decide +kernel
theorem d_Guard_maximise_52 : decode b_Guard_maximise 52 = .ok (.if_icmp .ge 18, 3) := by decide +kernel
theorem d_Guard_maximise_55 : decode b_Guard_maximise 55 = .ok (.aload_n 0, 1) := by decide +kernel
theorem d_Guard_maximise_56 : decode b_Guard_maximise 56 = .ok (.iload_n 3, 1) := by decide +kernel
theorem d_Guard_maximise_57 : decode b_Guard_maximise 57 = .ok (.iload 4, 2) := by decide +kernel
theorem d_Guard_maximise_59 : decode b_Guard_maximise 59 = .ok (.iload_n 1, 1) := by decide +kernel
theorem d_Guard_maximise_60 : decode b_Guard_maximise 60 = .ok (.iload_n 2, 1) := by decide +kernel
theorem d_Guard_maximise_61 : decode b_Guard_maximise 61 = .ok (.invokevirtual 47, 3) := by decide +kernel
theorem d_Guard_maximise_64 : decode b_Guard_maximise 64 = .ok (.iinc 4 1, 3) := by decide +kernel
theorem d_Guard_maximise_67 : decode b_Guard_maximise 67 = .ok (.goto (-21), 3) := by decide +kernel
theorem d_Guard_maximise_70 : decode b_Guard_maximise 70 = .ok (.iinc 3 1, 3) := by decide +kernel
theorem d_Guard_maximise_73 : decode b_Guard_maximise 73 = .ok (.goto (-47), 3) := by decide +kernel
theorem d_Guard_maximise_76 : decode b_Guard_maximise 76 = .ok (.return_, 1) := by decide +kernel
theorem d_Guard_boundByRow_0 : decode b_Guard_boundByRow 0 = .ok (.aload_n 0, 1) := by decide +kernel
theorem d_Guard_boundByRow_1 : decode b_Guard_boundByRow 1 = .ok (.getfield 9, 3) := by decide +kernel
theorem d_Guard_boundByRow_4 : decode b_Guard_boundByRow 4 = .ok (.iload_n 1, 1) := by decide +kernel
theorem d_Guard_boundByRow_5 : decode b_Guard_boundByRow 5 = .ok (.iaload, 1) := by decide +kernel
theorem d_Guard_boundByRow_6 : decode b_Guard_boundByRow 6 = .ok (.i2l, 1) := by decide +kernel
theorem d_Guard_boundByRow_7 : decode b_Guard_boundByRow 7 = .ok (.aload_n 0, 1) := by decide +kernel
theorem d_Guard_boundByRow_8 : decode b_Guard_boundByRow 8 = .ok (.getfield 15, 3) := by decide +kernel
theorem d_Guard_boundByRow_11 : decode b_Guard_boundByRow 11 = .ok (.iload_n 1, 1) := by decide +kernel
theorem d_Guard_boundByRow_12 : decode b_Guard_boundByRow 12 = .ok (.iaload, 1) := by decide +kernel
theorem d_Guard_boundByRow_13 : decode b_Guard_boundByRow 13 = .ok (.i2l, 1) := by decide +kernel
theorem d_Guard_boundByRow_14 : decode b_Guard_boundByRow 14 = .ok (.iload_n 2, 1) := by decide +kernel
theorem d_Guard_boundByRow_15 : decode b_Guard_boundByRow 15 = .ok (.i2l, 1) := by decide +kernel
theorem d_Guard_boundByRow_16 : decode b_Guard_boundByRow 16 = .ok (.iload_n 3, 1) := by decide +kernel
theorem d_Guard_boundByRow_17 : decode b_Guard_boundByRow 17 = .ok (.i2l, 1) := by decide +kernel
theorem d_Guard_boundByRow_18 : decode b_Guard_boundByRow 18 = .ok (.invokestatic 51, 3) := by decide +kernel
theorem d_Guard_boundByRow_21 : decode b_Guard_boundByRow 21 = .ok (.lconst 0, 1) := by decide +kernel
theorem d_Guard_boundByRow_22 : decode b_Guard_boundByRow 22 = .ok (.lcmp, 1) := by decide +kernel
theorem d_Guard_boundByRow_23 : decode b_Guard_boundByRow 23 = .ok (.ifCond .ne 27, 3) := by decide +kernel
theorem d_Guard_boundByRow_26 : decode b_Guard_boundByRow 26 = .ok (.aload_n 0, 1) := by decide +kernel
theorem d_Guard_boundByRow_27 : decode b_Guard_boundByRow 27 = .ok (.getfield 9, 3) := by decide +kernel
theorem d_Guard_boundByRow_30 : decode b_Guard_boundByRow 30 = .ok (.iload_n 1, 1) := by decide +kernel
theorem d_Guard_boundByRow_31 : decode b_Guard_boundByRow 31 = .ok (.iaload, 1) := by decide +kernel
theorem d_Guard_boundByRow_32 : decode b_Guard_boundByRow 32 = .ok (.iload_n 2, 1) := by decide +kernel
theorem d_Guard_boundByRow_33 : decode b_Guard_boundByRow 33 = .ok (.imul, 1) := by decide +kernel
theorem d_Guard_boundByRow_34 : decode b_Guard_boundByRow 34 = .ok (.aload_n 0, 1) := by decide +kernel
theorem d_Guard_boundByRow_35 : decode b_Guard_boundByRow 35 = .ok (.getfield 15, 3) := by decide +kernel
theorem d_Guard_boundByRow_38 : decode b_Guard_boundByRow 38 = .ok (.iload_n 1, 1) := by decide +kernel
theorem d_Guard_boundByRow_39 : decode b_Guard_boundByRow 39 = .ok (.iaload, 1) := by decide +kernel
theorem d_Guard_boundByRow_40 : decode b_Guard_boundByRow 40 = .ok (.iload_n 3, 1) := by decide +kernel
theorem d_Guard_boundByRow_41 : decode b_Guard_boundByRow 41 = .ok (.imul, 1) := by decide +kernel
theorem d_Guard_boundByRow_42 : decode b_Guard_boundByRow 42 = .ok (.iadd, 1) := by decide +kernel
theorem d_Guard_boundByRow_43 : decode b_Guard_boundByRow 43 = .ok (.ifCond .le 7, 3) := by decide +kernel
theorem d_Guard_boundByRow_46 : decode b_Guard_boundByRow 46 = .ok (.iconst 1, 1) := by decide +kernel
theorem d_Guard_boundByRow_47 : decode b_Guard_boundByRow 47 = .ok (.goto 4, 3) := by decide +kernel
theorem d_Guard_boundByRow_50 : decode b_Guard_boundByRow 50 = .ok (.iconst 0, 1) := by decide +kernel
theorem d_Guard_boundByRow_51 : decode b_Guard_boundByRow 51 = .ok (.istore 4, 2) := by decide +kernel
theorem d_Guard_boundByRow_53 : decode b_Guard_boundByRow 53 = .ok (.iload 4, 2) := by decide +kernel
theorem d_Guard_boundByRow_55 : decode b_Guard_boundByRow 55 = .ok (.ifCond .eq 45, 3) := by decide +kernel
theorem d_Guard_boundByRow_58 : decode b_Guard_boundByRow 58 = .ok (.aload_n 0, 1) := by decide +kernel
theorem d_Guard_boundByRow_59 : decode b_Guard_boundByRow 59 = .ok (.aload_n 0, 1) := by decide +kernel
theorem d_Guard_boundByRow_60 : decode b_Guard_boundByRow 60 = .ok (.getfield 18, 3) := by decide +kernel
theorem d_Guard_boundByRow_63 : decode b_Guard_boundByRow 63 = .ok (.iload_n 1, 1) := by decide +kernel
theorem d_Guard_boundByRow_64 : decode b_Guard_boundByRow 64 = .ok (.iaload, 1) := by decide +kernel
theorem d_Guard_boundByRow_65 : decode b_Guard_boundByRow 65 = .ok (.i2l, 1) := by decide +kernel
theorem d_Guard_boundByRow_66 : decode b_Guard_boundByRow 66 = .ok (.iload_n 2, 1) := by decide +kernel
theorem d_Guard_boundByRow_67 : decode b_Guard_boundByRow 67 = .ok (.invokestatic 55, 3) := by decide +kernel
theorem d_Guard_boundByRow_70 : decode b_Guard_boundByRow 70 = .ok (.iload_n 3, 1) := by decide +kernel
theorem d_Guard_boundByRow_71 : decode b_Guard_boundByRow 71 = .ok (.invokestatic 55, 3) := by decide +kernel
theorem d_Guard_boundByRow_74 : decode b_Guard_boundByRow 74 = .ok (.iadd, 1) := by decide +kernel
theorem d_Guard_boundByRow_75 : decode b_Guard_boundByRow 75 = .ok (.i2l, 1) := by decide +kernel
theorem d_Guard_boundByRow_76 : decode b_Guard_boundByRow 76 = .ok (.lmul, 1) := by decide +kernel
theorem d_Guard_boundByRow_77 : decode b_Guard_boundByRow 77 = .ok (.aload_n 0, 1) := by decide +kernel
theorem d_Guard_boundByRow_78 : decode b_Guard_boundByRow 78 = .ok (.getfield 9, 3) := by decide +kernel
theorem d_Guard_boundByRow_81 : decode b_Guard_boundByRow 81 = .ok (.iload_n 1, 1) := by decide +kernel
theorem d_Guard_boundByRow_82 : decode b_Guard_boundByRow 82 = .ok (.iaload, 1) := by decide +kernel
theorem d_Guard_boundByRow_83 : decode b_Guard_boundByRow 83 = .ok (.invokestatic 55, 3) := by decide +kernel
theorem d_Guard_boundByRow_86 : decode b_Guard_boundByRow 86 = .ok (.aload_n 0, 1) := by decide +kernel
theorem d_Guard_boundByRow_87 : decode b_Guard_boundByRow 87 = .ok (.getfield 15, 3) := by decide +kernel
theorem d_Guard_boundByRow_90 : decode b_Guard_boundByRow 90 = .ok (.iload_n 1, 1) := by decide +kernel
theorem d_Guard_boundByRow_91 : decode b_Guard_boundByRow 91 = .ok (.iaload, 1) := by decide +kernel
theorem d_Guard_boundByRow_92 : decode b_Guard_boundByRow 92 = .ok (.invokestatic 55, 3) := by decide +kernel
theorem d_Guard_boundByRow_95 : decode b_Guard_boundByRow 95 = .ok (.iadd, 1) := by decide +kernel
theorem d_Guard_boundByRow_96 : decode b_Guard_boundByRow 96 = .ok (.i2l, 1) := by decide +kernel
theorem d_Guard_boundByRow_97 : decode b_Guard_boundByRow 97 = .ok (.invokevirtual 61, 3) := by decide +kernel
theorem d_Guard_boundByRow_100 : decode b_Guard_boundByRow 100 = .ok (.return_, 1) := by decide +kernel
theorem d_Guard_boundByPair_0 : decode b_Guard_boundByPair 0 = .ok (.aload_n 0, 1) := by decide +kernel
theorem d_Guard_boundByPair_1 : decode b_Guard_boundByPair 1 = .ok (.getfield 9, 3) := by decide +kernel
theorem d_Guard_boundByPair_4 : decode b_Guard_boundByPair 4 = .ok (.iload_n 1, 1) := by decide +kernel
theorem d_Guard_boundByPair_5 : decode b_Guard_boundByPair 5 = .ok (.iaload, 1) := by decide +kernel
theorem d_Guard_boundByPair_6 : decode b_Guard_boundByPair 6 = .ok (.i2l, 1) := by decide +kernel
theorem d_Guard_boundByPair_7 : decode b_Guard_boundByPair 7 = .ok (.aload_n 0, 1) := by decide +kernel
theorem d_Guard_boundByPair_8 : decode b_Guard_boundByPair 8 = .ok (.getfield 15, 3) := by decide +kernel
theorem d_Guard_boundByPair_11 : decode b_Guard_boundByPair 11 = .ok (.iload_n 1, 1) := by decide +kernel
theorem d_Guard_boundByPair_12 : decode b_Guard_boundByPair 12 = .ok (.iaload, 1) := by decide +kernel
theorem d_Guard_boundByPair_13 : decode b_Guard_boundByPair 13 = .ok (.i2l, 1) := by decide +kernel
theorem d_Guard_boundByPair_14 : decode b_Guard_boundByPair 14 = .ok (.aload_n 0, 1) := by decide +kernel
theorem d_Guard_boundByPair_15 : decode b_Guard_boundByPair 15 = .ok (.getfield 9, 3) := by decide +kernel
theorem d_Guard_boundByPair_18 : decode b_Guard_boundByPair 18 = .ok (.iload_n 2, 1) := by decide +kernel
theorem d_Guard_boundByPair_19 : decode b_Guard_boundByPair 19 = .ok (.iaload, 1) := by decide +kernel
theorem d_Guard_boundByPair_20 : decode b_Guard_boundByPair 20 = .ok (.i2l, 1) := by decide +kernel
theorem d_Guard_boundByPair_21 : decode b_Guard_boundByPair 21 = .ok (.aload_n 0, 1) := by decide +kernel
theorem d_Guard_boundByPair_22 : decode b_Guard_boundByPair 22 = .ok (.getfield 15, 3) := by decide +kernel
theorem d_Guard_boundByPair_25 : decode b_Guard_boundByPair 25 = .ok (.iload_n 2, 1) := by decide +kernel
theorem d_Guard_boundByPair_26 : decode b_Guard_boundByPair 26 = .ok (.iaload, 1) := by decide +kernel
theorem d_Guard_boundByPair_27 : decode b_Guard_boundByPair 27 = .ok (.i2l, 1) := by decide +kernel
theorem d_Guard_boundByPair_28 : decode b_Guard_boundByPair 28 = .ok (.invokestatic 51, 3) := by decide +kernel
theorem d_Guard_boundByPair_31 : decode b_Guard_boundByPair 31 = .ok (.lstore 5, 2) := by decide +kernel
theorem d_Guard_boundByPair_33 : decode b_Guard_boundByPair 33 = .ok (.lload 5, 2) := by decide +kernel
theorem d_Guard_boundByPair_35 : decode b_Guard_boundByPair 35 = .ok (.lconst 0, 1) := by decide +kernel
theorem d_Guard_boundByPair_36 : decode b_Guard_boundByPair 36 = .ok (.lcmp, 1) := by decide +kernel
theorem d_Guard_boundByPair_37 : decode b_Guard_boundByPair 37 = .ok (.ifCond .ge 9, 3) := by decide +kernel
theorem d_Guard_boundByPair_40 : decode b_Guard_boundByPair 40 = .ok (.ldc2_w 65, 3) := by decide +kernel
theorem d_Guard_boundByPair_43 : decode b_Guard_boundByPair 43 = .ok (.goto 4, 3) := by decide +kernel
theorem d_Guard_boundByPair_46 : decode b_Guard_boundByPair 46 = .ok (.lconst 1, 1) := by decide +kernel
theorem d_Guard_boundByPair_47 : decode b_Guard_boundByPair 47 = .ok (.lstore 7, 2) := by decide +kernel
theorem d_Guard_boundByPair_49 : decode b_Guard_boundByPair 49 = .ok (.lload 7, 2) := by decide +kernel
theorem d_Guard_boundByPair_51 : decode b_Guard_boundByPair 51 = .ok (.iload_n 3, 1) := by decide +kernel
theorem d_Guard_boundByPair_52 : decode b_Guard_boundByPair 52 = .ok (.i2l, 1) := by decide +kernel
theorem d_Guard_boundByPair_53 : decode b_Guard_boundByPair 53 = .ok (.iload 4, 2) := by decide +kernel
theorem d_Guard_boundByPair_55 : decode b_Guard_boundByPair 55 = .ok (.i2l, 1) := by decide +kernel
theorem d_Guard_boundByPair_56 : decode b_Guard_boundByPair 56 = .ok (.aload_n 0, 1) := by decide +kernel
theorem d_Guard_boundByPair_57 : decode b_Guard_boundByPair 57 = .ok (.getfield 9, 3) := by decide +kernel
theorem d_Guard_boundByPair_60 : decode b_Guard_boundByPair 60 = .ok (.iload_n 2, 1) := by decide +kernel
theorem d_Guard_boundByPair_61 : decode b_Guard_boundByPair 61 = .ok (.iaload, 1) := by decide +kernel
theorem d_Guard_boundByPair_62 : decode b_Guard_boundByPair 62 = .ok (.i2l, 1) := by decide +kernel
theorem d_Guard_boundByPair_63 : decode b_Guard_boundByPair 63 = .ok (.aload_n 0, 1) := by decide +kernel
theorem d_Guard_boundByPair_64 : decode b_Guard_boundByPair 64 = .ok (.getfield 15, 3) := by decide +kernel
theorem d_Guard_boundByPair_67 : decode b_Guard_boundByPair 67 = .ok (.iload_n 2, 1) := by decide +kernel
theorem d_Guard_boundByPair_68 : decode b_Guard_boundByPair 68 = .ok (.iaload, 1) := by decide +kernel
theorem d_Guard_boundByPair_69 : decode b_Guard_boundByPair 69 = .ok (.i2l, 1) := by decide +kernel
theorem d_Guard_boundByPair_70 : decode b_Guard_boundByPair 70 = .ok (.invokestatic 51, 3) := by decide +kernel
theorem d_Guard_boundByPair_73 : decode b_Guard_boundByPair 73 = .ok (.lmul, 1) := by decide +kernel
theorem d_Guard_boundByPair_74 : decode b_Guard_boundByPair 74 = .ok (.lstore 9, 2) := by decide +kernel
theorem d_Guard_boundByPair_76 : decode b_Guard_boundByPair 76 = .ok (.lload 7, 2) := by decide +kernel
theorem d_Guard_boundByPair_78 : decode b_Guard_boundByPair 78 = .ok (.aload_n 0, 1) := by decide +kernel
theorem d_Guard_boundByPair_79 : decode b_Guard_boundByPair 79 = .ok (.getfield 9, 3) := by decide +kernel
theorem d_Guard_boundByPair_82 : decode b_Guard_boundByPair 82 = .ok (.iload_n 1, 1) := by decide +kernel
theorem d_Guard_boundByPair_83 : decode b_Guard_boundByPair 83 = .ok (.iaload, 1) := by decide +kernel
theorem d_Guard_boundByPair_84 : decode b_Guard_boundByPair 84 = .ok (.i2l, 1) := by decide +kernel
theorem d_Guard_boundByPair_85 : decode b_Guard_boundByPair 85 = .ok (.aload_n 0, 1) := by decide +kernel
theorem d_Guard_boundByPair_86 : decode b_Guard_boundByPair 86 = .ok (.getfield 15, 3) := by decide +kernel
theorem d_Guard_boundByPair_89 : decode b_Guard_boundByPair 89 = .ok (.iload_n 1, 1) := by decide +kernel
theorem d_Guard_boundByPair_90 : decode b_Guard_boundByPair 90 = .ok (.iaload, 1) := by decide +kernel
theorem d_Guard_boundByPair_91 : decode b_Guard_boundByPair 91 = .ok (.i2l, 1) := by decide +kernel
theorem d_Guard_boundByPair_92 : decode b_Guard_boundByPair 92 = .ok (.iload_n 3, 1) := by decide +kernel
theorem d_Guard_boundByPair_93 : decode b_Guard_boundByPair 93 = .ok (.i2l, 1) := by decide +kernel
theorem d_Guard_boundByPair_94 : decode b_Guard_boundByPair 94 = .ok (.iload 4, 2) := by decide +kernel
theorem d_Guard_boundByPair_96 : decode b_Guard_boundByPair 96 = .ok (.i2l, 1) := by decide +kernel
theorem d_Guard_boundByPair_97 : decode b_Guard_boundByPair 97 = .ok (.invokestatic 51, 3) := by decide +kernel
theorem d_Guard_boundByPair_100 : decode b_Guard_boundByPair 100 = .ok (.lmul, 1) := by decide +kernel
theorem d_Guard_boundByPair_101 : decode b_Guard_boundByPair 101 = .ok (.lstore 11, 2) := by decide +kernel
theorem d_Guard_boundByPair_103 : decode b_Guard_boundByPair 103 = .ok (.lload 5, 2) := by decide +kernel
theorem d_Guard_boundByPair_105 : decode b_Guard_boundByPair 105 = .ok (.lconst 0, 1) := by decide +kernel
theorem d_Guard_boundByPair_106 : decode b_Guard_boundByPair 106 = .ok (.lcmp, 1) := by decide +kernel
theorem d_Guard_boundByPair_107 : decode b_Guard_boundByPair 107 = .ok (.ifCond .eq 47, 3) := by decide +kernel
theorem d_Guard_boundByPair_110 : decode b_Guard_boundByPair 110 = .ok (.lload 9, 2) := by decide +kernel
theorem d_Guard_boundByPair_112 : decode b_Guard_boundByPair 112 = .ok (.lconst 0, 1) := by decide +kernel
theorem d_Guard_boundByPair_113 : decode b_Guard_boundByPair 113 = .ok (.lcmp, 1) := by decide +kernel
theorem d_Guard_boundByPair_114 : decode b_Guard_boundByPair 114 = .ok (.ifCond .lt 40, 3) := by decide +kernel
theorem d_Guard_boundByPair_117 : decode b_Guard_boundByPair 117 = .ok (.lload 11, 2) := by decide +kernel
theorem d_Guard_boundByPair_119 : decode b_Guard_boundByPair 119 = .ok (.lconst 0, 1) := by decide +kernel
theorem d_Guard_boundByPair_120 : decode b_Guard_boundByPair 120 = .ok (.lcmp, 1) := by decide +kernel
theorem d_Guard_boundByPair_121 : decode b_Guard_boundByPair 121 = .ok (.ifCond .lt 33, 3) := by decide +kernel
theorem d_Guard_boundByPair_124 : decode b_Guard_boundByPair 124 = .ok (.aload_n 0, 1) := by decide +kernel
theorem d_Guard_boundByPair_125 : decode b_Guard_boundByPair 125 = .ok (.aload_n 0, 1) := by decide +kernel
theorem d_Guard_boundByPair_126 : decode b_Guard_boundByPair 126 = .ok (.getfield 18, 3) := by decide +kernel
theorem d_Guard_boundByPair_129 : decode b_Guard_boundByPair 129 = .ok (.iload_n 1, 1) := by decide +kernel
theorem d_Guard_boundByPair_130 : decode b_Guard_boundByPair 130 = .ok (.iaload, 1) := by decide +kernel
theorem d_Guard_boundByPair_131 : decode b_Guard_boundByPair 131 = .ok (.i2l, 1) := by decide +kernel
theorem d_Guard_boundByPair_132 : decode b_Guard_boundByPair 132 = .ok (.lload 9, 2) := by decide +kernel
theorem d_Guard_boundByPair_134 : decode b_Guard_boundByPair 134 = .ok (.lmul, 1) := by decide +kernel
theorem d_Guard_boundByPair_135 : decode b_Guard_boundByPair 135 = .ok (.aload_n 0, 1) := by decide +kernel
theorem d_Guard_boundByPair_136 : decode b_Guard_boundByPair 136 = .ok (.getfield 18, 3) := by decide +kernel
theorem d_Guard_boundByPair_139 : decode b_Guard_boundByPair 139 = .ok (.iload_n 2, 1) := by decide +kernel
theorem d_Guard_boundByPair_140 : decode b_Guard_boundByPair 140 = .ok (.iaload, 1) := by decide +kernel
theorem d_Guard_boundByPair_141 : decode b_Guard_boundByPair 141 = .ok (.i2l, 1) := by decide +kernel
theorem d_Guard_boundByPair_142 : decode b_Guard_boundByPair 142 = .ok (.lload 11, 2) := by decide +kernel
theorem d_Guard_boundByPair_144 : decode b_Guard_boundByPair 144 = .ok (.lmul, 1) := by decide +kernel
theorem d_Guard_boundByPair_145 : decode b_Guard_boundByPair 145 = .ok (.ladd, 1) := by decide +kernel
theorem d_Guard_boundByPair_146 : decode b_Guard_boundByPair 146 = .ok (.lload 7, 2) := by decide +kernel
theorem d_Guard_boundByPair_148 : decode b_Guard_boundByPair 148 = .ok (.lload 5, 2) := by decide +kernel
theorem d_Guard_boundByPair_150 : decode b_Guard_boundByPair 150 = .ok (.lmul, 1) := by decide +kernel
theorem d_Guard_boundByPair_151 : decode b_Guard_boundByPair 151 = .ok (.invokevirtual 61, 3) := by decide +kernel
theorem d_Guard_boundByPair_154 : decode b_Guard_boundByPair 154 = .ok (.return_, 1) := by decide +kernel
theorem d_Guard_lowerTo_0 : decode b_Guard_lowerTo 0 = .ok (.aload_n 0, 1) := by decide +kernel
theorem d_Guard_lowerTo_1 : decode b_Guard_lowerTo 1 = .ok (.getfield 36, 3) := by decide +kernel
theorem d_Guard_lowerTo_4 : decode b_Guard_lowerTo 4 = .ok (.lconst 0, 1) := by decide +kernel
theorem d_Guard_lowerTo_5 : decode b_Guard_lowerTo 5 = .ok (.lcmp, 1) := by decide +kernel
theorem d_Guard_lowerTo_6 : decode b_Guard_lowerTo 6 = .ok (.ifCond .eq 19, 3) := by decide +kernel
theorem d_Guard_lowerTo_9 : decode b_Guard_lowerTo 9 = .ok (.lload_n 1, 1) := by decide +kernel
theorem d_Guard_lowerTo_10 : decode b_Guard_lowerTo 10 = .ok (.aload_n 0, 1) := by decide +kernel
theorem d_Guard_lowerTo_11 : decode b_Guard_lowerTo 11 = .ok (.getfield 36, 3) := by decide +kernel
theorem d_Guard_lowerTo_14 : decode b_Guard_lowerTo 14 = .ok (.lmul, 1) := by decide +kernel
theorem d_Guard_lowerTo_15 : decode b_Guard_lowerTo 15 = .ok (.aload_n 0, 1) := by decide +kernel
theorem d_Guard_lowerTo_16 : decode b_Guard_lowerTo 16 = .ok (.getfield 32, 3) := by decide +kernel
theorem d_Guard_lowerTo_19 : decode b_Guard_lowerTo 19 = .ok (.lload_n 3, 1) := by decide +kernel
theorem d_Guard_lowerTo_20 : decode b_Guard_lowerTo 20 = .ok (.lmul, 1) := by decide +kernel
theorem d_Guard_lowerTo_21 : decode b_Guard_lowerTo 21 = .ok (.lcmp, 1) := by decide +kernel
theorem d_Guard_lowerTo_22 : decode b_Guard_lowerTo 22 = .ok (.ifCond .ge 13, 3) := by decide +kernel
theorem d_Guard_lowerTo_25 : decode b_Guard_lowerTo 25 = .ok (.aload_n 0, 1) := by decide +kernel
theorem d_Guard_lowerTo_26 : decode b_Guard_lowerTo 26 = .ok (.lload_n 1, 1) := by decide +kernel
theorem d_Guard_lowerTo_27 : decode b_Guard_lowerTo 27 = .ok (.putfield 32, 3) := by decide +kernel
theorem d_Guard_lowerTo_30 : decode b_Guard_lowerTo 30 = .ok (.aload_n 0, 1) := by decide +kernel
theorem d_Guard_lowerTo_31 : decode b_Guard_lowerTo 31 = .ok (.lload_n 3, 1) := by decide +kernel
theorem d_Guard_lowerTo_32 : decode b_Guard_lowerTo 32 = .ok (.putfield 36, 3) := by decide +kernel
theorem d_Guard_lowerTo_35 : decode b_Guard_lowerTo 35 = .ok (.return_, 1) := by decide +kernel
theorem d_Guard_hasMaximum_0 : decode b_Guard_hasMaximum 0 = .ok (.aload_n 0, 1) := by decide +kernel
theorem d_Guard_hasMaximum_1 : decode b_Guard_hasMaximum 1 = .ok (.getfield 36, 3) := by decide +kernel
theorem d_Guard_hasMaximum_4 : decode b_Guard_hasMaximum 4 = .ok (.lconst 0, 1) := by decide +kernel
theorem d_Guard_hasMaximum_5 : decode b_Guard_hasMaximum 5 = .ok (.lcmp, 1) := by decide +kernel
theorem d_Guard_hasMaximum_6 : decode b_Guard_hasMaximum 6 = .ok (.ifCond .eq 7, 3) := by decide +kernel
theorem d_Guard_hasMaximum_9 : decode b_Guard_hasMaximum 9 = .ok (.iconst 1, 1) := by decide +kernel
theorem d_Guard_hasMaximum_10 : decode b_Guard_hasMaximum 10 = .ok (.goto 4, 3) := by decide +kernel
theorem d_Guard_hasMaximum_13 : decode b_Guard_hasMaximum 13 = .ok (.iconst 0, 1) := by decide +kernel
theorem d_Guard_hasMaximum_14 : decode b_Guard_hasMaximum 14 = .ok (.ireturn, 1) := by decide +kernel
theorem d_Guard_maximumIsAtMost_0 : decode b_Guard_maximumIsAtMost 0 = .ok (.aload_n 0, 1) := by decide +kernel
theorem d_Guard_maximumIsAtMost_1 : decode b_Guard_maximumIsAtMost 1 = .ok (.getfield 36, 3) := by decide +kernel
theorem d_Guard_maximumIsAtMost_4 : decode b_Guard_maximumIsAtMost 4 = .ok (.lconst 0, 1) := by decide +kernel
theorem d_Guard_maximumIsAtMost_5 : decode b_Guard_maximumIsAtMost 5 = .ok (.lcmp, 1) := by decide +kernel
theorem d_Guard_maximumIsAtMost_6 : decode b_Guard_maximumIsAtMost 6 = .ok (.ifCond .eq 21, 3) := by decide +kernel
theorem d_Guard_maximumIsAtMost_9 : decode b_Guard_maximumIsAtMost 9 = .ok (.aload_n 0, 1) := by decide +kernel
theorem d_Guard_maximumIsAtMost_10 : decode b_Guard_maximumIsAtMost 10 = .ok (.getfield 32, 3) := by decide +kernel
theorem d_Guard_maximumIsAtMost_13 : decode b_Guard_maximumIsAtMost 13 = .ok (.lload_n 1, 1) := by decide +kernel
theorem d_Guard_maximumIsAtMost_14 : decode b_Guard_maximumIsAtMost 14 = .ok (.aload_n 0, 1) := by decide +kernel
theorem d_Guard_maximumIsAtMost_15 : decode b_Guard_maximumIsAtMost 15 = .ok (.getfield 36, 3) := by decide +kernel
theorem d_Guard_maximumIsAtMost_18 : decode b_Guard_maximumIsAtMost 18 = .ok (.lmul, 1) := by decide +kernel
theorem d_Guard_maximumIsAtMost_19 : decode b_Guard_maximumIsAtMost 19 = .ok (.lcmp, 1) := by decide +kernel
theorem d_Guard_maximumIsAtMost_20 : decode b_Guard_maximumIsAtMost 20 = .ok (.ifCond .gt 7, 3) := by decide +kernel
theorem d_Guard_maximumIsAtMost_23 : decode b_Guard_maximumIsAtMost 23 = .ok (.iconst 1, 1) := by decide +kernel
theorem d_Guard_maximumIsAtMost_24 : decode b_Guard_maximumIsAtMost 24 = .ok (.goto 4, 3) := by decide +kernel
theorem d_Guard_maximumIsAtMost_27 : decode b_Guard_maximumIsAtMost 27 = .ok (.iconst 0, 1) := by decide +kernel
theorem d_Guard_maximumIsAtMost_28 : decode b_Guard_maximumIsAtMost 28 = .ok (.ireturn, 1) := by decide +kernel
theorem d_Guard_maximumRoundedDown_0 : decode b_Guard_maximumRoundedDown 0 = .ok (.aload_n 0, 1) := by decide +kernel
theorem d_Guard_maximumRoundedDown_1 : decode b_Guard_maximumRoundedDown 1 = .ok (.getfield 36, 3) := by decide +kernel
theorem d_Guard_maximumRoundedDown_4 : decode b_Guard_maximumRoundedDown 4 = .ok (.lconst 0, 1) := by decide +kernel
theorem d_Guard_maximumRoundedDown_5 : decode b_Guard_maximumRoundedDown 5 = .ok (.lcmp, 1) := by decide +kernel
theorem d_Guard_maximumRoundedDown_6 : decode b_Guard_maximumRoundedDown 6 = .ok (.ifCond .ne 9, 3) := by decide +kernel
theorem d_Guard_maximumRoundedDown_9 : decode b_Guard_maximumRoundedDown 9 = .ok (.ldc2_w 67, 3) := by decide +kernel
theorem d_Guard_maximumRoundedDown_12 : decode b_Guard_maximumRoundedDown 12 = .ok (.goto 14, 3) := by decide +kernel
theorem d_Guard_maximumRoundedDown_15 : decode b_Guard_maximumRoundedDown 15 = .ok (.aload_n 0, 1) := by decide +kernel
theorem d_Guard_maximumRoundedDown_16 : decode b_Guard_maximumRoundedDown 16 = .ok (.getfield 32, 3) := by decide +kernel
theorem d_Guard_maximumRoundedDown_19 : decode b_Guard_maximumRoundedDown 19 = .ok (.aload_n 0, 1) := by decide +kernel
theorem d_Guard_maximumRoundedDown_20 : decode b_Guard_maximumRoundedDown 20 = .ok (.getfield 36, 3) := by decide +kernel
theorem d_Guard_maximumRoundedDown_23 : decode b_Guard_maximumRoundedDown 23 = .ok (.invokestatic 69, 3) := by decide +kernel
theorem d_Guard_maximumRoundedDown_26 : decode b_Guard_maximumRoundedDown 26 = .ok (.lreturn, 1) := by decide +kernel
theorem d_Guard_cross_0 : decode b_Guard_cross 0 = .ok (.lload_n 0, 1) := by decide +kernel
theorem d_Guard_cross_1 : decode b_Guard_cross 1 = .ok (.lload 6, 2) := by decide +kernel
theorem d_Guard_cross_3 : decode b_Guard_cross 3 = .ok (.lmul, 1) := by decide +kernel
theorem d_Guard_cross_4 : decode b_Guard_cross 4 = .ok (.lload_n 2, 1) := by decide +kernel
theorem d_Guard_cross_5 : decode b_Guard_cross 5 = .ok (.lload 4, 2) := by decide +kernel
theorem d_Guard_cross_7 : decode b_Guard_cross 7 = .ok (.lmul, 1) := by decide +kernel
theorem d_Guard_cross_8 : decode b_Guard_cross 8 = .ok (.lsub, 1) := by decide +kernel
theorem d_Guard_cross_9 : decode b_Guard_cross 9 = .ok (.lreturn, 1) := by decide +kernel
theorem d_Math_floorDiv_0 : decode b_Math_floorDiv 0 = .ok (.lload_n 0, 1) := by decide +kernel
theorem d_Math_floorDiv_1 : decode b_Math_floorDiv 1 = .ok (.lload_n 2, 1) := by decide +kernel
theorem d_Math_floorDiv_2 : decode b_Math_floorDiv 2 = .ok (.ldiv, 1) := by decide +kernel
theorem d_Math_floorDiv_3 : decode b_Math_floorDiv 3 = .ok (.lstore 4, 2) := by decide +kernel
theorem d_Math_floorDiv_5 : decode b_Math_floorDiv 5 = .ok (.lload_n 0, 1) := by decide +kernel
theorem d_Math_floorDiv_6 : decode b_Math_floorDiv 6 = .ok (.lload_n 2, 1) := by decide +kernel
theorem d_Math_floorDiv_7 : decode b_Math_floorDiv 7 = .ok (.lxor, 1) := by decide +kernel
theorem d_Math_floorDiv_8 : decode b_Math_floorDiv 8 = .ok (.lconst 0, 1) := by decide +kernel
theorem d_Math_floorDiv_9 : decode b_Math_floorDiv 9 = .ok (.lcmp, 1) := by decide +kernel
theorem d_Math_floorDiv_10 : decode b_Math_floorDiv 10 = .ok (.ifCond .ge 17, 3) := by decide +kernel
theorem d_Math_floorDiv_13 : decode b_Math_floorDiv 13 = .ok (.lload 4, 2) := by decide +kernel
theorem d_Math_floorDiv_15 : decode b_Math_floorDiv 15 = .ok (.lload_n 2, 1) := by decide +kernel
theorem d_Math_floorDiv_16 : decode b_Math_floorDiv 16 = .ok (.lmul, 1) := by decide +kernel
theorem d_Math_floorDiv_17 : decode b_Math_floorDiv 17 = .ok (.lload_n 0, 1) := by decide +kernel
theorem d_Math_floorDiv_18 : decode b_Math_floorDiv 18 = .ok (.lcmp, 1) := by decide +kernel
theorem d_Math_floorDiv_19 : decode b_Math_floorDiv 19 = .ok (.ifCond .eq 8, 3) := by decide +kernel
theorem d_Math_floorDiv_22 : decode b_Math_floorDiv 22 = .ok (.lload 4, 2) := by decide +kernel
theorem d_Math_floorDiv_24 : decode b_Math_floorDiv 24 = .ok (.lconst 1, 1) := by decide +kernel
theorem d_Math_floorDiv_25 : decode b_Math_floorDiv 25 = .ok (.lsub, 1) := by decide +kernel
theorem d_Math_floorDiv_26 : decode b_Math_floorDiv 26 = .ok (.lreturn, 1) := by decide +kernel
theorem d_Math_floorDiv_27 : decode b_Math_floorDiv 27 = .ok (.lload 4, 2) := by decide +kernel
theorem d_Math_floorDiv_29 : decode b_Math_floorDiv 29 = .ok (.lreturn, 1) := by decide +kernel
