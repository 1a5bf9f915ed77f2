theorem d_LoopRankerModel_init_0 : decode b_LoopRankerModel_init 0 = .ok (.aload_n 0, 1) := by decide +kernel
theorem d_LoopRankerModel_init_1 : decode b_LoopRankerModel_init 1 = .ok (.invokespecial 1, 3) := by decide +kernel
theorem d_LoopRankerModel_init_4 : decode b_LoopRankerModel_init 4 = .ok (.aload_n 0, 1) := by decide +kernel
theorem d_LoopRankerModel_init_5 : decode b_LoopRankerModel_init 5 = .ok (.bipush 6, 2) := by decide +kernel
theorem d_LoopRankerModel_init_7 : decode b_LoopRankerModel_init 7 = .ok (.newarray .int, 2) := by decide +kernel
theorem d_LoopRankerModel_init_9 : decode b_LoopRankerModel_init 9 = .ok (.putfield 7, 3) := by decide +kernel
theorem d_LoopRankerModel_init_12 : decode b_LoopRankerModel_init 12 = .ok (.aload_n 0, 1) := by decide +kernel
theorem d_LoopRankerModel_init_13 : decode b_LoopRankerModel_init 13 = .ok (.bipush 24, 2) := by decide +kernel
theorem d_LoopRankerModel_init_15 : decode b_LoopRankerModel_init 15 = .ok (.newarray .int, 2) := by decide +kernel
theorem d_LoopRankerModel_init_17 : decode b_LoopRankerModel_init 17 = .ok (.putfield 13, 3) := by decide +kernel
theorem d_LoopRankerModel_init_20 : decode b_LoopRankerModel_init 20 = .ok (.aload_n 0, 1) := by decide +kernel
theorem d_LoopRankerModel_init_21 : decode b_LoopRankerModel_init 21 = .ok (.bipush 24, 2) := by decide +kernel
theorem d_LoopRankerModel_init_23 : decode b_LoopRankerModel_init 23 = .ok (.newarray .int, 2) := by decide +kernel
theorem d_LoopRankerModel_init_25 : decode b_LoopRankerModel_init 25 = .ok (.putfield 16, 3) := by decide +kernel
theorem d_LoopRankerModel_init_28 : decode b_LoopRankerModel_init 28 = .ok (.aload_n 0, 1) := by decide +kernel
theorem d_LoopRankerModel_init_29 : decode b_LoopRankerModel_init 29 = .ok (.bipush 24, 2) := by decide +kernel
theorem d_LoopRankerModel_init_31 : decode b_LoopRankerModel_init 31 = .ok (.newarray .int, 2) := by decide +kernel
theorem d_LoopRankerModel_init_33 : decode b_LoopRankerModel_init 33 = .ok (.putfield 19, 3) := by decide +kernel
theorem d_LoopRankerModel_init_36 : decode b_LoopRankerModel_init 36 = .ok (.aload_n 0, 1) := by decide +kernel
theorem d_LoopRankerModel_init_37 : decode b_LoopRankerModel_init 37 = .ok (.bipush 36, 2) := by decide +kernel
theorem d_LoopRankerModel_init_39 : decode b_LoopRankerModel_init 39 = .ok (.newarray .int, 2) := by decide +kernel
theorem d_LoopRankerModel_init_41 : decode b_LoopRankerModel_init 41 = .ok (.putfield 22, 3) := by decide +kernel
theorem d_LoopRankerModel_init_44 : decode b_LoopRankerModel_init 44 = .ok (.aload_n 0, 1) := by decide +kernel
theorem d_LoopRankerModel_init_45 : decode b_LoopRankerModel_init 45 = .ok (.bipush 6, 2) := by decide +kernel
theorem d_LoopRankerModel_init_47 : decode b_LoopRankerModel_init 47 = .ok (.newarray .int, 2) := by decide +kernel
theorem d_LoopRankerModel_init_49 : decode b_LoopRankerModel_init 49 = .ok (.putfield 25, 3) := by decide +kernel
theorem d_LoopRankerModel_init_52 : decode b_LoopRankerModel_init 52 = .ok (.aload_n 0, 1) := by decide +kernel
theorem d_LoopRankerModel_init_53 : decode b_LoopRankerModel_init 53 = .ok (.bipush 6, 2) := by decide +kernel
theorem d_LoopRankerModel_init_55 : decode b_LoopRankerModel_init 55 = .ok (.newarray .int, 2) := by decide +kernel
theorem d_LoopRankerModel_init_57 : decode b_LoopRankerModel_init 57 = .ok (.putfield 28, 3) := by decide +kernel
theorem d_LoopRankerModel_init_60 : decode b_LoopRankerModel_init 60 = .ok (.aload_n 0, 1) := by decide +kernel
theorem d_LoopRankerModel_init_61 : decode b_LoopRankerModel_init 61 = .ok (.bipush 6, 2) := by decide +kernel
theorem d_LoopRankerModel_init_63 : decode b_LoopRankerModel_init 63 = .ok (.newarray .int, 2) := by decide +kernel
theorem d_LoopRankerModel_init_65 : decode b_LoopRankerModel_init 65 = .ok (.putfield 31, 3) := by decide +kernel
theorem d_LoopRankerModel_init_68 : decode b_LoopRankerModel_init 68 = .ok (.return_, 1) := by decide +kernel
theorem d_LoopRankerModel_within_0 : decode b_LoopRankerModel_within 0 = .ok (.iload_n 0, 1) := by decide +kernel
theorem d_LoopRankerModel_within_1 : decode b_LoopRankerModel_within 1 = .ok (.iload_n 1, 1) := by decide +kernel
theorem d_LoopRankerModel_within_2 : decode b_LoopRankerModel_within 2 = .ok (.ineg, 1) := by decide +kernel
theorem d_LoopRankerModel_within_3 : decode b_LoopRankerModel_within 3 = .ok (.if_icmp .lt 12, 3) := by decide +kernel
theorem d_LoopRankerModel_within_6 : decode b_LoopRankerModel_within 6 = .ok (.iload_n 0, 1) := by decide +kernel
theorem d_LoopRankerModel_within_7 : decode b_LoopRankerModel_within 7 = .ok (.iload_n 1, 1) := by decide +kernel
theorem d_LoopRankerModel_within_8 : decode b_LoopRankerModel_within 8 = .ok (.if_icmp .gt 7, 3) := by decide +kernel
theorem d_LoopRankerModel_within_11 : decode b_LoopRankerModel_within 11 = .ok (.iconst 1, 1) := by decide +kernel
theorem d_LoopRankerModel_within_12 : decode b_LoopRankerModel_within 12 = .ok (.goto 4, 3) := by decide +kernel
theorem d_LoopRankerModel_within_15 : decode b_LoopRankerModel_within 15 = .ok (.iconst 0, 1) := by decide +kernel
theorem d_LoopRankerModel_within_16 : decode b_LoopRankerModel_within 16 = .ok (.ireturn, 1) := by decide +kernel
theorem d_LoopRankerModel_there_0 : decode b_LoopRankerModel_there 0 = .ok (.iload_n 1, 1) := by decide +kernel
theorem d_LoopRankerModel_there_1 : decode b_LoopRankerModel_there 1 = .ok (.ifCond .lt 15, 3) := by decide +kernel
theorem d_LoopRankerModel_there_4 : decode b_LoopRankerModel_there 4 = .ok (.iload_n 1, 1) := by decide +kernel
theorem d_LoopRankerModel_there_5 : decode b_LoopRankerModel_there 5 = .ok (.aload_n 0, 1) := by decide +kernel
theorem d_LoopRankerModel_there_6 : decode b_LoopRankerModel_there 6 = .ok (.getfield 34, 3) := by decide +kernel
theorem d_LoopRankerModel_there_9 : decode b_LoopRankerModel_there 9 = .ok (.if_icmp .ge 7, 3) := by decide +kernel
theorem d_LoopRankerModel_there_12 : decode b_LoopRankerModel_there 12 = .ok (.iconst 1, 1) := by decide +kernel
theorem d_LoopRankerModel_there_13 : decode b_LoopRankerModel_there 13 = .ok (.goto 4, 3) := by decide +kernel
theorem d_LoopRankerModel_there_16 : decode b_LoopRankerModel_there 16 = .ok (.iconst 0, 1) := by decide +kernel
theorem d_LoopRankerModel_there_17 : decode b_LoopRankerModel_there 17 = .ok (.ireturn, 1) := by decide +kernel
theorem d_LoopRankerModel_transition_0 : decode b_LoopRankerModel_transition 0 = .ok (.aload_n 0, 1) := by decide +kernel
theorem d_LoopRankerModel_transition_1 : decode b_LoopRankerModel_transition 1 = .ok (.getfield 34, 3) := by decide +kernel
theorem d_LoopRankerModel_transition_4 : decode b_LoopRankerModel_transition 4 = .ok (.bipush 6, 2) := by decide +kernel
theorem d_LoopRankerModel_transition_6 : decode b_LoopRankerModel_transition 6 = .ok (.if_icmp .ne 5, 3) := by decide +kernel
theorem d_LoopRankerModel_transition_9 : decode b_LoopRankerModel_transition 9 = .ok (.iconst (-1), 1) := by decide +kernel
theorem d_LoopRankerModel_transition_10 : decode b_LoopRankerModel_transition 10 = .ok (.ireturn, 1) := by decide +kernel
theorem d_LoopRankerModel_transition_11 : decode b_LoopRankerModel_transition 11 = .ok (.aload_n 0, 1) := by decide +kernel
theorem d_LoopRankerModel_transition_12 : decode b_LoopRankerModel_transition 12 = .ok (.getfield 7, 3) := by decide +kernel
theorem d_LoopRankerModel_transition_15 : decode b_LoopRankerModel_transition 15 = .ok (.aload_n 0, 1) := by decide +kernel
theorem d_LoopRankerModel_transition_16 : decode b_LoopRankerModel_transition 16 = .ok (.getfield 34, 3) := by decide +kernel
theorem d_LoopRankerModel_transition_19 : decode b_LoopRankerModel_transition 19 = .ok (.iconst 0, 1) := by decide +kernel
theorem d_LoopRankerModel_transition_20 : decode b_LoopRankerModel_transition 20 = .ok (.iastore, 1) := by decide +kernel
theorem d_LoopRankerModel_transition_21 : decode b_LoopRankerModel_transition 21 = .ok (.iconst 0, 1) := by decide +kernel
theorem d_LoopRankerModel_transition_22 : decode b_LoopRankerModel_transition 22 = .ok (.istore_n 1, 1) := by decide +kernel
theorem d_LoopRankerModel_transition_23 : decode b_LoopRankerModel_transition 23 = .ok (.iload_n 1, 1) := by decide +kernel
theorem d_LoopRankerModel_transition_24 : decode b_LoopRankerModel_transition 24 = .ok (.bipush 6, 2) := by decide +kernel
theorem d_LoopRankerModel_transition_26 : decode b_LoopRankerModel_transition 26 = .ok (.if_icmp .ge 37, 3) := by decide +kernel
theorem d_LoopRankerModel_transition_29 : decode b_LoopRankerModel_transition 29 = .ok (.aload_n 0, 1) := by decide +kernel
theorem d_LoopRankerModel_transition_30 : decode b_LoopRankerModel_transition 30 = .ok (.getfield 22, 3) := by decide +kernel
theorem d_LoopRankerModel_transition_33 : decode b_LoopRankerModel_transition 33 = .ok (.bipush 6, 2) := by decide +kernel
theorem d_LoopRankerModel_transition_35 : decode b_LoopRankerModel_transition 35 = .ok (.aload_n 0, 1) := by decide +kernel
theorem d_LoopRankerModel_transition_36 : decode b_LoopRankerModel_transition 36 = .ok (.getfield 34, 3) := by decide +kernel
theorem d_LoopRankerModel_transition_39 : decode b_LoopRankerModel_transition 39 = .ok (.imul, 1) := by decide +kernel
theorem d_LoopRankerModel_transition_40 : decode b_LoopRankerModel_transition 40 = .ok (.iload_n 1, 1) := by decide +kernel
theorem d_LoopRankerModel_transition_41 : decode b_LoopRankerModel_transition 41 = .ok (.iadd, 1) := by decide +kernel
theorem d_LoopRankerModel_transition_42 : decode b_LoopRankerModel_transition 42 = .ok (.iload_n 1, 1) := by decide +kernel
theorem d_LoopRankerModel_transition_43 : decode b_LoopRankerModel_transition 43 = .ok (.ifCond .eq 8, 3) := by decide +kernel
theorem d_LoopRankerModel_transition_46 : decode b_LoopRankerModel_transition 46 = .ok (.iload_n 1, 1) := by decide +kernel
theorem d_LoopRankerModel_transition_47 : decode b_LoopRankerModel_transition 47 = .ok (.iconst 4, 1) := by decide +kernel
theorem d_LoopRankerModel_transition_48 : decode b_LoopRankerModel_transition 48 = .ok (.if_icmp .ne 7, 3) := by decide +kernel
theorem d_LoopRankerModel_transition_51 : decode b_LoopRankerModel_transition 51 = .ok (.iconst 1, 1) := by decide +kernel
theorem d_LoopRankerModel_transition_52 : decode b_LoopRankerModel_transition 52 = .ok (.goto 4, 3) := by decide +kernel
theorem d_LoopRankerModel_transition_55 : decode b_LoopRankerModel_transition 55 = .ok (.iconst 0, 1) := by decide +kernel
theorem d_LoopRankerModel_transition_56 : decode b_LoopRankerModel_transition 56 = .ok (.iastore, 1) := by decide +kernel
theorem d_LoopRankerModel_transition_57 : decode b_LoopRankerModel_transition 57 = .ok (.iinc 1 1, 3) := by decide +kernel
theorem d_LoopRankerModel_transition_60 : decode b_LoopRankerModel_transition 60 = .ok (.goto (-37), 3) := by decide +kernel
theorem d_LoopRankerModel_transition_63 : decode b_LoopRankerModel_transition 63 = .ok (.aload_n 0, 1) := by decide +kernel
theorem d_LoopRankerModel_transition_64 : decode b_LoopRankerModel_transition 64 = .ok (.dup, 1) := by decide +kernel
theorem d_LoopRankerModel_transition_65 : decode b_LoopRankerModel_transition 65 = .ok (.getfield 34, 3) := by decide +kernel
theorem d_LoopRankerModel_transition_68 : decode b_LoopRankerModel_transition 68 = .ok (.iconst 1, 1) := by decide +kernel
theorem d_LoopRankerModel_transition_69 : decode b_LoopRankerModel_transition 69 = .ok (.iadd, 1) := by decide +kernel
theorem d_LoopRankerModel_transition_70 : decode b_LoopRankerModel_transition 70 = .ok (.putfield 34, 3) := by decide +kernel
theorem d_LoopRankerModel_transition_73 : decode b_LoopRankerModel_transition 73 = .ok (.aload_n 0, 1) := by decide +kernel
theorem d_LoopRankerModel_transition_74 : decode b_LoopRankerModel_transition 74 = .ok (.getfield 34, 3) := by decide +kernel
theorem d_LoopRankerModel_transition_77 : decode b_LoopRankerModel_transition 77 = .ok (.iconst 1, 1) := by decide +kernel
theorem d_LoopRankerModel_transition_78 : decode b_LoopRankerModel_transition 78 = .ok (.isub, 1) := by decide +kernel
theorem d_LoopRankerModel_transition_79 : decode b_LoopRankerModel_transition 79 = .ok (.ireturn, 1) := by decide +kernel
theorem d_LoopRankerModel_guard_0 : decode b_LoopRankerModel_guard 0 = .ok (.aload_n 0, 1) := by decide +kernel
theorem d_LoopRankerModel_guard_1 : decode b_LoopRankerModel_guard 1 = .ok (.iload_n 1, 1) := by decide +kernel
theorem d_LoopRankerModel_guard_2 : decode b_LoopRankerModel_guard 2 = .ok (.invokevirtual 38, 3) := by decide +kernel
theorem d_LoopRankerModel_guard_5 : decode b_LoopRankerModel_guard 5 = .ok (.ifCond .eq 41, 3) := by decide +kernel
theorem d_LoopRankerModel_guard_8 : decode b_LoopRankerModel_guard 8 = .ok (.aload_n 0, 1) := by decide +kernel
theorem d_LoopRankerModel_guard_9 : decode b_LoopRankerModel_guard 9 = .ok (.getfield 7, 3) := by decide +kernel
theorem d_LoopRankerModel_guard_12 : decode b_LoopRankerModel_guard 12 = .ok (.iload_n 1, 1) := by decide +kernel
theorem d_LoopRankerModel_guard_13 : decode b_LoopRankerModel_guard 13 = .ok (.iaload, 1) := by decide +kernel
theorem d_LoopRankerModel_guard_14 : decode b_LoopRankerModel_guard 14 = .ok (.iconst 4, 1) := by decide +kernel
theorem d_LoopRankerModel_guard_15 : decode b_LoopRankerModel_guard 15 = .ok (.if_icmp .eq 31, 3) := by decide +kernel
theorem d_LoopRankerModel_guard_18 : decode b_LoopRankerModel_guard 18 = .ok (.iload_n 2, 1) := by decide +kernel
theorem d_LoopRankerModel_guard_19 : decode b_LoopRankerModel_guard 19 = .ok (.bipush 9, 2) := by decide +kernel
theorem d_LoopRankerModel_guard_21 : decode b_LoopRankerModel_guard 21 = .ok (.invokestatic 42, 3) := by decide +kernel
theorem d_LoopRankerModel_guard_24 : decode b_LoopRankerModel_guard 24 = .ok (.ifCond .eq 22, 3) := by decide +kernel
theorem d_LoopRankerModel_guard_27 : decode b_LoopRankerModel_guard 27 = .ok (.iload_n 3, 1) := by decide +kernel
theorem d_LoopRankerModel_guard_28 : decode b_LoopRankerModel_guard 28 = .ok (.bipush 9, 2) := by decide +kernel
theorem d_LoopRankerModel_guard_30 : decode b_LoopRankerModel_guard 30 = .ok (.invokestatic 42, 3) := by decide +kernel
theorem d_LoopRankerModel_guard_33 : decode b_LoopRankerModel_guard 33 = .ok (.ifCond .eq 13, 3) := by decide +kernel
theorem d_LoopRankerModel_guard_36 : decode b_LoopRankerModel_guard 36 = .ok (.iload 4, 2) := by decide +kernel
theorem d_LoopRankerModel_guard_38 : decode b_LoopRankerModel_guard 38 = .ok (.bipush 99, 2) := by decide +kernel
theorem d_LoopRankerModel_guard_40 : decode b_LoopRankerModel_guard 40 = .ok (.invokestatic 42, 3) := by decide +kernel
theorem d_LoopRankerModel_guard_43 : decode b_LoopRankerModel_guard 43 = .ok (.ifCond .ne 5, 3) := by decide +kernel
theorem d_LoopRankerModel_guard_46 : decode b_LoopRankerModel_guard 46 = .ok (.iconst (-1), 1) := by decide +kernel
theorem d_LoopRankerModel_guard_47 : decode b_LoopRankerModel_guard 47 = .ok (.ireturn, 1) := by decide +kernel
theorem d_LoopRankerModel_guard_48 : decode b_LoopRankerModel_guard 48 = .ok (.iconst 4, 1) := by decide +kernel
theorem d_LoopRankerModel_guard_49 : decode b_LoopRankerModel_guard 49 = .ok (.iload_n 1, 1) := by decide +kernel
theorem d_LoopRankerModel_guard_50 : decode b_LoopRankerModel_guard 50 = .ok (.imul, 1) := by decide +kernel
theorem d_LoopRankerModel_guard_51 : decode b_LoopRankerModel_guard 51 = .ok (.aload_n 0, 1) := by decide +kernel
theorem d_LoopRankerModel_guard_52 : decode b_LoopRankerModel_guard 52 = .ok (.getfield 7, 3) := by decide +kernel
theorem d_LoopRankerModel_guard_55 : decode b_LoopRankerModel_guard 55 = .ok (.iload_n 1, 1) := by decide +kernel
theorem d_LoopRankerModel_guard_56 : decode b_LoopRankerModel_guard 56 = .ok (.iaload, 1) := by decide +kernel
theorem d_LoopRankerModel_guard_57 : decode b_LoopRankerModel_guard 57 = .ok (.iadd, 1) := by decide +kernel
theorem d_LoopRankerModel_guard_58 : decode b_LoopRankerModel_guard 58 = .ok (.istore 5, 2) := by decide +kernel
theorem d_LoopRankerModel_guard_60 : decode b_LoopRankerModel_guard 60 = .ok (.aload_n 0, 1) := by decide +kernel
theorem d_LoopRankerModel_guard_61 : decode b_LoopRankerModel_guard 61 = .ok (.getfield 13, 3) := by decide +kernel
theorem d_LoopRankerModel_guard_64 : decode b_LoopRankerModel_guard 64 = .ok (.iload 5, 2) := by decide +kernel
theorem d_LoopRankerModel_guard_66 : decode b_LoopRankerModel_guard 66 = .ok (.iload_n 2, 1) := by decide +kernel
theorem d_LoopRankerModel_guard_67 : decode b_LoopRankerModel_guard 67 = .ok (.iastore, 1) := by decide +kernel
theorem d_LoopRankerModel_guard_68 : decode b_LoopRankerModel_guard 68 = .ok (.aload_n 0, 1) := by decide +kernel
theorem d_LoopRankerModel_guard_69 : decode b_LoopRankerModel_guard 69 = .ok (.getfield 16, 3) := by decide +kernel
theorem d_LoopRankerModel_guard_72 : decode b_LoopRankerModel_guard 72 = .ok (.iload 5, 2) := by decide +kernel
theorem d_LoopRankerModel_guard_74 : decode b_LoopRankerModel_guard 74 = .ok (.iload_n 3, 1) := by decide +kernel
theorem d_LoopRankerModel_guard_75 : decode b_LoopRankerModel_guard 75 = .ok (.iastore, 1) := by decide +kernel
theorem d_LoopRankerModel_guard_76 : decode b_LoopRankerModel_guard 76 = .ok (.aload_n 0, 1) := by decide +kernel
theorem d_LoopRankerModel_guard_77 : decode b_LoopRankerModel_guard 77 = .ok (.getfield 19, 3) := by decide +kernel
theorem d_LoopRankerModel_guard_80 : decode b_LoopRankerModel_guard 80 = .ok (.iload 5, 2) := by decide +kernel
theorem d_LoopRankerModel_guard_82 : decode b_LoopRankerModel_guard 82 = .ok (.iload 4, 2) := by decide +kernel
theorem d_LoopRankerModel_guard_84 : decode b_LoopRankerModel_guard 84 = .ok (.iastore, 1) := by decide +kernel
theorem d_LoopRankerModel_guard_85 : decode b_LoopRankerModel_guard 85 = .ok (.aload_n 0, 1) := by decide +kernel
theorem d_LoopRankerModel_guard_86 : decode b_LoopRankerModel_guard 86 = .ok (.getfield 7, 3) := by decide +kernel
theorem d_LoopRankerModel_guard_89 : decode b_LoopRankerModel_guard 89 = .ok (.iload_n 1, 1) := by decide +kernel
theorem d_LoopRankerModel_guard_90 : decode b_LoopRankerModel_guard 90 = .ok (.dup2, 1) := by decide +kernel
theorem d_LoopRankerModel_guard_91 : decode b_LoopRankerModel_guard 91 = .ok (.iaload, 1) := by decide +kernel
theorem d_LoopRankerModel_guard_92 : decode b_LoopRankerModel_guard 92 = .ok (.iconst 1, 1) := by decide +kernel
theorem d_LoopRankerModel_guard_93 : decode b_LoopRankerModel_guard 93 = .ok (.iadd, 1) := by decide +kernel
theorem d_LoopRankerModel_guard_94 : decode b_LoopRankerModel_guard 94 = .ok (.iastore, 1) := by decide +kernel
theorem d_LoopRankerModel_guard_95 : decode b_LoopRankerModel_guard 95 = .ok (.aload_n 0, 1) := by decide +kernel
theorem d_LoopRankerModel_guard_96 : decode b_LoopRankerModel_guard 96 = .ok (.getfield 7, 3) := by decide +kernel
theorem d_LoopRankerModel_guard_99 : decode b_LoopRankerModel_guard 99 = .ok (.iload_n 1, 1) := by decide +kernel
theorem d_LoopRankerModel_guard_100 : decode b_LoopRankerModel_guard 100 = .ok (.iaload, 1) := by decide +kernel
theorem d_LoopRankerModel_guard_101 : decode b_LoopRankerModel_guard 101 = .ok (.ireturn, 1) := by decide +kernel
theorem d_LoopRankerModel_update_0 : decode b_LoopRankerModel_update 0 = .ok (.aload_n 0, 1) := by decide +kernel
theorem d_LoopRankerModel_update_1 : decode b_LoopRankerModel_update 1 = .ok (.iload_n 1, 1) := by decide +kernel
theorem d_LoopRankerModel_update_2 : decode b_LoopRankerModel_update 2 = .ok (.invokevirtual 38, 3) := by decide +kernel
theorem d_LoopRankerModel_update_5 : decode b_LoopRankerModel_update 5 = .ok (.ifCond .eq 39, 3) := by decide +kernel
theorem d_LoopRankerModel_update_8 : decode b_LoopRankerModel_update 8 = .ok (.iload_n 2, 1) := by decide +kernel
theorem d_LoopRankerModel_update_9 : decode b_LoopRankerModel_update 9 = .ok (.ifCond .lt 35, 3) := by decide +kernel
theorem d_LoopRankerModel_update_12 : decode b_LoopRankerModel_update 12 = .ok (.iload_n 2, 1) := by decide +kernel
theorem d_LoopRankerModel_update_13 : decode b_LoopRankerModel_update 13 = .ok (.iconst 1, 1) := by decide +kernel
theorem d_LoopRankerModel_update_14 : decode b_LoopRankerModel_update 14 = .ok (.if_icmp .gt 30, 3) := by decide +kernel
theorem d_LoopRankerModel_update_17 : decode b_LoopRankerModel_update 17 = .ok (.iload_n 3, 1) := by decide +kernel
theorem d_LoopRankerModel_update_18 : decode b_LoopRankerModel_update 18 = .ok (.iconst 3, 1) := by decide +kernel
theorem d_LoopRankerModel_update_19 : decode b_LoopRankerModel_update 19 = .ok (.invokestatic 42, 3) := by decide +kernel
theorem d_LoopRankerModel_update_22 : decode b_LoopRankerModel_update 22 = .ok (.ifCond .eq 22, 3) := by decide +kernel
theorem d_LoopRankerModel_update_25 : decode b_LoopRankerModel_update 25 = .ok (.iload 4, 2) := by decide +kernel
theorem d_LoopRankerModel_update_27 : decode b_LoopRankerModel_update 27 = .ok (.iconst 3, 1) := by decide +kernel
theorem d_LoopRankerModel_update_28 : decode b_LoopRankerModel_update 28 = .ok (.invokestatic 42, 3) := by decide +kernel
theorem d_LoopRankerModel_update_31 : decode b_LoopRankerModel_update 31 = .ok (.ifCond .eq 13, 3) := by decide +kernel
theorem d_LoopRankerModel_update_34 : decode b_LoopRankerModel_update 34 = .ok (.iload 5, 2) := by decide +kernel
theorem d_LoopRankerModel_update_36 : decode b_LoopRankerModel_update 36 = .ok (.bipush 20, 2) := by decide +kernel
theorem d_LoopRankerModel_update_38 : decode b_LoopRankerModel_update 38 = .ok (.invokestatic 42, 3) := by decide +kernel
theorem d_LoopRankerModel_update_41 : decode b_LoopRankerModel_update 41 = .ok (.ifCond .ne 5, 3) := by decide +kernel
theorem d_LoopRankerModel_update_44 : decode b_LoopRankerModel_update 44 = .ok (.iconst 0, 1) := by decide +kernel
theorem d_LoopRankerModel_update_45 : decode b_LoopRankerModel_update 45 = .ok (.ireturn, 1) := by decide +kernel
theorem d_LoopRankerModel_update_46 : decode b_LoopRankerModel_update 46 = .ok (.bipush 6, 2) := by decide +kernel
theorem d_LoopRankerModel_update_48 : decode b_LoopRankerModel_update 48 = .ok (.iload_n 1, 1) := by decide +kernel
theorem d_LoopRankerModel_update_49 : decode b_LoopRankerModel_update 49 = .ok (.imul, 1) := by decide +kernel
theorem d_LoopRankerModel_update_50 : decode b_LoopRankerModel_update 50 = .ok (.iconst 3, 1) := by decide +kernel
theorem d_LoopRankerModel_update_51 : decode b_LoopRankerModel_update 51 = .ok (.iload_n 2, 1) := by decide +kernel
theorem d_LoopRankerModel_update_52 : decode b_LoopRankerModel_update 52 = .ok (.imul, 1) := by decide +kernel
theorem d_LoopRankerModel_update_53 : decode b_LoopRankerModel_update 53 = .ok (.iadd, 1) := by decide +kernel
theorem d_LoopRankerModel_update_54 : decode b_LoopRankerModel_update 54 = .ok (.istore 6, 2) := by decide +kernel
theorem d_LoopRankerModel_update_56 : decode b_LoopRankerModel_update 56 = .ok (.aload_n 0, 1) := by decide +kernel
theorem d_LoopRankerModel_update_57 : decode b_LoopRankerModel_update 57 = .ok (.getfield 22, 3) := by decide +kernel
theorem d_LoopRankerModel_update_60 : decode b_LoopRankerModel_update 60 = .ok (.iload 6, 2) := by decide +kernel
theorem d_LoopRankerModel_update_62 : decode b_LoopRankerModel_update 62 = .ok (.iload_n 3, 1) := by decide +kernel
theorem d_LoopRankerModel_update_63 : decode b_LoopRankerModel_update 63 = .ok (.iastore, 1) := by decide +kernel
theorem d_LoopRankerModel_update_64 : decode b_LoopRankerModel_update 64 = .ok (.aload_n 0, 1) := by decide +kernel
theorem d_LoopRankerModel_update_65 : decode b_LoopRankerModel_update 65 = .ok (.getfield 22, 3) := by decide +kernel
theorem d_LoopRankerModel_update_68 : decode b_LoopRankerModel_update 68 = .ok (.iload 6, 2) := by decide +kernel
theorem d_LoopRankerModel_update_70 : decode b_LoopRankerModel_update 70 = .ok (.iconst 1, 1) := by decide +kernel
theorem d_LoopRankerModel_update_71 : decode b_LoopRankerModel_update 71 = .ok (.iadd, 1) := by decide +kernel
theorem d_LoopRankerModel_update_72 : decode b_LoopRankerModel_update 72 = .ok (.iload 4, 2) := by decide +kernel
theorem d_LoopRankerModel_update_74 : decode b_LoopRankerModel_update 74 = .ok (.iastore, 1) := by decide +kernel
theorem d_LoopRankerModel_update_75 : decode b_LoopRankerModel_update 75 = .ok (.aload_n 0, 1) := by decide +kernel
theorem d_LoopRankerModel_update_76 : decode b_LoopRankerModel_update 76 = .ok (.getfield 22, 3) := by decide +kernel
theorem d_LoopRankerModel_update_79 : decode b_LoopRankerModel_update 79 = .ok (.iload 6, 2) := by decide +kernel
theorem d_LoopRankerModel_update_81 : decode b_LoopRankerModel_update 81 = .ok (.iconst 2, 1) := by decide +kernel
theorem d_LoopRankerModel_update_82 : decode b_LoopRankerModel_update 82 = .ok (.iadd, 1) := by decide +kernel
theorem d_LoopRankerModel_update_83 : decode b_LoopRankerModel_update 83 = .ok (.iload 5, 2) := by decide +kernel
theorem d_LoopRankerModel_update_85 : decode b_LoopRankerModel_update 85 = .ok (.iastore, 1) := by decide +kernel
theorem d_LoopRankerModel_update_86 : decode b_LoopRankerModel_update 86 = .ok (.iconst 1, 1) := by decide +kernel
theorem d_LoopRankerModel_update_87 : decode b_LoopRankerModel_update 87 = .ok (.ireturn, 1) := by decide +kernel
theorem d_LoopRankerModel_remove_0 : decode b_LoopRankerModel_remove 0 = .ok (.aload_n 0, 1) := by decide +kernel
theorem d_LoopRankerModel_remove_1 : decode b_LoopRankerModel_remove 1 = .ok (.iload_n 1, 1) := by decide +kernel
theorem d_LoopRankerModel_remove_2 : decode b_LoopRankerModel_remove 2 = .ok (.invokevirtual 38, 3) := by decide +kernel
theorem d_LoopRankerModel_remove_5 : decode b_LoopRankerModel_remove 5 = .ok (.ifCond .ne 5, 3) := by decide +kernel
theorem d_LoopRankerModel_remove_8 : decode b_LoopRankerModel_remove 8 = .ok (.iconst 0, 1) := by decide +kernel
theorem d_LoopRankerModel_remove_9 : decode b_LoopRankerModel_remove 9 = .ok (.ireturn, 1) := by decide +kernel
theorem d_LoopRankerModel_remove_10 : decode b_LoopRankerModel_remove 10 = .ok (.aload_n 0, 1) := by decide +kernel
theorem d_LoopRankerModel_remove_11 : decode b_LoopRankerModel_remove 11 = .ok (.dup, 1) := by decide +kernel
theorem d_LoopRankerModel_remove_12 : decode b_LoopRankerModel_remove 12 = .ok (.getfield 34, 3) := by decide +kernel
theorem d_LoopRankerModel_remove_15 : decode b_LoopRankerModel_remove 15 = .ok (.iconst 1, 1) := by decide +kernel
theorem d_LoopRankerModel_remove_16 : decode b_LoopRankerModel_remove 16 = .ok (.isub, 1) := by decide +kernel
theorem d_LoopRankerModel_remove_17 : decode b_LoopRankerModel_remove 17 = .ok (.putfield 34, 3) := by decide +kernel
theorem d_LoopRankerModel_remove_20 : decode b_LoopRankerModel_remove 20 = .ok (.iload_n 1, 1) := by decide +kernel
theorem d_LoopRankerModel_remove_21 : decode b_LoopRankerModel_remove 21 = .ok (.istore_n 2, 1) := by decide +kernel
theorem d_LoopRankerModel_remove_22 : decode b_LoopRankerModel_remove 22 = .ok (.iload_n 2, 1) := by decide +kernel
theorem d_LoopRankerModel_remove_23 : decode b_LoopRankerModel_remove 23 = .ok (.aload_n 0, 1) := by decide +kernel
theorem d_LoopRankerModel_remove_24 : decode b_LoopRankerModel_remove 24 = .ok (.getfield 34, 3) := by decide +kernel
theorem d_LoopRankerModel_remove_27 : decode b_LoopRankerModel_remove 27 = .ok (.if_icmp .ge 141, 3) := by decide +kernel
theorem d_LoopRankerModel_remove_30 : decode b_LoopRankerModel_remove 30 = .ok (.aload_n 0, 1) := by decide +kernel
theorem d_LoopRankerModel_remove_31 : decode b_LoopRankerModel_remove 31 = .ok (.getfield 7, 3) := by decide +kernel
theorem d_LoopRankerModel_remove_34 : decode b_LoopRankerModel_remove 34 = .ok (.iload_n 2, 1) := by decide +kernel
theorem d_LoopRankerModel_remove_35 : decode b_LoopRankerModel_remove 35 = .ok (.aload_n 0, 1) := by decide +kernel
theorem d_LoopRankerModel_remove_36 : decode b_LoopRankerModel_remove 36 = .ok (.getfield 7, 3) := by decide +kernel
theorem d_LoopRankerModel_remove_39 : decode b_LoopRankerModel_remove 39 = .ok (.iload_n 2, 1) := by decide +kernel
theorem d_LoopRankerModel_remove_40 : decode b_LoopRankerModel_remove 40 = .ok (.iconst 1, 1) := by decide +kernel
theorem d_LoopRankerModel_remove_41 : decode b_LoopRankerModel_remove 41 = .ok (.iadd, 1) := by decide +kernel
theorem d_LoopRankerModel_remove_42 : decode b_LoopRankerModel_remove 42 = .ok (.iaload, 1) := by decide +kernel
theorem d_LoopRankerModel_remove_43 : decode b_LoopRankerModel_remove 43 = .ok (.iastore, 1) := by decide +kernel
theorem d_LoopRankerModel_remove_44 : decode b_LoopRankerModel_remove 44 = .ok (.iconst 0, 1) := by decide +kernel
theorem d_LoopRankerModel_remove_45 : decode b_LoopRankerModel_remove 45 = .ok (.istore_n 3, 1) := by decide +kernel
theorem d_LoopRankerModel_remove_46 : decode b_LoopRankerModel_remove 46 = .ok (.iload_n 3, 1) := by decide +kernel
theorem d_LoopRankerModel_remove_47 : decode b_LoopRankerModel_remove 47 = .ok (.iconst 4, 1) := by decide +kernel
theorem d_LoopRankerModel_remove_48 : decode b_LoopRankerModel_remove 48 = .ok (.if_icmp .ge 75, 3) := by decide +kernel
theorem d_LoopRankerModel_remove_51 : decode b_LoopRankerModel_remove 51 = .ok (.aload_n 0, 1) := by decide +kernel
theorem d_LoopRankerModel_remove_52 : decode b_LoopRankerModel_remove 52 = .ok (.getfield 13, 3) := by decide +kernel
theorem d_LoopRankerModel_remove_55 : decode b_LoopRankerModel_remove 55 = .ok (.iconst 4, 1) := by decide +kernel
theorem d_LoopRankerModel_remove_56 : decode b_LoopRankerModel_remove 56 = .ok (.iload_n 2, 1) := by decide +kernel
theorem d_LoopRankerModel_remove_57 : decode b_LoopRankerModel_remove 57 = .ok (.imul, 1) := by decide +kernel
theorem d_LoopRankerModel_remove_58 : decode b_LoopRankerModel_remove 58 = .ok (.iload_n 3, 1) := by decide +kernel
theorem d_LoopRankerModel_remove_59 : decode b_LoopRankerModel_remove 59 = .ok (.iadd, 1) := by decide +kernel
theorem d_LoopRankerModel_remove_60 : decode b_LoopRankerModel_remove 60 = .ok (.aload_n 0, 1) := by decide +kernel
theorem d_LoopRankerModel_remove_61 : decode b_LoopRankerModel_remove 61 = .ok (.getfield 13, 3) := by decide +kernel
theorem d_LoopRankerModel_remove_64 : decode b_LoopRankerModel_remove 64 = .ok (.iconst 4, 1) := by decide +kernel
theorem d_LoopRankerModel_remove_65 : decode b_LoopRankerModel_remove 65 = .ok (.iload_n 2, 1) := by decide +kernel
theorem d_LoopRankerModel_remove_66 : decode b_LoopRankerModel_remove 66 = .ok (.imul, 1) := by decide +kernel
theorem d_LoopRankerModel_remove_67 : decode b_LoopRankerModel_remove 67 = .ok (.iconst 4, 1) := by decide +kernel
theorem d_LoopRankerModel_remove_68 : decode b_LoopRankerModel_remove 68 = .ok (.iadd, 1) := by decide +kernel
theorem d_LoopRankerModel_remove_69 : decode b_LoopRankerModel_remove 69 = .ok (.iload_n 3, 1) := by decide +kernel
theorem d_LoopRankerModel_remove_70 : decode b_LoopRankerModel_remove 70 = .ok (.iadd, 1) := by decide +kernel
theorem d_LoopRankerModel_remove_71 : decode b_LoopRankerModel_remove 71 = .ok (.iaload, 1) := by decide +kernel
theorem d_LoopRankerModel_remove_72 : decode b_LoopRankerModel_remove 72 = .ok (.iastore, 1) := by decide +kernel
theorem d_LoopRankerModel_remove_73 : decode b_LoopRankerModel_remove 73 = .ok (.aload_n 0, 1) := by decide +kernel
theorem d_LoopRankerModel_remove_74 : decode b_LoopRankerModel_remove 74 = .ok (.getfield 16, 3) := by decide +kernel
theorem d_LoopRankerModel_remove_77 : decode b_LoopRankerModel_remove 77 = .ok (.iconst 4, 1) := by decide +kernel
theorem d_LoopRankerModel_remove_78 : decode b_LoopRankerModel_remove 78 = .ok (.iload_n 2, 1) := by decide +kernel
theorem d_LoopRankerModel_remove_79 : decode b_LoopRankerModel_remove 79 = .ok (.imul, 1) := by decide +kernel
theorem d_LoopRankerModel_remove_80 : decode b_LoopRankerModel_remove 80 = .ok (.iload_n 3, 1) := by decide +kernel
theorem d_LoopRankerModel_remove_81 : decode b_LoopRankerModel_remove 81 = .ok (.iadd, 1) := by decide +kernel
theorem d_LoopRankerModel_remove_82 : decode b_LoopRankerModel_remove 82 = .ok (.aload_n 0, 1) := by decide +kernel
theorem d_LoopRankerModel_remove_83 : decode b_LoopRankerModel_remove 83 = .ok (.getfield 16, 3) := by decide +kernel
theorem d_LoopRankerModel_remove_86 : decode b_LoopRankerModel_remove 86 = .ok (.iconst 4, 1) := by decide +kernel
theorem d_LoopRankerModel_remove_87 : decode b_LoopRankerModel_remove 87 = .ok (.iload_n 2, 1) := by decide +kernel
theorem d_LoopRankerModel_remove_88 : decode b_LoopRankerModel_remove 88 = .ok (.imul, 1) := by decide +kernel
theorem d_LoopRankerModel_remove_89 : decode b_LoopRankerModel_remove 89 = .ok (.iconst 4, 1) := by decide +kernel
theorem d_LoopRankerModel_remove_90 : decode b_LoopRankerModel_remove 90 = .ok (.iadd, 1) := by decide +kernel
theorem d_LoopRankerModel_remove_91 : decode b_LoopRankerModel_remove 91 = .ok (.iload_n 3, 1) := by decide +kernel
theorem d_LoopRankerModel_remove_92 : decode b_LoopRankerModel_remove 92 = .ok (.iadd, 1) := by decide +kernel
theorem d_LoopRankerModel_remove_93 : decode b_LoopRankerModel_remove 93 = .ok (.iaload, 1) := by decide +kernel
theorem d_LoopRankerModel_remove_94 : decode b_LoopRankerModel_remove 94 = .ok (.iastore, 1) := by decide +kernel
theorem d_LoopRankerModel_remove_95 : decode b_LoopRankerModel_remove 95 = .ok (.aload_n 0, 1) := by decide +kernel
theorem d_LoopRankerModel_remove_96 : decode b_LoopRankerModel_remove 96 = .ok (.getfield 19, 3) := by decide +kernel
theorem d_LoopRankerModel_remove_99 : decode b_LoopRankerModel_remove 99 = .ok (.iconst 4, 1) := by decide +kernel
theorem d_LoopRankerModel_remove_100 : decode b_LoopRankerModel_remove 100 = .ok (.iload_n 2, 1) := by decide +kernel
theorem d_LoopRankerModel_remove_101 : decode b_LoopRankerModel_remove 101 = .ok (.imul, 1) := by decide +kernel
theorem d_LoopRankerModel_remove_102 : decode b_LoopRankerModel_remove 102 = .ok (.iload_n 3, 1) := by decide +kernel
theorem d_LoopRankerModel_remove_103 : decode b_LoopRankerModel_remove 103 = .ok (.iadd, 1) := by decide +kernel
theorem d_LoopRankerModel_remove_104 : decode b_LoopRankerModel_remove 104 = .ok (.aload_n 0, 1) := by decide +kernel
theorem d_LoopRankerModel_remove_105 : decode b_LoopRankerModel_remove 105 = .ok (.getfield 19, 3) := by decide +kernel
theorem d_LoopRankerModel_remove_108 : decode b_LoopRankerModel_remove 108 = .ok (.iconst 4, 1) := by decide +kernel
theorem d_LoopRankerModel_remove_109 : decode b_LoopRankerModel_remove 109 = .ok (.iload_n 2, 1) := by decide +kernel
theorem d_LoopRankerModel_remove_110 : decode b_LoopRankerModel_remove 110 = .ok (.imul, 1) := by decide +kernel
theorem d_LoopRankerModel_remove_111 : decode b_LoopRankerModel_remove 111 = .ok (.iconst 4, 1) := by decide +kernel
theorem d_LoopRankerModel_remove_112 : decode b_LoopRankerModel_remove 112 = .ok (.iadd, 1) := by decide +kernel
theorem d_LoopRankerModel_remove_113 : decode b_LoopRankerModel_remove 113 = .ok (.iload_n 3, 1) := by decide +kernel
theorem d_LoopRankerModel_remove_114 : decode b_LoopRankerModel_remove 114 = .ok (.iadd, 1) := by decide +kernel
theorem d_LoopRankerModel_remove_115 : decode b_LoopRankerModel_remove 115 = .ok (.iaload, 1) := by decide +kernel
theorem d_LoopRankerModel_remove_116 : decode b_LoopRankerModel_remove 116 = .ok (.iastore, 1) := by decide +kernel
theorem d_LoopRankerModel_remove_117 : decode b_LoopRankerModel_remove 117 = .ok (.iinc 3 1, 3) := by decide +kernel
theorem d_LoopRankerModel_remove_120 : decode b_LoopRankerModel_remove 120 = .ok (.goto (-74), 3) := by decide +kernel
theorem d_LoopRankerModel_remove_123 : decode b_LoopRankerModel_remove 123 = .ok (.iconst 0, 1) := by decide +kernel
theorem d_LoopRankerModel_remove_124 : decode b_LoopRankerModel_remove 124 = .ok (.istore_n 3, 1) := by decide +kernel
theorem d_LoopRankerModel_remove_125 : decode b_LoopRankerModel_remove 125 = .ok (.iload_n 3, 1) := by decide +kernel
theorem d_LoopRankerModel_remove_126 : decode b_LoopRankerModel_remove 126 = .ok (.bipush 6, 2) := by decide +kernel
theorem d_LoopRankerModel_remove_128 : decode b_LoopRankerModel_remove 128 = .ok (.if_icmp .ge 34, 3) := by decide +kernel
theorem d_LoopRankerModel_remove_131 : decode b_LoopRankerModel_remove 131 = .ok (.aload_n 0, 1) := by decide +kernel
theorem d_LoopRankerModel_remove_132 : decode b_LoopRankerModel_remove 132 = .ok (.getfield 22, 3) := by decide +kernel
theorem d_LoopRankerModel_remove_135 : decode b_LoopRankerModel_remove 135 = .ok (.bipush 6, 2) := by decide +kernel
theorem d_LoopRankerModel_remove_137 : decode b_LoopRankerModel_remove 137 = .ok (.iload_n 2, 1) := by decide +kernel
theorem d_LoopRankerModel_remove_138 : decode b_LoopRankerModel_remove 138 = .ok (.imul, 1) := by decide +kernel
theorem d_LoopRankerModel_remove_139 : decode b_LoopRankerModel_remove 139 = .ok (.iload_n 3, 1) := by decide +kernel
theorem d_LoopRankerModel_remove_140 : decode b_LoopRankerModel_remove 140 = .ok (.iadd, 1) := by decide +kernel
theorem d_LoopRankerModel_remove_141 : decode b_LoopRankerModel_remove 141 = .ok (.aload_n 0, 1) := by decide +kernel
theorem d_LoopRankerModel_remove_142 : decode b_LoopRankerModel_remove 142 = .ok (.getfield 22, 3) := by decide +kernel
theorem d_LoopRankerModel_remove_145 : decode b_LoopRankerModel_remove 145 = .ok (.bipush 6, 2) := by decide +kernel
theorem d_LoopRankerModel_remove_147 : decode b_LoopRankerModel_remove 147 = .ok (.iload_n 2, 1) := by decide +kernel
theorem d_LoopRankerModel_remove_148 : decode b_LoopRankerModel_remove 148 = .ok (.imul, 1) := by decide +kernel
theorem d_LoopRankerModel_remove_149 : decode b_LoopRankerModel_remove 149 = .ok (.bipush 6, 2) := by decide +kernel
theorem d_LoopRankerModel_remove_151 : decode b_LoopRankerModel_remove 151 = .ok (.iadd, 1) := by decide +kernel
theorem d_LoopRankerModel_remove_152 : decode b_LoopRankerModel_remove 152 = .ok (.iload_n 3, 1) := by decide +kernel
theorem d_LoopRankerModel_remove_153 : decode b_LoopRankerModel_remove 153 = .ok (.iadd, 1) := by decide +kernel
theorem d_LoopRankerModel_remove_154 : decode b_LoopRankerModel_remove 154 = .ok (.iaload, 1) := by decide +kernel
theorem d_LoopRankerModel_remove_155 : decode b_LoopRankerModel_remove 155 = .ok (.iastore, 1) := by decide +kernel
theorem d_LoopRankerModel_remove_156 : decode b_LoopRankerModel_remove 156 = .ok (.iinc 3 1, 3) := by decide +kernel
theorem d_LoopRankerModel_remove_159 : decode b_LoopRankerModel_remove 159 = .ok (.goto (-34), 3) := by decide +kernel
theorem d_LoopRankerModel_remove_162 : decode b_LoopRankerModel_remove 162 = .ok (.iinc 2 1, 3) := by decide +kernel
theorem d_LoopRankerModel_remove_165 : decode b_LoopRankerModel_remove 165 = .ok (.goto (-143), 3) := by decide +kernel
theorem d_LoopRankerModel_remove_168 : decode b_LoopRankerModel_remove 168 = .ok (.iconst 1, 1) := by decide +kernel
theorem d_LoopRankerModel_remove_169 : decode b_LoopRankerModel_remove 169 = .ok (.ireturn, 1) := by decide +kernel
theorem d_LoopRankerModel_transitions_0 : decode b_LoopRankerModel_transitions 0 = .ok (.aload_n 0, 1) := by decide +kernel
theorem d_LoopRankerModel_transitions_1 : decode b_LoopRankerModel_transitions 1 = .ok (.getfield 34, 3) := by decide +kernel
theorem d_LoopRankerModel_transitions_4 : decode b_LoopRankerModel_transitions 4 = .ok (.ireturn, 1) := by decide +kernel
theorem d_LoopRankerModel_meet_0 : decode b_LoopRankerModel_meet 0 = .ok (.lload 6, 2) := by decide +kernel
theorem d_LoopRankerModel_meet_2 : decode b_LoopRankerModel_meet 2 = .ok (.lconst 0, 1) := by decide +kernel
theorem d_LoopRankerModel_meet_3 : decode b_LoopRankerModel_meet 3 = .ok (.lcmp, 1) := by decide +kernel
theorem d_LoopRankerModel_meet_4 : decode b_LoopRankerModel_meet 4 = .ok (.ifCond .ge 9, 3) := by decide +kernel
theorem d_LoopRankerModel_meet_7 : decode b_LoopRankerModel_meet 7 = .ok (.lload 6, 2) := by decide +kernel
theorem d_LoopRankerModel_meet_9 : decode b_LoopRankerModel_meet 9 = .ok (.lneg, 1) := by decide +kernel
theorem d_LoopRankerModel_meet_10 : decode b_LoopRankerModel_meet 10 = .ok (.goto 5, 3) := by decide +kernel
theorem d_LoopRankerModel_meet_13 : decode b_LoopRankerModel_meet 13 = .ok (.lload 6, 2) := by decide +kernel
theorem d_LoopRankerModel_meet_15 : decode b_LoopRankerModel_meet 15 = .ok (.lstore 10, 2) := by decide +kernel
theorem d_LoopRankerModel_meet_17 : decode b_LoopRankerModel_meet 17 = .ok (.lload 6, 2) := by decide +kernel
theorem d_LoopRankerModel_meet_19 : decode b_LoopRankerModel_meet 19 = .ok (.lconst 0, 1) := by decide +kernel
theorem d_LoopRankerModel_meet_20 : decode b_LoopRankerModel_meet 20 = .ok (.lcmp, 1) := by decide +kernel
theorem d_LoopRankerModel_meet_21 : decode b_LoopRankerModel_meet 21 = .ok (.ifCond .ge 8, 3) := by decide +kernel
theorem d_LoopRankerModel_meet_24 : decode b_LoopRankerModel_meet 24 = .ok (.lload_n 2, 1) := by decide +kernel
theorem d_LoopRankerModel_meet_25 : decode b_LoopRankerModel_meet 25 = .ok (.lneg, 1) := by decide +kernel
theorem d_LoopRankerModel_meet_26 : decode b_LoopRankerModel_meet 26 = .ok (.goto 4, 3) := by decide +kernel
theorem d_LoopRankerModel_meet_29 : decode b_LoopRankerModel_meet 29 = .ok (.lload_n 2, 1) := by decide +kernel
theorem d_LoopRankerModel_meet_30 : decode b_LoopRankerModel_meet 30 = .ok (.lstore 12, 2) := by decide +kernel
theorem d_LoopRankerModel_meet_32 : decode b_LoopRankerModel_meet 32 = .ok (.lload 6, 2) := by decide +kernel
theorem d_LoopRankerModel_meet_34 : decode b_LoopRankerModel_meet 34 = .ok (.lconst 0, 1) := by decide +kernel
theorem d_LoopRankerModel_meet_35 : decode b_LoopRankerModel_meet 35 = .ok (.lcmp, 1) := by decide +kernel
theorem d_LoopRankerModel_meet_36 : decode b_LoopRankerModel_meet 36 = .ok (.ifCond .ge 9, 3) := by decide +kernel
theorem d_LoopRankerModel_meet_39 : decode b_LoopRankerModel_meet 39 = .ok (.lload 4, 2) := by decide +kernel
theorem d_LoopRankerModel_meet_41 : decode b_LoopRankerModel_meet 41 = .ok (.lneg, 1) := by decide +kernel
theorem d_LoopRankerModel_meet_42 : decode b_LoopRankerModel_meet 42 = .ok (.goto 5, 3) := by decide +kernel
theorem d_LoopRankerModel_meet_45 : decode b_LoopRankerModel_meet 45 = .ok (.lload 4, 2) := by decide +kernel
theorem d_LoopRankerModel_meet_47 : decode b_LoopRankerModel_meet 47 = .ok (.lstore 14, 2) := by decide +kernel
theorem d_LoopRankerModel_meet_49 : decode b_LoopRankerModel_meet 49 = .ok (.iconst 4, 1) := by decide +kernel
theorem d_LoopRankerModel_meet_50 : decode b_LoopRankerModel_meet 50 = .ok (.iload_n 1, 1) := by decide +kernel
theorem d_LoopRankerModel_meet_51 : decode b_LoopRankerModel_meet 51 = .ok (.imul, 1) := by decide +kernel
theorem d_LoopRankerModel_meet_52 : decode b_LoopRankerModel_meet 52 = .ok (.istore 16, 2) := by decide +kernel
theorem d_LoopRankerModel_meet_54 : decode b_LoopRankerModel_meet 54 = .ok (.iload 16, 2) := by decide +kernel
theorem d_LoopRankerModel_meet_56 : decode b_LoopRankerModel_meet 56 = .ok (.iconst 4, 1) := by decide +kernel
theorem d_LoopRankerModel_meet_57 : decode b_LoopRankerModel_meet 57 = .ok (.iload_n 1, 1) := by decide +kernel
theorem d_LoopRankerModel_meet_58 : decode b_LoopRankerModel_meet 58 = .ok (.imul, 1) := by decide +kernel
theorem d_LoopRankerModel_meet_59 : decode b_LoopRankerModel_meet 59 = .ok (.aload_n 0, 1) := by decide +kernel
theorem d_LoopRankerModel_meet_60 : decode b_LoopRankerModel_meet 60 = .ok (.getfield 7, 3) := by decide +kernel
theorem d_LoopRankerModel_meet_63 : decode b_LoopRankerModel_meet 63 = .ok (.iload_n 1, 1) := by decide +kernel
theorem d_LoopRankerModel_meet_64 : decode b_LoopRankerModel_meet 64 = .ok (.iaload, 1) := by decide +kernel
theorem d_LoopRankerModel_meet_65 : decode b_LoopRankerModel_meet 65 = .ok (.iadd, 1) := by decide +kernel
theorem d_LoopRankerModel_meet_66 : decode b_LoopRankerModel_meet 66 = .ok (.if_icmp .ge 48, 3) := by decide +kernel
theorem d_LoopRankerModel_meet_69 : decode b_LoopRankerModel_meet 69 = .ok (.aload_n 0, 1) := by decide +kernel
theorem d_LoopRankerModel_meet_70 : decode b_LoopRankerModel_meet 70 = .ok (.getfield 13, 3) := by decide +kernel
theorem d_LoopRankerModel_meet_73 : decode b_LoopRankerModel_meet 73 = .ok (.iload 16, 2) := by decide +kernel
theorem d_LoopRankerModel_meet_75 : decode b_LoopRankerModel_meet 75 = .ok (.iaload, 1) := by decide +kernel
theorem d_LoopRankerModel_meet_76 : decode b_LoopRankerModel_meet 76 = .ok (.i2l, 1) := by decide +kernel
theorem d_LoopRankerModel_meet_77 : decode b_LoopRankerModel_meet 77 = .ok (.lload 12, 2) := by decide +kernel
theorem d_LoopRankerModel_meet_79 : decode b_LoopRankerModel_meet 79 = .ok (.lmul, 1) := by decide +kernel
theorem d_LoopRankerModel_meet_80 : decode b_LoopRankerModel_meet 80 = .ok (.aload_n 0, 1) := by decide +kernel
theorem d_LoopRankerModel_meet_81 : decode b_LoopRankerModel_meet 81 = .ok (.getfield 16, 3) := by decide +kernel
theorem d_LoopRankerModel_meet_84 : decode b_LoopRankerModel_meet 84 = .ok (.iload 16, 2) := by decide +kernel
theorem d_LoopRankerModel_meet_86 : decode b_LoopRankerModel_meet 86 = .ok (.iaload, 1) := by decide +kernel
theorem d_LoopRankerModel_meet_87 : decode b_LoopRankerModel_meet 87 = .ok (.i2l, 1) := by decide +kernel
theorem d_LoopRankerModel_meet_88 : decode b_LoopRankerModel_meet 88 = .ok (.lload 14, 2) := by decide +kernel
theorem d_LoopRankerModel_meet_90 : decode b_LoopRankerModel_meet 90 = .ok (.lmul, 1) := by decide +kernel
theorem d_LoopRankerModel_meet_91 : decode b_LoopRankerModel_meet 91 = .ok (.ladd, 1) := by decide +kernel
theorem d_LoopRankerModel_meet_92 : decode b_LoopRankerModel_meet 92 = .ok (.aload_n 0, 1) := by decide +kernel
theorem d_LoopRankerModel_meet_93 : decode b_LoopRankerModel_meet 93 = .ok (.getfield 19, 3) := by decide +kernel
theorem d_LoopRankerModel_meet_96 : decode b_LoopRankerModel_meet 96 = .ok (.iload 16, 2) := by decide +kernel
theorem d_LoopRankerModel_meet_98 : decode b_LoopRankerModel_meet 98 = .ok (.iaload, 1) := by decide +kernel
theorem d_LoopRankerModel_meet_99 : decode b_LoopRankerModel_meet 99 = .ok (.i2l, 1) := by decide +kernel
theorem d_LoopRankerModel_meet_100 : decode b_LoopRankerModel_meet 100 = .ok (.lload 10, 2) := by decide +kernel
theorem d_LoopRankerModel_meet_102 : decode b_LoopRankerModel_meet 102 = .ok (.lmul, 1) := by decide +kernel
theorem d_LoopRankerModel_meet_103 : decode b_LoopRankerModel_meet 103 = .ok (.lcmp, 1) := by decide +kernel
theorem d_LoopRankerModel_meet_104 : decode b_LoopRankerModel_meet 104 = .ok (.ifCond .le 4, 3) := by decide +kernel
theorem d_LoopRankerModel_meet_107 : decode b_LoopRankerModel_meet 107 = .ok (.return_, 1) := by decide +kernel
theorem d_LoopRankerModel_meet_108 : decode b_LoopRankerModel_meet 108 = .ok (.iinc 16 1, 3) := by decide +kernel
theorem d_LoopRankerModel_meet_111 : decode b_LoopRankerModel_meet 111 = .ok (.goto (-57), 3) := by decide +kernel
theorem d_LoopRankerModel_meet_114 : decode b_LoopRankerModel_meet 114 = .ok (.iload 8, 2) := by decide +kernel
theorem d_LoopRankerModel_meet_116 : decode b_LoopRankerModel_meet 116 = .ok (.i2l, 1) := by decide +kernel
theorem d_LoopRankerModel_meet_117 : decode b_LoopRankerModel_meet 117 = .ok (.lload 12, 2) := by decide +kernel
theorem d_LoopRankerModel_meet_119 : decode b_LoopRankerModel_meet 119 = .ok (.lmul, 1) := by decide +kernel
theorem d_LoopRankerModel_meet_120 : decode b_LoopRankerModel_meet 120 = .ok (.iload 9, 2) := by decide +kernel
theorem d_LoopRankerModel_meet_122 : decode b_LoopRankerModel_meet 122 = .ok (.i2l, 1) := by decide +kernel
theorem d_LoopRankerModel_meet_123 : decode b_LoopRankerModel_meet 123 = .ok (.lload 14, 2) := by decide +kernel
theorem d_LoopRankerModel_meet_125 : decode b_LoopRankerModel_meet 125 = .ok (.lmul, 1) := by decide +kernel
theorem d_LoopRankerModel_meet_126 : decode b_LoopRankerModel_meet 126 = .ok (.ladd, 1) := by decide +kernel
theorem d_LoopRankerModel_meet_127 : decode b_LoopRankerModel_meet 127 = .ok (.lstore 16, 2) := by decide +kernel
theorem d_LoopRankerModel_meet_129 : decode b_LoopRankerModel_meet 129 = .ok (.aload_n 0, 1) := by decide +kernel
theorem d_LoopRankerModel_meet_130 : decode b_LoopRankerModel_meet 130 = .ok (.getfield 46, 3) := by decide +kernel
theorem d_LoopRankerModel_meet_133 : decode b_LoopRankerModel_meet 133 = .ok (.ifCond .eq 21, 3) := by decide +kernel
theorem d_LoopRankerModel_meet_136 : decode b_LoopRankerModel_meet 136 = .ok (.lload 16, 2) := by decide +kernel
theorem d_LoopRankerModel_meet_138 : decode b_LoopRankerModel_meet 138 = .ok (.aload_n 0, 1) := by decide +kernel
theorem d_LoopRankerModel_meet_139 : decode b_LoopRankerModel_meet 139 = .ok (.getfield 50, 3) := by decide +kernel
theorem d_LoopRankerModel_meet_142 : decode b_LoopRankerModel_meet 142 = .ok (.lmul, 1) := by decide +kernel
theorem d_LoopRankerModel_meet_143 : decode b_LoopRankerModel_meet 143 = .ok (.aload_n 0, 1) := by decide +kernel
theorem d_LoopRankerModel_meet_144 : decode b_LoopRankerModel_meet 144 = .ok (.getfield 54, 3) := by decide +kernel
theorem d_LoopRankerModel_meet_147 : decode b_LoopRankerModel_meet 147 = .ok (.lload 10, 2) := by decide +kernel
theorem d_LoopRankerModel_meet_149 : decode b_LoopRankerModel_meet 149 = .ok (.lmul, 1) := by decide +kernel
theorem d_LoopRankerModel_meet_150 : decode b_LoopRankerModel_meet 150 = .ok (.lcmp, 1) := by decide +kernel
theorem d_LoopRankerModel_meet_151 : decode b_LoopRankerModel_meet 151 = .ok (.ifCond .le 20, 3) := by decide +kernel
theorem d_LoopRankerModel_meet_154 : decode b_LoopRankerModel_meet 154 = .ok (.aload_n 0, 1) := by decide +kernel
theorem d_LoopRankerModel_meet_155 : decode b_LoopRankerModel_meet 155 = .ok (.iconst 1, 1) := by decide +kernel
theorem d_LoopRankerModel_meet_156 : decode b_LoopRankerModel_meet 156 = .ok (.putfield 46, 3) := by decide +kernel
theorem d_LoopRankerModel_meet_159 : decode b_LoopRankerModel_meet 159 = .ok (.aload_n 0, 1) := by decide +kernel
theorem d_LoopRankerModel_meet_160 : decode b_LoopRankerModel_meet 160 = .ok (.lload 16, 2) := by decide +kernel
theorem d_LoopRankerModel_meet_162 : decode b_LoopRankerModel_meet 162 = .ok (.putfield 54, 3) := by decide +kernel
theorem d_LoopRankerModel_meet_165 : decode b_LoopRankerModel_meet 165 = .ok (.aload_n 0, 1) := by decide +kernel
theorem d_LoopRankerModel_meet_166 : decode b_LoopRankerModel_meet 166 = .ok (.lload 10, 2) := by decide +kernel
theorem d_LoopRankerModel_meet_168 : decode b_LoopRankerModel_meet 168 = .ok (.putfield 50, 3) := by decide +kernel
theorem d_LoopRankerModel_meet_171 : decode b_LoopRankerModel_meet 171 = .ok (.return_, 1) := by decide +kernel
theorem d_LoopRankerModel_look_0 : decode b_LoopRankerModel_look 0 = .ok (.aload_n 0, 1) := by decide +kernel
theorem d_LoopRankerModel_look_1 : decode b_LoopRankerModel_look 1 = .ok (.iconst 0, 1) := by decide +kernel
theorem d_LoopRankerModel_look_2 : decode b_LoopRankerModel_look 2 = .ok (.putfield 46, 3) := by decide +kernel
theorem d_LoopRankerModel_look_5 : decode b_LoopRankerModel_look 5 = .ok (.aload_n 0, 1) := by decide +kernel
theorem d_LoopRankerModel_look_6 : decode b_LoopRankerModel_look 6 = .ok (.lconst 0, 1) := by decide +kernel
theorem d_LoopRankerModel_look_7 : decode b_LoopRankerModel_look 7 = .ok (.putfield 54, 3) := by decide +kernel
theorem d_LoopRankerModel_look_10 : decode b_LoopRankerModel_look 10 = .ok (.aload_n 0, 1) := by decide +kernel
theorem d_LoopRankerModel_look_11 : decode b_LoopRankerModel_look 11 = .ok (.lconst 1, 1) := by decide +kernel
theorem d_LoopRankerModel_look_12 : decode b_LoopRankerModel_look 12 = .ok (.putfield 50, 3) := by decide +kernel
theorem d_LoopRankerModel_look_15 : decode b_LoopRankerModel_look 15 = .ok (.aload_n 0, 1) := by decide +kernel
theorem d_LoopRankerModel_look_16 : decode b_LoopRankerModel_look 16 = .ok (.iload_n 1, 1) := by decide +kernel
theorem d_LoopRankerModel_look_17 : decode b_LoopRankerModel_look 17 = .ok (.lconst 0, 1) := by decide +kernel
theorem d_LoopRankerModel_look_18 : decode b_LoopRankerModel_look 18 = .ok (.lconst 0, 1) := by decide +kernel
theorem d_LoopRankerModel_look_19 : decode b_LoopRankerModel_look 19 = .ok (.lconst 1, 1) := by decide +kernel
theorem d_LoopRankerModel_look_20 : decode b_LoopRankerModel_look 20 = .ok (.iload_n 2, 1) := by decide +kernel
theorem d_LoopRankerModel_look_21 : decode b_LoopRankerModel_look 21 = .ok (.iload_n 3, 1) := by decide +kernel
theorem d_LoopRankerModel_look_22 : decode b_LoopRankerModel_look 22 = .ok (.invokevirtual 57, 3) := by decide +kernel
theorem d_LoopRankerModel_look_25 : decode b_LoopRankerModel_look 25 = .ok (.iconst 4, 1) := by decide +kernel
theorem d_LoopRankerModel_look_26 : decode b_LoopRankerModel_look 26 = .ok (.iload_n 1, 1) := by decide +kernel
theorem d_LoopRankerModel_look_27 : decode b_LoopRankerModel_look 27 = .ok (.imul, 1) := by decide +kernel
theorem d_LoopRankerModel_look_28 : decode b_LoopRankerModel_look 28 = .ok (.istore 4, 2) := by decide +kernel
theorem d_LoopRankerModel_look_30 : decode b_LoopRankerModel_look 30 = .ok (.iload 4, 2) := by decide +kernel
theorem d_LoopRankerModel_look_32 : decode b_LoopRankerModel_look 32 = .ok (.iconst 4, 1) := by decide +kernel
theorem d_LoopRankerModel_look_33 : decode b_LoopRankerModel_look 33 = .ok (.iload_n 1, 1) := by decide +kernel
theorem d_LoopRankerModel_look_34 : decode b_LoopRankerModel_look 34 = .ok (.imul, 1) := by decide +kernel
theorem d_LoopRankerModel_look_35 : decode b_LoopRankerModel_look 35 = .ok (.aload_n 0, 1) := by decide +kernel
theorem d_LoopRankerModel_look_36 : decode b_LoopRankerModel_look 36 = .ok (.getfield 7, 3) := by decide +kernel
theorem d_LoopRankerModel_look_39 : decode b_LoopRankerModel_look 39 = .ok (.iload_n 1, 1) := by decide +kernel
theorem d_LoopRankerModel_look_40 : decode b_LoopRankerModel_look 40 = .ok (.iaload, 1) := by decide +kernel
theorem d_LoopRankerModel_look_41 : decode b_LoopRankerModel_look 41 = .ok (.iadd, 1) := by decide +kernel
theorem d_LoopRankerModel_look_42 : decode b_LoopRankerModel_look 42 = .ok (.if_icmp .ge 219, 3) := by decide +kernel
theorem d_LoopRankerModel_look_45 : decode b_LoopRankerModel_look 45 = .ok (.aload_n 0, 1) := by decide +kernel
theorem d_LoopRankerModel_look_46 : decode b_LoopRankerModel_look 46 = .ok (.getfield 13, 3) := by decide +kernel
theorem d_LoopRankerModel_look_49 : decode b_LoopRankerModel_look 49 = .ok (.iload 4, 2) := by decide +kernel
theorem d_LoopRankerModel_look_51 : decode b_LoopRankerModel_look 51 = .ok (.iaload, 1) := by decide +kernel
theorem d_LoopRankerModel_look_52 : decode b_LoopRankerModel_look 52 = .ok (.aload_n 0, 1) := by decide +kernel
theorem d_LoopRankerModel_look_53 : decode b_LoopRankerModel_look 53 = .ok (.getfield 13, 3) := by decide +kernel
theorem d_LoopRankerModel_look_56 : decode b_LoopRankerModel_look 56 = .ok (.iload 4, 2) := by decide +kernel
theorem d_LoopRankerModel_look_58 : decode b_LoopRankerModel_look 58 = .ok (.iaload, 1) := by decide +kernel
theorem d_LoopRankerModel_look_59 : decode b_LoopRankerModel_look 59 = .ok (.imul, 1) := by decide +kernel
theorem d_LoopRankerModel_look_60 : decode b_LoopRankerModel_look 60 = .ok (.aload_n 0, 1) := by decide +kernel
theorem d_LoopRankerModel_look_61 : decode b_LoopRankerModel_look 61 = .ok (.getfield 16, 3) := by decide +kernel
theorem d_LoopRankerModel_look_64 : decode b_LoopRankerModel_look 64 = .ok (.iload 4, 2) := by decide +kernel
theorem d_LoopRankerModel_look_66 : decode b_LoopRankerModel_look 66 = .ok (.iaload, 1) := by decide +kernel
theorem d_LoopRankerModel_look_67 : decode b_LoopRankerModel_look 67 = .ok (.aload_n 0, 1) := by decide +kernel
theorem d_LoopRankerModel_look_68 : decode b_LoopRankerModel_look 68 = .ok (.getfield 16, 3) := by decide +kernel
theorem d_LoopRankerModel_look_71 : decode b_LoopRankerModel_look 71 = .ok (.iload 4, 2) := by decide +kernel
theorem d_LoopRankerModel_look_73 : decode b_LoopRankerModel_look 73 = .ok (.iaload, 1) := by decide +kernel
theorem d_LoopRankerModel_look_74 : decode b_LoopRankerModel_look 74 = .ok (.imul, 1) := by decide +kernel
theorem d_LoopRankerModel_look_75 : decode b_LoopRankerModel_look 75 = .ok (.iadd, 1) := by decide +kernel
theorem d_LoopRankerModel_look_76 : decode b_LoopRankerModel_look 76 = .ok (.istore 5, 2) := by decide +kernel
theorem d_LoopRankerModel_look_78 : decode b_LoopRankerModel_look 78 = .ok (.iload 5, 2) := by decide +kernel
theorem d_LoopRankerModel_look_80 : decode b_LoopRankerModel_look 80 = .ok (.ifCond .le 45, 3) := by decide +kernel
theorem d_LoopRankerModel_look_83 : decode b_LoopRankerModel_look 83 = .ok (.aload_n 0, 1) := by decide +kernel
theorem d_LoopRankerModel_look_84 : decode b_LoopRankerModel_look 84 = .ok (.iload_n 1, 1) := by decide +kernel
theorem d_LoopRankerModel_look_85 : decode b_LoopRankerModel_look 85 = .ok (.aload_n 0, 1) := by decide +kernel
theorem d_LoopRankerModel_look_86 : decode b_LoopRankerModel_look 86 = .ok (.getfield 13, 3) := by decide +kernel
theorem d_LoopRankerModel_look_89 : decode b_LoopRankerModel_look 89 = .ok (.iload 4, 2) := by decide +kernel
theorem d_LoopRankerModel_look_91 : decode b_LoopRankerModel_look 91 = .ok (.iaload, 1) := by decide +kernel
theorem d_LoopRankerModel_look_92 : decode b_LoopRankerModel_look 92 = .ok (.aload_n 0, 1) := by decide +kernel
theorem d_LoopRankerModel_look_93 : decode b_LoopRankerModel_look 93 = .ok (.getfield 19, 3) := by decide +kernel
theorem d_LoopRankerModel_look_96 : decode b_LoopRankerModel_look 96 = .ok (.iload 4, 2) := by decide +kernel
theorem d_LoopRankerModel_look_98 : decode b_LoopRankerModel_look 98 = .ok (.iaload, 1) := by decide +kernel
theorem d_LoopRankerModel_look_99 : decode b_LoopRankerModel_look 99 = .ok (.imul, 1) := by decide +kernel
theorem d_LoopRankerModel_look_100 : decode b_LoopRankerModel_look 100 = .ok (.i2l, 1) := by decide +kernel
theorem d_LoopRankerModel_look_101 : decode b_LoopRankerModel_look 101 = .ok (.aload_n 0, 1) := by decide +kernel
theorem d_LoopRankerModel_look_102 : decode b_LoopRankerModel_look 102 = .ok (.getfield 16, 3) := by decide +kernel
theorem d_LoopRankerModel_look_105 : decode b_LoopRankerModel_look 105 = .ok (.iload 4, 2) := by decide +kernel
theorem d_LoopRankerModel_look_107 : decode b_LoopRankerModel_look 107 = .ok (.iaload, 1) := by decide +kernel
theorem d_LoopRankerModel_look_108 : decode b_LoopRankerModel_look 108 = .ok (.aload_n 0, 1) := by decide +kernel
theorem d_LoopRankerModel_look_109 : decode b_LoopRankerModel_look 109 = .ok (.getfield 19, 3) := by decide +kernel
theorem d_LoopRankerModel_look_112 : decode b_LoopRankerModel_look 112 = .ok (.iload 4, 2) := by decide +kernel
theorem d_LoopRankerModel_look_114 : decode b_LoopRankerModel_look 114 = .ok (.iaload, 1) := by decide +kernel
theorem d_LoopRankerModel_look_115 : decode b_LoopRankerModel_look 115 = .ok (.imul, 1) := by decide +kernel
theorem d_LoopRankerModel_look_116 : decode b_LoopRankerModel_look 116 = .ok (.i2l, 1) := by decide +kernel
theorem d_LoopRankerModel_look_117 : decode b_LoopRankerModel_look 117 = .ok (.iload 5, 2) := by decide +kernel
theorem d_LoopRankerModel_look_119 : decode b_LoopRankerModel_look 119 = .ok (.i2l, 1) := by decide +kernel
theorem d_LoopRankerModel_look_120 : decode b_LoopRankerModel_look 120 = .ok (.iload_n 2, 1) := by decide +kernel
theorem d_LoopRankerModel_look_121 : decode b_LoopRankerModel_look 121 = .ok (.iload_n 3, 1) := by decide +kernel
theorem d_LoopRankerModel_look_122 : decode b_LoopRankerModel_look 122 = .ok (.invokevirtual 57, 3) := by decide +kernel
theorem d_LoopRankerModel_look_125 : decode b_LoopRankerModel_look 125 = .ok (.iconst 4, 1) := by decide +kernel
theorem d_LoopRankerModel_look_126 : decode b_LoopRankerModel_look 126 = .ok (.iload_n 1, 1) := by decide +kernel
theorem d_LoopRankerModel_look_127 : decode b_LoopRankerModel_look 127 = .ok (.imul, 1) := by decide +kernel
theorem d_LoopRankerModel_look_128 : decode b_LoopRankerModel_look 128 = .ok (.istore 6, 2) := by decide +kernel
theorem d_LoopRankerModel_look_130 : decode b_LoopRankerModel_look 130 = .ok (.iload 6, 2) := by decide +kernel
theorem d_LoopRankerModel_look_132 : decode b_LoopRankerModel_look 132 = .ok (.iload 4, 2) := by decide +kernel
theorem d_LoopRankerModel_look_134 : decode b_LoopRankerModel_look 134 = .ok (.if_icmp .ge 121, 3) := by decide +kernel
theorem d_LoopRankerModel_look_137 : decode b_LoopRankerModel_look 137 = .ok (.aload_n 0, 1) := by decide +kernel
theorem d_LoopRankerModel_look_138 : decode b_LoopRankerModel_look 138 = .ok (.getfield 13, 3) := by decide +kernel
theorem d_LoopRankerModel_look_141 : decode b_LoopRankerModel_look 141 = .ok (.iload 4, 2) := by decide +kernel
theorem d_LoopRankerModel_look_143 : decode b_LoopRankerModel_look 143 = .ok (.iaload, 1) := by decide +kernel
theorem d_LoopRankerModel_look_144 : decode b_LoopRankerModel_look 144 = .ok (.aload_n 0, 1) := by decide +kernel
theorem d_LoopRankerModel_look_145 : decode b_LoopRankerModel_look 145 = .ok (.getfield 16, 3) := by decide +kernel
theorem d_LoopRankerModel_look_148 : decode b_LoopRankerModel_look 148 = .ok (.iload 6, 2) := by decide +kernel
theorem d_LoopRankerModel_look_150 : decode b_LoopRankerModel_look 150 = .ok (.iaload, 1) := by decide +kernel
theorem d_LoopRankerModel_look_151 : decode b_LoopRankerModel_look 151 = .ok (.imul, 1) := by decide +kernel
theorem d_LoopRankerModel_look_152 : decode b_LoopRankerModel_look 152 = .ok (.aload_n 0, 1) := by decide +kernel
theorem d_LoopRankerModel_look_153 : decode b_LoopRankerModel_look 153 = .ok (.getfield 13, 3) := by decide +kernel
theorem d_LoopRankerModel_look_156 : decode b_LoopRankerModel_look 156 = .ok (.iload 6, 2) := by decide +kernel
theorem d_LoopRankerModel_look_158 : decode b_LoopRankerModel_look 158 = .ok (.iaload, 1) := by decide +kernel
theorem d_LoopRankerModel_look_159 : decode b_LoopRankerModel_look 159 = .ok (.aload_n 0, 1) := by decide +kernel
theorem d_LoopRankerModel_look_160 : decode b_LoopRankerModel_look 160 = .ok (.getfield 16, 3) := by decide +kernel
theorem d_LoopRankerModel_look_163 : decode b_LoopRankerModel_look 163 = .ok (.iload 4, 2) := by decide +kernel
theorem d_LoopRankerModel_look_165 : decode b_LoopRankerModel_look 165 = .ok (.iaload, 1) := by decide +kernel
theorem d_LoopRankerModel_look_166 : decode b_LoopRankerModel_look 166 = .ok (.imul, 1) := by decide +kernel
theorem d_LoopRankerModel_look_167 : decode b_LoopRankerModel_look 167 = .ok (.isub, 1) := by decide +kernel
theorem d_LoopRankerModel_look_168 : decode b_LoopRankerModel_look 168 = .ok (.istore 7, 2) := by decide +kernel
theorem d_LoopRankerModel_look_170 : decode b_LoopRankerModel_look 170 = .ok (.iload 7, 2) := by decide +kernel
theorem d_LoopRankerModel_look_172 : decode b_LoopRankerModel_look 172 = .ok (.ifCond .eq 77, 3) := by decide +kernel
theorem d_LoopRankerModel_look_175 : decode b_LoopRankerModel_look 175 = .ok (.aload_n 0, 1) := by decide +kernel
theorem d_LoopRankerModel_look_176 : decode b_LoopRankerModel_look 176 = .ok (.iload_n 1, 1) := by decide +kernel
theorem d_LoopRankerModel_look_177 : decode b_LoopRankerModel_look 177 = .ok (.aload_n 0, 1) := by decide +kernel
theorem d_LoopRankerModel_look_178 : decode b_LoopRankerModel_look 178 = .ok (.getfield 19, 3) := by decide +kernel
theorem d_LoopRankerModel_look_181 : decode b_LoopRankerModel_look 181 = .ok (.iload 4, 2) := by decide +kernel
theorem d_LoopRankerModel_look_183 : decode b_LoopRankerModel_look 183 = .ok (.iaload, 1) := by decide +kernel
theorem d_LoopRankerModel_look_184 : decode b_LoopRankerModel_look 184 = .ok (.aload_n 0, 1) := by decide +kernel
theorem d_LoopRankerModel_look_185 : decode b_LoopRankerModel_look 185 = .ok (.getfield 16, 3) := by decide +kernel
theorem d_LoopRankerModel_look_188 : decode b_LoopRankerModel_look 188 = .ok (.iload 6, 2) := by decide +kernel
theorem d_LoopRankerModel_look_190 : decode b_LoopRankerModel_look 190 = .ok (.iaload, 1) := by decide +kernel
theorem d_LoopRankerModel_look_191 : decode b_LoopRankerModel_look 191 = .ok (.imul, 1) := by decide +kernel
theorem d_LoopRankerModel_look_192 : decode b_LoopRankerModel_look 192 = .ok (.aload_n 0, 1) := by decide +kernel
theorem d_LoopRankerModel_look_193 : decode b_LoopRankerModel_look 193 = .ok (.getfield 19, 3) := by decide +kernel
theorem d_LoopRankerModel_look_196 : decode b_LoopRankerModel_look 196 = .ok (.iload 6, 2) := by decide +kernel
theorem d_LoopRankerModel_look_198 : decode b_LoopRankerModel_look 198 = .ok (.iaload, 1) := by decide +kernel
theorem d_LoopRankerModel_look_199 : decode b_LoopRankerModel_look 199 = .ok (.aload_n 0, 1) := by decide +kernel
theorem d_LoopRankerModel_look_200 : decode b_LoopRankerModel_look 200 = .ok (.getfield 16, 3) := by decide +kernel
theorem d_LoopRankerModel_look_203 : decode b_LoopRankerModel_look 203 = .ok (.iload 4, 2) := by decide +kernel
theorem d_LoopRankerModel_look_205 : decode b_LoopRankerModel_look 205 = .ok (.iaload, 1) := by decide +kernel
theorem d_LoopRankerModel_look_206 : decode b_LoopRankerModel_look 206 = .ok (.imul, 1) := by decide +kernel
theorem d_LoopRankerModel_look_207 : decode b_LoopRankerModel_look 207 = .ok (.isub, 1) := by decide +kernel
theorem d_LoopRankerModel_look_208 : decode b_LoopRankerModel_look 208 = .ok (.i2l, 1) := by decide +kernel
theorem d_LoopRankerModel_look_209 : decode b_LoopRankerModel_look 209 = .ok (.aload_n 0, 1) := by decide +kernel
theorem d_LoopRankerModel_look_210 : decode b_LoopRankerModel_look 210 = .ok (.getfield 13, 3) := by decide +kernel
theorem d_LoopRankerModel_look_213 : decode b_LoopRankerModel_look 213 = .ok (.iload 4, 2) := by decide +kernel
theorem d_LoopRankerModel_look_215 : decode b_LoopRankerModel_look 215 = .ok (.iaload, 1) := by decide +kernel
theorem d_LoopRankerModel_look_216 : decode b_LoopRankerModel_look 216 = .ok (.aload_n 0, 1) := by decide +kernel
theorem d_LoopRankerModel_look_217 : decode b_LoopRankerModel_look 217 = .ok (.getfield 19, 3) := by decide +kernel
theorem d_LoopRankerModel_look_220 : decode b_LoopRankerModel_look 220 = .ok (.iload 6, 2) := by decide +kernel
theorem d_LoopRankerModel_look_222 : decode b_LoopRankerModel_look 222 = .ok (.iaload, 1) := by decide +kernel
theorem d_LoopRankerModel_look_223 : decode b_LoopRankerModel_look 223 = .ok (.imul, 1) := by decide +kernel
theorem d_LoopRankerModel_look_224 : decode b_LoopRankerModel_look 224 = .ok (.aload_n 0, 1) := by decide +kernel
theorem d_LoopRankerModel_look_225 : decode b_LoopRankerModel_look 225 = .ok (.getfield 13, 3) := by decide +kernel
theorem d_LoopRankerModel_look_228 : decode b_LoopRankerModel_look 228 = .ok (.iload 6, 2) := by decide +kernel
theorem d_LoopRankerModel_look_230 : decode b_LoopRankerModel_look 230 = .ok (.iaload, 1) := by decide +kernel
theorem d_LoopRankerModel_look_231 : decode b_LoopRankerModel_look 231 = .ok (.aload_n 0, 1) := by decide +kernel
theorem d_LoopRankerModel_look_232 : decode b_LoopRankerModel_look 232 = .ok (.getfield 19, 3) := by decide +kernel
theorem d_LoopRankerModel_look_235 : decode b_LoopRankerModel_look 235 = .ok (.iload 4, 2) := by decide +kernel
theorem d_LoopRankerModel_look_237 : decode b_LoopRankerModel_look 237 = .ok (.iaload, 1) := by decide +kernel
theorem d_LoopRankerModel_look_238 : decode b_LoopRankerModel_look 238 = .ok (.imul, 1) := by decide +kernel
theorem d_LoopRankerModel_look_239 : decode b_LoopRankerModel_look 239 = .ok (.isub, 1) := by decide +kernel
theorem d_LoopRankerModel_look_240 : decode b_LoopRankerModel_look 240 = .ok (.i2l, 1) := by decide +kernel
theorem d_LoopRankerModel_look_241 : decode b_LoopRankerModel_look 241 = .ok (.iload 7, 2) := by decide +kernel
theorem d_LoopRankerModel_look_243 : decode b_LoopRankerModel_look 243 = .ok (.i2l, 1) := by decide +kernel
theorem d_LoopRankerModel_look_244 : decode b_LoopRankerModel_look 244 = .ok (.iload_n 2, 1) := by decide +kernel
theorem d_LoopRankerModel_look_245 : decode b_LoopRankerModel_look 245 = .ok (.iload_n 3, 1) := by decide +kernel
theorem d_LoopRankerModel_look_246 : decode b_LoopRankerModel_look 246 = .ok (.invokevirtual 57, 3) := by decide +kernel
theorem d_LoopRankerModel_look_249 : decode b_LoopRankerModel_look 249 = .ok (.iinc 6 1, 3) := by decide +kernel
theorem d_LoopRankerModel_look_252 : decode b_LoopRankerModel_look 252 = .ok (.goto (-122), 3) := by decide +kernel
theorem d_LoopRankerModel_look_255 : decode b_LoopRankerModel_look 255 = .ok (.iinc 4 1, 3) := by decide +kernel
theorem d_LoopRankerModel_look_258 : decode b_LoopRankerModel_look 258 = .ok (.goto (-228), 3) := by decide +kernel
theorem d_LoopRankerModel_look_261 : decode b_LoopRankerModel_look 261 = .ok (.return_, 1) := by decide +kernel
theorem d_LoopRankerModel_way_0 : decode b_LoopRankerModel_way 0 = .ok (.iload 4, 2) := by decide +kernel
theorem d_LoopRankerModel_way_2 : decode b_LoopRankerModel_way 2 = .ok (.iload_n 2, 1) := by decide +kernel
theorem d_LoopRankerModel_way_3 : decode b_LoopRankerModel_way 3 = .ok (.imul, 1) := by decide +kernel
theorem d_LoopRankerModel_way_4 : decode b_LoopRankerModel_way 4 = .ok (.iload 5, 2) := by decide +kernel
theorem d_LoopRankerModel_way_6 : decode b_LoopRankerModel_way 6 = .ok (.iload_n 3, 1) := by decide +kernel
theorem d_LoopRankerModel_way_7 : decode b_LoopRankerModel_way 7 = .ok (.imul, 1) := by decide +kernel
theorem d_LoopRankerModel_way_8 : decode b_LoopRankerModel_way 8 = .ok (.iadd, 1) := by decide +kernel
theorem d_LoopRankerModel_way_9 : decode b_LoopRankerModel_way 9 = .ok (.ifCond .le 7, 3) := by decide +kernel
theorem d_LoopRankerModel_way_12 : decode b_LoopRankerModel_way 12 = .ok (.iconst 1, 1) := by decide +kernel
theorem d_LoopRankerModel_way_13 : decode b_LoopRankerModel_way 13 = .ok (.goto 4, 3) := by decide +kernel
theorem d_LoopRankerModel_way_16 : decode b_LoopRankerModel_way 16 = .ok (.iconst 0, 1) := by decide +kernel
theorem d_LoopRankerModel_way_17 : decode b_LoopRankerModel_way 17 = .ok (.istore 6, 2) := by decide +kernel
theorem d_LoopRankerModel_way_19 : decode b_LoopRankerModel_way 19 = .ok (.iconst 4, 1) := by decide +kernel
theorem d_LoopRankerModel_way_20 : decode b_LoopRankerModel_way 20 = .ok (.iload_n 1, 1) := by decide +kernel
theorem d_LoopRankerModel_way_21 : decode b_LoopRankerModel_way 21 = .ok (.imul, 1) := by decide +kernel
theorem d_LoopRankerModel_way_22 : decode b_LoopRankerModel_way 22 = .ok (.istore 7, 2) := by decide +kernel
theorem d_LoopRankerModel_way_24 : decode b_LoopRankerModel_way 24 = .ok (.iload 7, 2) := by decide +kernel
theorem d_LoopRankerModel_way_26 : decode b_LoopRankerModel_way 26 = .ok (.iconst 4, 1) := by decide +kernel
theorem d_LoopRankerModel_way_27 : decode b_LoopRankerModel_way 27 = .ok (.iload_n 1, 1) := by decide +kernel
theorem d_LoopRankerModel_way_28 : decode b_LoopRankerModel_way 28 = .ok (.imul, 1) := by decide +kernel
theorem d_LoopRankerModel_way_29 : decode b_LoopRankerModel_way 29 = .ok (.aload_n 0, 1) := by decide +kernel
theorem d_LoopRankerModel_way_30 : decode b_LoopRankerModel_way 30 = .ok (.getfield 7, 3) := by decide +kernel
theorem d_LoopRankerModel_way_33 : decode b_LoopRankerModel_way 33 = .ok (.iload_n 1, 1) := by decide +kernel
theorem d_LoopRankerModel_way_34 : decode b_LoopRankerModel_way 34 = .ok (.iaload, 1) := by decide +kernel
theorem d_LoopRankerModel_way_35 : decode b_LoopRankerModel_way 35 = .ok (.iadd, 1) := by decide +kernel
theorem d_LoopRankerModel_way_36 : decode b_LoopRankerModel_way 36 = .ok (.if_icmp .ge 43, 3) := by decide +kernel
theorem d_LoopRankerModel_way_39 : decode b_LoopRankerModel_way 39 = .ok (.iload 6, 2) := by decide +kernel
theorem d_LoopRankerModel_way_41 : decode b_LoopRankerModel_way 41 = .ok (.ifCond .eq 29, 3) := by decide +kernel
theorem d_LoopRankerModel_way_44 : decode b_LoopRankerModel_way 44 = .ok (.aload_n 0, 1) := by decide +kernel
theorem d_LoopRankerModel_way_45 : decode b_LoopRankerModel_way 45 = .ok (.getfield 13, 3) := by decide +kernel
theorem d_LoopRankerModel_way_48 : decode b_LoopRankerModel_way 48 = .ok (.iload 7, 2) := by decide +kernel
theorem d_LoopRankerModel_way_50 : decode b_LoopRankerModel_way 50 = .ok (.iaload, 1) := by decide +kernel
theorem d_LoopRankerModel_way_51 : decode b_LoopRankerModel_way 51 = .ok (.iload_n 2, 1) := by decide +kernel
theorem d_LoopRankerModel_way_52 : decode b_LoopRankerModel_way 52 = .ok (.imul, 1) := by decide +kernel
theorem d_LoopRankerModel_way_53 : decode b_LoopRankerModel_way 53 = .ok (.aload_n 0, 1) := by decide +kernel
theorem d_LoopRankerModel_way_54 : decode b_LoopRankerModel_way 54 = .ok (.getfield 16, 3) := by decide +kernel
theorem d_LoopRankerModel_way_57 : decode b_LoopRankerModel_way 57 = .ok (.iload 7, 2) := by decide +kernel
theorem d_LoopRankerModel_way_59 : decode b_LoopRankerModel_way 59 = .ok (.iaload, 1) := by decide +kernel
theorem d_LoopRankerModel_way_60 : decode b_LoopRankerModel_way 60 = .ok (.iload_n 3, 1) := by decide +kernel
theorem d_LoopRankerModel_way_61 : decode b_LoopRankerModel_way 61 = .ok (.imul, 1) := by decide +kernel
theorem d_LoopRankerModel_way_62 : decode b_LoopRankerModel_way 62 = .ok (.iadd, 1) := by decide +kernel
theorem d_LoopRankerModel_way_63 : decode b_LoopRankerModel_way 63 = .ok (.ifCond .gt 7, 3) := by decide +kernel
theorem d_LoopRankerModel_way_66 : decode b_LoopRankerModel_way 66 = .ok (.iconst 1, 1) := by decide +kernel
theorem d_LoopRankerModel_way_67 : decode b_LoopRankerModel_way 67 = .ok (.goto 4, 3) := by decide +kernel
theorem d_LoopRankerModel_way_70 : decode b_LoopRankerModel_way 70 = .ok (.iconst 0, 1) := by decide +kernel
theorem d_LoopRankerModel_way_71 : decode b_LoopRankerModel_way 71 = .ok (.istore 6, 2) := by decide +kernel
theorem d_LoopRankerModel_way_73 : decode b_LoopRankerModel_way 73 = .ok (.iinc 7 1, 3) := by decide +kernel
theorem d_LoopRankerModel_way_76 : decode b_LoopRankerModel_way 76 = .ok (.goto (-52), 3) := by decide +kernel
theorem d_LoopRankerModel_way_79 : decode b_LoopRankerModel_way 79 = .ok (.iload 6, 2) := by decide +kernel
theorem d_LoopRankerModel_way_81 : decode b_LoopRankerModel_way 81 = .ok (.ireturn, 1) := by decide +kernel
theorem d_LoopRankerModel_endless_0 : decode b_LoopRankerModel_endless 0 = .ok (.aload_n 0, 1) := by decide +kernel
theorem d_LoopRankerModel_endless_1 : decode b_LoopRankerModel_endless 1 = .ok (.iload_n 1, 1) := by decide +kernel
theorem d_LoopRankerModel_endless_2 : decode b_LoopRankerModel_endless 2 = .ok (.iload_n 2, 1) := by decide +kernel
theorem d_LoopRankerModel_endless_3 : decode b_LoopRankerModel_endless 3 = .ok (.iload_n 3, 1) := by decide +kernel
theorem d_LoopRankerModel_endless_4 : decode b_LoopRankerModel_endless 4 = .ok (.iload_n 2, 1) := by decide +kernel
theorem d_LoopRankerModel_endless_5 : decode b_LoopRankerModel_endless 5 = .ok (.iload_n 3, 1) := by decide +kernel
theorem d_LoopRankerModel_endless_6 : decode b_LoopRankerModel_endless 6 = .ok (.invokevirtual 61, 3) := by decide +kernel
theorem d_LoopRankerModel_endless_9 : decode b_LoopRankerModel_endless 9 = .ok (.istore 4, 2) := by decide +kernel
theorem d_LoopRankerModel_endless_11 : decode b_LoopRankerModel_endless 11 = .ok (.iconst 4, 1) := by decide +kernel
theorem d_LoopRankerModel_endless_12 : decode b_LoopRankerModel_endless 12 = .ok (.iload_n 1, 1) := by decide +kernel
theorem d_LoopRankerModel_endless_13 : decode b_LoopRankerModel_endless 13 = .ok (.imul, 1) := by decide +kernel
theorem d_LoopRankerModel_endless_14 : decode b_LoopRankerModel_endless 14 = .ok (.istore 5, 2) := by decide +kernel
theorem d_LoopRankerModel_endless_16 : decode b_LoopRankerModel_endless 16 = .ok (.iload 5, 2) := by decide +kernel
theorem d_LoopRankerModel_endless_18 : decode b_LoopRankerModel_endless 18 = .ok (.iconst 4, 1) := by decide +kernel
theorem d_LoopRankerModel_endless_19 : decode b_LoopRankerModel_endless 19 = .ok (.iload_n 1, 1) := by decide +kernel
theorem d_LoopRankerModel_endless_20 : decode b_LoopRankerModel_endless 20 = .ok (.imul, 1) := by decide +kernel
theorem d_LoopRankerModel_endless_21 : decode b_LoopRankerModel_endless 21 = .ok (.aload_n 0, 1) := by decide +kernel
theorem d_LoopRankerModel_endless_22 : decode b_LoopRankerModel_endless 22 = .ok (.getfield 7, 3) := by decide +kernel
theorem d_LoopRankerModel_endless_25 : decode b_LoopRankerModel_endless 25 = .ok (.iload_n 1, 1) := by decide +kernel
theorem d_LoopRankerModel_endless_26 : decode b_LoopRankerModel_endless 26 = .ok (.iaload, 1) := by decide +kernel
theorem d_LoopRankerModel_endless_27 : decode b_LoopRankerModel_endless 27 = .ok (.iadd, 1) := by decide +kernel
theorem d_LoopRankerModel_endless_28 : decode b_LoopRankerModel_endless 28 = .ok (.if_icmp .ge 97, 3) := by decide +kernel
theorem d_LoopRankerModel_endless_31 : decode b_LoopRankerModel_endless 31 = .ok (.iload 4, 2) := by decide +kernel
theorem d_LoopRankerModel_endless_33 : decode b_LoopRankerModel_endless 33 = .ok (.ifCond .ne 79, 3) := by decide +kernel
theorem d_LoopRankerModel_endless_36 : decode b_LoopRankerModel_endless 36 = .ok (.aload_n 0, 1) := by decide +kernel
theorem d_LoopRankerModel_endless_37 : decode b_LoopRankerModel_endless 37 = .ok (.iload_n 1, 1) := by decide +kernel
theorem d_LoopRankerModel_endless_38 : decode b_LoopRankerModel_endless 38 = .ok (.aload_n 0, 1) := by decide +kernel
theorem d_LoopRankerModel_endless_39 : decode b_LoopRankerModel_endless 39 = .ok (.getfield 16, 3) := by decide +kernel
theorem d_LoopRankerModel_endless_42 : decode b_LoopRankerModel_endless 42 = .ok (.iload 5, 2) := by decide +kernel
theorem d_LoopRankerModel_endless_44 : decode b_LoopRankerModel_endless 44 = .ok (.iaload, 1) := by decide +kernel
theorem d_LoopRankerModel_endless_45 : decode b_LoopRankerModel_endless 45 = .ok (.ineg, 1) := by decide +kernel
theorem d_LoopRankerModel_endless_46 : decode b_LoopRankerModel_endless 46 = .ok (.aload_n 0, 1) := by decide +kernel
theorem d_LoopRankerModel_endless_47 : decode b_LoopRankerModel_endless 47 = .ok (.getfield 13, 3) := by decide +kernel
theorem d_LoopRankerModel_endless_50 : decode b_LoopRankerModel_endless 50 = .ok (.iload 5, 2) := by decide +kernel
theorem d_LoopRankerModel_endless_52 : decode b_LoopRankerModel_endless 52 = .ok (.iaload, 1) := by decide +kernel
theorem d_LoopRankerModel_endless_53 : decode b_LoopRankerModel_endless 53 = .ok (.iload_n 2, 1) := by decide +kernel
theorem d_LoopRankerModel_endless_54 : decode b_LoopRankerModel_endless 54 = .ok (.iload_n 3, 1) := by decide +kernel
theorem d_LoopRankerModel_endless_55 : decode b_LoopRankerModel_endless 55 = .ok (.invokevirtual 61, 3) := by decide +kernel
theorem d_LoopRankerModel_endless_58 : decode b_LoopRankerModel_endless 58 = .ok (.ifCond .ne 54, 3) := by decide +kernel
theorem d_LoopRankerModel_endless_61 : decode b_LoopRankerModel_endless 61 = .ok (.aload_n 0, 1) := by decide +kernel
theorem d_LoopRankerModel_endless_62 : decode b_LoopRankerModel_endless 62 = .ok (.iload_n 1, 1) := by decide +kernel
theorem d_LoopRankerModel_endless_63 : decode b_LoopRankerModel_endless 63 = .ok (.aload_n 0, 1) := by decide +kernel
theorem d_LoopRankerModel_endless_64 : decode b_LoopRankerModel_endless 64 = .ok (.getfield 16, 3) := by decide +kernel
theorem d_LoopRankerModel_endless_67 : decode b_LoopRankerModel_endless 67 = .ok (.iload 5, 2) := by decide +kernel
theorem d_LoopRankerModel_endless_69 : decode b_LoopRankerModel_endless 69 = .ok (.iaload, 1) := by decide +kernel
theorem d_LoopRankerModel_endless_70 : decode b_LoopRankerModel_endless 70 = .ok (.aload_n 0, 1) := by decide +kernel
theorem d_LoopRankerModel_endless_71 : decode b_LoopRankerModel_endless 71 = .ok (.getfield 13, 3) := by decide +kernel
theorem d_LoopRankerModel_endless_74 : decode b_LoopRankerModel_endless 74 = .ok (.iload 5, 2) := by decide +kernel
theorem d_LoopRankerModel_endless_76 : decode b_LoopRankerModel_endless 76 = .ok (.iaload, 1) := by decide +kernel
theorem d_LoopRankerModel_endless_77 : decode b_LoopRankerModel_endless 77 = .ok (.ineg, 1) := by decide +kernel
theorem d_LoopRankerModel_endless_78 : decode b_LoopRankerModel_endless 78 = .ok (.iload_n 2, 1) := by decide +kernel
theorem d_LoopRankerModel_endless_79 : decode b_LoopRankerModel_endless 79 = .ok (.iload_n 3, 1) := by decide +kernel
theorem d_LoopRankerModel_endless_80 : decode b_LoopRankerModel_endless 80 = .ok (.invokevirtual 61, 3) := by decide +kernel
theorem d_LoopRankerModel_endless_83 : decode b_LoopRankerModel_endless 83 = .ok (.ifCond .ne 29, 3) := by decide +kernel
theorem d_LoopRankerModel_endless_86 : decode b_LoopRankerModel_endless 86 = .ok (.aload_n 0, 1) := by decide +kernel
theorem d_LoopRankerModel_endless_87 : decode b_LoopRankerModel_endless 87 = .ok (.iload_n 1, 1) := by decide +kernel
theorem d_LoopRankerModel_endless_88 : decode b_LoopRankerModel_endless 88 = .ok (.aload_n 0, 1) := by decide +kernel
theorem d_LoopRankerModel_endless_89 : decode b_LoopRankerModel_endless 89 = .ok (.getfield 13, 3) := by decide +kernel
theorem d_LoopRankerModel_endless_92 : decode b_LoopRankerModel_endless 92 = .ok (.iload 5, 2) := by decide +kernel
theorem d_LoopRankerModel_endless_94 : decode b_LoopRankerModel_endless 94 = .ok (.iaload, 1) := by decide +kernel
theorem d_LoopRankerModel_endless_95 : decode b_LoopRankerModel_endless 95 = .ok (.ineg, 1) := by decide +kernel
theorem d_LoopRankerModel_endless_96 : decode b_LoopRankerModel_endless 96 = .ok (.aload_n 0, 1) := by decide +kernel
theorem d_LoopRankerModel_endless_97 : decode b_LoopRankerModel_endless 97 = .ok (.getfield 16, 3) := by decide +kernel
theorem d_LoopRankerModel_endless_100 : decode b_LoopRankerModel_endless 100 = .ok (.iload 5, 2) := by decide +kernel
theorem d_LoopRankerModel_endless_102 : decode b_LoopRankerModel_endless 102 = .ok (.iaload, 1) := by decide +kernel
theorem d_LoopRankerModel_endless_103 : decode b_LoopRankerModel_endless 103 = .ok (.ineg, 1) := by decide +kernel
theorem d_LoopRankerModel_endless_104 : decode b_LoopRankerModel_endless 104 = .ok (.iload_n 2, 1) := by decide +kernel
theorem d_LoopRankerModel_endless_105 : decode b_LoopRankerModel_endless 105 = .ok (.iload_n 3, 1) := by decide +kernel
theorem d_LoopRankerModel_endless_106 : decode b_LoopRankerModel_endless 106 = .ok (.invokevirtual 61, 3) := by decide +kernel
theorem d_LoopRankerModel_endless_109 : decode b_LoopRankerModel_endless 109 = .ok (.ifCond .eq 7, 3) := by decide +kernel
theorem d_LoopRankerModel_endless_112 : decode b_LoopRankerModel_endless 112 = .ok (.iconst 1, 1) := by decide +kernel
theorem d_LoopRankerModel_endless_113 : decode b_LoopRankerModel_endless 113 = .ok (.goto 4, 3) := by decide +kernel
theorem d_LoopRankerModel_endless_116 : decode b_LoopRankerModel_endless 116 = .ok (.iconst 0, 1) := by decide +kernel
theorem d_LoopRankerModel_endless_117 : decode b_LoopRankerModel_endless 117 = .ok (.istore 4, 2) := by decide +kernel
theorem d_LoopRankerModel_endless_119 : decode b_LoopRankerModel_endless 119 = .ok (.iinc 5 1, 3) := by decide +kernel
theorem d_LoopRankerModel_endless_122 : decode b_LoopRankerModel_endless 122 = .ok (.goto (-106), 3) := by decide +kernel
theorem d_LoopRankerModel_endless_125 : decode b_LoopRankerModel_endless 125 = .ok (.iload 4, 2) := by decide +kernel
theorem d_LoopRankerModel_endless_127 : decode b_LoopRankerModel_endless 127 = .ok (.ireturn, 1) := by decide +kernel
theorem d_LoopRankerModel_empty_0 : decode b_LoopRankerModel_empty 0 = .ok (.aload_n 0, 1) := by decide +kernel
theorem d_LoopRankerModel_empty_1 : decode b_LoopRankerModel_empty 1 = .ok (.iload_n 1, 1) := by decide +kernel
theorem d_LoopRankerModel_empty_2 : decode b_LoopRankerModel_empty 2 = .ok (.iconst 0, 1) := by decide +kernel
theorem d_LoopRankerModel_empty_3 : decode b_LoopRankerModel_empty 3 = .ok (.iconst 0, 1) := by decide +kernel
theorem d_LoopRankerModel_empty_4 : decode b_LoopRankerModel_empty 4 = .ok (.invokevirtual 65, 3) := by decide +kernel
theorem d_LoopRankerModel_empty_7 : decode b_LoopRankerModel_empty 7 = .ok (.aload_n 0, 1) := by decide +kernel
theorem d_LoopRankerModel_empty_8 : decode b_LoopRankerModel_empty 8 = .ok (.getfield 46, 3) := by decide +kernel
theorem d_LoopRankerModel_empty_11 : decode b_LoopRankerModel_empty 11 = .ok (.ifCond .ne 7, 3) := by decide +kernel
theorem d_LoopRankerModel_empty_14 : decode b_LoopRankerModel_empty 14 = .ok (.iconst 1, 1) := by decide +kernel
theorem d_LoopRankerModel_empty_15 : decode b_LoopRankerModel_empty 15 = .ok (.goto 4, 3) := by decide +kernel
theorem d_LoopRankerModel_empty_18 : decode b_LoopRankerModel_empty 18 = .ok (.iconst 0, 1) := by decide +kernel
theorem d_LoopRankerModel_empty_19 : decode b_LoopRankerModel_empty 19 = .ok (.ireturn, 1) := by decide +kernel
theorem d_LoopRankerModel_said_0 : decode b_LoopRankerModel_said 0 = .ok (.aload_n 0, 1) := by decide +kernel
theorem d_LoopRankerModel_said_1 : decode b_LoopRankerModel_said 1 = .ok (.iload_n 1, 1) := by decide +kernel
theorem d_LoopRankerModel_said_2 : decode b_LoopRankerModel_said 2 = .ok (.iload_n 2, 1) := by decide +kernel
theorem d_LoopRankerModel_said_3 : decode b_LoopRankerModel_said 3 = .ok (.iload_n 3, 1) := by decide +kernel
theorem d_LoopRankerModel_said_4 : decode b_LoopRankerModel_said 4 = .ok (.invokevirtual 65, 3) := by decide +kernel
theorem d_LoopRankerModel_said_7 : decode b_LoopRankerModel_said 7 = .ok (.aload_n 0, 1) := by decide +kernel
theorem d_LoopRankerModel_said_8 : decode b_LoopRankerModel_said 8 = .ok (.iload_n 1, 1) := by decide +kernel
theorem d_LoopRankerModel_said_9 : decode b_LoopRankerModel_said 9 = .ok (.iload_n 2, 1) := by decide +kernel
theorem d_LoopRankerModel_said_10 : decode b_LoopRankerModel_said 10 = .ok (.iload_n 3, 1) := by decide +kernel
theorem d_LoopRankerModel_said_11 : decode b_LoopRankerModel_said 11 = .ok (.invokevirtual 69, 3) := by decide +kernel
theorem d_LoopRankerModel_said_14 : decode b_LoopRankerModel_said 14 = .ok (.ifCond .ne 7, 3) := by decide +kernel
theorem d_LoopRankerModel_said_17 : decode b_LoopRankerModel_said 17 = .ok (.iconst 1, 1) := by decide +kernel
theorem d_LoopRankerModel_said_18 : decode b_LoopRankerModel_said 18 = .ok (.goto 4, 3) := by decide +kernel
theorem d_LoopRankerModel_said_21 : decode b_LoopRankerModel_said 21 = .ok (.iconst 0, 1) := by decide +kernel
theorem d_LoopRankerModel_said_22 : decode b_LoopRankerModel_said 22 = .ok (.ireturn, 1) := by decide +kernel
theorem d_LoopRankerModel_down_0 : decode b_LoopRankerModel_down 0 = .ok (.lload_n 0, 1) := by decide +kernel
theorem d_LoopRankerModel_down_1 : decode b_LoopRankerModel_down 1 = .ok (.lload_n 2, 1) := by decide +kernel
theorem d_LoopRankerModel_down_2 : decode b_LoopRankerModel_down 2 = .ok (.ldiv, 1) := by decide +kernel
theorem d_LoopRankerModel_down_3 : decode b_LoopRankerModel_down 3 = .ok (.lstore 4, 2) := by decide +kernel
theorem d_LoopRankerModel_down_5 : decode b_LoopRankerModel_down 5 = .ok (.lload_n 0, 1) := by decide +kernel
theorem d_LoopRankerModel_down_6 : decode b_LoopRankerModel_down 6 = .ok (.lload_n 2, 1) := by decide +kernel
theorem d_LoopRankerModel_down_7 : decode b_LoopRankerModel_down 7 = .ok (.lrem, 1) := by decide +kernel
theorem d_LoopRankerModel_down_8 : decode b_LoopRankerModel_down 8 = .ok (.lconst 0, 1) := by decide +kernel
theorem d_LoopRankerModel_down_9 : decode b_LoopRankerModel_down 9 = .ok (.lcmp, 1) := by decide +kernel
theorem d_LoopRankerModel_down_10 : decode b_LoopRankerModel_down 10 = .ok (.ifCond .ge 10, 3) := by decide +kernel
theorem d_LoopRankerModel_down_13 : decode b_LoopRankerModel_down 13 = .ok (.lload 4, 2) := by decide +kernel
theorem d_LoopRankerModel_down_15 : decode b_LoopRankerModel_down 15 = .ok (.lconst 1, 1) := by decide +kernel
theorem d_LoopRankerModel_down_16 : decode b_LoopRankerModel_down 16 = .ok (.lsub, 1) := by decide +kernel
theorem d_LoopRankerModel_down_17 : decode b_LoopRankerModel_down 17 = .ok (.goto 5, 3) := by decide +kernel
theorem d_LoopRankerModel_down_20 : decode b_LoopRankerModel_down 20 = .ok (.lload 4, 2) := by decide +kernel
theorem d_LoopRankerModel_down_22 : decode b_LoopRankerModel_down 22 = .ok (.lreturn, 1) := by decide +kernel
theorem d_LoopRankerModel_greatest_0 : decode b_LoopRankerModel_greatest 0 = .ok (.aload_n 0, 1) := by decide +kernel
theorem d_LoopRankerModel_greatest_1 : decode b_LoopRankerModel_greatest 1 = .ok (.iload_n 1, 1) := by decide +kernel
theorem d_LoopRankerModel_greatest_2 : decode b_LoopRankerModel_greatest 2 = .ok (.invokevirtual 38, 3) := by decide +kernel
theorem d_LoopRankerModel_greatest_5 : decode b_LoopRankerModel_greatest 5 = .ok (.ifCond .eq 21, 3) := by decide +kernel
theorem d_LoopRankerModel_greatest_8 : decode b_LoopRankerModel_greatest 8 = .ok (.iload_n 2, 1) := by decide +kernel
theorem d_LoopRankerModel_greatest_9 : decode b_LoopRankerModel_greatest 9 = .ok (.bipush 60, 2) := by decide +kernel
theorem d_LoopRankerModel_greatest_11 : decode b_LoopRankerModel_greatest 11 = .ok (.invokestatic 42, 3) := by decide +kernel
theorem d_LoopRankerModel_greatest_14 : decode b_LoopRankerModel_greatest 14 = .ok (.ifCond .eq 12, 3) := by decide +kernel
theorem d_LoopRankerModel_greatest_17 : decode b_LoopRankerModel_greatest 17 = .ok (.iload_n 3, 1) := by decide +kernel
theorem d_LoopRankerModel_greatest_18 : decode b_LoopRankerModel_greatest 18 = .ok (.bipush 60, 2) := by decide +kernel
theorem d_LoopRankerModel_greatest_20 : decode b_LoopRankerModel_greatest 20 = .ok (.invokestatic 42, 3) := by decide +kernel
theorem d_LoopRankerModel_greatest_23 : decode b_LoopRankerModel_greatest 23 = .ok (.ifCond .ne 7, 3) := by decide +kernel
theorem d_LoopRankerModel_greatest_26 : decode b_LoopRankerModel_greatest 26 = .ok (.ldc2_w 73, 3) := by decide +kernel
theorem d_LoopRankerModel_greatest_29 : decode b_LoopRankerModel_greatest 29 = .ok (.lreturn, 1) := by decide +kernel
theorem d_LoopRankerModel_greatest_30 : decode b_LoopRankerModel_greatest 30 = .ok (.aload_n 0, 1) := by decide +kernel
theorem d_LoopRankerModel_greatest_31 : decode b_LoopRankerModel_greatest 31 = .ok (.iload_n 1, 1) := by decide +kernel
theorem d_LoopRankerModel_greatest_32 : decode b_LoopRankerModel_greatest 32 = .ok (.invokevirtual 75, 3) := by decide +kernel
theorem d_LoopRankerModel_greatest_35 : decode b_LoopRankerModel_greatest 35 = .ok (.ifCond .eq 7, 3) := by decide +kernel
theorem d_LoopRankerModel_greatest_38 : decode b_LoopRankerModel_greatest 38 = .ok (.ldc2_w 78, 3) := by decide +kernel
theorem d_LoopRankerModel_greatest_41 : decode b_LoopRankerModel_greatest 41 = .ok (.lreturn, 1) := by decide +kernel
theorem d_LoopRankerModel_greatest_42 : decode b_LoopRankerModel_greatest 42 = .ok (.aload_n 0, 1) := by decide +kernel
theorem d_LoopRankerModel_greatest_43 : decode b_LoopRankerModel_greatest 43 = .ok (.iload_n 1, 1) := by decide +kernel
theorem d_LoopRankerModel_greatest_44 : decode b_LoopRankerModel_greatest 44 = .ok (.iload_n 2, 1) := by decide +kernel
theorem d_LoopRankerModel_greatest_45 : decode b_LoopRankerModel_greatest 45 = .ok (.iload_n 3, 1) := by decide +kernel
theorem d_LoopRankerModel_greatest_46 : decode b_LoopRankerModel_greatest 46 = .ok (.invokevirtual 80, 3) := by decide +kernel
theorem d_LoopRankerModel_greatest_49 : decode b_LoopRankerModel_greatest 49 = .ok (.ifCond .eq 17, 3) := by decide +kernel
theorem d_LoopRankerModel_greatest_52 : decode b_LoopRankerModel_greatest 52 = .ok (.aload_n 0, 1) := by decide +kernel
theorem d_LoopRankerModel_greatest_53 : decode b_LoopRankerModel_greatest 53 = .ok (.getfield 54, 3) := by decide +kernel
theorem d_LoopRankerModel_greatest_56 : decode b_LoopRankerModel_greatest 56 = .ok (.aload_n 0, 1) := by decide +kernel
theorem d_LoopRankerModel_greatest_57 : decode b_LoopRankerModel_greatest 57 = .ok (.getfield 50, 3) := by decide +kernel
theorem d_LoopRankerModel_greatest_60 : decode b_LoopRankerModel_greatest 60 = .ok (.invokestatic 83, 3) := by decide +kernel
theorem d_LoopRankerModel_greatest_63 : decode b_LoopRankerModel_greatest 63 = .ok (.goto 6, 3) := by decide +kernel
theorem d_LoopRankerModel_greatest_66 : decode b_LoopRankerModel_greatest 66 = .ok (.ldc2_w 73, 3) := by decide +kernel
theorem d_LoopRankerModel_greatest_69 : decode b_LoopRankerModel_greatest 69 = .ok (.lreturn, 1) := by decide +kernel
theorem d_LoopRankerModel_never_0 : decode b_LoopRankerModel_never 0 = .ok (.aload_n 0, 1) := by decide +kernel
theorem d_LoopRankerModel_never_1 : decode b_LoopRankerModel_never 1 = .ok (.iload_n 1, 1) := by decide +kernel
theorem d_LoopRankerModel_never_2 : decode b_LoopRankerModel_never 2 = .ok (.invokevirtual 75, 3) := by decide +kernel
theorem d_LoopRankerModel_never_5 : decode b_LoopRankerModel_never 5 = .ok (.ifCond .ne 30, 3) := by decide +kernel
theorem d_LoopRankerModel_never_8 : decode b_LoopRankerModel_never 8 = .ok (.aload_n 0, 1) := by decide +kernel
theorem d_LoopRankerModel_never_9 : decode b_LoopRankerModel_never 9 = .ok (.iload_n 1, 1) := by decide +kernel
theorem d_LoopRankerModel_never_10 : decode b_LoopRankerModel_never 10 = .ok (.iload_n 2, 1) := by decide +kernel
theorem d_LoopRankerModel_never_11 : decode b_LoopRankerModel_never 11 = .ok (.iload_n 3, 1) := by decide +kernel
theorem d_LoopRankerModel_never_12 : decode b_LoopRankerModel_never 12 = .ok (.invokevirtual 80, 3) := by decide +kernel
theorem d_LoopRankerModel_never_15 : decode b_LoopRankerModel_never 15 = .ok (.ifCond .eq 24, 3) := by decide +kernel
theorem d_LoopRankerModel_never_18 : decode b_LoopRankerModel_never 18 = .ok (.aload_n 0, 1) := by decide +kernel
theorem d_LoopRankerModel_never_19 : decode b_LoopRankerModel_never 19 = .ok (.getfield 54, 3) := by decide +kernel
theorem d_LoopRankerModel_never_22 : decode b_LoopRankerModel_never 22 = .ok (.iload 4, 2) := by decide +kernel
theorem d_LoopRankerModel_never_24 : decode b_LoopRankerModel_never 24 = .ok (.ineg, 1) := by decide +kernel
theorem d_LoopRankerModel_never_25 : decode b_LoopRankerModel_never 25 = .ok (.i2l, 1) := by decide +kernel
theorem d_LoopRankerModel_never_26 : decode b_LoopRankerModel_never 26 = .ok (.aload_n 0, 1) := by decide +kernel
theorem d_LoopRankerModel_never_27 : decode b_LoopRankerModel_never 27 = .ok (.getfield 50, 3) := by decide +kernel
theorem d_LoopRankerModel_never_30 : decode b_LoopRankerModel_never 30 = .ok (.lmul, 1) := by decide +kernel
theorem d_LoopRankerModel_never_31 : decode b_LoopRankerModel_never 31 = .ok (.lcmp, 1) := by decide +kernel
theorem d_LoopRankerModel_never_32 : decode b_LoopRankerModel_never 32 = .ok (.ifCond .gt 7, 3) := by decide +kernel
theorem d_LoopRankerModel_never_35 : decode b_LoopRankerModel_never 35 = .ok (.iconst 1, 1) := by decide +kernel
theorem d_LoopRankerModel_never_36 : decode b_LoopRankerModel_never 36 = .ok (.goto 4, 3) := by decide +kernel
theorem d_LoopRankerModel_never_39 : decode b_LoopRankerModel_never 39 = .ok (.iconst 0, 1) := by decide +kernel
theorem d_LoopRankerModel_never_40 : decode b_LoopRankerModel_never 40 = .ok (.ireturn, 1) := by decide +kernel
theorem d_LoopRankerModel_has_0 : decode b_LoopRankerModel_has 0 = .ok (.iload 4, 2) := by decide +kernel
theorem d_LoopRankerModel_has_2 : decode b_LoopRankerModel_has 2 = .ok (.iconst 2, 1) := by decide +kernel
theorem d_LoopRankerModel_has_3 : decode b_LoopRankerModel_has 3 = .ok (.if_icmp .ne 29, 3) := by decide +kernel
theorem d_LoopRankerModel_has_6 : decode b_LoopRankerModel_has 6 = .ok (.aload_n 0, 1) := by decide +kernel
theorem d_LoopRankerModel_has_7 : decode b_LoopRankerModel_has 7 = .ok (.iload_n 1, 1) := by decide +kernel
theorem d_LoopRankerModel_has_8 : decode b_LoopRankerModel_has 8 = .ok (.invokevirtual 75, 3) := by decide +kernel
theorem d_LoopRankerModel_has_11 : decode b_LoopRankerModel_has 11 = .ok (.ifCond .ne 15, 3) := by decide +kernel
theorem d_LoopRankerModel_has_14 : decode b_LoopRankerModel_has 14 = .ok (.aload_n 0, 1) := by decide +kernel
theorem d_LoopRankerModel_has_15 : decode b_LoopRankerModel_has 15 = .ok (.iload_n 1, 1) := by decide +kernel
theorem d_LoopRankerModel_has_16 : decode b_LoopRankerModel_has 16 = .ok (.iload_n 2, 1) := by decide +kernel
theorem d_LoopRankerModel_has_17 : decode b_LoopRankerModel_has 17 = .ok (.ineg, 1) := by decide +kernel
theorem d_LoopRankerModel_has_18 : decode b_LoopRankerModel_has 18 = .ok (.iload_n 3, 1) := by decide +kernel
theorem d_LoopRankerModel_has_19 : decode b_LoopRankerModel_has 19 = .ok (.ineg, 1) := by decide +kernel
theorem d_LoopRankerModel_has_20 : decode b_LoopRankerModel_has 20 = .ok (.invokevirtual 80, 3) := by decide +kernel
theorem d_LoopRankerModel_has_23 : decode b_LoopRankerModel_has 23 = .ok (.ifCond .eq 7, 3) := by decide +kernel
theorem d_LoopRankerModel_has_26 : decode b_LoopRankerModel_has 26 = .ok (.iconst 1, 1) := by decide +kernel
theorem d_LoopRankerModel_has_27 : decode b_LoopRankerModel_has 27 = .ok (.goto 4, 3) := by decide +kernel
theorem d_LoopRankerModel_has_30 : decode b_LoopRankerModel_has 30 = .ok (.iconst 0, 1) := by decide +kernel
theorem d_LoopRankerModel_has_31 : decode b_LoopRankerModel_has 31 = .ok (.ireturn, 1) := by decide +kernel
theorem d_LoopRankerModel_has_32 : decode b_LoopRankerModel_has 32 = .ok (.bipush 6, 2) := by decide +kernel
theorem d_LoopRankerModel_has_34 : decode b_LoopRankerModel_has 34 = .ok (.iload_n 1, 1) := by decide +kernel
theorem d_LoopRankerModel_has_35 : decode b_LoopRankerModel_has 35 = .ok (.imul, 1) := by decide +kernel
theorem d_LoopRankerModel_has_36 : decode b_LoopRankerModel_has 36 = .ok (.istore 5, 2) := by decide +kernel
theorem d_LoopRankerModel_has_38 : decode b_LoopRankerModel_has 38 = .ok (.iload_n 2, 1) := by decide +kernel
theorem d_LoopRankerModel_has_39 : decode b_LoopRankerModel_has 39 = .ok (.aload_n 0, 1) := by decide +kernel
theorem d_LoopRankerModel_has_40 : decode b_LoopRankerModel_has 40 = .ok (.getfield 22, 3) := by decide +kernel
theorem d_LoopRankerModel_has_43 : decode b_LoopRankerModel_has 43 = .ok (.iload 5, 2) := by decide +kernel
theorem d_LoopRankerModel_has_45 : decode b_LoopRankerModel_has 45 = .ok (.iaload, 1) := by decide +kernel
theorem d_LoopRankerModel_has_46 : decode b_LoopRankerModel_has 46 = .ok (.imul, 1) := by decide +kernel
theorem d_LoopRankerModel_has_47 : decode b_LoopRankerModel_has 47 = .ok (.iload_n 3, 1) := by decide +kernel
theorem d_LoopRankerModel_has_48 : decode b_LoopRankerModel_has 48 = .ok (.aload_n 0, 1) := by decide +kernel
theorem d_LoopRankerModel_has_49 : decode b_LoopRankerModel_has 49 = .ok (.getfield 22, 3) := by decide +kernel
theorem d_LoopRankerModel_has_52 : decode b_LoopRankerModel_has 52 = .ok (.iload 5, 2) := by decide +kernel
theorem d_LoopRankerModel_has_54 : decode b_LoopRankerModel_has 54 = .ok (.iconst 3, 1) := by decide +kernel
theorem d_LoopRankerModel_has_55 : decode b_LoopRankerModel_has 55 = .ok (.iadd, 1) := by decide +kernel
theorem d_LoopRankerModel_has_56 : decode b_LoopRankerModel_has 56 = .ok (.iaload, 1) := by decide +kernel
theorem d_LoopRankerModel_has_57 : decode b_LoopRankerModel_has 57 = .ok (.imul, 1) := by decide +kernel
theorem d_LoopRankerModel_has_58 : decode b_LoopRankerModel_has 58 = .ok (.iadd, 1) := by decide +kernel
theorem d_LoopRankerModel_has_59 : decode b_LoopRankerModel_has 59 = .ok (.iload_n 2, 1) := by decide +kernel
theorem d_LoopRankerModel_has_60 : decode b_LoopRankerModel_has 60 = .ok (.isub, 1) := by decide +kernel
theorem d_LoopRankerModel_has_61 : decode b_LoopRankerModel_has 61 = .ok (.istore 6, 2) := by decide +kernel
theorem d_LoopRankerModel_has_63 : decode b_LoopRankerModel_has 63 = .ok (.iload_n 2, 1) := by decide +kernel
theorem d_LoopRankerModel_has_64 : decode b_LoopRankerModel_has 64 = .ok (.aload_n 0, 1) := by decide +kernel
theorem d_LoopRankerModel_has_65 : decode b_LoopRankerModel_has 65 = .ok (.getfield 22, 3) := by decide +kernel
theorem d_LoopRankerModel_has_68 : decode b_LoopRankerModel_has 68 = .ok (.iload 5, 2) := by decide +kernel
theorem d_LoopRankerModel_has_70 : decode b_LoopRankerModel_has 70 = .ok (.iconst 1, 1) := by decide +kernel
theorem d_LoopRankerModel_has_71 : decode b_LoopRankerModel_has 71 = .ok (.iadd, 1) := by decide +kernel
theorem d_LoopRankerModel_has_72 : decode b_LoopRankerModel_has 72 = .ok (.iaload, 1) := by decide +kernel
theorem d_LoopRankerModel_has_73 : decode b_LoopRankerModel_has 73 = .ok (.imul, 1) := by decide +kernel
theorem d_LoopRankerModel_has_74 : decode b_LoopRankerModel_has 74 = .ok (.iload_n 3, 1) := by decide +kernel
theorem d_LoopRankerModel_has_75 : decode b_LoopRankerModel_has 75 = .ok (.aload_n 0, 1) := by decide +kernel
theorem d_LoopRankerModel_has_76 : decode b_LoopRankerModel_has 76 = .ok (.getfield 22, 3) := by decide +kernel
theorem d_LoopRankerModel_has_79 : decode b_LoopRankerModel_has 79 = .ok (.iload 5, 2) := by decide +kernel
theorem d_LoopRankerModel_has_81 : decode b_LoopRankerModel_has 81 = .ok (.iconst 4, 1) := by decide +kernel
theorem d_LoopRankerModel_has_82 : decode b_LoopRankerModel_has 82 = .ok (.iadd, 1) := by decide +kernel
theorem d_LoopRankerModel_has_83 : decode b_LoopRankerModel_has 83 = .ok (.iaload, 1) := by decide +kernel
theorem d_LoopRankerModel_has_84 : decode b_LoopRankerModel_has 84 = .ok (.imul, 1) := by decide +kernel
theorem d_LoopRankerModel_has_85 : decode b_LoopRankerModel_has 85 = .ok (.iadd, 1) := by decide +kernel
theorem d_LoopRankerModel_has_86 : decode b_LoopRankerModel_has 86 = .ok (.iload_n 3, 1) := by decide +kernel
theorem d_LoopRankerModel_has_87 : decode b_LoopRankerModel_has 87 = .ok (.isub, 1) := by decide +kernel
theorem d_LoopRankerModel_has_88 : decode b_LoopRankerModel_has 88 = .ok (.istore 7, 2) := by decide +kernel
theorem d_LoopRankerModel_has_90 : decode b_LoopRankerModel_has 90 = .ok (.iload_n 2, 1) := by decide +kernel
theorem d_LoopRankerModel_has_91 : decode b_LoopRankerModel_has 91 = .ok (.aload_n 0, 1) := by decide +kernel
theorem d_LoopRankerModel_has_92 : decode b_LoopRankerModel_has 92 = .ok (.getfield 22, 3) := by decide +kernel
theorem d_LoopRankerModel_has_95 : decode b_LoopRankerModel_has 95 = .ok (.iload 5, 2) := by decide +kernel
theorem d_LoopRankerModel_has_97 : decode b_LoopRankerModel_has 97 = .ok (.iconst 2, 1) := by decide +kernel
theorem d_LoopRankerModel_has_98 : decode b_LoopRankerModel_has 98 = .ok (.iadd, 1) := by decide +kernel
theorem d_LoopRankerModel_has_99 : decode b_LoopRankerModel_has 99 = .ok (.iaload, 1) := by decide +kernel
theorem d_LoopRankerModel_has_100 : decode b_LoopRankerModel_has 100 = .ok (.imul, 1) := by decide +kernel
theorem d_LoopRankerModel_has_101 : decode b_LoopRankerModel_has 101 = .ok (.iload_n 3, 1) := by decide +kernel
theorem d_LoopRankerModel_has_102 : decode b_LoopRankerModel_has 102 = .ok (.aload_n 0, 1) := by decide +kernel
theorem d_LoopRankerModel_has_103 : decode b_LoopRankerModel_has 103 = .ok (.getfield 22, 3) := by decide +kernel
theorem d_LoopRankerModel_has_106 : decode b_LoopRankerModel_has 106 = .ok (.iload 5, 2) := by decide +kernel
theorem d_LoopRankerModel_has_108 : decode b_LoopRankerModel_has 108 = .ok (.iconst 5, 1) := by decide +kernel
theorem d_LoopRankerModel_has_109 : decode b_LoopRankerModel_has 109 = .ok (.iadd, 1) := by decide +kernel
theorem d_LoopRankerModel_has_110 : decode b_LoopRankerModel_has 110 = .ok (.iaload, 1) := by decide +kernel
theorem d_LoopRankerModel_has_111 : decode b_LoopRankerModel_has 111 = .ok (.imul, 1) := by decide +kernel
theorem d_LoopRankerModel_has_112 : decode b_LoopRankerModel_has 112 = .ok (.iadd, 1) := by decide +kernel
theorem d_LoopRankerModel_has_113 : decode b_LoopRankerModel_has 113 = .ok (.istore 8, 2) := by decide +kernel
theorem d_LoopRankerModel_has_115 : decode b_LoopRankerModel_has 115 = .ok (.aload_n 0, 1) := by decide +kernel
theorem d_LoopRankerModel_has_116 : decode b_LoopRankerModel_has 116 = .ok (.iload_n 1, 1) := by decide +kernel
theorem d_LoopRankerModel_has_117 : decode b_LoopRankerModel_has 117 = .ok (.iload 6, 2) := by decide +kernel
theorem d_LoopRankerModel_has_119 : decode b_LoopRankerModel_has 119 = .ok (.iload 7, 2) := by decide +kernel
theorem d_LoopRankerModel_has_121 : decode b_LoopRankerModel_has 121 = .ok (.iload 4, 2) := by decide +kernel
theorem d_LoopRankerModel_has_123 : decode b_LoopRankerModel_has 123 = .ok (.ifCond .ne 8, 3) := by decide +kernel
theorem d_LoopRankerModel_has_126 : decode b_LoopRankerModel_has 126 = .ok (.iload 8, 2) := by decide +kernel
theorem d_LoopRankerModel_has_128 : decode b_LoopRankerModel_has 128 = .ok (.goto 7, 3) := by decide +kernel
theorem d_LoopRankerModel_has_131 : decode b_LoopRankerModel_has 131 = .ok (.iload 8, 2) := by decide +kernel
theorem d_LoopRankerModel_has_133 : decode b_LoopRankerModel_has 133 = .ok (.iconst 1, 1) := by decide +kernel
theorem d_LoopRankerModel_has_134 : decode b_LoopRankerModel_has 134 = .ok (.iadd, 1) := by decide +kernel
theorem d_LoopRankerModel_has_135 : decode b_LoopRankerModel_has 135 = .ok (.invokevirtual 87, 3) := by decide +kernel
theorem d_LoopRankerModel_has_138 : decode b_LoopRankerModel_has 138 = .ok (.ireturn, 1) := by decide +kernel
theorem d_LoopRankerModel_holds_0 : decode b_LoopRankerModel_holds 0 = .ok (.aload_n 0, 1) := by decide +kernel
theorem d_LoopRankerModel_holds_1 : decode b_LoopRankerModel_holds 1 = .ok (.iload_n 1, 1) := by decide +kernel
theorem d_LoopRankerModel_holds_2 : decode b_LoopRankerModel_holds 2 = .ok (.invokevirtual 38, 3) := by decide +kernel
theorem d_LoopRankerModel_holds_5 : decode b_LoopRankerModel_holds 5 = .ok (.ifCond .eq 38, 3) := by decide +kernel
theorem d_LoopRankerModel_holds_8 : decode b_LoopRankerModel_holds 8 = .ok (.iload_n 2, 1) := by decide +kernel
theorem d_LoopRankerModel_holds_9 : decode b_LoopRankerModel_holds 9 = .ok (.iconst 4, 1) := by decide +kernel
theorem d_LoopRankerModel_holds_10 : decode b_LoopRankerModel_holds 10 = .ok (.invokestatic 42, 3) := by decide +kernel
theorem d_LoopRankerModel_holds_13 : decode b_LoopRankerModel_holds 13 = .ok (.ifCond .eq 30, 3) := by decide +kernel
theorem d_LoopRankerModel_holds_16 : decode b_LoopRankerModel_holds 16 = .ok (.iload_n 3, 1) := by decide +kernel
theorem d_LoopRankerModel_holds_17 : decode b_LoopRankerModel_holds 17 = .ok (.iconst 4, 1) := by decide +kernel
theorem d_LoopRankerModel_holds_18 : decode b_LoopRankerModel_holds 18 = .ok (.invokestatic 42, 3) := by decide +kernel
theorem d_LoopRankerModel_holds_21 : decode b_LoopRankerModel_holds 21 = .ok (.ifCond .eq 22, 3) := by decide +kernel
theorem d_LoopRankerModel_holds_24 : decode b_LoopRankerModel_holds 24 = .ok (.iload_n 2, 1) := by decide +kernel
theorem d_LoopRankerModel_holds_25 : decode b_LoopRankerModel_holds 25 = .ok (.ifCond .ne 7, 3) := by decide +kernel
theorem d_LoopRankerModel_holds_28 : decode b_LoopRankerModel_holds 28 = .ok (.iload_n 3, 1) := by decide +kernel
theorem d_LoopRankerModel_holds_29 : decode b_LoopRankerModel_holds 29 = .ok (.ifCond .eq 14, 3) := by decide +kernel
theorem d_LoopRankerModel_holds_32 : decode b_LoopRankerModel_holds 32 = .ok (.iload 4, 2) := by decide +kernel
theorem d_LoopRankerModel_holds_34 : decode b_LoopRankerModel_holds 34 = .ok (.ifCond .lt 9, 3) := by decide +kernel
theorem d_LoopRankerModel_holds_37 : decode b_LoopRankerModel_holds 37 = .ok (.iload 4, 2) := by decide +kernel
theorem d_LoopRankerModel_holds_39 : decode b_LoopRankerModel_holds 39 = .ok (.iconst 2, 1) := by decide +kernel
theorem d_LoopRankerModel_holds_40 : decode b_LoopRankerModel_holds 40 = .ok (.if_icmp .le 5, 3) := by decide +kernel
theorem d_LoopRankerModel_holds_43 : decode b_LoopRankerModel_holds 43 = .ok (.iconst 0, 1) := by decide +kernel
theorem d_LoopRankerModel_holds_44 : decode b_LoopRankerModel_holds 44 = .ok (.ireturn, 1) := by decide +kernel
theorem d_LoopRankerModel_holds_45 : decode b_LoopRankerModel_holds 45 = .ok (.aload_n 0, 1) := by decide +kernel
theorem d_LoopRankerModel_holds_46 : decode b_LoopRankerModel_holds 46 = .ok (.iload_n 1, 1) := by decide +kernel
theorem d_LoopRankerModel_holds_47 : decode b_LoopRankerModel_holds 47 = .ok (.iload_n 2, 1) := by decide +kernel
theorem d_LoopRankerModel_holds_48 : decode b_LoopRankerModel_holds 48 = .ok (.iload_n 3, 1) := by decide +kernel
theorem d_LoopRankerModel_holds_49 : decode b_LoopRankerModel_holds 49 = .ok (.iload 4, 2) := by decide +kernel
theorem d_LoopRankerModel_holds_51 : decode b_LoopRankerModel_holds 51 = .ok (.invokevirtual 91, 3) := by decide +kernel
theorem d_LoopRankerModel_holds_54 : decode b_LoopRankerModel_holds 54 = .ok (.ireturn, 1) := by decide +kernel
theorem d_LoopRankerModel_removes_0 : decode b_LoopRankerModel_removes 0 = .ok (.iconst 0, 1) := by decide +kernel
theorem d_LoopRankerModel_removes_1 : decode b_LoopRankerModel_removes 1 = .ok (.istore_n 3, 1) := by decide +kernel
theorem d_LoopRankerModel_removes_2 : decode b_LoopRankerModel_removes 2 = .ok (.iconst 0, 1) := by decide +kernel
theorem d_LoopRankerModel_removes_3 : decode b_LoopRankerModel_removes 3 = .ok (.istore 4, 2) := by decide +kernel
theorem d_LoopRankerModel_removes_5 : decode b_LoopRankerModel_removes 5 = .ok (.iload 4, 2) := by decide +kernel
theorem d_LoopRankerModel_removes_7 : decode b_LoopRankerModel_removes 7 = .ok (.aload_n 0, 1) := by decide +kernel
theorem d_LoopRankerModel_removes_8 : decode b_LoopRankerModel_removes 8 = .ok (.getfield 34, 3) := by decide +kernel
theorem d_LoopRankerModel_removes_11 : decode b_LoopRankerModel_removes 11 = .ok (.if_icmp .ge 65, 3) := by decide +kernel
theorem d_LoopRankerModel_removes_14 : decode b_LoopRankerModel_removes 14 = .ok (.aload_n 0, 1) := by decide +kernel
theorem d_LoopRankerModel_removes_15 : decode b_LoopRankerModel_removes 15 = .ok (.getfield 25, 3) := by decide +kernel
theorem d_LoopRankerModel_removes_18 : decode b_LoopRankerModel_removes 18 = .ok (.iload 4, 2) := by decide +kernel
theorem d_LoopRankerModel_removes_20 : decode b_LoopRankerModel_removes 20 = .ok (.iaload, 1) := by decide +kernel
theorem d_LoopRankerModel_removes_21 : decode b_LoopRankerModel_removes 21 = .ok (.ifCond .ge 49, 3) := by decide +kernel
theorem d_LoopRankerModel_removes_24 : decode b_LoopRankerModel_removes 24 = .ok (.aload_n 0, 1) := by decide +kernel
theorem d_LoopRankerModel_removes_25 : decode b_LoopRankerModel_removes 25 = .ok (.iload 4, 2) := by decide +kernel
theorem d_LoopRankerModel_removes_27 : decode b_LoopRankerModel_removes 27 = .ok (.iload_n 1, 1) := by decide +kernel
theorem d_LoopRankerModel_removes_28 : decode b_LoopRankerModel_removes 28 = .ok (.iload_n 2, 1) := by decide +kernel
theorem d_LoopRankerModel_removes_29 : decode b_LoopRankerModel_removes 29 = .ok (.iconst 0, 1) := by decide +kernel
theorem d_LoopRankerModel_removes_30 : decode b_LoopRankerModel_removes 30 = .ok (.invokevirtual 91, 3) := by decide +kernel
theorem d_LoopRankerModel_removes_33 : decode b_LoopRankerModel_removes 33 = .ok (.ifCond .ne 5, 3) := by decide +kernel
theorem d_LoopRankerModel_removes_36 : decode b_LoopRankerModel_removes 36 = .ok (.iconst 0, 1) := by decide +kernel
theorem d_LoopRankerModel_removes_37 : decode b_LoopRankerModel_removes 37 = .ok (.ireturn, 1) := by decide +kernel
theorem d_LoopRankerModel_removes_38 : decode b_LoopRankerModel_removes 38 = .ok (.aload_n 0, 1) := by decide +kernel
theorem d_LoopRankerModel_removes_39 : decode b_LoopRankerModel_removes 39 = .ok (.iload 4, 2) := by decide +kernel
theorem d_LoopRankerModel_removes_41 : decode b_LoopRankerModel_removes 41 = .ok (.iload_n 1, 1) := by decide +kernel
theorem d_LoopRankerModel_removes_42 : decode b_LoopRankerModel_removes 42 = .ok (.iload_n 2, 1) := by decide +kernel
theorem d_LoopRankerModel_removes_43 : decode b_LoopRankerModel_removes 43 = .ok (.iconst 1, 1) := by decide +kernel
theorem d_LoopRankerModel_removes_44 : decode b_LoopRankerModel_removes 44 = .ok (.invokevirtual 91, 3) := by decide +kernel
theorem d_LoopRankerModel_removes_47 : decode b_LoopRankerModel_removes 47 = .ok (.ifCond .eq 21, 3) := by decide +kernel
theorem d_LoopRankerModel_removes_50 : decode b_LoopRankerModel_removes 50 = .ok (.aload_n 0, 1) := by decide +kernel
theorem d_LoopRankerModel_removes_51 : decode b_LoopRankerModel_removes 51 = .ok (.iload 4, 2) := by decide +kernel
theorem d_LoopRankerModel_removes_53 : decode b_LoopRankerModel_removes 53 = .ok (.iload_n 1, 1) := by decide +kernel
theorem d_LoopRankerModel_removes_54 : decode b_LoopRankerModel_removes 54 = .ok (.iload_n 2, 1) := by decide +kernel
theorem d_LoopRankerModel_removes_55 : decode b_LoopRankerModel_removes 55 = .ok (.iconst 2, 1) := by decide +kernel
theorem d_LoopRankerModel_removes_56 : decode b_LoopRankerModel_removes 56 = .ok (.invokevirtual 91, 3) := by decide +kernel
theorem d_LoopRankerModel_removes_59 : decode b_LoopRankerModel_removes 59 = .ok (.ifCond .eq 9, 3) := by decide +kernel
theorem d_LoopRankerModel_removes_62 : decode b_LoopRankerModel_removes 62 = .ok (.iload_n 3, 1) := by decide +kernel
theorem d_LoopRankerModel_removes_63 : decode b_LoopRankerModel_removes 63 = .ok (.iconst 1, 1) := by decide +kernel
theorem d_LoopRankerModel_removes_64 : decode b_LoopRankerModel_removes 64 = .ok (.iadd, 1) := by decide +kernel
theorem d_LoopRankerModel_removes_65 : decode b_LoopRankerModel_removes 65 = .ok (.goto 4, 3) := by decide +kernel
theorem d_LoopRankerModel_removes_68 : decode b_LoopRankerModel_removes 68 = .ok (.iload_n 3, 1) := by decide +kernel
theorem d_LoopRankerModel_removes_69 : decode b_LoopRankerModel_removes 69 = .ok (.istore_n 3, 1) := by decide +kernel
theorem d_LoopRankerModel_removes_70 : decode b_LoopRankerModel_removes 70 = .ok (.iinc 4 1, 3) := by decide +kernel
theorem d_LoopRankerModel_removes_73 : decode b_LoopRankerModel_removes 73 = .ok (.goto (-68), 3) := by decide +kernel
theorem d_LoopRankerModel_removes_76 : decode b_LoopRankerModel_removes 76 = .ok (.iload_n 3, 1) := by decide +kernel
theorem d_LoopRankerModel_removes_77 : decode b_LoopRankerModel_removes 77 = .ok (.ireturn, 1) := by decide +kernel
theorem d_LoopRankerModel_size_0 : decode b_LoopRankerModel_size 0 = .ok (.iload_n 0, 1) := by decide +kernel
theorem d_LoopRankerModel_size_1 : decode b_LoopRankerModel_size 1 = .ok (.ifCond .ge 8, 3) := by decide +kernel
theorem d_LoopRankerModel_size_4 : decode b_LoopRankerModel_size 4 = .ok (.iload_n 0, 1) := by decide +kernel
theorem d_LoopRankerModel_size_5 : decode b_LoopRankerModel_size 5 = .ok (.ineg, 1) := by decide +kernel
theorem d_LoopRankerModel_size_6 : decode b_LoopRankerModel_size 6 = .ok (.goto 4, 3) := by decide +kernel
theorem d_LoopRankerModel_size_9 : decode b_LoopRankerModel_size 9 = .ok (.iload_n 0, 1) := by decide +kernel
theorem d_LoopRankerModel_size_10 : decode b_LoopRankerModel_size 10 = .ok (.ireturn, 1) := by decide +kernel
theorem d_LoopRankerModel_before_0 : decode b_LoopRankerModel_before 0 = .ok (.iload_n 0, 1) := by decide +kernel
theorem d_LoopRankerModel_before_1 : decode b_LoopRankerModel_before 1 = .ok (.invokestatic 94, 3) := by decide +kernel
theorem d_LoopRankerModel_before_4 : decode b_LoopRankerModel_before 4 = .ok (.iload_n 1, 1) := by decide +kernel
theorem d_LoopRankerModel_before_5 : decode b_LoopRankerModel_before 5 = .ok (.invokestatic 94, 3) := by decide +kernel
theorem d_LoopRankerModel_before_8 : decode b_LoopRankerModel_before 8 = .ok (.iadd, 1) := by decide +kernel
theorem d_LoopRankerModel_before_9 : decode b_LoopRankerModel_before 9 = .ok (.istore 4, 2) := by decide +kernel
theorem d_LoopRankerModel_before_11 : decode b_LoopRankerModel_before 11 = .ok (.iload_n 2, 1) := by decide +kernel
theorem d_LoopRankerModel_before_12 : decode b_LoopRankerModel_before 12 = .ok (.invokestatic 94, 3) := by decide +kernel
theorem d_LoopRankerModel_before_15 : decode b_LoopRankerModel_before 15 = .ok (.iload_n 3, 1) := by decide +kernel
theorem d_LoopRankerModel_before_16 : decode b_LoopRankerModel_before 16 = .ok (.invokestatic 94, 3) := by decide +kernel
theorem d_LoopRankerModel_before_19 : decode b_LoopRankerModel_before 19 = .ok (.iadd, 1) := by decide +kernel
theorem d_LoopRankerModel_before_20 : decode b_LoopRankerModel_before 20 = .ok (.istore 5, 2) := by decide +kernel
theorem d_LoopRankerModel_before_22 : decode b_LoopRankerModel_before 22 = .ok (.iload 4, 2) := by decide +kernel
theorem d_LoopRankerModel_before_24 : decode b_LoopRankerModel_before 24 = .ok (.iload 5, 2) := by decide +kernel
theorem d_LoopRankerModel_before_26 : decode b_LoopRankerModel_before 26 = .ok (.if_icmp .eq 18, 3) := by decide +kernel
theorem d_LoopRankerModel_before_29 : decode b_LoopRankerModel_before 29 = .ok (.iload 4, 2) := by decide +kernel
theorem d_LoopRankerModel_before_31 : decode b_LoopRankerModel_before 31 = .ok (.iload 5, 2) := by decide +kernel
theorem d_LoopRankerModel_before_33 : decode b_LoopRankerModel_before 33 = .ok (.if_icmp .ge 7, 3) := by decide +kernel
theorem d_LoopRankerModel_before_36 : decode b_LoopRankerModel_before 36 = .ok (.iconst 1, 1) := by decide +kernel
theorem d_LoopRankerModel_before_37 : decode b_LoopRankerModel_before 37 = .ok (.goto 35, 3) := by decide +kernel
theorem d_LoopRankerModel_before_40 : decode b_LoopRankerModel_before 40 = .ok (.iconst 0, 1) := by decide +kernel
theorem d_LoopRankerModel_before_41 : decode b_LoopRankerModel_before 41 = .ok (.goto 31, 3) := by decide +kernel
theorem d_LoopRankerModel_before_44 : decode b_LoopRankerModel_before 44 = .ok (.iload_n 0, 1) := by decide +kernel
theorem d_LoopRankerModel_before_45 : decode b_LoopRankerModel_before 45 = .ok (.iload_n 2, 1) := by decide +kernel
theorem d_LoopRankerModel_before_46 : decode b_LoopRankerModel_before 46 = .ok (.if_icmp .eq 16, 3) := by decide +kernel
theorem d_LoopRankerModel_before_49 : decode b_LoopRankerModel_before 49 = .ok (.iload_n 0, 1) := by decide +kernel
theorem d_LoopRankerModel_before_50 : decode b_LoopRankerModel_before 50 = .ok (.iload_n 2, 1) := by decide +kernel
theorem d_LoopRankerModel_before_51 : decode b_LoopRankerModel_before 51 = .ok (.if_icmp .le 7, 3) := by decide +kernel
theorem d_LoopRankerModel_before_54 : decode b_LoopRankerModel_before 54 = .ok (.iconst 1, 1) := by decide +kernel
theorem d_LoopRankerModel_before_55 : decode b_LoopRankerModel_before 55 = .ok (.goto 17, 3) := by decide +kernel
theorem d_LoopRankerModel_before_58 : decode b_LoopRankerModel_before 58 = .ok (.iconst 0, 1) := by decide +kernel
theorem d_LoopRankerModel_before_59 : decode b_LoopRankerModel_before 59 = .ok (.goto 13, 3) := by decide +kernel
theorem d_LoopRankerModel_before_62 : decode b_LoopRankerModel_before 62 = .ok (.iload_n 1, 1) := by decide +kernel
theorem d_LoopRankerModel_before_63 : decode b_LoopRankerModel_before 63 = .ok (.iload_n 3, 1) := by decide +kernel
theorem d_LoopRankerModel_before_64 : decode b_LoopRankerModel_before 64 = .ok (.if_icmp .le 7, 3) := by decide +kernel
theorem d_LoopRankerModel_before_67 : decode b_LoopRankerModel_before 67 = .ok (.iconst 1, 1) := by decide +kernel
theorem d_LoopRankerModel_before_68 : decode b_LoopRankerModel_before 68 = .ok (.goto 4, 3) := by decide +kernel
theorem d_LoopRankerModel_before_71 : decode b_LoopRankerModel_before 71 = .ok (.iconst 0, 1) := by decide +kernel
theorem d_LoopRankerModel_before_72 : decode b_LoopRankerModel_before 72 = .ok (.ireturn, 1) := by decide +kernel
theorem d_LoopRankerModel_level_0 : decode b_LoopRankerModel_level 0 = .ok (.iconst 0, 1) := by decide +kernel
theorem d_LoopRankerModel_level_1 : decode b_LoopRankerModel_level 1 = .ok (.istore_n 1, 1) := by decide +kernel
theorem d_LoopRankerModel_level_2 : decode b_LoopRankerModel_level 2 = .ok (.bipush (-4), 2) := by decide +kernel
theorem d_LoopRankerModel_level_4 : decode b_LoopRankerModel_level 4 = .ok (.istore_n 2, 1) := by decide +kernel
theorem d_LoopRankerModel_level_5 : decode b_LoopRankerModel_level 5 = .ok (.iload_n 2, 1) := by decide +kernel
theorem d_LoopRankerModel_level_6 : decode b_LoopRankerModel_level 6 = .ok (.iconst 4, 1) := by decide +kernel
theorem d_LoopRankerModel_level_7 : decode b_LoopRankerModel_level 7 = .ok (.if_icmp .gt 109, 3) := by decide +kernel
theorem d_LoopRankerModel_level_10 : decode b_LoopRankerModel_level 10 = .ok (.bipush (-4), 2) := by decide +kernel
theorem d_LoopRankerModel_level_12 : decode b_LoopRankerModel_level 12 = .ok (.istore_n 3, 1) := by decide +kernel
theorem d_LoopRankerModel_level_13 : decode b_LoopRankerModel_level 13 = .ok (.iload_n 3, 1) := by decide +kernel
theorem d_LoopRankerModel_level_14 : decode b_LoopRankerModel_level 14 = .ok (.iconst 4, 1) := by decide +kernel
theorem d_LoopRankerModel_level_15 : decode b_LoopRankerModel_level 15 = .ok (.if_icmp .gt 95, 3) := by decide +kernel
theorem d_LoopRankerModel_level_18 : decode b_LoopRankerModel_level 18 = .ok (.iload_n 2, 1) := by decide +kernel
theorem d_LoopRankerModel_level_19 : decode b_LoopRankerModel_level 19 = .ok (.ifCond .ne 11, 3) := by decide +kernel
theorem d_LoopRankerModel_level_22 : decode b_LoopRankerModel_level 22 = .ok (.iload_n 3, 1) := by decide +kernel
theorem d_LoopRankerModel_level_23 : decode b_LoopRankerModel_level 23 = .ok (.ifCond .ne 7, 3) := by decide +kernel
theorem d_LoopRankerModel_level_26 : decode b_LoopRankerModel_level 26 = .ok (.iconst 0, 1) := by decide +kernel
theorem d_LoopRankerModel_level_27 : decode b_LoopRankerModel_level 27 = .ok (.goto 9, 3) := by decide +kernel
theorem d_LoopRankerModel_level_30 : decode b_LoopRankerModel_level 30 = .ok (.aload_n 0, 1) := by decide +kernel
theorem d_LoopRankerModel_level_31 : decode b_LoopRankerModel_level 31 = .ok (.iload_n 2, 1) := by decide +kernel
theorem d_LoopRankerModel_level_32 : decode b_LoopRankerModel_level 32 = .ok (.iload_n 3, 1) := by decide +kernel
theorem d_LoopRankerModel_level_33 : decode b_LoopRankerModel_level 33 = .ok (.invokevirtual 98, 3) := by decide +kernel
theorem d_LoopRankerModel_level_36 : decode b_LoopRankerModel_level 36 = .ok (.istore 4, 2) := by decide +kernel
theorem d_LoopRankerModel_level_38 : decode b_LoopRankerModel_level 38 = .ok (.iload 4, 2) := by decide +kernel
theorem d_LoopRankerModel_level_40 : decode b_LoopRankerModel_level 40 = .ok (.iload_n 1, 1) := by decide +kernel
theorem d_LoopRankerModel_level_41 : decode b_LoopRankerModel_level 41 = .ok (.if_icmp .gt 40, 3) := by decide +kernel
theorem d_LoopRankerModel_level_44 : decode b_LoopRankerModel_level 44 = .ok (.iload 4, 2) := by decide +kernel
theorem d_LoopRankerModel_level_46 : decode b_LoopRankerModel_level 46 = .ok (.ifCond .le 58, 3) := by decide +kernel
theorem d_LoopRankerModel_level_49 : decode b_LoopRankerModel_level 49 = .ok (.iload 4, 2) := by decide +kernel
theorem d_LoopRankerModel_level_51 : decode b_LoopRankerModel_level 51 = .ok (.iload_n 1, 1) := by decide +kernel
theorem d_LoopRankerModel_level_52 : decode b_LoopRankerModel_level 52 = .ok (.if_icmp .ne 52, 3) := by decide +kernel
theorem d_LoopRankerModel_level_55 : decode b_LoopRankerModel_level 55 = .ok (.iload_n 2, 1) := by decide +kernel
theorem d_LoopRankerModel_level_56 : decode b_LoopRankerModel_level 56 = .ok (.iload_n 3, 1) := by decide +kernel
theorem d_LoopRankerModel_level_57 : decode b_LoopRankerModel_level 57 = .ok (.aload_n 0, 1) := by decide +kernel
theorem d_LoopRankerModel_level_58 : decode b_LoopRankerModel_level 58 = .ok (.getfield 28, 3) := by decide +kernel
theorem d_LoopRankerModel_level_61 : decode b_LoopRankerModel_level 61 = .ok (.aload_n 0, 1) := by decide +kernel
theorem d_LoopRankerModel_level_62 : decode b_LoopRankerModel_level 62 = .ok (.getfield 102, 3) := by decide +kernel
theorem d_LoopRankerModel_level_65 : decode b_LoopRankerModel_level 65 = .ok (.iaload, 1) := by decide +kernel
theorem d_LoopRankerModel_level_66 : decode b_LoopRankerModel_level 66 = .ok (.aload_n 0, 1) := by decide +kernel
theorem d_LoopRankerModel_level_67 : decode b_LoopRankerModel_level 67 = .ok (.getfield 31, 3) := by decide +kernel
theorem d_LoopRankerModel_level_70 : decode b_LoopRankerModel_level 70 = .ok (.aload_n 0, 1) := by decide +kernel
theorem d_LoopRankerModel_level_71 : decode b_LoopRankerModel_level 71 = .ok (.getfield 102, 3) := by decide +kernel
theorem d_LoopRankerModel_level_74 : decode b_LoopRankerModel_level 74 = .ok (.iaload, 1) := by decide +kernel
theorem d_LoopRankerModel_level_75 : decode b_LoopRankerModel_level 75 = .ok (.invokestatic 105, 3) := by decide +kernel
theorem d_LoopRankerModel_level_78 : decode b_LoopRankerModel_level 78 = .ok (.ifCond .eq 26, 3) := by decide +kernel
theorem d_LoopRankerModel_level_81 : decode b_LoopRankerModel_level 81 = .ok (.iload 4, 2) := by decide +kernel
theorem d_LoopRankerModel_level_83 : decode b_LoopRankerModel_level 83 = .ok (.istore_n 1, 1) := by decide +kernel
theorem d_LoopRankerModel_level_84 : decode b_LoopRankerModel_level 84 = .ok (.aload_n 0, 1) := by decide +kernel
theorem d_LoopRankerModel_level_85 : decode b_LoopRankerModel_level 85 = .ok (.getfield 28, 3) := by decide +kernel
theorem d_LoopRankerModel_level_88 : decode b_LoopRankerModel_level 88 = .ok (.aload_n 0, 1) := by decide +kernel
theorem d_LoopRankerModel_level_89 : decode b_LoopRankerModel_level 89 = .ok (.getfield 102, 3) := by decide +kernel
theorem d_LoopRankerModel_level_92 : decode b_LoopRankerModel_level 92 = .ok (.iload_n 2, 1) := by decide +kernel
theorem d_LoopRankerModel_level_93 : decode b_LoopRankerModel_level 93 = .ok (.iastore, 1) := by decide +kernel
theorem d_LoopRankerModel_level_94 : decode b_LoopRankerModel_level 94 = .ok (.aload_n 0, 1) := by decide +kernel
theorem d_LoopRankerModel_level_95 : decode b_LoopRankerModel_level 95 = .ok (.getfield 31, 3) := by decide +kernel
theorem d_LoopRankerModel_level_98 : decode b_LoopRankerModel_level 98 = .ok (.aload_n 0, 1) := by decide +kernel
theorem d_LoopRankerModel_level_99 : decode b_LoopRankerModel_level 99 = .ok (.getfield 102, 3) := by decide +kernel
theorem d_LoopRankerModel_level_102 : decode b_LoopRankerModel_level 102 = .ok (.iload_n 3, 1) := by decide +kernel
theorem d_LoopRankerModel_level_103 : decode b_LoopRankerModel_level 103 = .ok (.iastore, 1) := by decide +kernel
theorem d_LoopRankerModel_level_104 : decode b_LoopRankerModel_level 104 = .ok (.iinc 3 1, 3) := by decide +kernel
theorem d_LoopRankerModel_level_107 : decode b_LoopRankerModel_level 107 = .ok (.goto (-94), 3) := by decide +kernel
theorem d_LoopRankerModel_level_110 : decode b_LoopRankerModel_level 110 = .ok (.iinc 2 1, 3) := by decide +kernel
theorem d_LoopRankerModel_level_113 : decode b_LoopRankerModel_level 113 = .ok (.goto (-108), 3) := by decide +kernel
theorem d_LoopRankerModel_level_116 : decode b_LoopRankerModel_level 116 = .ok (.iload_n 1, 1) := by decide +kernel
theorem d_LoopRankerModel_level_117 : decode b_LoopRankerModel_level 117 = .ok (.ifCond .ne 5, 3) := by decide +kernel
theorem d_LoopRankerModel_level_120 : decode b_LoopRankerModel_level 120 = .ok (.iconst 0, 1) := by decide +kernel
theorem d_LoopRankerModel_level_121 : decode b_LoopRankerModel_level 121 = .ok (.ireturn, 1) := by decide +kernel
theorem d_LoopRankerModel_level_122 : decode b_LoopRankerModel_level 122 = .ok (.iconst 0, 1) := by decide +kernel
theorem d_LoopRankerModel_level_123 : decode b_LoopRankerModel_level 123 = .ok (.istore_n 2, 1) := by decide +kernel
theorem d_LoopRankerModel_level_124 : decode b_LoopRankerModel_level 124 = .ok (.iload_n 2, 1) := by decide +kernel
theorem d_LoopRankerModel_level_125 : decode b_LoopRankerModel_level 125 = .ok (.aload_n 0, 1) := by decide +kernel
theorem d_LoopRankerModel_level_126 : decode b_LoopRankerModel_level 126 = .ok (.getfield 34, 3) := by decide +kernel
theorem d_LoopRankerModel_level_129 : decode b_LoopRankerModel_level 129 = .ok (.if_icmp .ge 82, 3) := by decide +kernel
theorem d_LoopRankerModel_level_132 : decode b_LoopRankerModel_level 132 = .ok (.aload_n 0, 1) := by decide +kernel
theorem d_LoopRankerModel_level_133 : decode b_LoopRankerModel_level 133 = .ok (.getfield 25, 3) := by decide +kernel
theorem d_LoopRankerModel_level_136 : decode b_LoopRankerModel_level 136 = .ok (.iload_n 2, 1) := by decide +kernel
theorem d_LoopRankerModel_level_137 : decode b_LoopRankerModel_level 137 = .ok (.iaload, 1) := by decide +kernel
theorem d_LoopRankerModel_level_138 : decode b_LoopRankerModel_level 138 = .ok (.ifCond .ge 67, 3) := by decide +kernel
theorem d_LoopRankerModel_level_141 : decode b_LoopRankerModel_level 141 = .ok (.aload_n 0, 1) := by decide +kernel
theorem d_LoopRankerModel_level_142 : decode b_LoopRankerModel_level 142 = .ok (.iload_n 2, 1) := by decide +kernel
theorem d_LoopRankerModel_level_143 : decode b_LoopRankerModel_level 143 = .ok (.aload_n 0, 1) := by decide +kernel
theorem d_LoopRankerModel_level_144 : decode b_LoopRankerModel_level 144 = .ok (.getfield 28, 3) := by decide +kernel
theorem d_LoopRankerModel_level_147 : decode b_LoopRankerModel_level 147 = .ok (.aload_n 0, 1) := by decide +kernel
theorem d_LoopRankerModel_level_148 : decode b_LoopRankerModel_level 148 = .ok (.getfield 102, 3) := by decide +kernel
theorem d_LoopRankerModel_level_151 : decode b_LoopRankerModel_level 151 = .ok (.iaload, 1) := by decide +kernel
theorem d_LoopRankerModel_level_152 : decode b_LoopRankerModel_level 152 = .ok (.aload_n 0, 1) := by decide +kernel
theorem d_LoopRankerModel_level_153 : decode b_LoopRankerModel_level 153 = .ok (.getfield 31, 3) := by decide +kernel
theorem d_LoopRankerModel_level_156 : decode b_LoopRankerModel_level 156 = .ok (.aload_n 0, 1) := by decide +kernel
theorem d_LoopRankerModel_level_157 : decode b_LoopRankerModel_level 157 = .ok (.getfield 102, 3) := by decide +kernel
theorem d_LoopRankerModel_level_160 : decode b_LoopRankerModel_level 160 = .ok (.iaload, 1) := by decide +kernel
theorem d_LoopRankerModel_level_161 : decode b_LoopRankerModel_level 161 = .ok (.iconst 1, 1) := by decide +kernel
theorem d_LoopRankerModel_level_162 : decode b_LoopRankerModel_level 162 = .ok (.invokevirtual 91, 3) := by decide +kernel
theorem d_LoopRankerModel_level_165 : decode b_LoopRankerModel_level 165 = .ok (.ifCond .eq 40, 3) := by decide +kernel
theorem d_LoopRankerModel_level_168 : decode b_LoopRankerModel_level 168 = .ok (.aload_n 0, 1) := by decide +kernel
theorem d_LoopRankerModel_level_169 : decode b_LoopRankerModel_level 169 = .ok (.iload_n 2, 1) := by decide +kernel
theorem d_LoopRankerModel_level_170 : decode b_LoopRankerModel_level 170 = .ok (.aload_n 0, 1) := by decide +kernel
theorem d_LoopRankerModel_level_171 : decode b_LoopRankerModel_level 171 = .ok (.getfield 28, 3) := by decide +kernel
theorem d_LoopRankerModel_level_174 : decode b_LoopRankerModel_level 174 = .ok (.aload_n 0, 1) := by decide +kernel
theorem d_LoopRankerModel_level_175 : decode b_LoopRankerModel_level 175 = .ok (.getfield 102, 3) := by decide +kernel
theorem d_LoopRankerModel_level_178 : decode b_LoopRankerModel_level 178 = .ok (.iaload, 1) := by decide +kernel
theorem d_LoopRankerModel_level_179 : decode b_LoopRankerModel_level 179 = .ok (.aload_n 0, 1) := by decide +kernel
theorem d_LoopRankerModel_level_180 : decode b_LoopRankerModel_level 180 = .ok (.getfield 31, 3) := by decide +kernel
theorem d_LoopRankerModel_level_183 : decode b_LoopRankerModel_level 183 = .ok (.aload_n 0, 1) := by decide +kernel
theorem d_LoopRankerModel_level_184 : decode b_LoopRankerModel_level 184 = .ok (.getfield 102, 3) := by decide +kernel
theorem d_LoopRankerModel_level_187 : decode b_LoopRankerModel_level 187 = .ok (.iaload, 1) := by decide +kernel
theorem d_LoopRankerModel_level_188 : decode b_LoopRankerModel_level 188 = .ok (.iconst 2, 1) := by decide +kernel
theorem d_LoopRankerModel_level_189 : decode b_LoopRankerModel_level 189 = .ok (.invokevirtual 91, 3) := by decide +kernel
theorem d_LoopRankerModel_level_192 : decode b_LoopRankerModel_level 192 = .ok (.ifCond .eq 13, 3) := by decide +kernel
theorem d_LoopRankerModel_level_195 : decode b_LoopRankerModel_level 195 = .ok (.aload_n 0, 1) := by decide +kernel
theorem d_LoopRankerModel_level_196 : decode b_LoopRankerModel_level 196 = .ok (.getfield 25, 3) := by decide +kernel
theorem d_LoopRankerModel_level_199 : decode b_LoopRankerModel_level 199 = .ok (.iload_n 2, 1) := by decide +kernel
theorem d_LoopRankerModel_level_200 : decode b_LoopRankerModel_level 200 = .ok (.aload_n 0, 1) := by decide +kernel
theorem d_LoopRankerModel_level_201 : decode b_LoopRankerModel_level 201 = .ok (.getfield 102, 3) := by decide +kernel
theorem d_LoopRankerModel_level_204 : decode b_LoopRankerModel_level 204 = .ok (.iastore, 1) := by decide +kernel
theorem d_LoopRankerModel_level_205 : decode b_LoopRankerModel_level 205 = .ok (.iinc 2 1, 3) := by decide +kernel
theorem d_LoopRankerModel_level_208 : decode b_LoopRankerModel_level 208 = .ok (.goto (-84), 3) := by decide +kernel
theorem d_LoopRankerModel_level_211 : decode b_LoopRankerModel_level 211 = .ok (.aload_n 0, 1) := by decide +kernel
theorem d_LoopRankerModel_level_212 : decode b_LoopRankerModel_level 212 = .ok (.dup, 1) := by decide +kernel
theorem d_LoopRankerModel_level_213 : decode b_LoopRankerModel_level 213 = .ok (.getfield 102, 3) := by decide +kernel
theorem d_LoopRankerModel_level_216 : decode b_LoopRankerModel_level 216 = .ok (.iconst 1, 1) := by decide +kernel
theorem d_LoopRankerModel_level_217 : decode b_LoopRankerModel_level 217 = .ok (.iadd, 1) := by decide +kernel
theorem d_LoopRankerModel_level_218 : decode b_LoopRankerModel_level 218 = .ok (.putfield 102, 3) := by decide +kernel
theorem d_LoopRankerModel_level_221 : decode b_LoopRankerModel_level 221 = .ok (.iconst 1, 1) := by decide +kernel
theorem d_LoopRankerModel_level_222 : decode b_LoopRankerModel_level 222 = .ok (.ireturn, 1) := by decide +kernel
theorem d_LoopRankerModel_left_0 : decode b_LoopRankerModel_left 0 = .ok (.iconst 0, 1) := by decide +kernel
theorem d_LoopRankerModel_left_1 : decode b_LoopRankerModel_left 1 = .ok (.istore_n 1, 1) := by decide +kernel
theorem d_LoopRankerModel_left_2 : decode b_LoopRankerModel_left 2 = .ok (.iconst 0, 1) := by decide +kernel
theorem d_LoopRankerModel_left_3 : decode b_LoopRankerModel_left 3 = .ok (.istore_n 2, 1) := by decide +kernel
theorem d_LoopRankerModel_left_4 : decode b_LoopRankerModel_left 4 = .ok (.iload_n 2, 1) := by decide +kernel
theorem d_LoopRankerModel_left_5 : decode b_LoopRankerModel_left 5 = .ok (.aload_n 0, 1) := by decide +kernel
theorem d_LoopRankerModel_left_6 : decode b_LoopRankerModel_left 6 = .ok (.getfield 34, 3) := by decide +kernel
theorem d_LoopRankerModel_left_9 : decode b_LoopRankerModel_left 9 = .ok (.if_icmp .ge 26, 3) := by decide +kernel
theorem d_LoopRankerModel_left_12 : decode b_LoopRankerModel_left 12 = .ok (.aload_n 0, 1) := by decide +kernel
theorem d_LoopRankerModel_left_13 : decode b_LoopRankerModel_left 13 = .ok (.getfield 25, 3) := by decide +kernel
theorem d_LoopRankerModel_left_16 : decode b_LoopRankerModel_left 16 = .ok (.iload_n 2, 1) := by decide +kernel
theorem d_LoopRankerModel_left_17 : decode b_LoopRankerModel_left 17 = .ok (.iaload, 1) := by decide +kernel
theorem d_LoopRankerModel_left_18 : decode b_LoopRankerModel_left 18 = .ok (.ifCond .ge 9, 3) := by decide +kernel
theorem d_LoopRankerModel_left_21 : decode b_LoopRankerModel_left 21 = .ok (.iload_n 1, 1) := by decide +kernel
theorem d_LoopRankerModel_left_22 : decode b_LoopRankerModel_left 22 = .ok (.iconst 1, 1) := by decide +kernel
theorem d_LoopRankerModel_left_23 : decode b_LoopRankerModel_left 23 = .ok (.iadd, 1) := by decide +kernel
theorem d_LoopRankerModel_left_24 : decode b_LoopRankerModel_left 24 = .ok (.goto 4, 3) := by decide +kernel
theorem d_LoopRankerModel_left_27 : decode b_LoopRankerModel_left 27 = .ok (.iload_n 1, 1) := by decide +kernel
theorem d_LoopRankerModel_left_28 : decode b_LoopRankerModel_left 28 = .ok (.istore_n 1, 1) := by decide +kernel
theorem d_LoopRankerModel_left_29 : decode b_LoopRankerModel_left 29 = .ok (.iinc 2 1, 3) := by decide +kernel
theorem d_LoopRankerModel_left_32 : decode b_LoopRankerModel_left 32 = .ok (.goto (-28), 3) := by decide +kernel
theorem d_LoopRankerModel_left_35 : decode b_LoopRankerModel_left 35 = .ok (.iload_n 1, 1) := by decide +kernel
theorem d_LoopRankerModel_left_36 : decode b_LoopRankerModel_left 36 = .ok (.ireturn, 1) := by decide +kernel
theorem d_LoopRankerModel_prove_0 : decode b_LoopRankerModel_prove 0 = .ok (.aload_n 0, 1) := by decide +kernel
theorem d_LoopRankerModel_prove_1 : decode b_LoopRankerModel_prove 1 = .ok (.iconst 0, 1) := by decide +kernel
theorem d_LoopRankerModel_prove_2 : decode b_LoopRankerModel_prove 2 = .ok (.putfield 102, 3) := by decide +kernel
theorem d_LoopRankerModel_prove_5 : decode b_LoopRankerModel_prove 5 = .ok (.iconst 0, 1) := by decide +kernel
theorem d_LoopRankerModel_prove_6 : decode b_LoopRankerModel_prove 6 = .ok (.istore_n 1, 1) := by decide +kernel
theorem d_LoopRankerModel_prove_7 : decode b_LoopRankerModel_prove 7 = .ok (.iload_n 1, 1) := by decide +kernel
theorem d_LoopRankerModel_prove_8 : decode b_LoopRankerModel_prove 8 = .ok (.bipush 6, 2) := by decide +kernel
theorem d_LoopRankerModel_prove_10 : decode b_LoopRankerModel_prove 10 = .ok (.if_icmp .ge 16, 3) := by decide +kernel
theorem d_LoopRankerModel_prove_13 : decode b_LoopRankerModel_prove 13 = .ok (.aload_n 0, 1) := by decide +kernel
theorem d_LoopRankerModel_prove_14 : decode b_LoopRankerModel_prove 14 = .ok (.getfield 25, 3) := by decide +kernel
theorem d_LoopRankerModel_prove_17 : decode b_LoopRankerModel_prove 17 = .ok (.iload_n 1, 1) := by decide +kernel
theorem d_LoopRankerModel_prove_18 : decode b_LoopRankerModel_prove 18 = .ok (.iconst (-1), 1) := by decide +kernel
theorem d_LoopRankerModel_prove_19 : decode b_LoopRankerModel_prove 19 = .ok (.iastore, 1) := by decide +kernel
theorem d_LoopRankerModel_prove_20 : decode b_LoopRankerModel_prove 20 = .ok (.iinc 1 1, 3) := by decide +kernel
theorem d_LoopRankerModel_prove_23 : decode b_LoopRankerModel_prove 23 = .ok (.goto (-16), 3) := by decide +kernel
theorem d_LoopRankerModel_prove_26 : decode b_LoopRankerModel_prove 26 = .ok (.iconst 1, 1) := by decide +kernel
theorem d_LoopRankerModel_prove_27 : decode b_LoopRankerModel_prove 27 = .ok (.istore_n 1, 1) := by decide +kernel
theorem d_LoopRankerModel_prove_28 : decode b_LoopRankerModel_prove 28 = .ok (.iload_n 1, 1) := by decide +kernel
theorem d_LoopRankerModel_prove_29 : decode b_LoopRankerModel_prove 29 = .ok (.ifCond .eq 18, 3) := by decide +kernel
theorem d_LoopRankerModel_prove_32 : decode b_LoopRankerModel_prove 32 = .ok (.aload_n 0, 1) := by decide +kernel
theorem d_LoopRankerModel_prove_33 : decode b_LoopRankerModel_prove 33 = .ok (.invokevirtual 108, 3) := by decide +kernel
theorem d_LoopRankerModel_prove_36 : decode b_LoopRankerModel_prove 36 = .ok (.ifCond .le 11, 3) := by decide +kernel
theorem d_LoopRankerModel_prove_39 : decode b_LoopRankerModel_prove 39 = .ok (.aload_n 0, 1) := by decide +kernel
theorem d_LoopRankerModel_prove_40 : decode b_LoopRankerModel_prove 40 = .ok (.invokevirtual 112, 3) := by decide +kernel
theorem d_LoopRankerModel_prove_43 : decode b_LoopRankerModel_prove 43 = .ok (.istore_n 1, 1) := by decide +kernel
theorem d_LoopRankerModel_prove_44 : decode b_LoopRankerModel_prove 44 = .ok (.goto (-16), 3) := by decide +kernel
theorem d_LoopRankerModel_prove_47 : decode b_LoopRankerModel_prove 47 = .ok (.return_, 1) := by decide +kernel
theorem d_LoopRankerModel_levels_0 : decode b_LoopRankerModel_levels 0 = .ok (.aload_n 0, 1) := by decide +kernel
theorem d_LoopRankerModel_levels_1 : decode b_LoopRankerModel_levels 1 = .ok (.invokevirtual 116, 3) := by decide +kernel
theorem d_LoopRankerModel_levels_4 : decode b_LoopRankerModel_levels 4 = .ok (.aload_n 0, 1) := by decide +kernel
theorem d_LoopRankerModel_levels_5 : decode b_LoopRankerModel_levels 5 = .ok (.getfield 102, 3) := by decide +kernel
theorem d_LoopRankerModel_levels_8 : decode b_LoopRankerModel_levels 8 = .ok (.ireturn, 1) := by decide +kernel
theorem d_LoopRankerModel_proven_0 : decode b_LoopRankerModel_proven 0 = .ok (.aload_n 0, 1) := by decide +kernel
theorem d_LoopRankerModel_proven_1 : decode b_LoopRankerModel_proven 1 = .ok (.invokevirtual 116, 3) := by decide +kernel
theorem d_LoopRankerModel_proven_4 : decode b_LoopRankerModel_proven 4 = .ok (.aload_n 0, 1) := by decide +kernel
theorem d_LoopRankerModel_proven_5 : decode b_LoopRankerModel_proven 5 = .ok (.invokevirtual 108, 3) := by decide +kernel
theorem d_LoopRankerModel_proven_8 : decode b_LoopRankerModel_proven 8 = .ok (.ifCond .ne 7, 3) := by decide +kernel
theorem d_LoopRankerModel_proven_11 : decode b_LoopRankerModel_proven 11 = .ok (.iconst 1, 1) := by decide +kernel
theorem d_LoopRankerModel_proven_12 : decode b_LoopRankerModel_proven 12 = .ok (.goto 4, 3) := by decide +kernel
theorem d_LoopRankerModel_proven_15 : decode b_LoopRankerModel_proven 15 = .ok (.iconst 0, 1) := by decide +kernel
theorem d_LoopRankerModel_proven_16 : decode b_LoopRankerModel_proven 16 = .ok (.ireturn, 1) := by decide +kernel
theorem d_LoopRankerModel_levelOf_0 : decode b_LoopRankerModel_levelOf 0 = .ok (.aload_n 0, 1) := by decide +kernel
theorem d_LoopRankerModel_levelOf_1 : decode b_LoopRankerModel_levelOf 1 = .ok (.invokevirtual 116, 3) := by decide +kernel
theorem d_LoopRankerModel_levelOf_4 : decode b_LoopRankerModel_levelOf 4 = .ok (.aload_n 0, 1) := by decide +kernel
theorem d_LoopRankerModel_levelOf_5 : decode b_LoopRankerModel_levelOf 5 = .ok (.iload_n 1, 1) := by decide +kernel
theorem d_LoopRankerModel_levelOf_6 : decode b_LoopRankerModel_levelOf 6 = .ok (.invokevirtual 38, 3) := by decide +kernel
theorem d_LoopRankerModel_levelOf_9 : decode b_LoopRankerModel_levelOf 9 = .ok (.ifCond .eq 12, 3) := by decide +kernel
theorem d_LoopRankerModel_levelOf_12 : decode b_LoopRankerModel_levelOf 12 = .ok (.aload_n 0, 1) := by decide +kernel
theorem d_LoopRankerModel_levelOf_13 : decode b_LoopRankerModel_levelOf 13 = .ok (.getfield 25, 3) := by decide +kernel
theorem d_LoopRankerModel_levelOf_16 : decode b_LoopRankerModel_levelOf 16 = .ok (.iload_n 1, 1) := by decide +kernel
theorem d_LoopRankerModel_levelOf_17 : decode b_LoopRankerModel_levelOf 17 = .ok (.iaload, 1) := by decide +kernel
theorem d_LoopRankerModel_levelOf_18 : decode b_LoopRankerModel_levelOf 18 = .ok (.goto 4, 3) := by decide +kernel
theorem d_LoopRankerModel_levelOf_21 : decode b_LoopRankerModel_levelOf 21 = .ok (.iconst (-1), 1) := by decide +kernel
theorem d_LoopRankerModel_levelOf_22 : decode b_LoopRankerModel_levelOf 22 = .ok (.ireturn, 1) := by decide +kernel
theorem d_LoopRankerModel_coefficient_0 : decode b_LoopRankerModel_coefficient 0 = .ok (.aload_n 0, 1) := by decide +kernel
theorem d_LoopRankerModel_coefficient_1 : decode b_LoopRankerModel_coefficient 1 = .ok (.invokevirtual 116, 3) := by decide +kernel
theorem d_LoopRankerModel_coefficient_4 : decode b_LoopRankerModel_coefficient 4 = .ok (.iload_n 1, 1) := by decide +kernel
theorem d_LoopRankerModel_coefficient_5 : decode b_LoopRankerModel_coefficient 5 = .ok (.ifCond .lt 11, 3) := by decide +kernel
theorem d_LoopRankerModel_coefficient_8 : decode b_LoopRankerModel_coefficient 8 = .ok (.iload_n 1, 1) := by decide +kernel
theorem d_LoopRankerModel_coefficient_9 : decode b_LoopRankerModel_coefficient 9 = .ok (.aload_n 0, 1) := by decide +kernel
theorem d_LoopRankerModel_coefficient_10 : decode b_LoopRankerModel_coefficient 10 = .ok (.getfield 102, 3) := by decide +kernel
theorem d_LoopRankerModel_coefficient_13 : decode b_LoopRankerModel_coefficient 13 = .ok (.if_icmp .lt 5, 3) := by decide +kernel
theorem d_LoopRankerModel_coefficient_16 : decode b_LoopRankerModel_coefficient 16 = .ok (.iconst 0, 1) := by decide +kernel
theorem d_LoopRankerModel_coefficient_17 : decode b_LoopRankerModel_coefficient 17 = .ok (.ireturn, 1) := by decide +kernel
theorem d_LoopRankerModel_coefficient_18 : decode b_LoopRankerModel_coefficient 18 = .ok (.iload_n 2, 1) := by decide +kernel
theorem d_LoopRankerModel_coefficient_19 : decode b_LoopRankerModel_coefficient 19 = .ok (.ifCond .ne 12, 3) := by decide +kernel
theorem d_LoopRankerModel_coefficient_22 : decode b_LoopRankerModel_coefficient 22 = .ok (.aload_n 0, 1) := by decide +kernel
theorem d_LoopRankerModel_coefficient_23 : decode b_LoopRankerModel_coefficient 23 = .ok (.getfield 28, 3) := by decide +kernel
theorem d_LoopRankerModel_coefficient_26 : decode b_LoopRankerModel_coefficient 26 = .ok (.iload_n 1, 1) := by decide +kernel
theorem d_LoopRankerModel_coefficient_27 : decode b_LoopRankerModel_coefficient 27 = .ok (.iaload, 1) := by decide +kernel
theorem d_LoopRankerModel_coefficient_28 : decode b_LoopRankerModel_coefficient 28 = .ok (.goto 18, 3) := by decide +kernel
theorem d_LoopRankerModel_coefficient_31 : decode b_LoopRankerModel_coefficient 31 = .ok (.iload_n 2, 1) := by decide +kernel
theorem d_LoopRankerModel_coefficient_32 : decode b_LoopRankerModel_coefficient 32 = .ok (.iconst 1, 1) := by decide +kernel
theorem d_LoopRankerModel_coefficient_33 : decode b_LoopRankerModel_coefficient 33 = .ok (.if_icmp .ne 12, 3) := by decide +kernel
theorem d_LoopRankerModel_coefficient_36 : decode b_LoopRankerModel_coefficient 36 = .ok (.aload_n 0, 1) := by decide +kernel
theorem d_LoopRankerModel_coefficient_37 : decode b_LoopRankerModel_coefficient 37 = .ok (.getfield 31, 3) := by decide +kernel
theorem d_LoopRankerModel_coefficient_40 : decode b_LoopRankerModel_coefficient 40 = .ok (.iload_n 1, 1) := by decide +kernel
theorem d_LoopRankerModel_coefficient_41 : decode b_LoopRankerModel_coefficient 41 = .ok (.iaload, 1) := by decide +kernel
theorem d_LoopRankerModel_coefficient_42 : decode b_LoopRankerModel_coefficient 42 = .ok (.goto 4, 3) := by decide +kernel
theorem d_LoopRankerModel_coefficient_45 : decode b_LoopRankerModel_coefficient 45 = .ok (.iconst 0, 1) := by decide +kernel
theorem d_LoopRankerModel_coefficient_46 : decode b_LoopRankerModel_coefficient 46 = .ok (.ireturn, 1) := by decide +kernel
theorem d_LoopRankerModel_floorOf_0 : decode b_LoopRankerModel_floorOf 0 = .ok (.iconst 0, 1) := by decide +kernel
theorem d_LoopRankerModel_floorOf_1 : decode b_LoopRankerModel_floorOf 1 = .ok (.istore_n 2, 1) := by decide +kernel
theorem d_LoopRankerModel_floorOf_2 : decode b_LoopRankerModel_floorOf 2 = .ok (.lconst 0, 1) := by decide +kernel
theorem d_LoopRankerModel_floorOf_3 : decode b_LoopRankerModel_floorOf 3 = .ok (.lstore_n 3, 1) := by decide +kernel
theorem d_LoopRankerModel_floorOf_4 : decode b_LoopRankerModel_floorOf 4 = .ok (.iconst 0, 1) := by decide +kernel
theorem d_LoopRankerModel_floorOf_5 : decode b_LoopRankerModel_floorOf 5 = .ok (.istore 5, 2) := by decide +kernel
theorem d_LoopRankerModel_floorOf_7 : decode b_LoopRankerModel_floorOf 7 = .ok (.iload 5, 2) := by decide +kernel
theorem d_LoopRankerModel_floorOf_9 : decode b_LoopRankerModel_floorOf 9 = .ok (.aload_n 0, 1) := by decide +kernel
theorem d_LoopRankerModel_floorOf_10 : decode b_LoopRankerModel_floorOf 10 = .ok (.getfield 34, 3) := by decide +kernel
theorem d_LoopRankerModel_floorOf_13 : decode b_LoopRankerModel_floorOf 13 = .ok (.if_icmp .ge 94, 3) := by decide +kernel
theorem d_LoopRankerModel_floorOf_16 : decode b_LoopRankerModel_floorOf 16 = .ok (.aload_n 0, 1) := by decide +kernel
theorem d_LoopRankerModel_floorOf_17 : decode b_LoopRankerModel_floorOf 17 = .ok (.getfield 25, 3) := by decide +kernel
theorem d_LoopRankerModel_floorOf_20 : decode b_LoopRankerModel_floorOf 20 = .ok (.iload 5, 2) := by decide +kernel
theorem d_LoopRankerModel_floorOf_22 : decode b_LoopRankerModel_floorOf 22 = .ok (.iaload, 1) := by decide +kernel
theorem d_LoopRankerModel_floorOf_23 : decode b_LoopRankerModel_floorOf 23 = .ok (.iload_n 1, 1) := by decide +kernel
theorem d_LoopRankerModel_floorOf_24 : decode b_LoopRankerModel_floorOf 24 = .ok (.if_icmp .ne 77, 3) := by decide +kernel
theorem d_LoopRankerModel_floorOf_27 : decode b_LoopRankerModel_floorOf 27 = .ok (.aload_n 0, 1) := by decide +kernel
theorem d_LoopRankerModel_floorOf_28 : decode b_LoopRankerModel_floorOf 28 = .ok (.iload 5, 2) := by decide +kernel
theorem d_LoopRankerModel_floorOf_30 : decode b_LoopRankerModel_floorOf 30 = .ok (.invokevirtual 75, 3) := by decide +kernel
theorem d_LoopRankerModel_floorOf_33 : decode b_LoopRankerModel_floorOf 33 = .ok (.ifCond .ne 68, 3) := by decide +kernel
theorem d_LoopRankerModel_floorOf_36 : decode b_LoopRankerModel_floorOf 36 = .ok (.aload_n 0, 1) := by decide +kernel
theorem d_LoopRankerModel_floorOf_37 : decode b_LoopRankerModel_floorOf 37 = .ok (.iload 5, 2) := by decide +kernel
theorem d_LoopRankerModel_floorOf_39 : decode b_LoopRankerModel_floorOf 39 = .ok (.aload_n 0, 1) := by decide +kernel
theorem d_LoopRankerModel_floorOf_40 : decode b_LoopRankerModel_floorOf 40 = .ok (.getfield 28, 3) := by decide +kernel
theorem d_LoopRankerModel_floorOf_43 : decode b_LoopRankerModel_floorOf 43 = .ok (.iload_n 1, 1) := by decide +kernel
theorem d_LoopRankerModel_floorOf_44 : decode b_LoopRankerModel_floorOf 44 = .ok (.iaload, 1) := by decide +kernel
theorem d_LoopRankerModel_floorOf_45 : decode b_LoopRankerModel_floorOf 45 = .ok (.ineg, 1) := by decide +kernel
theorem d_LoopRankerModel_floorOf_46 : decode b_LoopRankerModel_floorOf 46 = .ok (.aload_n 0, 1) := by decide +kernel
theorem d_LoopRankerModel_floorOf_47 : decode b_LoopRankerModel_floorOf 47 = .ok (.getfield 31, 3) := by decide +kernel
theorem d_LoopRankerModel_floorOf_50 : decode b_LoopRankerModel_floorOf 50 = .ok (.iload_n 1, 1) := by decide +kernel
theorem d_LoopRankerModel_floorOf_51 : decode b_LoopRankerModel_floorOf 51 = .ok (.iaload, 1) := by decide +kernel
theorem d_LoopRankerModel_floorOf_52 : decode b_LoopRankerModel_floorOf 52 = .ok (.ineg, 1) := by decide +kernel
theorem d_LoopRankerModel_floorOf_53 : decode b_LoopRankerModel_floorOf 53 = .ok (.invokevirtual 80, 3) := by decide +kernel
theorem d_LoopRankerModel_floorOf_56 : decode b_LoopRankerModel_floorOf 56 = .ok (.istore 6, 2) := by decide +kernel
theorem d_LoopRankerModel_floorOf_58 : decode b_LoopRankerModel_floorOf 58 = .ok (.iload 6, 2) := by decide +kernel
theorem d_LoopRankerModel_floorOf_60 : decode b_LoopRankerModel_floorOf 60 = .ok (.ifCond .eq 18, 3) := by decide +kernel
theorem d_LoopRankerModel_floorOf_63 : decode b_LoopRankerModel_floorOf 63 = .ok (.aload_n 0, 1) := by decide +kernel
theorem d_LoopRankerModel_floorOf_64 : decode b_LoopRankerModel_floorOf 64 = .ok (.getfield 54, 3) := by decide +kernel
theorem d_LoopRankerModel_floorOf_67 : decode b_LoopRankerModel_floorOf 67 = .ok (.aload_n 0, 1) := by decide +kernel
theorem d_LoopRankerModel_floorOf_68 : decode b_LoopRankerModel_floorOf 68 = .ok (.getfield 50, 3) := by decide +kernel
theorem d_LoopRankerModel_floorOf_71 : decode b_LoopRankerModel_floorOf 71 = .ok (.invokestatic 83, 3) := by decide +kernel
theorem d_LoopRankerModel_floorOf_74 : decode b_LoopRankerModel_floorOf 74 = .ok (.lneg, 1) := by decide +kernel
theorem d_LoopRankerModel_floorOf_75 : decode b_LoopRankerModel_floorOf 75 = .ok (.goto 4, 3) := by decide +kernel
theorem d_LoopRankerModel_floorOf_78 : decode b_LoopRankerModel_floorOf 78 = .ok (.lconst 0, 1) := by decide +kernel
theorem d_LoopRankerModel_floorOf_79 : decode b_LoopRankerModel_floorOf 79 = .ok (.lstore 7, 2) := by decide +kernel
theorem d_LoopRankerModel_floorOf_81 : decode b_LoopRankerModel_floorOf 81 = .ok (.iload_n 2, 1) := by decide +kernel
theorem d_LoopRankerModel_floorOf_82 : decode b_LoopRankerModel_floorOf 82 = .ok (.ifCond .eq 10, 3) := by decide +kernel
theorem d_LoopRankerModel_floorOf_85 : decode b_LoopRankerModel_floorOf 85 = .ok (.lload 7, 2) := by decide +kernel
theorem d_LoopRankerModel_floorOf_87 : decode b_LoopRankerModel_floorOf 87 = .ok (.lload_n 3, 1) := by decide +kernel
theorem d_LoopRankerModel_floorOf_88 : decode b_LoopRankerModel_floorOf 88 = .ok (.lcmp, 1) := by decide +kernel
theorem d_LoopRankerModel_floorOf_89 : decode b_LoopRankerModel_floorOf 89 = .ok (.ifCond .ge 8, 3) := by decide +kernel
theorem d_LoopRankerModel_floorOf_92 : decode b_LoopRankerModel_floorOf 92 = .ok (.lload 7, 2) := by decide +kernel
theorem d_LoopRankerModel_floorOf_94 : decode b_LoopRankerModel_floorOf 94 = .ok (.goto 4, 3) := by decide +kernel
theorem d_LoopRankerModel_floorOf_97 : decode b_LoopRankerModel_floorOf 97 = .ok (.lload_n 3, 1) := by decide +kernel
theorem d_LoopRankerModel_floorOf_98 : decode b_LoopRankerModel_floorOf 98 = .ok (.lstore_n 3, 1) := by decide +kernel
theorem d_LoopRankerModel_floorOf_99 : decode b_LoopRankerModel_floorOf 99 = .ok (.iconst 1, 1) := by decide +kernel
theorem d_LoopRankerModel_floorOf_100 : decode b_LoopRankerModel_floorOf 100 = .ok (.istore_n 2, 1) := by decide +kernel
theorem d_LoopRankerModel_floorOf_101 : decode b_LoopRankerModel_floorOf 101 = .ok (.iinc 5 1, 3) := by decide +kernel
theorem d_LoopRankerModel_floorOf_104 : decode b_LoopRankerModel_floorOf 104 = .ok (.goto (-97), 3) := by decide +kernel
theorem d_LoopRankerModel_floorOf_107 : decode b_LoopRankerModel_floorOf 107 = .ok (.lload_n 3, 1) := by decide +kernel
theorem d_LoopRankerModel_floorOf_108 : decode b_LoopRankerModel_floorOf 108 = .ok (.lreturn, 1) := by decide +kernel
theorem d_LoopRankerModel_floor_0 : decode b_LoopRankerModel_floor 0 = .ok (.aload_n 0, 1) := by decide +kernel
theorem d_LoopRankerModel_floor_1 : decode b_LoopRankerModel_floor 1 = .ok (.invokevirtual 116, 3) := by decide +kernel
theorem d_LoopRankerModel_floor_4 : decode b_LoopRankerModel_floor 4 = .ok (.iload_n 1, 1) := by decide +kernel
theorem d_LoopRankerModel_floor_5 : decode b_LoopRankerModel_floor 5 = .ok (.ifCond .lt 11, 3) := by decide +kernel
theorem d_LoopRankerModel_floor_8 : decode b_LoopRankerModel_floor 8 = .ok (.iload_n 1, 1) := by decide +kernel
theorem d_LoopRankerModel_floor_9 : decode b_LoopRankerModel_floor 9 = .ok (.aload_n 0, 1) := by decide +kernel
theorem d_LoopRankerModel_floor_10 : decode b_LoopRankerModel_floor 10 = .ok (.getfield 102, 3) := by decide +kernel
theorem d_LoopRankerModel_floor_13 : decode b_LoopRankerModel_floor 13 = .ok (.if_icmp .lt 9, 3) := by decide +kernel
theorem d_LoopRankerModel_floor_16 : decode b_LoopRankerModel_floor 16 = .ok (.ldc2_w 73, 3) := by decide +kernel
theorem d_LoopRankerModel_floor_19 : decode b_LoopRankerModel_floor 19 = .ok (.goto 8, 3) := by decide +kernel
theorem d_LoopRankerModel_floor_22 : decode b_LoopRankerModel_floor 22 = .ok (.aload_n 0, 1) := by decide +kernel
theorem d_LoopRankerModel_floor_23 : decode b_LoopRankerModel_floor 23 = .ok (.iload_n 1, 1) := by decide +kernel
theorem d_LoopRankerModel_floor_24 : decode b_LoopRankerModel_floor 24 = .ok (.invokevirtual 119, 3) := by decide +kernel
theorem d_LoopRankerModel_floor_27 : decode b_LoopRankerModel_floor 27 = .ok (.lreturn, 1) := by decide +kernel
theorem d_LoopRankerModel_start_0 : decode b_LoopRankerModel_start 0 = .ok (.iload_n 1, 1) := by decide +kernel
theorem d_LoopRankerModel_start_1 : decode b_LoopRankerModel_start 1 = .ok (.ldc 123, 2) := by decide +kernel
theorem d_LoopRankerModel_start_3 : decode b_LoopRankerModel_start 3 = .ok (.invokestatic 42, 3) := by decide +kernel
theorem d_LoopRankerModel_start_6 : decode b_LoopRankerModel_start 6 = .ok (.ifCond .eq 12, 3) := by decide +kernel
theorem d_LoopRankerModel_start_9 : decode b_LoopRankerModel_start 9 = .ok (.iload_n 2, 1) := by decide +kernel
theorem d_LoopRankerModel_start_10 : decode b_LoopRankerModel_start 10 = .ok (.ldc 123, 2) := by decide +kernel
theorem d_LoopRankerModel_start_12 : decode b_LoopRankerModel_start 12 = .ok (.invokestatic 42, 3) := by decide +kernel
theorem d_LoopRankerModel_start_15 : decode b_LoopRankerModel_start 15 = .ok (.ifCond .ne 5, 3) := by decide +kernel
theorem d_LoopRankerModel_start_18 : decode b_LoopRankerModel_start 18 = .ok (.iconst 0, 1) := by decide +kernel
theorem d_LoopRankerModel_start_19 : decode b_LoopRankerModel_start 19 = .ok (.ireturn, 1) := by decide +kernel
theorem d_LoopRankerModel_start_20 : decode b_LoopRankerModel_start 20 = .ok (.aload_n 0, 1) := by decide +kernel
theorem d_LoopRankerModel_start_21 : decode b_LoopRankerModel_start 21 = .ok (.iload_n 1, 1) := by decide +kernel
theorem d_LoopRankerModel_start_22 : decode b_LoopRankerModel_start 22 = .ok (.i2l, 1) := by decide +kernel
theorem d_LoopRankerModel_start_23 : decode b_LoopRankerModel_start 23 = .ok (.putfield 124, 3) := by decide +kernel
theorem d_LoopRankerModel_start_26 : decode b_LoopRankerModel_start 26 = .ok (.aload_n 0, 1) := by decide +kernel
theorem d_LoopRankerModel_start_27 : decode b_LoopRankerModel_start 27 = .ok (.iload_n 2, 1) := by decide +kernel
theorem d_LoopRankerModel_start_28 : decode b_LoopRankerModel_start 28 = .ok (.i2l, 1) := by decide +kernel
theorem d_LoopRankerModel_start_29 : decode b_LoopRankerModel_start 29 = .ok (.putfield 127, 3) := by decide +kernel
theorem d_LoopRankerModel_start_32 : decode b_LoopRankerModel_start 32 = .ok (.aload_n 0, 1) := by decide +kernel
theorem d_LoopRankerModel_start_33 : decode b_LoopRankerModel_start 33 = .ok (.iconst 0, 1) := by decide +kernel
theorem d_LoopRankerModel_start_34 : decode b_LoopRankerModel_start 34 = .ok (.putfield 130, 3) := by decide +kernel
theorem d_LoopRankerModel_start_37 : decode b_LoopRankerModel_start 37 = .ok (.iconst 1, 1) := by decide +kernel
theorem d_LoopRankerModel_start_38 : decode b_LoopRankerModel_start 38 = .ok (.ireturn, 1) := by decide +kernel
theorem d_LoopRankerModel_far_0 : decode b_LoopRankerModel_far 0 = .ok (.lload_n 0, 1) := by decide +kernel
theorem d_LoopRankerModel_far_1 : decode b_LoopRankerModel_far 1 = .ok (.ldc2_w 133, 3) := by decide +kernel
theorem d_LoopRankerModel_far_4 : decode b_LoopRankerModel_far 4 = .ok (.lcmp, 1) := by decide +kernel
theorem d_LoopRankerModel_far_5 : decode b_LoopRankerModel_far 5 = .ok (.ifCond .lt 11, 3) := by decide +kernel
theorem d_LoopRankerModel_far_8 : decode b_LoopRankerModel_far 8 = .ok (.lload_n 0, 1) := by decide +kernel
theorem d_LoopRankerModel_far_9 : decode b_LoopRankerModel_far 9 = .ok (.ldc2_w 135, 3) := by decide +kernel
theorem d_LoopRankerModel_far_12 : decode b_LoopRankerModel_far 12 = .ok (.lcmp, 1) := by decide +kernel
theorem d_LoopRankerModel_far_13 : decode b_LoopRankerModel_far 13 = .ok (.ifCond .le 7, 3) := by decide +kernel
theorem d_LoopRankerModel_far_16 : decode b_LoopRankerModel_far 16 = .ok (.iconst 1, 1) := by decide +kernel
theorem d_LoopRankerModel_far_17 : decode b_LoopRankerModel_far 17 = .ok (.goto 4, 3) := by decide +kernel
theorem d_LoopRankerModel_far_20 : decode b_LoopRankerModel_far 20 = .ok (.iconst 0, 1) := by decide +kernel
theorem d_LoopRankerModel_far_21 : decode b_LoopRankerModel_far 21 = .ok (.ireturn, 1) := by decide +kernel
theorem d_LoopRankerModel_fire_0 : decode b_LoopRankerModel_fire 0 = .ok (.aload_n 0, 1) := by decide +kernel
theorem d_LoopRankerModel_fire_1 : decode b_LoopRankerModel_fire 1 = .ok (.iload_n 1, 1) := by decide +kernel
theorem d_LoopRankerModel_fire_2 : decode b_LoopRankerModel_fire 2 = .ok (.invokevirtual 38, 3) := by decide +kernel
theorem d_LoopRankerModel_fire_5 : decode b_LoopRankerModel_fire 5 = .ok (.ifCond .ne 5, 3) := by decide +kernel
theorem d_LoopRankerModel_fire_8 : decode b_LoopRankerModel_fire 8 = .ok (.iconst 0, 1) := by decide +kernel
theorem d_LoopRankerModel_fire_9 : decode b_LoopRankerModel_fire 9 = .ok (.ireturn, 1) := by decide +kernel
theorem d_LoopRankerModel_fire_10 : decode b_LoopRankerModel_fire 10 = .ok (.iconst 4, 1) := by decide +kernel
theorem d_LoopRankerModel_fire_11 : decode b_LoopRankerModel_fire 11 = .ok (.iload_n 1, 1) := by decide +kernel
theorem d_LoopRankerModel_fire_12 : decode b_LoopRankerModel_fire 12 = .ok (.imul, 1) := by decide +kernel
theorem d_LoopRankerModel_fire_13 : decode b_LoopRankerModel_fire 13 = .ok (.istore_n 2, 1) := by decide +kernel
theorem d_LoopRankerModel_fire_14 : decode b_LoopRankerModel_fire 14 = .ok (.iload_n 2, 1) := by decide +kernel
theorem d_LoopRankerModel_fire_15 : decode b_LoopRankerModel_fire 15 = .ok (.iconst 4, 1) := by decide +kernel
theorem d_LoopRankerModel_fire_16 : decode b_LoopRankerModel_fire 16 = .ok (.iload_n 1, 1) := by decide +kernel
theorem d_LoopRankerModel_fire_17 : decode b_LoopRankerModel_fire 17 = .ok (.imul, 1) := by decide +kernel
theorem d_LoopRankerModel_fire_18 : decode b_LoopRankerModel_fire 18 = .ok (.aload_n 0, 1) := by decide +kernel
theorem d_LoopRankerModel_fire_19 : decode b_LoopRankerModel_fire 19 = .ok (.getfield 7, 3) := by decide +kernel
theorem d_LoopRankerModel_fire_22 : decode b_LoopRankerModel_fire 22 = .ok (.iload_n 1, 1) := by decide +kernel
theorem d_LoopRankerModel_fire_23 : decode b_LoopRankerModel_fire 23 = .ok (.iaload, 1) := by decide +kernel
theorem d_LoopRankerModel_fire_24 : decode b_LoopRankerModel_fire 24 = .ok (.iadd, 1) := by decide +kernel
theorem d_LoopRankerModel_fire_25 : decode b_LoopRankerModel_fire 25 = .ok (.if_icmp .ge 47, 3) := by decide +kernel
theorem d_LoopRankerModel_fire_28 : decode b_LoopRankerModel_fire 28 = .ok (.aload_n 0, 1) := by decide +kernel
theorem d_LoopRankerModel_fire_29 : decode b_LoopRankerModel_fire 29 = .ok (.getfield 13, 3) := by decide +kernel
theorem d_LoopRankerModel_fire_32 : decode b_LoopRankerModel_fire 32 = .ok (.iload_n 2, 1) := by decide +kernel
theorem d_LoopRankerModel_fire_33 : decode b_LoopRankerModel_fire 33 = .ok (.iaload, 1) := by decide +kernel
theorem d_LoopRankerModel_fire_34 : decode b_LoopRankerModel_fire 34 = .ok (.i2l, 1) := by decide +kernel
theorem d_LoopRankerModel_fire_35 : decode b_LoopRankerModel_fire 35 = .ok (.aload_n 0, 1) := by decide +kernel
theorem d_LoopRankerModel_fire_36 : decode b_LoopRankerModel_fire 36 = .ok (.getfield 124, 3) := by decide +kernel
theorem d_LoopRankerModel_fire_39 : decode b_LoopRankerModel_fire 39 = .ok (.lmul, 1) := by decide +kernel
theorem d_LoopRankerModel_fire_40 : decode b_LoopRankerModel_fire 40 = .ok (.aload_n 0, 1) := by decide +kernel
theorem d_LoopRankerModel_fire_41 : decode b_LoopRankerModel_fire 41 = .ok (.getfield 16, 3) := by decide +kernel
theorem d_LoopRankerModel_fire_44 : decode b_LoopRankerModel_fire 44 = .ok (.iload_n 2, 1) := by decide +kernel
theorem d_LoopRankerModel_fire_45 : decode b_LoopRankerModel_fire 45 = .ok (.iaload, 1) := by decide +kernel
theorem d_LoopRankerModel_fire_46 : decode b_LoopRankerModel_fire 46 = .ok (.i2l, 1) := by decide +kernel
theorem d_LoopRankerModel_fire_47 : decode b_LoopRankerModel_fire 47 = .ok (.aload_n 0, 1) := by decide +kernel
theorem d_LoopRankerModel_fire_48 : decode b_LoopRankerModel_fire 48 = .ok (.getfield 127, 3) := by decide +kernel
theorem d_LoopRankerModel_fire_51 : decode b_LoopRankerModel_fire 51 = .ok (.lmul, 1) := by decide +kernel
theorem d_LoopRankerModel_fire_52 : decode b_LoopRankerModel_fire 52 = .ok (.ladd, 1) := by decide +kernel
theorem d_LoopRankerModel_fire_53 : decode b_LoopRankerModel_fire 53 = .ok (.aload_n 0, 1) := by decide +kernel
theorem d_LoopRankerModel_fire_54 : decode b_LoopRankerModel_fire 54 = .ok (.getfield 19, 3) := by decide +kernel
theorem d_LoopRankerModel_fire_57 : decode b_LoopRankerModel_fire 57 = .ok (.iload_n 2, 1) := by decide +kernel
theorem d_LoopRankerModel_fire_58 : decode b_LoopRankerModel_fire 58 = .ok (.iaload, 1) := by decide +kernel
theorem d_LoopRankerModel_fire_59 : decode b_LoopRankerModel_fire 59 = .ok (.i2l, 1) := by decide +kernel
theorem d_LoopRankerModel_fire_60 : decode b_LoopRankerModel_fire 60 = .ok (.lcmp, 1) := by decide +kernel
theorem d_LoopRankerModel_fire_61 : decode b_LoopRankerModel_fire 61 = .ok (.ifCond .le 5, 3) := by decide +kernel
theorem d_LoopRankerModel_fire_64 : decode b_LoopRankerModel_fire 64 = .ok (.iconst 0, 1) := by decide +kernel
theorem d_LoopRankerModel_fire_65 : decode b_LoopRankerModel_fire 65 = .ok (.ireturn, 1) := by decide +kernel
theorem d_LoopRankerModel_fire_66 : decode b_LoopRankerModel_fire 66 = .ok (.iinc 2 1, 3) := by decide +kernel
theorem d_LoopRankerModel_fire_69 : decode b_LoopRankerModel_fire 69 = .ok (.goto (-55), 3) := by decide +kernel
theorem d_LoopRankerModel_fire_72 : decode b_LoopRankerModel_fire 72 = .ok (.bipush 6, 2) := by decide +kernel
theorem d_LoopRankerModel_fire_74 : decode b_LoopRankerModel_fire 74 = .ok (.iload_n 1, 1) := by decide +kernel
theorem d_LoopRankerModel_fire_75 : decode b_LoopRankerModel_fire 75 = .ok (.imul, 1) := by decide +kernel
theorem d_LoopRankerModel_fire_76 : decode b_LoopRankerModel_fire 76 = .ok (.istore_n 2, 1) := by decide +kernel
theorem d_LoopRankerModel_fire_77 : decode b_LoopRankerModel_fire 77 = .ok (.aload_n 0, 1) := by decide +kernel
theorem d_LoopRankerModel_fire_78 : decode b_LoopRankerModel_fire 78 = .ok (.getfield 22, 3) := by decide +kernel
theorem d_LoopRankerModel_fire_81 : decode b_LoopRankerModel_fire 81 = .ok (.iload_n 2, 1) := by decide +kernel
theorem d_LoopRankerModel_fire_82 : decode b_LoopRankerModel_fire 82 = .ok (.iaload, 1) := by decide +kernel
theorem d_LoopRankerModel_fire_83 : decode b_LoopRankerModel_fire 83 = .ok (.i2l, 1) := by decide +kernel
theorem d_LoopRankerModel_fire_84 : decode b_LoopRankerModel_fire 84 = .ok (.aload_n 0, 1) := by decide +kernel
theorem d_LoopRankerModel_fire_85 : decode b_LoopRankerModel_fire 85 = .ok (.getfield 124, 3) := by decide +kernel
theorem d_LoopRankerModel_fire_88 : decode b_LoopRankerModel_fire 88 = .ok (.lmul, 1) := by decide +kernel
theorem d_LoopRankerModel_fire_89 : decode b_LoopRankerModel_fire 89 = .ok (.aload_n 0, 1) := by decide +kernel
theorem d_LoopRankerModel_fire_90 : decode b_LoopRankerModel_fire 90 = .ok (.getfield 22, 3) := by decide +kernel
theorem d_LoopRankerModel_fire_93 : decode b_LoopRankerModel_fire 93 = .ok (.iload_n 2, 1) := by decide +kernel
theorem d_LoopRankerModel_fire_94 : decode b_LoopRankerModel_fire 94 = .ok (.iconst 1, 1) := by decide +kernel
theorem d_LoopRankerModel_fire_95 : decode b_LoopRankerModel_fire 95 = .ok (.iadd, 1) := by decide +kernel
theorem d_LoopRankerModel_fire_96 : decode b_LoopRankerModel_fire 96 = .ok (.iaload, 1) := by decide +kernel
theorem d_LoopRankerModel_fire_97 : decode b_LoopRankerModel_fire 97 = .ok (.i2l, 1) := by decide +kernel
theorem d_LoopRankerModel_fire_98 : decode b_LoopRankerModel_fire 98 = .ok (.aload_n 0, 1) := by decide +kernel
theorem d_LoopRankerModel_fire_99 : decode b_LoopRankerModel_fire 99 = .ok (.getfield 127, 3) := by decide +kernel
theorem d_LoopRankerModel_fire_102 : decode b_LoopRankerModel_fire 102 = .ok (.lmul, 1) := by decide +kernel
theorem d_LoopRankerModel_fire_103 : decode b_LoopRankerModel_fire 103 = .ok (.ladd, 1) := by decide +kernel
theorem d_LoopRankerModel_fire_104 : decode b_LoopRankerModel_fire 104 = .ok (.aload_n 0, 1) := by decide +kernel
theorem d_LoopRankerModel_fire_105 : decode b_LoopRankerModel_fire 105 = .ok (.getfield 22, 3) := by decide +kernel
theorem d_LoopRankerModel_fire_108 : decode b_LoopRankerModel_fire 108 = .ok (.iload_n 2, 1) := by decide +kernel
theorem d_LoopRankerModel_fire_109 : decode b_LoopRankerModel_fire 109 = .ok (.iconst 2, 1) := by decide +kernel
theorem d_LoopRankerModel_fire_110 : decode b_LoopRankerModel_fire 110 = .ok (.iadd, 1) := by decide +kernel
theorem d_LoopRankerModel_fire_111 : decode b_LoopRankerModel_fire 111 = .ok (.iaload, 1) := by decide +kernel
theorem d_LoopRankerModel_fire_112 : decode b_LoopRankerModel_fire 112 = .ok (.i2l, 1) := by decide +kernel
theorem d_LoopRankerModel_fire_113 : decode b_LoopRankerModel_fire 113 = .ok (.ladd, 1) := by decide +kernel
theorem d_LoopRankerModel_fire_114 : decode b_LoopRankerModel_fire 114 = .ok (.lstore_n 3, 1) := by decide +kernel
theorem d_LoopRankerModel_fire_115 : decode b_LoopRankerModel_fire 115 = .ok (.aload_n 0, 1) := by decide +kernel
theorem d_LoopRankerModel_fire_116 : decode b_LoopRankerModel_fire 116 = .ok (.getfield 22, 3) := by decide +kernel
theorem d_LoopRankerModel_fire_119 : decode b_LoopRankerModel_fire 119 = .ok (.iload_n 2, 1) := by decide +kernel
theorem d_LoopRankerModel_fire_120 : decode b_LoopRankerModel_fire 120 = .ok (.iconst 3, 1) := by decide +kernel
theorem d_LoopRankerModel_fire_121 : decode b_LoopRankerModel_fire 121 = .ok (.iadd, 1) := by decide +kernel
theorem d_LoopRankerModel_fire_122 : decode b_LoopRankerModel_fire 122 = .ok (.iaload, 1) := by decide +kernel
theorem d_LoopRankerModel_fire_123 : decode b_LoopRankerModel_fire 123 = .ok (.i2l, 1) := by decide +kernel
theorem d_LoopRankerModel_fire_124 : decode b_LoopRankerModel_fire 124 = .ok (.aload_n 0, 1) := by decide +kernel
theorem d_LoopRankerModel_fire_125 : decode b_LoopRankerModel_fire 125 = .ok (.getfield 124, 3) := by decide +kernel
theorem d_LoopRankerModel_fire_128 : decode b_LoopRankerModel_fire 128 = .ok (.lmul, 1) := by decide +kernel
theorem d_LoopRankerModel_fire_129 : decode b_LoopRankerModel_fire 129 = .ok (.aload_n 0, 1) := by decide +kernel
theorem d_LoopRankerModel_fire_130 : decode b_LoopRankerModel_fire 130 = .ok (.getfield 22, 3) := by decide +kernel
theorem d_LoopRankerModel_fire_133 : decode b_LoopRankerModel_fire 133 = .ok (.iload_n 2, 1) := by decide +kernel
theorem d_LoopRankerModel_fire_134 : decode b_LoopRankerModel_fire 134 = .ok (.iconst 4, 1) := by decide +kernel
theorem d_LoopRankerModel_fire_135 : decode b_LoopRankerModel_fire 135 = .ok (.iadd, 1) := by decide +kernel
theorem d_LoopRankerModel_fire_136 : decode b_LoopRankerModel_fire 136 = .ok (.iaload, 1) := by decide +kernel
theorem d_LoopRankerModel_fire_137 : decode b_LoopRankerModel_fire 137 = .ok (.i2l, 1) := by decide +kernel
theorem d_LoopRankerModel_fire_138 : decode b_LoopRankerModel_fire 138 = .ok (.aload_n 0, 1) := by decide +kernel
theorem d_LoopRankerModel_fire_139 : decode b_LoopRankerModel_fire 139 = .ok (.getfield 127, 3) := by decide +kernel
theorem d_LoopRankerModel_fire_142 : decode b_LoopRankerModel_fire 142 = .ok (.lmul, 1) := by decide +kernel
theorem d_LoopRankerModel_fire_143 : decode b_LoopRankerModel_fire 143 = .ok (.ladd, 1) := by decide +kernel
theorem d_LoopRankerModel_fire_144 : decode b_LoopRankerModel_fire 144 = .ok (.aload_n 0, 1) := by decide +kernel
theorem d_LoopRankerModel_fire_145 : decode b_LoopRankerModel_fire 145 = .ok (.getfield 22, 3) := by decide +kernel
theorem d_LoopRankerModel_fire_148 : decode b_LoopRankerModel_fire 148 = .ok (.iload_n 2, 1) := by decide +kernel
theorem d_LoopRankerModel_fire_149 : decode b_LoopRankerModel_fire 149 = .ok (.iconst 5, 1) := by decide +kernel
theorem d_LoopRankerModel_fire_150 : decode b_LoopRankerModel_fire 150 = .ok (.iadd, 1) := by decide +kernel
theorem d_LoopRankerModel_fire_151 : decode b_LoopRankerModel_fire 151 = .ok (.iaload, 1) := by decide +kernel
theorem d_LoopRankerModel_fire_152 : decode b_LoopRankerModel_fire 152 = .ok (.i2l, 1) := by decide +kernel
theorem d_LoopRankerModel_fire_153 : decode b_LoopRankerModel_fire 153 = .ok (.ladd, 1) := by decide +kernel
theorem d_LoopRankerModel_fire_154 : decode b_LoopRankerModel_fire 154 = .ok (.lstore 5, 2) := by decide +kernel
theorem d_LoopRankerModel_fire_156 : decode b_LoopRankerModel_fire 156 = .ok (.lload_n 3, 1) := by decide +kernel
theorem d_LoopRankerModel_fire_157 : decode b_LoopRankerModel_fire 157 = .ok (.invokestatic 137, 3) := by decide +kernel
theorem d_LoopRankerModel_fire_160 : decode b_LoopRankerModel_fire 160 = .ok (.ifCond .ne 11, 3) := by decide +kernel
theorem d_LoopRankerModel_fire_163 : decode b_LoopRankerModel_fire 163 = .ok (.lload 5, 2) := by decide +kernel
theorem d_LoopRankerModel_fire_165 : decode b_LoopRankerModel_fire 165 = .ok (.invokestatic 137, 3) := by decide +kernel
theorem d_LoopRankerModel_fire_168 : decode b_LoopRankerModel_fire 168 = .ok (.ifCond .eq 5, 3) := by decide +kernel
theorem d_LoopRankerModel_fire_171 : decode b_LoopRankerModel_fire 171 = .ok (.iconst 0, 1) := by decide +kernel
theorem d_LoopRankerModel_fire_172 : decode b_LoopRankerModel_fire 172 = .ok (.ireturn, 1) := by decide +kernel
theorem d_LoopRankerModel_fire_173 : decode b_LoopRankerModel_fire 173 = .ok (.aload_n 0, 1) := by decide +kernel
theorem d_LoopRankerModel_fire_174 : decode b_LoopRankerModel_fire 174 = .ok (.lload_n 3, 1) := by decide +kernel
theorem d_LoopRankerModel_fire_175 : decode b_LoopRankerModel_fire 175 = .ok (.putfield 124, 3) := by decide +kernel
theorem d_LoopRankerModel_fire_178 : decode b_LoopRankerModel_fire 178 = .ok (.aload_n 0, 1) := by decide +kernel
theorem d_LoopRankerModel_fire_179 : decode b_LoopRankerModel_fire 179 = .ok (.lload 5, 2) := by decide +kernel
theorem d_LoopRankerModel_fire_181 : decode b_LoopRankerModel_fire 181 = .ok (.putfield 127, 3) := by decide +kernel
theorem d_LoopRankerModel_fire_184 : decode b_LoopRankerModel_fire 184 = .ok (.aload_n 0, 1) := by decide +kernel
theorem d_LoopRankerModel_fire_185 : decode b_LoopRankerModel_fire 185 = .ok (.dup, 1) := by decide +kernel
theorem d_LoopRankerModel_fire_186 : decode b_LoopRankerModel_fire 186 = .ok (.getfield 130, 3) := by decide +kernel
theorem d_LoopRankerModel_fire_189 : decode b_LoopRankerModel_fire 189 = .ok (.iconst 1, 1) := by decide +kernel
theorem d_LoopRankerModel_fire_190 : decode b_LoopRankerModel_fire 190 = .ok (.iadd, 1) := by decide +kernel
theorem d_LoopRankerModel_fire_191 : decode b_LoopRankerModel_fire 191 = .ok (.putfield 130, 3) := by decide +kernel
theorem d_LoopRankerModel_fire_194 : decode b_LoopRankerModel_fire 194 = .ok (.iconst 1, 1) := by decide +kernel
theorem d_LoopRankerModel_fire_195 : decode b_LoopRankerModel_fire 195 = .ok (.ireturn, 1) := by decide +kernel
theorem d_LoopRankerModel_value_0 : decode b_LoopRankerModel_value 0 = .ok (.iload_n 1, 1) := by decide +kernel
theorem d_LoopRankerModel_value_1 : decode b_LoopRankerModel_value 1 = .ok (.ifCond .ne 10, 3) := by decide +kernel
theorem d_LoopRankerModel_value_4 : decode b_LoopRankerModel_value 4 = .ok (.aload_n 0, 1) := by decide +kernel
theorem d_LoopRankerModel_value_5 : decode b_LoopRankerModel_value 5 = .ok (.getfield 124, 3) := by decide +kernel
theorem d_LoopRankerModel_value_8 : decode b_LoopRankerModel_value 8 = .ok (.goto 16, 3) := by decide +kernel
theorem d_LoopRankerModel_value_11 : decode b_LoopRankerModel_value 11 = .ok (.iload_n 1, 1) := by decide +kernel
theorem d_LoopRankerModel_value_12 : decode b_LoopRankerModel_value 12 = .ok (.iconst 1, 1) := by decide +kernel
theorem d_LoopRankerModel_value_13 : decode b_LoopRankerModel_value 13 = .ok (.if_icmp .ne 10, 3) := by decide +kernel
theorem d_LoopRankerModel_value_16 : decode b_LoopRankerModel_value 16 = .ok (.aload_n 0, 1) := by decide +kernel
theorem d_LoopRankerModel_value_17 : decode b_LoopRankerModel_value 17 = .ok (.getfield 127, 3) := by decide +kernel
theorem d_LoopRankerModel_value_20 : decode b_LoopRankerModel_value 20 = .ok (.goto 4, 3) := by decide +kernel
theorem d_LoopRankerModel_value_23 : decode b_LoopRankerModel_value 23 = .ok (.lconst 0, 1) := by decide +kernel
theorem d_LoopRankerModel_value_24 : decode b_LoopRankerModel_value 24 = .ok (.lreturn, 1) := by decide +kernel
theorem d_LoopRankerModel_fired_0 : decode b_LoopRankerModel_fired 0 = .ok (.aload_n 0, 1) := by decide +kernel
theorem d_LoopRankerModel_fired_1 : decode b_LoopRankerModel_fired 1 = .ok (.getfield 130, 3) := by decide +kernel
theorem d_LoopRankerModel_fired_4 : decode b_LoopRankerModel_fired 4 = .ok (.ireturn, 1) := by decide +kernel
theorem d_LoopRankerModel_rank_0 : decode b_LoopRankerModel_rank 0 = .ok (.aload_n 0, 1) := by decide +kernel
theorem d_LoopRankerModel_rank_1 : decode b_LoopRankerModel_rank 1 = .ok (.invokevirtual 116, 3) := by decide +kernel
theorem d_LoopRankerModel_rank_4 : decode b_LoopRankerModel_rank 4 = .ok (.iload_n 1, 1) := by decide +kernel
theorem d_LoopRankerModel_rank_5 : decode b_LoopRankerModel_rank 5 = .ok (.ifCond .lt 11, 3) := by decide +kernel
theorem d_LoopRankerModel_rank_8 : decode b_LoopRankerModel_rank 8 = .ok (.iload_n 1, 1) := by decide +kernel
theorem d_LoopRankerModel_rank_9 : decode b_LoopRankerModel_rank 9 = .ok (.aload_n 0, 1) := by decide +kernel
theorem d_LoopRankerModel_rank_10 : decode b_LoopRankerModel_rank 10 = .ok (.getfield 102, 3) := by decide +kernel
theorem d_LoopRankerModel_rank_13 : decode b_LoopRankerModel_rank 13 = .ok (.if_icmp .lt 9, 3) := by decide +kernel
theorem d_LoopRankerModel_rank_16 : decode b_LoopRankerModel_rank 16 = .ok (.ldc2_w 73, 3) := by decide +kernel
theorem d_LoopRankerModel_rank_19 : decode b_LoopRankerModel_rank 19 = .ok (.goto 28, 3) := by decide +kernel
theorem d_LoopRankerModel_rank_22 : decode b_LoopRankerModel_rank 22 = .ok (.aload_n 0, 1) := by decide +kernel
theorem d_LoopRankerModel_rank_23 : decode b_LoopRankerModel_rank 23 = .ok (.getfield 28, 3) := by decide +kernel
theorem d_LoopRankerModel_rank_26 : decode b_LoopRankerModel_rank 26 = .ok (.iload_n 1, 1) := by decide +kernel
theorem d_LoopRankerModel_rank_27 : decode b_LoopRankerModel_rank 27 = .ok (.iaload, 1) := by decide +kernel
theorem d_LoopRankerModel_rank_28 : decode b_LoopRankerModel_rank 28 = .ok (.i2l, 1) := by decide +kernel
theorem d_LoopRankerModel_rank_29 : decode b_LoopRankerModel_rank 29 = .ok (.aload_n 0, 1) := by decide +kernel
theorem d_LoopRankerModel_rank_30 : decode b_LoopRankerModel_rank 30 = .ok (.getfield 124, 3) := by decide +kernel
theorem d_LoopRankerModel_rank_33 : decode b_LoopRankerModel_rank 33 = .ok (.lmul, 1) := by decide +kernel
theorem d_LoopRankerModel_rank_34 : decode b_LoopRankerModel_rank 34 = .ok (.aload_n 0, 1) := by decide +kernel
theorem d_LoopRankerModel_rank_35 : decode b_LoopRankerModel_rank 35 = .ok (.getfield 31, 3) := by decide +kernel
theorem d_LoopRankerModel_rank_38 : decode b_LoopRankerModel_rank 38 = .ok (.iload_n 1, 1) := by decide +kernel
theorem d_LoopRankerModel_rank_39 : decode b_LoopRankerModel_rank 39 = .ok (.iaload, 1) := by decide +kernel
theorem d_LoopRankerModel_rank_40 : decode b_LoopRankerModel_rank 40 = .ok (.i2l, 1) := by decide +kernel
theorem d_LoopRankerModel_rank_41 : decode b_LoopRankerModel_rank 41 = .ok (.aload_n 0, 1) := by decide +kernel
theorem d_LoopRankerModel_rank_42 : decode b_LoopRankerModel_rank 42 = .ok (.getfield 127, 3) := by decide +kernel
theorem d_LoopRankerModel_rank_45 : decode b_LoopRankerModel_rank 45 = .ok (.lmul, 1) := by decide +kernel
theorem d_LoopRankerModel_rank_46 : decode b_LoopRankerModel_rank 46 = .ok (.ladd, 1) := by decide +kernel
theorem d_LoopRankerModel_rank_47 : decode b_LoopRankerModel_rank 47 = .ok (.lreturn, 1) := by decide +kernel
theorem d_LoopRankerModel_budget_0 : decode b_LoopRankerModel_budget 0 = .ok (.aload_n 0, 1) := by decide +kernel
theorem d_LoopRankerModel_budget_1 : decode b_LoopRankerModel_budget 1 = .ok (.invokevirtual 116, 3) := by decide +kernel
theorem d_LoopRankerModel_budget_4 : decode b_LoopRankerModel_budget 4 = .ok (.aload_n 0, 1) := by decide +kernel
theorem d_LoopRankerModel_budget_5 : decode b_LoopRankerModel_budget 5 = .ok (.getfield 102, 3) := by decide +kernel
theorem d_LoopRankerModel_budget_8 : decode b_LoopRankerModel_budget 8 = .ok (.iconst 1, 1) := by decide +kernel
theorem d_LoopRankerModel_budget_9 : decode b_LoopRankerModel_budget 9 = .ok (.if_icmp .ne 10, 3) := by decide +kernel
theorem d_LoopRankerModel_budget_12 : decode b_LoopRankerModel_budget 12 = .ok (.aload_n 0, 1) := by decide +kernel
theorem d_LoopRankerModel_budget_13 : decode b_LoopRankerModel_budget 13 = .ok (.invokevirtual 108, 3) := by decide +kernel
theorem d_LoopRankerModel_budget_16 : decode b_LoopRankerModel_budget 16 = .ok (.ifCond .le 7, 3) := by decide +kernel
theorem d_LoopRankerModel_budget_19 : decode b_LoopRankerModel_budget 19 = .ok (.ldc2_w 141, 3) := by decide +kernel
theorem d_LoopRankerModel_budget_22 : decode b_LoopRankerModel_budget 22 = .ok (.lreturn, 1) := by decide +kernel
theorem d_LoopRankerModel_budget_23 : decode b_LoopRankerModel_budget 23 = .ok (.aload_n 0, 1) := by decide +kernel
theorem d_LoopRankerModel_budget_24 : decode b_LoopRankerModel_budget 24 = .ok (.getfield 28, 3) := by decide +kernel
theorem d_LoopRankerModel_budget_27 : decode b_LoopRankerModel_budget 27 = .ok (.iconst 0, 1) := by decide +kernel
theorem d_LoopRankerModel_budget_28 : decode b_LoopRankerModel_budget 28 = .ok (.iaload, 1) := by decide +kernel
theorem d_LoopRankerModel_budget_29 : decode b_LoopRankerModel_budget 29 = .ok (.i2l, 1) := by decide +kernel
theorem d_LoopRankerModel_budget_30 : decode b_LoopRankerModel_budget 30 = .ok (.aload_n 0, 1) := by decide +kernel
theorem d_LoopRankerModel_budget_31 : decode b_LoopRankerModel_budget 31 = .ok (.getfield 124, 3) := by decide +kernel
theorem d_LoopRankerModel_budget_34 : decode b_LoopRankerModel_budget 34 = .ok (.lmul, 1) := by decide +kernel
theorem d_LoopRankerModel_budget_35 : decode b_LoopRankerModel_budget 35 = .ok (.aload_n 0, 1) := by decide +kernel
theorem d_LoopRankerModel_budget_36 : decode b_LoopRankerModel_budget 36 = .ok (.getfield 31, 3) := by decide +kernel
theorem d_LoopRankerModel_budget_39 : decode b_LoopRankerModel_budget 39 = .ok (.iconst 0, 1) := by decide +kernel
theorem d_LoopRankerModel_budget_40 : decode b_LoopRankerModel_budget 40 = .ok (.iaload, 1) := by decide +kernel
theorem d_LoopRankerModel_budget_41 : decode b_LoopRankerModel_budget 41 = .ok (.i2l, 1) := by decide +kernel
theorem d_LoopRankerModel_budget_42 : decode b_LoopRankerModel_budget 42 = .ok (.aload_n 0, 1) := by decide +kernel
theorem d_LoopRankerModel_budget_43 : decode b_LoopRankerModel_budget 43 = .ok (.getfield 127, 3) := by decide +kernel
theorem d_LoopRankerModel_budget_46 : decode b_LoopRankerModel_budget 46 = .ok (.lmul, 1) := by decide +kernel
theorem d_LoopRankerModel_budget_47 : decode b_LoopRankerModel_budget 47 = .ok (.ladd, 1) := by decide +kernel
theorem d_LoopRankerModel_budget_48 : decode b_LoopRankerModel_budget 48 = .ok (.aload_n 0, 1) := by decide +kernel
theorem d_LoopRankerModel_budget_49 : decode b_LoopRankerModel_budget 49 = .ok (.iconst 0, 1) := by decide +kernel
theorem d_LoopRankerModel_budget_50 : decode b_LoopRankerModel_budget 50 = .ok (.invokevirtual 119, 3) := by decide +kernel
theorem d_LoopRankerModel_budget_53 : decode b_LoopRankerModel_budget 53 = .ok (.lsub, 1) := by decide +kernel
theorem d_LoopRankerModel_budget_54 : decode b_LoopRankerModel_budget 54 = .ok (.lconst 1, 1) := by decide +kernel
theorem d_LoopRankerModel_budget_55 : decode b_LoopRankerModel_budget 55 = .ok (.ladd, 1) := by decide +kernel
theorem d_LoopRankerModel_budget_56 : decode b_LoopRankerModel_budget 56 = .ok (.lstore_n 1, 1) := by decide +kernel
theorem d_LoopRankerModel_budget_57 : decode b_LoopRankerModel_budget 57 = .ok (.lload_n 1, 1) := by decide +kernel
theorem d_LoopRankerModel_budget_58 : decode b_LoopRankerModel_budget 58 = .ok (.lconst 0, 1) := by decide +kernel
theorem d_LoopRankerModel_budget_59 : decode b_LoopRankerModel_budget 59 = .ok (.lcmp, 1) := by decide +kernel
theorem d_LoopRankerModel_budget_60 : decode b_LoopRankerModel_budget 60 = .ok (.ifCond .ge 7, 3) := by decide +kernel
theorem d_LoopRankerModel_budget_63 : decode b_LoopRankerModel_budget 63 = .ok (.lconst 0, 1) := by decide +kernel
theorem d_LoopRankerModel_budget_64 : decode b_LoopRankerModel_budget 64 = .ok (.goto 4, 3) := by decide +kernel
theorem d_LoopRankerModel_budget_67 : decode b_LoopRankerModel_budget 67 = .ok (.lload_n 1, 1) := by decide +kernel
theorem d_LoopRankerModel_budget_68 : decode b_LoopRankerModel_budget 68 = .ok (.lreturn, 1) := by decide +kernel
