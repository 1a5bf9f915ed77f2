theorem d_LoopRanker_init_0 : decode b_LoopRanker_init 0 = .ok (.aload_n 0, 1) := by decide +kernel
theorem d_LoopRanker_init_1 : decode b_LoopRanker_init 1 = .ok (.invokespecial 1, 3) := by decide +kernel
theorem d_LoopRanker_init_4 : decode b_LoopRanker_init 4 = .ok (.aload_n 0, 1) := by decide +kernel
theorem d_LoopRanker_init_5 : decode b_LoopRanker_init 5 = .ok (.bipush 6, 2) := by decide +kernel
theorem d_LoopRanker_init_7 : decode b_LoopRanker_init 7 = .ok (.anewarray 9, 3) := by decide +kernel
theorem d_LoopRanker_init_10 : decode b_LoopRanker_init 10 = .ok (.putfield 11, 3) := by decide +kernel
theorem d_LoopRanker_init_13 : decode b_LoopRanker_init 13 = .ok (.iconst 0, 1) := by decide +kernel
theorem d_LoopRanker_init_14 : decode b_LoopRanker_init 14 = .ok (.istore_n 1, 1) := by decide +kernel
theorem d_LoopRanker_init_15 : decode b_LoopRanker_init 15 = .ok (.iload_n 1, 1) := by decide +kernel
theorem d_LoopRanker_init_16 : decode b_LoopRanker_init 16 = .ok (.bipush 6, 2) := by decide +kernel
theorem d_LoopRanker_init_18 : decode b_LoopRanker_init 18 = .ok (.if_icmp .ge 22, 3) := by decide +kernel
theorem d_LoopRanker_init_21 : decode b_LoopRanker_init 21 = .ok (.aload_n 0, 1) := by decide +kernel
theorem d_LoopRanker_init_22 : decode b_LoopRanker_init 22 = .ok (.getfield 11, 3) := by decide +kernel
theorem d_LoopRanker_init_25 : decode b_LoopRanker_init 25 = .ok (.iload_n 1, 1) := by decide +kernel
theorem d_LoopRanker_init_26 : decode b_LoopRanker_init 26 = .ok (.new 9, 3) := by decide +kernel
theorem d_LoopRanker_init_29 : decode b_LoopRanker_init 29 = .ok (.dup, 1) := by decide +kernel
theorem d_LoopRanker_init_30 : decode b_LoopRanker_init 30 = .ok (.invokespecial 15, 3) := by decide +kernel
theorem d_LoopRanker_init_33 : decode b_LoopRanker_init 33 = .ok (.aastore, 1) := by decide +kernel
theorem d_LoopRanker_init_34 : decode b_LoopRanker_init 34 = .ok (.iinc 1 1, 3) := by decide +kernel
theorem d_LoopRanker_init_37 : decode b_LoopRanker_init 37 = .ok (.goto (-22), 3) := by decide +kernel
theorem d_LoopRanker_init_40 : decode b_LoopRanker_init 40 = .ok (.aload_n 0, 1) := by decide +kernel
theorem d_LoopRanker_init_41 : decode b_LoopRanker_init 41 = .ok (.new 16, 3) := by decide +kernel
theorem d_LoopRanker_init_44 : decode b_LoopRanker_init 44 = .ok (.dup, 1) := by decide +kernel
theorem d_LoopRanker_init_45 : decode b_LoopRanker_init 45 = .ok (.invokespecial 18, 3) := by decide +kernel
theorem d_LoopRanker_init_48 : decode b_LoopRanker_init 48 = .ok (.putfield 19, 3) := by decide +kernel
theorem d_LoopRanker_init_51 : decode b_LoopRanker_init 51 = .ok (.aload_n 0, 1) := by decide +kernel
theorem d_LoopRanker_init_52 : decode b_LoopRanker_init 52 = .ok (.iconst 0, 1) := by decide +kernel
theorem d_LoopRanker_init_53 : decode b_LoopRanker_init 53 = .ok (.putfield 23, 3) := by decide +kernel
theorem d_LoopRanker_init_56 : decode b_LoopRanker_init 56 = .ok (.aload_n 0, 1) := by decide +kernel
theorem d_LoopRanker_init_57 : decode b_LoopRanker_init 57 = .ok (.lconst 0, 1) := by decide +kernel
theorem d_LoopRanker_init_58 : decode b_LoopRanker_init 58 = .ok (.putfield 27, 3) := by decide +kernel
theorem d_LoopRanker_init_61 : decode b_LoopRanker_init 61 = .ok (.aload_n 0, 1) := by decide +kernel
theorem d_LoopRanker_init_62 : decode b_LoopRanker_init 62 = .ok (.lconst 0, 1) := by decide +kernel
theorem d_LoopRanker_init_63 : decode b_LoopRanker_init 63 = .ok (.putfield 31, 3) := by decide +kernel
theorem d_LoopRanker_init_66 : decode b_LoopRanker_init 66 = .ok (.aload_n 0, 1) := by decide +kernel
theorem d_LoopRanker_init_67 : decode b_LoopRanker_init 67 = .ok (.iconst 0, 1) := by decide +kernel
theorem d_LoopRanker_init_68 : decode b_LoopRanker_init 68 = .ok (.putfield 34, 3) := by decide +kernel
theorem d_LoopRanker_init_71 : decode b_LoopRanker_init 71 = .ok (.return_, 1) := by decide +kernel
theorem d_LoopRanker_transition_0 : decode b_LoopRanker_transition 0 = .ok (.aload_n 0, 1) := by decide +kernel
theorem d_LoopRanker_transition_1 : decode b_LoopRanker_transition 1 = .ok (.getfield 23, 3) := by decide +kernel
theorem d_LoopRanker_transition_4 : decode b_LoopRanker_transition 4 = .ok (.bipush 6, 2) := by decide +kernel
theorem d_LoopRanker_transition_6 : decode b_LoopRanker_transition 6 = .ok (.if_icmp .lt 5, 3) := by decide +kernel
theorem d_LoopRanker_transition_9 : decode b_LoopRanker_transition 9 = .ok (.iconst (-1), 1) := by decide +kernel
theorem d_LoopRanker_transition_10 : decode b_LoopRanker_transition 10 = .ok (.ireturn, 1) := by decide +kernel
theorem d_LoopRanker_transition_11 : decode b_LoopRanker_transition 11 = .ok (.aload_n 0, 1) := by decide +kernel
theorem d_LoopRanker_transition_12 : decode b_LoopRanker_transition 12 = .ok (.getfield 11, 3) := by decide +kernel
theorem d_LoopRanker_transition_15 : decode b_LoopRanker_transition 15 = .ok (.aload_n 0, 1) := by decide +kernel
theorem d_LoopRanker_transition_16 : decode b_LoopRanker_transition 16 = .ok (.getfield 23, 3) := by decide +kernel
theorem d_LoopRanker_transition_19 : decode b_LoopRanker_transition 19 = .ok (.aaload, 1) := by decide +kernel
theorem d_LoopRanker_transition_20 : decode b_LoopRanker_transition 20 = .ok (.invokevirtual 37, 3) := by decide +kernel
theorem d_LoopRanker_transition_23 : decode b_LoopRanker_transition 23 = .ok (.aload_n 0, 1) := by decide +kernel
theorem d_LoopRanker_transition_24 : decode b_LoopRanker_transition 24 = .ok (.dup, 1) := by decide +kernel
theorem d_LoopRanker_transition_25 : decode b_LoopRanker_transition 25 = .ok (.getfield 23, 3) := by decide +kernel
theorem d_LoopRanker_transition_28 : decode b_LoopRanker_transition 28 = .ok (.iconst 1, 1) := by decide +kernel
theorem d_LoopRanker_transition_29 : decode b_LoopRanker_transition 29 = .ok (.iadd, 1) := by decide +kernel
theorem d_LoopRanker_transition_30 : decode b_LoopRanker_transition 30 = .ok (.putfield 23, 3) := by decide +kernel
theorem d_LoopRanker_transition_33 : decode b_LoopRanker_transition 33 = .ok (.aload_n 0, 1) := by decide +kernel
theorem d_LoopRanker_transition_34 : decode b_LoopRanker_transition 34 = .ok (.getfield 19, 3) := by decide +kernel
theorem d_LoopRanker_transition_37 : decode b_LoopRanker_transition 37 = .ok (.iconst 0, 1) := by decide +kernel
theorem d_LoopRanker_transition_38 : decode b_LoopRanker_transition 38 = .ok (.putfield 40, 3) := by decide +kernel
theorem d_LoopRanker_transition_41 : decode b_LoopRanker_transition 41 = .ok (.aload_n 0, 1) := by decide +kernel
theorem d_LoopRanker_transition_42 : decode b_LoopRanker_transition 42 = .ok (.getfield 23, 3) := by decide +kernel
theorem d_LoopRanker_transition_45 : decode b_LoopRanker_transition 45 = .ok (.iconst 1, 1) := by decide +kernel
theorem d_LoopRanker_transition_46 : decode b_LoopRanker_transition 46 = .ok (.isub, 1) := by decide +kernel
theorem d_LoopRanker_transition_47 : decode b_LoopRanker_transition 47 = .ok (.ireturn, 1) := by decide +kernel
theorem d_LoopRanker_guard_0 : decode b_LoopRanker_guard 0 = .ok (.aload_n 0, 1) := by decide +kernel
theorem d_LoopRanker_guard_1 : decode b_LoopRanker_guard 1 = .ok (.iload_n 1, 1) := by decide +kernel
theorem d_LoopRanker_guard_2 : decode b_LoopRanker_guard 2 = .ok (.invokevirtual 44, 3) := by decide +kernel
theorem d_LoopRanker_guard_5 : decode b_LoopRanker_guard 5 = .ok (.ifCond .eq 53, 3) := by decide +kernel
theorem d_LoopRanker_guard_8 : decode b_LoopRanker_guard 8 = .ok (.iload_n 2, 1) := by decide +kernel
theorem d_LoopRanker_guard_9 : decode b_LoopRanker_guard 9 = .ok (.i2l, 1) := by decide +kernel
theorem d_LoopRanker_guard_10 : decode b_LoopRanker_guard 10 = .ok (.ldc2_w 48, 3) := by decide +kernel
theorem d_LoopRanker_guard_13 : decode b_LoopRanker_guard 13 = .ok (.invokestatic 50, 3) := by decide +kernel
theorem d_LoopRanker_guard_16 : decode b_LoopRanker_guard 16 = .ok (.ifCond .eq 42, 3) := by decide +kernel
theorem d_LoopRanker_guard_19 : decode b_LoopRanker_guard 19 = .ok (.iload_n 3, 1) := by decide +kernel
theorem d_LoopRanker_guard_20 : decode b_LoopRanker_guard 20 = .ok (.i2l, 1) := by decide +kernel
theorem d_LoopRanker_guard_21 : decode b_LoopRanker_guard 21 = .ok (.ldc2_w 48, 3) := by decide +kernel
theorem d_LoopRanker_guard_24 : decode b_LoopRanker_guard 24 = .ok (.invokestatic 50, 3) := by decide +kernel
theorem d_LoopRanker_guard_27 : decode b_LoopRanker_guard 27 = .ok (.ifCond .eq 31, 3) := by decide +kernel
theorem d_LoopRanker_guard_30 : decode b_LoopRanker_guard 30 = .ok (.iload 4, 2) := by decide +kernel
theorem d_LoopRanker_guard_32 : decode b_LoopRanker_guard 32 = .ok (.i2l, 1) := by decide +kernel
theorem d_LoopRanker_guard_33 : decode b_LoopRanker_guard 33 = .ok (.ldc2_w 54, 3) := by decide +kernel
theorem d_LoopRanker_guard_36 : decode b_LoopRanker_guard 36 = .ok (.invokestatic 50, 3) := by decide +kernel
theorem d_LoopRanker_guard_39 : decode b_LoopRanker_guard 39 = .ok (.ifCond .eq 19, 3) := by decide +kernel
theorem d_LoopRanker_guard_42 : decode b_LoopRanker_guard 42 = .ok (.aload_n 0, 1) := by decide +kernel
theorem d_LoopRanker_guard_43 : decode b_LoopRanker_guard 43 = .ok (.getfield 11, 3) := by decide +kernel
theorem d_LoopRanker_guard_46 : decode b_LoopRanker_guard 46 = .ok (.iload_n 1, 1) := by decide +kernel
theorem d_LoopRanker_guard_47 : decode b_LoopRanker_guard 47 = .ok (.aaload, 1) := by decide +kernel
theorem d_LoopRanker_guard_48 : decode b_LoopRanker_guard 48 = .ok (.getfield 56, 3) := by decide +kernel
theorem d_LoopRanker_guard_51 : decode b_LoopRanker_guard 51 = .ok (.getfield 60, 3) := by decide +kernel
theorem d_LoopRanker_guard_54 : decode b_LoopRanker_guard 54 = .ok (.iconst 4, 1) := by decide +kernel
theorem d_LoopRanker_guard_55 : decode b_LoopRanker_guard 55 = .ok (.if_icmp .lt 5, 3) := by decide +kernel
theorem d_LoopRanker_guard_58 : decode b_LoopRanker_guard 58 = .ok (.iconst (-1), 1) := by decide +kernel
theorem d_LoopRanker_guard_59 : decode b_LoopRanker_guard 59 = .ok (.ireturn, 1) := by decide +kernel
theorem d_LoopRanker_guard_60 : decode b_LoopRanker_guard 60 = .ok (.aload_n 0, 1) := by decide +kernel
theorem d_LoopRanker_guard_61 : decode b_LoopRanker_guard 61 = .ok (.getfield 11, 3) := by decide +kernel
theorem d_LoopRanker_guard_64 : decode b_LoopRanker_guard 64 = .ok (.iload_n 1, 1) := by decide +kernel
theorem d_LoopRanker_guard_65 : decode b_LoopRanker_guard 65 = .ok (.aaload, 1) := by decide +kernel
theorem d_LoopRanker_guard_66 : decode b_LoopRanker_guard 66 = .ok (.iload_n 2, 1) := by decide +kernel
theorem d_LoopRanker_guard_67 : decode b_LoopRanker_guard 67 = .ok (.iload_n 3, 1) := by decide +kernel
theorem d_LoopRanker_guard_68 : decode b_LoopRanker_guard 68 = .ok (.iload 4, 2) := by decide +kernel
theorem d_LoopRanker_guard_70 : decode b_LoopRanker_guard 70 = .ok (.invokevirtual 65, 3) := by decide +kernel
theorem d_LoopRanker_guard_73 : decode b_LoopRanker_guard 73 = .ok (.aload_n 0, 1) := by decide +kernel
theorem d_LoopRanker_guard_74 : decode b_LoopRanker_guard 74 = .ok (.getfield 19, 3) := by decide +kernel
theorem d_LoopRanker_guard_77 : decode b_LoopRanker_guard 77 = .ok (.iconst 0, 1) := by decide +kernel
theorem d_LoopRanker_guard_78 : decode b_LoopRanker_guard 78 = .ok (.putfield 40, 3) := by decide +kernel
theorem d_LoopRanker_guard_81 : decode b_LoopRanker_guard 81 = .ok (.aload_n 0, 1) := by decide +kernel
theorem d_LoopRanker_guard_82 : decode b_LoopRanker_guard 82 = .ok (.getfield 11, 3) := by decide +kernel
theorem d_LoopRanker_guard_85 : decode b_LoopRanker_guard 85 = .ok (.iload_n 1, 1) := by decide +kernel
theorem d_LoopRanker_guard_86 : decode b_LoopRanker_guard 86 = .ok (.aaload, 1) := by decide +kernel
theorem d_LoopRanker_guard_87 : decode b_LoopRanker_guard 87 = .ok (.getfield 56, 3) := by decide +kernel
theorem d_LoopRanker_guard_90 : decode b_LoopRanker_guard 90 = .ok (.getfield 60, 3) := by decide +kernel
theorem d_LoopRanker_guard_93 : decode b_LoopRanker_guard 93 = .ok (.ireturn, 1) := by decide +kernel
theorem d_LoopRanker_update_0 : decode b_LoopRanker_update 0 = .ok (.aload_n 0, 1) := by decide +kernel
theorem d_LoopRanker_update_1 : decode b_LoopRanker_update 1 = .ok (.iload_n 1, 1) := by decide +kernel
theorem d_LoopRanker_update_2 : decode b_LoopRanker_update 2 = .ok (.invokevirtual 44, 3) := by decide +kernel
theorem d_LoopRanker_update_5 : decode b_LoopRanker_update 5 = .ok (.ifCond .eq 45, 3) := by decide +kernel
theorem d_LoopRanker_update_8 : decode b_LoopRanker_update 8 = .ok (.iload_n 2, 1) := by decide +kernel
theorem d_LoopRanker_update_9 : decode b_LoopRanker_update 9 = .ok (.invokestatic 69, 3) := by decide +kernel
theorem d_LoopRanker_update_12 : decode b_LoopRanker_update 12 = .ok (.ifCond .eq 38, 3) := by decide +kernel
theorem d_LoopRanker_update_15 : decode b_LoopRanker_update 15 = .ok (.iload_n 3, 1) := by decide +kernel
theorem d_LoopRanker_update_16 : decode b_LoopRanker_update 16 = .ok (.i2l, 1) := by decide +kernel
theorem d_LoopRanker_update_17 : decode b_LoopRanker_update 17 = .ok (.ldc2_w 72, 3) := by decide +kernel
theorem d_LoopRanker_update_20 : decode b_LoopRanker_update 20 = .ok (.invokestatic 50, 3) := by decide +kernel
theorem d_LoopRanker_update_23 : decode b_LoopRanker_update 23 = .ok (.ifCond .eq 27, 3) := by decide +kernel
theorem d_LoopRanker_update_26 : decode b_LoopRanker_update 26 = .ok (.iload 4, 2) := by decide +kernel
theorem d_LoopRanker_update_28 : decode b_LoopRanker_update 28 = .ok (.i2l, 1) := by decide +kernel
theorem d_LoopRanker_update_29 : decode b_LoopRanker_update 29 = .ok (.ldc2_w 72, 3) := by decide +kernel
theorem d_LoopRanker_update_32 : decode b_LoopRanker_update 32 = .ok (.invokestatic 50, 3) := by decide +kernel
theorem d_LoopRanker_update_35 : decode b_LoopRanker_update 35 = .ok (.ifCond .eq 15, 3) := by decide +kernel
theorem d_LoopRanker_update_38 : decode b_LoopRanker_update 38 = .ok (.iload 5, 2) := by decide +kernel
theorem d_LoopRanker_update_40 : decode b_LoopRanker_update 40 = .ok (.i2l, 1) := by decide +kernel
theorem d_LoopRanker_update_41 : decode b_LoopRanker_update 41 = .ok (.ldc2_w 74, 3) := by decide +kernel
theorem d_LoopRanker_update_44 : decode b_LoopRanker_update 44 = .ok (.invokestatic 50, 3) := by decide +kernel
theorem d_LoopRanker_update_47 : decode b_LoopRanker_update 47 = .ok (.ifCond .ne 5, 3) := by decide +kernel
theorem d_LoopRanker_update_50 : decode b_LoopRanker_update 50 = .ok (.iconst 0, 1) := by decide +kernel
theorem d_LoopRanker_update_51 : decode b_LoopRanker_update 51 = .ok (.ireturn, 1) := by decide +kernel
theorem d_LoopRanker_update_52 : decode b_LoopRanker_update 52 = .ok (.aload_n 0, 1) := by decide +kernel
theorem d_LoopRanker_update_53 : decode b_LoopRanker_update 53 = .ok (.getfield 11, 3) := by decide +kernel
theorem d_LoopRanker_update_56 : decode b_LoopRanker_update 56 = .ok (.iload_n 1, 1) := by decide +kernel
theorem d_LoopRanker_update_57 : decode b_LoopRanker_update 57 = .ok (.aaload, 1) := by decide +kernel
theorem d_LoopRanker_update_58 : decode b_LoopRanker_update 58 = .ok (.iload_n 2, 1) := by decide +kernel
theorem d_LoopRanker_update_59 : decode b_LoopRanker_update 59 = .ok (.iload_n 3, 1) := by decide +kernel
theorem d_LoopRanker_update_60 : decode b_LoopRanker_update 60 = .ok (.iload 4, 2) := by decide +kernel
theorem d_LoopRanker_update_62 : decode b_LoopRanker_update 62 = .ok (.iload 5, 2) := by decide +kernel
theorem d_LoopRanker_update_64 : decode b_LoopRanker_update 64 = .ok (.invokevirtual 76, 3) := by decide +kernel
theorem d_LoopRanker_update_67 : decode b_LoopRanker_update 67 = .ok (.aload_n 0, 1) := by decide +kernel
theorem d_LoopRanker_update_68 : decode b_LoopRanker_update 68 = .ok (.getfield 19, 3) := by decide +kernel
theorem d_LoopRanker_update_71 : decode b_LoopRanker_update 71 = .ok (.iconst 0, 1) := by decide +kernel
theorem d_LoopRanker_update_72 : decode b_LoopRanker_update 72 = .ok (.putfield 40, 3) := by decide +kernel
theorem d_LoopRanker_update_75 : decode b_LoopRanker_update 75 = .ok (.iconst 1, 1) := by decide +kernel
theorem d_LoopRanker_update_76 : decode b_LoopRanker_update 76 = .ok (.ireturn, 1) := by decide +kernel
theorem d_LoopRanker_remove_0 : decode b_LoopRanker_remove 0 = .ok (.aload_n 0, 1) := by decide +kernel
theorem d_LoopRanker_remove_1 : decode b_LoopRanker_remove 1 = .ok (.iload_n 1, 1) := by decide +kernel
theorem d_LoopRanker_remove_2 : decode b_LoopRanker_remove 2 = .ok (.invokevirtual 44, 3) := by decide +kernel
theorem d_LoopRanker_remove_5 : decode b_LoopRanker_remove 5 = .ok (.ifCond .ne 5, 3) := by decide +kernel
theorem d_LoopRanker_remove_8 : decode b_LoopRanker_remove 8 = .ok (.iconst 0, 1) := by decide +kernel
theorem d_LoopRanker_remove_9 : decode b_LoopRanker_remove 9 = .ok (.ireturn, 1) := by decide +kernel
theorem d_LoopRanker_remove_10 : decode b_LoopRanker_remove 10 = .ok (.aload_n 0, 1) := by decide +kernel
theorem d_LoopRanker_remove_11 : decode b_LoopRanker_remove 11 = .ok (.getfield 11, 3) := by decide +kernel
theorem d_LoopRanker_remove_14 : decode b_LoopRanker_remove 14 = .ok (.iload_n 1, 1) := by decide +kernel
theorem d_LoopRanker_remove_15 : decode b_LoopRanker_remove 15 = .ok (.aaload, 1) := by decide +kernel
theorem d_LoopRanker_remove_16 : decode b_LoopRanker_remove 16 = .ok (.astore_n 2, 1) := by decide +kernel
theorem d_LoopRanker_remove_17 : decode b_LoopRanker_remove 17 = .ok (.iload_n 1, 1) := by decide +kernel
theorem d_LoopRanker_remove_18 : decode b_LoopRanker_remove 18 = .ok (.iconst 1, 1) := by decide +kernel
theorem d_LoopRanker_remove_19 : decode b_LoopRanker_remove 19 = .ok (.iadd, 1) := by decide +kernel
theorem d_LoopRanker_remove_20 : decode b_LoopRanker_remove 20 = .ok (.istore_n 3, 1) := by decide +kernel
theorem d_LoopRanker_remove_21 : decode b_LoopRanker_remove 21 = .ok (.iload_n 3, 1) := by decide +kernel
theorem d_LoopRanker_remove_22 : decode b_LoopRanker_remove 22 = .ok (.aload_n 0, 1) := by decide +kernel
theorem d_LoopRanker_remove_23 : decode b_LoopRanker_remove 23 = .ok (.getfield 23, 3) := by decide +kernel
theorem d_LoopRanker_remove_26 : decode b_LoopRanker_remove 26 = .ok (.if_icmp .ge 23, 3) := by decide +kernel
theorem d_LoopRanker_remove_29 : decode b_LoopRanker_remove 29 = .ok (.aload_n 0, 1) := by decide +kernel
theorem d_LoopRanker_remove_30 : decode b_LoopRanker_remove 30 = .ok (.getfield 11, 3) := by decide +kernel
theorem d_LoopRanker_remove_33 : decode b_LoopRanker_remove 33 = .ok (.iload_n 3, 1) := by decide +kernel
theorem d_LoopRanker_remove_34 : decode b_LoopRanker_remove 34 = .ok (.iconst 1, 1) := by decide +kernel
theorem d_LoopRanker_remove_35 : decode b_LoopRanker_remove 35 = .ok (.isub, 1) := by decide +kernel
theorem d_LoopRanker_remove_36 : decode b_LoopRanker_remove 36 = .ok (.aload_n 0, 1) := by decide +kernel
theorem d_LoopRanker_remove_37 : decode b_LoopRanker_remove 37 = .ok (.getfield 11, 3) := by decide +kernel
theorem d_LoopRanker_remove_40 : decode b_LoopRanker_remove 40 = .ok (.iload_n 3, 1) := by decide +kernel
theorem d_LoopRanker_remove_41 : decode b_LoopRanker_remove 41 = .ok (.aaload, 1) := by decide +kernel
theorem d_LoopRanker_remove_42 : decode b_LoopRanker_remove 42 = .ok (.aastore, 1) := by decide +kernel
theorem d_LoopRanker_remove_43 : decode b_LoopRanker_remove 43 = .ok (.iinc 3 1, 3) := by decide +kernel
theorem d_LoopRanker_remove_46 : decode b_LoopRanker_remove 46 = .ok (.goto (-25), 3) := by decide +kernel
theorem d_LoopRanker_remove_49 : decode b_LoopRanker_remove 49 = .ok (.aload_n 0, 1) := by decide +kernel
theorem d_LoopRanker_remove_50 : decode b_LoopRanker_remove 50 = .ok (.dup, 1) := by decide +kernel
theorem d_LoopRanker_remove_51 : decode b_LoopRanker_remove 51 = .ok (.getfield 23, 3) := by decide +kernel
theorem d_LoopRanker_remove_54 : decode b_LoopRanker_remove 54 = .ok (.iconst 1, 1) := by decide +kernel
theorem d_LoopRanker_remove_55 : decode b_LoopRanker_remove 55 = .ok (.isub, 1) := by decide +kernel
theorem d_LoopRanker_remove_56 : decode b_LoopRanker_remove 56 = .ok (.putfield 23, 3) := by decide +kernel
theorem d_LoopRanker_remove_59 : decode b_LoopRanker_remove 59 = .ok (.aload_n 0, 1) := by decide +kernel
theorem d_LoopRanker_remove_60 : decode b_LoopRanker_remove 60 = .ok (.getfield 11, 3) := by decide +kernel
theorem d_LoopRanker_remove_63 : decode b_LoopRanker_remove 63 = .ok (.aload_n 0, 1) := by decide +kernel
theorem d_LoopRanker_remove_64 : decode b_LoopRanker_remove 64 = .ok (.getfield 23, 3) := by decide +kernel
theorem d_LoopRanker_remove_67 : decode b_LoopRanker_remove 67 = .ok (.aload_n 2, 1) := by decide +kernel
theorem d_LoopRanker_remove_68 : decode b_LoopRanker_remove 68 = .ok (.aastore, 1) := by decide +kernel
theorem d_LoopRanker_remove_69 : decode b_LoopRanker_remove 69 = .ok (.aload_n 0, 1) := by decide +kernel
theorem d_LoopRanker_remove_70 : decode b_LoopRanker_remove 70 = .ok (.getfield 19, 3) := by decide +kernel
theorem d_LoopRanker_remove_73 : decode b_LoopRanker_remove 73 = .ok (.iconst 0, 1) := by decide +kernel
theorem d_LoopRanker_remove_74 : decode b_LoopRanker_remove 74 = .ok (.putfield 40, 3) := by decide +kernel
theorem d_LoopRanker_remove_77 : decode b_LoopRanker_remove 77 = .ok (.iconst 1, 1) := by decide +kernel
theorem d_LoopRanker_remove_78 : decode b_LoopRanker_remove 78 = .ok (.ireturn, 1) := by decide +kernel
theorem d_LoopRanker_transitions_0 : decode b_LoopRanker_transitions 0 = .ok (.aload_n 0, 1) := by decide +kernel
theorem d_LoopRanker_transitions_1 : decode b_LoopRanker_transitions 1 = .ok (.getfield 23, 3) := by decide +kernel
theorem d_LoopRanker_transitions_4 : decode b_LoopRanker_transitions 4 = .ok (.ireturn, 1) := by decide +kernel
theorem d_LoopRanker_greatest_0 : decode b_LoopRanker_greatest 0 = .ok (.aload_n 0, 1) := by decide +kernel
theorem d_LoopRanker_greatest_1 : decode b_LoopRanker_greatest 1 = .ok (.iload_n 1, 1) := by decide +kernel
theorem d_LoopRanker_greatest_2 : decode b_LoopRanker_greatest 2 = .ok (.invokevirtual 44, 3) := by decide +kernel
theorem d_LoopRanker_greatest_5 : decode b_LoopRanker_greatest 5 = .ok (.ifCond .eq 25, 3) := by decide +kernel
theorem d_LoopRanker_greatest_8 : decode b_LoopRanker_greatest 8 = .ok (.iload_n 2, 1) := by decide +kernel
theorem d_LoopRanker_greatest_9 : decode b_LoopRanker_greatest 9 = .ok (.i2l, 1) := by decide +kernel
theorem d_LoopRanker_greatest_10 : decode b_LoopRanker_greatest 10 = .ok (.ldc2_w 80, 3) := by decide +kernel
theorem d_LoopRanker_greatest_13 : decode b_LoopRanker_greatest 13 = .ok (.invokestatic 50, 3) := by decide +kernel
theorem d_LoopRanker_greatest_16 : decode b_LoopRanker_greatest 16 = .ok (.ifCond .eq 14, 3) := by decide +kernel
theorem d_LoopRanker_greatest_19 : decode b_LoopRanker_greatest 19 = .ok (.iload_n 3, 1) := by decide +kernel
theorem d_LoopRanker_greatest_20 : decode b_LoopRanker_greatest 20 = .ok (.i2l, 1) := by decide +kernel
theorem d_LoopRanker_greatest_21 : decode b_LoopRanker_greatest 21 = .ok (.ldc2_w 80, 3) := by decide +kernel
theorem d_LoopRanker_greatest_24 : decode b_LoopRanker_greatest 24 = .ok (.invokestatic 50, 3) := by decide +kernel
theorem d_LoopRanker_greatest_27 : decode b_LoopRanker_greatest 27 = .ok (.ifCond .ne 7, 3) := by decide +kernel
theorem d_LoopRanker_greatest_30 : decode b_LoopRanker_greatest 30 = .ok (.ldc2_w 82, 3) := by decide +kernel
theorem d_LoopRanker_greatest_33 : decode b_LoopRanker_greatest 33 = .ok (.lreturn, 1) := by decide +kernel
theorem d_LoopRanker_greatest_34 : decode b_LoopRanker_greatest 34 = .ok (.aload_n 0, 1) := by decide +kernel
theorem d_LoopRanker_greatest_35 : decode b_LoopRanker_greatest 35 = .ok (.getfield 11, 3) := by decide +kernel
theorem d_LoopRanker_greatest_38 : decode b_LoopRanker_greatest 38 = .ok (.iload_n 1, 1) := by decide +kernel
theorem d_LoopRanker_greatest_39 : decode b_LoopRanker_greatest 39 = .ok (.aaload, 1) := by decide +kernel
theorem d_LoopRanker_greatest_40 : decode b_LoopRanker_greatest 40 = .ok (.getfield 56, 3) := by decide +kernel
theorem d_LoopRanker_greatest_43 : decode b_LoopRanker_greatest 43 = .ok (.astore 4, 2) := by decide +kernel
theorem d_LoopRanker_greatest_45 : decode b_LoopRanker_greatest 45 = .ok (.aload 4, 2) := by decide +kernel
theorem d_LoopRanker_greatest_47 : decode b_LoopRanker_greatest 47 = .ok (.getfield 84, 3) := by decide +kernel
theorem d_LoopRanker_greatest_50 : decode b_LoopRanker_greatest 50 = .ok (.ifCond .eq 7, 3) := by decide +kernel
theorem d_LoopRanker_greatest_53 : decode b_LoopRanker_greatest 53 = .ok (.ldc2_w 87, 3) := by decide +kernel
theorem d_LoopRanker_greatest_56 : decode b_LoopRanker_greatest 56 = .ok (.lreturn, 1) := by decide +kernel
theorem d_LoopRanker_greatest_57 : decode b_LoopRanker_greatest 57 = .ok (.aload 4, 2) := by decide +kernel
theorem d_LoopRanker_greatest_59 : decode b_LoopRanker_greatest 59 = .ok (.iload_n 2, 1) := by decide +kernel
theorem d_LoopRanker_greatest_60 : decode b_LoopRanker_greatest 60 = .ok (.iload_n 3, 1) := by decide +kernel
theorem d_LoopRanker_greatest_61 : decode b_LoopRanker_greatest 61 = .ok (.invokevirtual 89, 3) := by decide +kernel
theorem d_LoopRanker_greatest_64 : decode b_LoopRanker_greatest 64 = .ok (.aload 4, 2) := by decide +kernel
theorem d_LoopRanker_greatest_66 : decode b_LoopRanker_greatest 66 = .ok (.invokevirtual 93, 3) := by decide +kernel
theorem d_LoopRanker_greatest_69 : decode b_LoopRanker_greatest 69 = .ok (.lreturn, 1) := by decide +kernel
theorem d_LoopRanker_holds_0 : decode b_LoopRanker_holds 0 = .ok (.aload_n 0, 1) := by decide +kernel
theorem d_LoopRanker_holds_1 : decode b_LoopRanker_holds 1 = .ok (.iload_n 1, 1) := by decide +kernel
theorem d_LoopRanker_holds_2 : decode b_LoopRanker_holds 2 = .ok (.invokevirtual 44, 3) := by decide +kernel
theorem d_LoopRanker_holds_5 : decode b_LoopRanker_holds 5 = .ok (.ifCond .eq 33, 3) := by decide +kernel
theorem d_LoopRanker_holds_8 : decode b_LoopRanker_holds 8 = .ok (.iload_n 2, 1) := by decide +kernel
theorem d_LoopRanker_holds_9 : decode b_LoopRanker_holds 9 = .ok (.i2l, 1) := by decide +kernel
theorem d_LoopRanker_holds_10 : decode b_LoopRanker_holds 10 = .ok (.ldc2_w 97, 3) := by decide +kernel
theorem d_LoopRanker_holds_13 : decode b_LoopRanker_holds 13 = .ok (.invokestatic 50, 3) := by decide +kernel
theorem d_LoopRanker_holds_16 : decode b_LoopRanker_holds 16 = .ok (.ifCond .eq 22, 3) := by decide +kernel
theorem d_LoopRanker_holds_19 : decode b_LoopRanker_holds 19 = .ok (.iload_n 3, 1) := by decide +kernel
theorem d_LoopRanker_holds_20 : decode b_LoopRanker_holds 20 = .ok (.i2l, 1) := by decide +kernel
theorem d_LoopRanker_holds_21 : decode b_LoopRanker_holds 21 = .ok (.ldc2_w 97, 3) := by decide +kernel
theorem d_LoopRanker_holds_24 : decode b_LoopRanker_holds 24 = .ok (.invokestatic 50, 3) := by decide +kernel
theorem d_LoopRanker_holds_27 : decode b_LoopRanker_holds 27 = .ok (.ifCond .eq 11, 3) := by decide +kernel
theorem d_LoopRanker_holds_30 : decode b_LoopRanker_holds 30 = .ok (.iload_n 2, 1) := by decide +kernel
theorem d_LoopRanker_holds_31 : decode b_LoopRanker_holds 31 = .ok (.ifCond .ne 9, 3) := by decide +kernel
theorem d_LoopRanker_holds_34 : decode b_LoopRanker_holds 34 = .ok (.iload_n 3, 1) := by decide +kernel
theorem d_LoopRanker_holds_35 : decode b_LoopRanker_holds 35 = .ok (.ifCond .ne 5, 3) := by decide +kernel
theorem d_LoopRanker_holds_38 : decode b_LoopRanker_holds 38 = .ok (.iconst 0, 1) := by decide +kernel
theorem d_LoopRanker_holds_39 : decode b_LoopRanker_holds 39 = .ok (.ireturn, 1) := by decide +kernel
theorem d_LoopRanker_holds_40 : decode b_LoopRanker_holds 40 = .ok (.iload 4, 2) := by decide +kernel
theorem d_LoopRanker_holds_68 : decode b_LoopRanker_holds 68 = .ok (.aload_n 0, 1) := by decide +kernel
theorem d_LoopRanker_holds_69 : decode b_LoopRanker_holds 69 = .ok (.getfield 11, 3) := by decide +kernel
theorem d_LoopRanker_holds_72 : decode b_LoopRanker_holds 72 = .ok (.iload_n 1, 1) := by decide +kernel
theorem d_LoopRanker_holds_73 : decode b_LoopRanker_holds 73 = .ok (.aaload, 1) := by decide +kernel
theorem d_LoopRanker_holds_74 : decode b_LoopRanker_holds 74 = .ok (.iload_n 2, 1) := by decide +kernel
theorem d_LoopRanker_holds_75 : decode b_LoopRanker_holds 75 = .ok (.iload_n 3, 1) := by decide +kernel
theorem d_LoopRanker_holds_76 : decode b_LoopRanker_holds 76 = .ok (.iconst 0, 1) := by decide +kernel
theorem d_LoopRanker_holds_77 : decode b_LoopRanker_holds 77 = .ok (.invokevirtual 99, 3) := by decide +kernel
theorem d_LoopRanker_holds_80 : decode b_LoopRanker_holds 80 = .ok (.ireturn, 1) := by decide +kernel
theorem d_LoopRanker_holds_81 : decode b_LoopRanker_holds 81 = .ok (.aload_n 0, 1) := by decide +kernel
theorem d_LoopRanker_holds_82 : decode b_LoopRanker_holds 82 = .ok (.getfield 11, 3) := by decide +kernel
theorem d_LoopRanker_holds_85 : decode b_LoopRanker_holds 85 = .ok (.iload_n 1, 1) := by decide +kernel
theorem d_LoopRanker_holds_86 : decode b_LoopRanker_holds 86 = .ok (.aaload, 1) := by decide +kernel
theorem d_LoopRanker_holds_87 : decode b_LoopRanker_holds 87 = .ok (.iload_n 2, 1) := by decide +kernel
theorem d_LoopRanker_holds_88 : decode b_LoopRanker_holds 88 = .ok (.iload_n 3, 1) := by decide +kernel
theorem d_LoopRanker_holds_89 : decode b_LoopRanker_holds 89 = .ok (.iconst (-1), 1) := by decide +kernel
theorem d_LoopRanker_holds_90 : decode b_LoopRanker_holds 90 = .ok (.invokevirtual 99, 3) := by decide +kernel
theorem d_LoopRanker_holds_93 : decode b_LoopRanker_holds 93 = .ok (.ireturn, 1) := by decide +kernel
theorem d_LoopRanker_holds_94 : decode b_LoopRanker_holds 94 = .ok (.aload_n 0, 1) := by decide +kernel
theorem d_LoopRanker_holds_95 : decode b_LoopRanker_holds 95 = .ok (.getfield 11, 3) := by decide +kernel
theorem d_LoopRanker_holds_98 : decode b_LoopRanker_holds 98 = .ok (.iload_n 1, 1) := by decide +kernel
theorem d_LoopRanker_holds_99 : decode b_LoopRanker_holds 99 = .ok (.aaload, 1) := by decide +kernel
theorem d_LoopRanker_holds_100 : decode b_LoopRanker_holds 100 = .ok (.iload_n 2, 1) := by decide +kernel
theorem d_LoopRanker_holds_101 : decode b_LoopRanker_holds 101 = .ok (.iload_n 3, 1) := by decide +kernel
theorem d_LoopRanker_holds_102 : decode b_LoopRanker_holds 102 = .ok (.invokevirtual 103, 3) := by decide +kernel
theorem d_LoopRanker_holds_105 : decode b_LoopRanker_holds 105 = .ok (.ireturn, 1) := by decide +kernel
theorem d_LoopRanker_holds_106 : decode b_LoopRanker_holds 106 = .ok (.iconst 0, 1) := by decide +kernel
theorem d_LoopRanker_holds_107 : decode b_LoopRanker_holds 107 = .ok (.ireturn, 1) := by decide +kernel
theorem d_LoopRanker_levels_0 : decode b_LoopRanker_levels 0 = .ok (.aload_n 0, 1) := by decide +kernel
theorem d_LoopRanker_levels_1 : decode b_LoopRanker_levels 1 = .ok (.getfield 19, 3) := by decide +kernel
theorem d_LoopRanker_levels_4 : decode b_LoopRanker_levels 4 = .ok (.aload_n 0, 1) := by decide +kernel
theorem d_LoopRanker_levels_5 : decode b_LoopRanker_levels 5 = .ok (.getfield 11, 3) := by decide +kernel
theorem d_LoopRanker_levels_8 : decode b_LoopRanker_levels 8 = .ok (.aload_n 0, 1) := by decide +kernel
theorem d_LoopRanker_levels_9 : decode b_LoopRanker_levels 9 = .ok (.getfield 23, 3) := by decide +kernel
theorem d_LoopRanker_levels_12 : decode b_LoopRanker_levels 12 = .ok (.invokevirtual 107, 3) := by decide +kernel
theorem d_LoopRanker_levels_15 : decode b_LoopRanker_levels 15 = .ok (.aload_n 0, 1) := by decide +kernel
theorem d_LoopRanker_levels_16 : decode b_LoopRanker_levels 16 = .ok (.getfield 19, 3) := by decide +kernel
theorem d_LoopRanker_levels_19 : decode b_LoopRanker_levels 19 = .ok (.getfield 111, 3) := by decide +kernel
theorem d_LoopRanker_levels_22 : decode b_LoopRanker_levels 22 = .ok (.ireturn, 1) := by decide +kernel
theorem d_LoopRanker_proven_0 : decode b_LoopRanker_proven 0 = .ok (.aload_n 0, 1) := by decide +kernel
theorem d_LoopRanker_proven_1 : decode b_LoopRanker_proven 1 = .ok (.getfield 19, 3) := by decide +kernel
theorem d_LoopRanker_proven_4 : decode b_LoopRanker_proven 4 = .ok (.aload_n 0, 1) := by decide +kernel
theorem d_LoopRanker_proven_5 : decode b_LoopRanker_proven 5 = .ok (.getfield 11, 3) := by decide +kernel
theorem d_LoopRanker_proven_8 : decode b_LoopRanker_proven 8 = .ok (.aload_n 0, 1) := by decide +kernel
theorem d_LoopRanker_proven_9 : decode b_LoopRanker_proven 9 = .ok (.getfield 23, 3) := by decide +kernel
theorem d_LoopRanker_proven_12 : decode b_LoopRanker_proven 12 = .ok (.invokevirtual 107, 3) := by decide +kernel
theorem d_LoopRanker_proven_15 : decode b_LoopRanker_proven 15 = .ok (.aload_n 0, 1) := by decide +kernel
theorem d_LoopRanker_proven_16 : decode b_LoopRanker_proven 16 = .ok (.getfield 19, 3) := by decide +kernel
theorem d_LoopRanker_proven_19 : decode b_LoopRanker_proven 19 = .ok (.getfield 114, 3) := by decide +kernel
theorem d_LoopRanker_proven_22 : decode b_LoopRanker_proven 22 = .ok (.ifCond .ne 7, 3) := by decide +kernel
theorem d_LoopRanker_proven_25 : decode b_LoopRanker_proven 25 = .ok (.iconst 1, 1) := by decide +kernel
theorem d_LoopRanker_proven_26 : decode b_LoopRanker_proven 26 = .ok (.goto 4, 3) := by decide +kernel
theorem d_LoopRanker_proven_29 : decode b_LoopRanker_proven 29 = .ok (.iconst 0, 1) := by decide +kernel
theorem d_LoopRanker_proven_30 : decode b_LoopRanker_proven 30 = .ok (.ireturn, 1) := by decide +kernel
theorem d_LoopRanker_levelOf_0 : decode b_LoopRanker_levelOf 0 = .ok (.aload_n 0, 1) := by decide +kernel
theorem d_LoopRanker_levelOf_1 : decode b_LoopRanker_levelOf 1 = .ok (.getfield 19, 3) := by decide +kernel
theorem d_LoopRanker_levelOf_4 : decode b_LoopRanker_levelOf 4 = .ok (.aload_n 0, 1) := by decide +kernel
theorem d_LoopRanker_levelOf_5 : decode b_LoopRanker_levelOf 5 = .ok (.getfield 11, 3) := by decide +kernel
theorem d_LoopRanker_levelOf_8 : decode b_LoopRanker_levelOf 8 = .ok (.aload_n 0, 1) := by decide +kernel
theorem d_LoopRanker_levelOf_9 : decode b_LoopRanker_levelOf 9 = .ok (.getfield 23, 3) := by decide +kernel
theorem d_LoopRanker_levelOf_12 : decode b_LoopRanker_levelOf 12 = .ok (.invokevirtual 107, 3) := by decide +kernel
theorem d_LoopRanker_levelOf_15 : decode b_LoopRanker_levelOf 15 = .ok (.aload_n 0, 1) := by decide +kernel
theorem d_LoopRanker_levelOf_16 : decode b_LoopRanker_levelOf 16 = .ok (.iload_n 1, 1) := by decide +kernel
theorem d_LoopRanker_levelOf_17 : decode b_LoopRanker_levelOf 17 = .ok (.invokevirtual 44, 3) := by decide +kernel
theorem d_LoopRanker_levelOf_20 : decode b_LoopRanker_levelOf 20 = .ok (.ifCond .eq 15, 3) := by decide +kernel
theorem d_LoopRanker_levelOf_23 : decode b_LoopRanker_levelOf 23 = .ok (.aload_n 0, 1) := by decide +kernel
theorem d_LoopRanker_levelOf_24 : decode b_LoopRanker_levelOf 24 = .ok (.getfield 19, 3) := by decide +kernel
theorem d_LoopRanker_levelOf_27 : decode b_LoopRanker_levelOf 27 = .ok (.getfield 117, 3) := by decide +kernel
theorem d_LoopRanker_levelOf_30 : decode b_LoopRanker_levelOf 30 = .ok (.iload_n 1, 1) := by decide +kernel
theorem d_LoopRanker_levelOf_31 : decode b_LoopRanker_levelOf 31 = .ok (.iaload, 1) := by decide +kernel
theorem d_LoopRanker_levelOf_32 : decode b_LoopRanker_levelOf 32 = .ok (.goto 4, 3) := by decide +kernel
theorem d_LoopRanker_levelOf_35 : decode b_LoopRanker_levelOf 35 = .ok (.iconst (-1), 1) := by decide +kernel
theorem d_LoopRanker_levelOf_36 : decode b_LoopRanker_levelOf 36 = .ok (.ireturn, 1) := by decide +kernel
theorem d_LoopRanker_coefficient_0 : decode b_LoopRanker_coefficient 0 = .ok (.aload_n 0, 1) := by decide +kernel
theorem d_LoopRanker_coefficient_1 : decode b_LoopRanker_coefficient 1 = .ok (.getfield 19, 3) := by decide +kernel
theorem d_LoopRanker_coefficient_4 : decode b_LoopRanker_coefficient 4 = .ok (.aload_n 0, 1) := by decide +kernel
theorem d_LoopRanker_coefficient_5 : decode b_LoopRanker_coefficient 5 = .ok (.getfield 11, 3) := by decide +kernel
theorem d_LoopRanker_coefficient_8 : decode b_LoopRanker_coefficient 8 = .ok (.aload_n 0, 1) := by decide +kernel
theorem d_LoopRanker_coefficient_9 : decode b_LoopRanker_coefficient 9 = .ok (.getfield 23, 3) := by decide +kernel
theorem d_LoopRanker_coefficient_12 : decode b_LoopRanker_coefficient 12 = .ok (.invokevirtual 107, 3) := by decide +kernel
theorem d_LoopRanker_coefficient_15 : decode b_LoopRanker_coefficient 15 = .ok (.aload_n 0, 1) := by decide +kernel
theorem d_LoopRanker_coefficient_16 : decode b_LoopRanker_coefficient 16 = .ok (.getfield 19, 3) := by decide +kernel
theorem d_LoopRanker_coefficient_19 : decode b_LoopRanker_coefficient 19 = .ok (.iload_n 1, 1) := by decide +kernel
theorem d_LoopRanker_coefficient_20 : decode b_LoopRanker_coefficient 20 = .ok (.invokevirtual 121, 3) := by decide +kernel
theorem d_LoopRanker_coefficient_23 : decode b_LoopRanker_coefficient 23 = .ok (.ifCond .eq 10, 3) := by decide +kernel
theorem d_LoopRanker_coefficient_26 : decode b_LoopRanker_coefficient 26 = .ok (.iload_n 2, 1) := by decide +kernel
theorem d_LoopRanker_coefficient_27 : decode b_LoopRanker_coefficient 27 = .ok (.invokestatic 69, 3) := by decide +kernel
theorem d_LoopRanker_coefficient_30 : decode b_LoopRanker_coefficient 30 = .ok (.ifCond .ne 5, 3) := by decide +kernel
theorem d_LoopRanker_coefficient_33 : decode b_LoopRanker_coefficient 33 = .ok (.iconst 0, 1) := by decide +kernel
theorem d_LoopRanker_coefficient_34 : decode b_LoopRanker_coefficient 34 = .ok (.ireturn, 1) := by decide +kernel
theorem d_LoopRanker_coefficient_35 : decode b_LoopRanker_coefficient 35 = .ok (.iload_n 2, 1) := by decide +kernel
theorem d_LoopRanker_coefficient_36 : decode b_LoopRanker_coefficient 36 = .ok (.ifCond .ne 15, 3) := by decide +kernel
theorem d_LoopRanker_coefficient_39 : decode b_LoopRanker_coefficient 39 = .ok (.aload_n 0, 1) := by decide +kernel
theorem d_LoopRanker_coefficient_40 : decode b_LoopRanker_coefficient 40 = .ok (.getfield 19, 3) := by decide +kernel
theorem d_LoopRanker_coefficient_43 : decode b_LoopRanker_coefficient 43 = .ok (.getfield 124, 3) := by decide +kernel
theorem d_LoopRanker_coefficient_46 : decode b_LoopRanker_coefficient 46 = .ok (.iload_n 1, 1) := by decide +kernel
theorem d_LoopRanker_coefficient_47 : decode b_LoopRanker_coefficient 47 = .ok (.iaload, 1) := by decide +kernel
theorem d_LoopRanker_coefficient_48 : decode b_LoopRanker_coefficient 48 = .ok (.goto 12, 3) := by decide +kernel
theorem d_LoopRanker_coefficient_51 : decode b_LoopRanker_coefficient 51 = .ok (.aload_n 0, 1) := by decide +kernel
theorem d_LoopRanker_coefficient_52 : decode b_LoopRanker_coefficient 52 = .ok (.getfield 19, 3) := by decide +kernel
theorem d_LoopRanker_coefficient_55 : decode b_LoopRanker_coefficient 55 = .ok (.getfield 127, 3) := by decide +kernel
theorem d_LoopRanker_coefficient_58 : decode b_LoopRanker_coefficient 58 = .ok (.iload_n 1, 1) := by decide +kernel
theorem d_LoopRanker_coefficient_59 : decode b_LoopRanker_coefficient 59 = .ok (.iaload, 1) := by decide +kernel
theorem d_LoopRanker_coefficient_60 : decode b_LoopRanker_coefficient 60 = .ok (.ireturn, 1) := by decide +kernel
theorem d_LoopRanker_floor_0 : decode b_LoopRanker_floor 0 = .ok (.aload_n 0, 1) := by decide +kernel
theorem d_LoopRanker_floor_1 : decode b_LoopRanker_floor 1 = .ok (.getfield 19, 3) := by decide +kernel
theorem d_LoopRanker_floor_4 : decode b_LoopRanker_floor 4 = .ok (.aload_n 0, 1) := by decide +kernel
theorem d_LoopRanker_floor_5 : decode b_LoopRanker_floor 5 = .ok (.getfield 11, 3) := by decide +kernel
theorem d_LoopRanker_floor_8 : decode b_LoopRanker_floor 8 = .ok (.aload_n 0, 1) := by decide +kernel
theorem d_LoopRanker_floor_9 : decode b_LoopRanker_floor 9 = .ok (.getfield 23, 3) := by decide +kernel
theorem d_LoopRanker_floor_12 : decode b_LoopRanker_floor 12 = .ok (.invokevirtual 107, 3) := by decide +kernel
theorem d_LoopRanker_floor_15 : decode b_LoopRanker_floor 15 = .ok (.aload_n 0, 1) := by decide +kernel
theorem d_LoopRanker_floor_16 : decode b_LoopRanker_floor 16 = .ok (.getfield 19, 3) := by decide +kernel
theorem d_LoopRanker_floor_19 : decode b_LoopRanker_floor 19 = .ok (.iload_n 1, 1) := by decide +kernel
theorem d_LoopRanker_floor_20 : decode b_LoopRanker_floor 20 = .ok (.invokevirtual 121, 3) := by decide +kernel
theorem d_LoopRanker_floor_23 : decode b_LoopRanker_floor 23 = .ok (.ifCond .eq 15, 3) := by decide +kernel
theorem d_LoopRanker_floor_26 : decode b_LoopRanker_floor 26 = .ok (.aload_n 0, 1) := by decide +kernel
theorem d_LoopRanker_floor_27 : decode b_LoopRanker_floor 27 = .ok (.getfield 19, 3) := by decide +kernel
theorem d_LoopRanker_floor_30 : decode b_LoopRanker_floor 30 = .ok (.getfield 130, 3) := by decide +kernel
theorem d_LoopRanker_floor_33 : decode b_LoopRanker_floor 33 = .ok (.iload_n 1, 1) := by decide +kernel
theorem d_LoopRanker_floor_34 : decode b_LoopRanker_floor 34 = .ok (.laload, 1) := by decide +kernel
theorem d_LoopRanker_floor_35 : decode b_LoopRanker_floor 35 = .ok (.goto 6, 3) := by decide +kernel
theorem d_LoopRanker_floor_38 : decode b_LoopRanker_floor 38 = .ok (.ldc2_w 82, 3) := by decide +kernel
theorem d_LoopRanker_floor_41 : decode b_LoopRanker_floor 41 = .ok (.lreturn, 1) := by decide +kernel
theorem d_LoopRanker_start_0 : decode b_LoopRanker_start 0 = .ok (.iload_n 1, 1) := by decide +kernel
theorem d_LoopRanker_start_1 : decode b_LoopRanker_start 1 = .ok (.i2l, 1) := by decide +kernel
theorem d_LoopRanker_start_2 : decode b_LoopRanker_start 2 = .ok (.ldc2_w 134, 3) := by decide +kernel
theorem d_LoopRanker_start_5 : decode b_LoopRanker_start 5 = .ok (.invokestatic 50, 3) := by decide +kernel
theorem d_LoopRanker_start_8 : decode b_LoopRanker_start 8 = .ok (.ifCond .eq 14, 3) := by decide +kernel
theorem d_LoopRanker_start_11 : decode b_LoopRanker_start 11 = .ok (.iload_n 2, 1) := by decide +kernel
theorem d_LoopRanker_start_12 : decode b_LoopRanker_start 12 = .ok (.i2l, 1) := by decide +kernel
theorem d_LoopRanker_start_13 : decode b_LoopRanker_start 13 = .ok (.ldc2_w 134, 3) := by decide +kernel
theorem d_LoopRanker_start_16 : decode b_LoopRanker_start 16 = .ok (.invokestatic 50, 3) := by decide +kernel
theorem d_LoopRanker_start_19 : decode b_LoopRanker_start 19 = .ok (.ifCond .ne 5, 3) := by decide +kernel
theorem d_LoopRanker_start_22 : decode b_LoopRanker_start 22 = .ok (.iconst 0, 1) := by decide +kernel
theorem d_LoopRanker_start_23 : decode b_LoopRanker_start 23 = .ok (.ireturn, 1) := by decide +kernel
theorem d_LoopRanker_start_24 : decode b_LoopRanker_start 24 = .ok (.aload_n 0, 1) := by decide +kernel
theorem d_LoopRanker_start_25 : decode b_LoopRanker_start 25 = .ok (.iload_n 1, 1) := by decide +kernel
theorem d_LoopRanker_start_26 : decode b_LoopRanker_start 26 = .ok (.i2l, 1) := by decide +kernel
theorem d_LoopRanker_start_27 : decode b_LoopRanker_start 27 = .ok (.putfield 27, 3) := by decide +kernel
theorem d_LoopRanker_start_30 : decode b_LoopRanker_start 30 = .ok (.aload_n 0, 1) := by decide +kernel
theorem d_LoopRanker_start_31 : decode b_LoopRanker_start 31 = .ok (.iload_n 2, 1) := by decide +kernel
theorem d_LoopRanker_start_32 : decode b_LoopRanker_start 32 = .ok (.i2l, 1) := by decide +kernel
theorem d_LoopRanker_start_33 : decode b_LoopRanker_start 33 = .ok (.putfield 31, 3) := by decide +kernel
theorem d_LoopRanker_start_36 : decode b_LoopRanker_start 36 = .ok (.aload_n 0, 1) := by decide +kernel
theorem d_LoopRanker_start_37 : decode b_LoopRanker_start 37 = .ok (.iconst 0, 1) := by decide +kernel
theorem d_LoopRanker_start_38 : decode b_LoopRanker_start 38 = .ok (.putfield 34, 3) := by decide +kernel
theorem d_LoopRanker_start_41 : decode b_LoopRanker_start 41 = .ok (.iconst 1, 1) := by decide +kernel
theorem d_LoopRanker_start_42 : decode b_LoopRanker_start 42 = .ok (.ireturn, 1) := by decide +kernel
theorem d_LoopRanker_fire_0 : decode b_LoopRanker_fire 0 = .ok (.aload_n 0, 1) := by decide +kernel
theorem d_LoopRanker_fire_1 : decode b_LoopRanker_fire 1 = .ok (.iload_n 1, 1) := by decide +kernel
theorem d_LoopRanker_fire_2 : decode b_LoopRanker_fire 2 = .ok (.invokevirtual 44, 3) := by decide +kernel
theorem d_LoopRanker_fire_5 : decode b_LoopRanker_fire 5 = .ok (.ifCond .eq 26, 3) := by decide +kernel
theorem d_LoopRanker_fire_8 : decode b_LoopRanker_fire 8 = .ok (.aload_n 0, 1) := by decide +kernel
theorem d_LoopRanker_fire_9 : decode b_LoopRanker_fire 9 = .ok (.getfield 11, 3) := by decide +kernel
theorem d_LoopRanker_fire_12 : decode b_LoopRanker_fire 12 = .ok (.iload_n 1, 1) := by decide +kernel
theorem d_LoopRanker_fire_13 : decode b_LoopRanker_fire 13 = .ok (.aaload, 1) := by decide +kernel
theorem d_LoopRanker_fire_14 : decode b_LoopRanker_fire 14 = .ok (.getfield 56, 3) := by decide +kernel
theorem d_LoopRanker_fire_17 : decode b_LoopRanker_fire 17 = .ok (.aload_n 0, 1) := by decide +kernel
theorem d_LoopRanker_fire_18 : decode b_LoopRanker_fire 18 = .ok (.getfield 27, 3) := by decide +kernel
theorem d_LoopRanker_fire_21 : decode b_LoopRanker_fire 21 = .ok (.aload_n 0, 1) := by decide +kernel
theorem d_LoopRanker_fire_22 : decode b_LoopRanker_fire 22 = .ok (.getfield 31, 3) := by decide +kernel
theorem d_LoopRanker_fire_25 : decode b_LoopRanker_fire 25 = .ok (.invokevirtual 136, 3) := by decide +kernel
theorem d_LoopRanker_fire_28 : decode b_LoopRanker_fire 28 = .ok (.ifCond .ne 5, 3) := by decide +kernel
theorem d_LoopRanker_fire_31 : decode b_LoopRanker_fire 31 = .ok (.iconst 0, 1) := by decide +kernel
theorem d_LoopRanker_fire_32 : decode b_LoopRanker_fire 32 = .ok (.ireturn, 1) := by decide +kernel
theorem d_LoopRanker_fire_33 : decode b_LoopRanker_fire 33 = .ok (.aload_n 0, 1) := by decide +kernel
theorem d_LoopRanker_fire_34 : decode b_LoopRanker_fire 34 = .ok (.getfield 11, 3) := by decide +kernel
theorem d_LoopRanker_fire_37 : decode b_LoopRanker_fire 37 = .ok (.iload_n 1, 1) := by decide +kernel
theorem d_LoopRanker_fire_38 : decode b_LoopRanker_fire 38 = .ok (.aaload, 1) := by decide +kernel
theorem d_LoopRanker_fire_39 : decode b_LoopRanker_fire 39 = .ok (.iconst 0, 1) := by decide +kernel
theorem d_LoopRanker_fire_40 : decode b_LoopRanker_fire 40 = .ok (.aload_n 0, 1) := by decide +kernel
theorem d_LoopRanker_fire_41 : decode b_LoopRanker_fire 41 = .ok (.getfield 27, 3) := by decide +kernel
theorem d_LoopRanker_fire_44 : decode b_LoopRanker_fire 44 = .ok (.aload_n 0, 1) := by decide +kernel
theorem d_LoopRanker_fire_45 : decode b_LoopRanker_fire 45 = .ok (.getfield 31, 3) := by decide +kernel
theorem d_LoopRanker_fire_48 : decode b_LoopRanker_fire 48 = .ok (.invokevirtual 139, 3) := by decide +kernel
theorem d_LoopRanker_fire_51 : decode b_LoopRanker_fire 51 = .ok (.lstore_n 2, 1) := by decide +kernel
theorem d_LoopRanker_fire_52 : decode b_LoopRanker_fire 52 = .ok (.aload_n 0, 1) := by decide +kernel
theorem d_LoopRanker_fire_53 : decode b_LoopRanker_fire 53 = .ok (.getfield 11, 3) := by decide +kernel
theorem d_LoopRanker_fire_56 : decode b_LoopRanker_fire 56 = .ok (.iload_n 1, 1) := by decide +kernel
theorem d_LoopRanker_fire_57 : decode b_LoopRanker_fire 57 = .ok (.aaload, 1) := by decide +kernel
theorem d_LoopRanker_fire_58 : decode b_LoopRanker_fire 58 = .ok (.iconst 1, 1) := by decide +kernel
theorem d_LoopRanker_fire_59 : decode b_LoopRanker_fire 59 = .ok (.aload_n 0, 1) := by decide +kernel
theorem d_LoopRanker_fire_60 : decode b_LoopRanker_fire 60 = .ok (.getfield 27, 3) := by decide +kernel
theorem d_LoopRanker_fire_63 : decode b_LoopRanker_fire 63 = .ok (.aload_n 0, 1) := by decide +kernel
theorem d_LoopRanker_fire_64 : decode b_LoopRanker_fire 64 = .ok (.getfield 31, 3) := by decide +kernel
theorem d_LoopRanker_fire_67 : decode b_LoopRanker_fire 67 = .ok (.invokevirtual 139, 3) := by decide +kernel
theorem d_LoopRanker_fire_70 : decode b_LoopRanker_fire 70 = .ok (.lstore 4, 2) := by decide +kernel
theorem d_LoopRanker_fire_72 : decode b_LoopRanker_fire 72 = .ok (.lload_n 2, 1) := by decide +kernel
theorem d_LoopRanker_fire_73 : decode b_LoopRanker_fire 73 = .ok (.ldc2_w 143, 3) := by decide +kernel
theorem d_LoopRanker_fire_76 : decode b_LoopRanker_fire 76 = .ok (.invokestatic 50, 3) := by decide +kernel
theorem d_LoopRanker_fire_79 : decode b_LoopRanker_fire 79 = .ok (.ifCond .eq 14, 3) := by decide +kernel
theorem d_LoopRanker_fire_82 : decode b_LoopRanker_fire 82 = .ok (.lload 4, 2) := by decide +kernel
theorem d_LoopRanker_fire_84 : decode b_LoopRanker_fire 84 = .ok (.ldc2_w 143, 3) := by decide +kernel
theorem d_LoopRanker_fire_87 : decode b_LoopRanker_fire 87 = .ok (.invokestatic 50, 3) := by decide +kernel
theorem d_LoopRanker_fire_90 : decode b_LoopRanker_fire 90 = .ok (.ifCond .ne 5, 3) := by decide +kernel
theorem d_LoopRanker_fire_93 : decode b_LoopRanker_fire 93 = .ok (.iconst 0, 1) := by decide +kernel
theorem d_LoopRanker_fire_94 : decode b_LoopRanker_fire 94 = .ok (.ireturn, 1) := by decide +kernel
theorem d_LoopRanker_fire_95 : decode b_LoopRanker_fire 95 = .ok (.aload_n 0, 1) := by decide +kernel
theorem d_LoopRanker_fire_96 : decode b_LoopRanker_fire 96 = .ok (.lload_n 2, 1) := by decide +kernel
theorem d_LoopRanker_fire_97 : decode b_LoopRanker_fire 97 = .ok (.putfield 27, 3) := by decide +kernel
theorem d_LoopRanker_fire_100 : decode b_LoopRanker_fire 100 = .ok (.aload_n 0, 1) := by decide +kernel
theorem d_LoopRanker_fire_101 : decode b_LoopRanker_fire 101 = .ok (.lload 4, 2) := by decide +kernel
theorem d_LoopRanker_fire_103 : decode b_LoopRanker_fire 103 = .ok (.putfield 31, 3) := by decide +kernel
theorem d_LoopRanker_fire_106 : decode b_LoopRanker_fire 106 = .ok (.aload_n 0, 1) := by decide +kernel
theorem d_LoopRanker_fire_107 : decode b_LoopRanker_fire 107 = .ok (.dup, 1) := by decide +kernel
theorem d_LoopRanker_fire_108 : decode b_LoopRanker_fire 108 = .ok (.getfield 34, 3) := by decide +kernel
theorem d_LoopRanker_fire_111 : decode b_LoopRanker_fire 111 = .ok (.iconst 1, 1) := by decide +kernel
theorem d_LoopRanker_fire_112 : decode b_LoopRanker_fire 112 = .ok (.iadd, 1) := by decide +kernel
theorem d_LoopRanker_fire_113 : decode b_LoopRanker_fire 113 = .ok (.putfield 34, 3) := by decide +kernel
theorem d_LoopRanker_fire_116 : decode b_LoopRanker_fire 116 = .ok (.iconst 1, 1) := by decide +kernel
theorem d_LoopRanker_fire_117 : decode b_LoopRanker_fire 117 = .ok (.ireturn, 1) := by decide +kernel
theorem d_LoopRanker_value_0 : decode b_LoopRanker_value 0 = .ok (.iload_n 1, 1) := by decide +kernel
theorem d_LoopRanker_value_1 : decode b_LoopRanker_value 1 = .ok (.invokestatic 69, 3) := by decide +kernel
theorem d_LoopRanker_value_4 : decode b_LoopRanker_value 4 = .ok (.ifCond .ne 5, 3) := by decide +kernel
theorem d_LoopRanker_value_7 : decode b_LoopRanker_value 7 = .ok (.lconst 0, 1) := by decide +kernel
theorem d_LoopRanker_value_8 : decode b_LoopRanker_value 8 = .ok (.lreturn, 1) := by decide +kernel
theorem d_LoopRanker_value_9 : decode b_LoopRanker_value 9 = .ok (.iload_n 1, 1) := by decide +kernel
theorem d_LoopRanker_value_10 : decode b_LoopRanker_value 10 = .ok (.ifCond .ne 10, 3) := by decide +kernel
theorem d_LoopRanker_value_13 : decode b_LoopRanker_value 13 = .ok (.aload_n 0, 1) := by decide +kernel
theorem d_LoopRanker_value_14 : decode b_LoopRanker_value 14 = .ok (.getfield 27, 3) := by decide +kernel
theorem d_LoopRanker_value_17 : decode b_LoopRanker_value 17 = .ok (.goto 7, 3) := by decide +kernel
theorem d_LoopRanker_value_20 : decode b_LoopRanker_value 20 = .ok (.aload_n 0, 1) := by decide +kernel
theorem d_LoopRanker_value_21 : decode b_LoopRanker_value 21 = .ok (.getfield 31, 3) := by decide +kernel
theorem d_LoopRanker_value_24 : decode b_LoopRanker_value 24 = .ok (.lreturn, 1) := by decide +kernel
theorem d_LoopRanker_fired_0 : decode b_LoopRanker_fired 0 = .ok (.aload_n 0, 1) := by decide +kernel
theorem d_LoopRanker_fired_1 : decode b_LoopRanker_fired 1 = .ok (.getfield 34, 3) := by decide +kernel
theorem d_LoopRanker_fired_4 : decode b_LoopRanker_fired 4 = .ok (.ireturn, 1) := by decide +kernel
theorem d_LoopRanker_rank_0 : decode b_LoopRanker_rank 0 = .ok (.aload_n 0, 1) := by decide +kernel
theorem d_LoopRanker_rank_1 : decode b_LoopRanker_rank 1 = .ok (.getfield 19, 3) := by decide +kernel
theorem d_LoopRanker_rank_4 : decode b_LoopRanker_rank 4 = .ok (.aload_n 0, 1) := by decide +kernel
theorem d_LoopRanker_rank_5 : decode b_LoopRanker_rank 5 = .ok (.getfield 11, 3) := by decide +kernel
theorem d_LoopRanker_rank_8 : decode b_LoopRanker_rank 8 = .ok (.aload_n 0, 1) := by decide +kernel
theorem d_LoopRanker_rank_9 : decode b_LoopRanker_rank 9 = .ok (.getfield 23, 3) := by decide +kernel
theorem d_LoopRanker_rank_12 : decode b_LoopRanker_rank 12 = .ok (.invokevirtual 107, 3) := by decide +kernel
theorem d_LoopRanker_rank_15 : decode b_LoopRanker_rank 15 = .ok (.aload_n 0, 1) := by decide +kernel
theorem d_LoopRanker_rank_16 : decode b_LoopRanker_rank 16 = .ok (.getfield 19, 3) := by decide +kernel
theorem d_LoopRanker_rank_19 : decode b_LoopRanker_rank 19 = .ok (.iload_n 1, 1) := by decide +kernel
theorem d_LoopRanker_rank_20 : decode b_LoopRanker_rank 20 = .ok (.invokevirtual 121, 3) := by decide +kernel
theorem d_LoopRanker_rank_23 : decode b_LoopRanker_rank 23 = .ok (.ifCond .eq 22, 3) := by decide +kernel
theorem d_LoopRanker_rank_26 : decode b_LoopRanker_rank 26 = .ok (.aload_n 0, 1) := by decide +kernel
theorem d_LoopRanker_rank_27 : decode b_LoopRanker_rank 27 = .ok (.getfield 19, 3) := by decide +kernel
theorem d_LoopRanker_rank_30 : decode b_LoopRanker_rank 30 = .ok (.iload_n 1, 1) := by decide +kernel
theorem d_LoopRanker_rank_31 : decode b_LoopRanker_rank 31 = .ok (.aload_n 0, 1) := by decide +kernel
theorem d_LoopRanker_rank_32 : decode b_LoopRanker_rank 32 = .ok (.getfield 27, 3) := by decide +kernel
theorem d_LoopRanker_rank_35 : decode b_LoopRanker_rank 35 = .ok (.aload_n 0, 1) := by decide +kernel
theorem d_LoopRanker_rank_36 : decode b_LoopRanker_rank 36 = .ok (.getfield 31, 3) := by decide +kernel
theorem d_LoopRanker_rank_39 : decode b_LoopRanker_rank 39 = .ok (.invokevirtual 145, 3) := by decide +kernel
theorem d_LoopRanker_rank_42 : decode b_LoopRanker_rank 42 = .ok (.goto 6, 3) := by decide +kernel
theorem d_LoopRanker_rank_45 : decode b_LoopRanker_rank 45 = .ok (.ldc2_w 82, 3) := by decide +kernel
theorem d_LoopRanker_rank_48 : decode b_LoopRanker_rank 48 = .ok (.lreturn, 1) := by decide +kernel
theorem d_LoopRanker_budget_0 : decode b_LoopRanker_budget 0 = .ok (.aload_n 0, 1) := by decide +kernel
theorem d_LoopRanker_budget_1 : decode b_LoopRanker_budget 1 = .ok (.getfield 19, 3) := by decide +kernel
theorem d_LoopRanker_budget_4 : decode b_LoopRanker_budget 4 = .ok (.aload_n 0, 1) := by decide +kernel
theorem d_LoopRanker_budget_5 : decode b_LoopRanker_budget 5 = .ok (.getfield 11, 3) := by decide +kernel
theorem d_LoopRanker_budget_8 : decode b_LoopRanker_budget 8 = .ok (.aload_n 0, 1) := by decide +kernel
theorem d_LoopRanker_budget_9 : decode b_LoopRanker_budget 9 = .ok (.getfield 23, 3) := by decide +kernel
theorem d_LoopRanker_budget_12 : decode b_LoopRanker_budget 12 = .ok (.invokevirtual 107, 3) := by decide +kernel
theorem d_LoopRanker_budget_15 : decode b_LoopRanker_budget 15 = .ok (.aload_n 0, 1) := by decide +kernel
theorem d_LoopRanker_budget_16 : decode b_LoopRanker_budget 16 = .ok (.getfield 19, 3) := by decide +kernel
theorem d_LoopRanker_budget_19 : decode b_LoopRanker_budget 19 = .ok (.getfield 114, 3) := by decide +kernel
theorem d_LoopRanker_budget_22 : decode b_LoopRanker_budget 22 = .ok (.ifCond .ne 14, 3) := by decide +kernel
theorem d_LoopRanker_budget_25 : decode b_LoopRanker_budget 25 = .ok (.aload_n 0, 1) := by decide +kernel
theorem d_LoopRanker_budget_26 : decode b_LoopRanker_budget 26 = .ok (.getfield 19, 3) := by decide +kernel
theorem d_LoopRanker_budget_29 : decode b_LoopRanker_budget 29 = .ok (.getfield 111, 3) := by decide +kernel
theorem d_LoopRanker_budget_32 : decode b_LoopRanker_budget 32 = .ok (.iconst 1, 1) := by decide +kernel
theorem d_LoopRanker_budget_33 : decode b_LoopRanker_budget 33 = .ok (.if_icmp .eq 7, 3) := by decide +kernel
theorem d_LoopRanker_budget_36 : decode b_LoopRanker_budget 36 = .ok (.ldc2_w 148, 3) := by decide +kernel
theorem d_LoopRanker_budget_39 : decode b_LoopRanker_budget 39 = .ok (.lreturn, 1) := by decide +kernel
theorem d_LoopRanker_budget_40 : decode b_LoopRanker_budget 40 = .ok (.lconst 0, 1) := by decide +kernel
theorem d_LoopRanker_budget_41 : decode b_LoopRanker_budget 41 = .ok (.aload_n 0, 1) := by decide +kernel
theorem d_LoopRanker_budget_42 : decode b_LoopRanker_budget 42 = .ok (.getfield 19, 3) := by decide +kernel
theorem d_LoopRanker_budget_45 : decode b_LoopRanker_budget 45 = .ok (.iconst 0, 1) := by decide +kernel
theorem d_LoopRanker_budget_46 : decode b_LoopRanker_budget 46 = .ok (.aload_n 0, 1) := by decide +kernel
theorem d_LoopRanker_budget_47 : decode b_LoopRanker_budget 47 = .ok (.getfield 27, 3) := by decide +kernel
theorem d_LoopRanker_budget_50 : decode b_LoopRanker_budget 50 = .ok (.aload_n 0, 1) := by decide +kernel
theorem d_LoopRanker_budget_51 : decode b_LoopRanker_budget 51 = .ok (.getfield 31, 3) := by decide +kernel
theorem d_LoopRanker_budget_54 : decode b_LoopRanker_budget 54 = .ok (.invokevirtual 145, 3) := by decide +kernel
theorem d_LoopRanker_budget_57 : decode b_LoopRanker_budget 57 = .ok (.aload_n 0, 1) := by decide +kernel
theorem d_LoopRanker_budget_58 : decode b_LoopRanker_budget 58 = .ok (.getfield 19, 3) := by decide +kernel
theorem d_LoopRanker_budget_61 : decode b_LoopRanker_budget 61 = .ok (.getfield 130, 3) := by decide +kernel
theorem d_LoopRanker_budget_64 : decode b_LoopRanker_budget 64 = .ok (.iconst 0, 1) := by decide +kernel
theorem d_LoopRanker_budget_65 : decode b_LoopRanker_budget 65 = .ok (.laload, 1) := by decide +kernel
theorem d_LoopRanker_budget_66 : decode b_LoopRanker_budget 66 = .ok (.lsub, 1) := by decide +kernel
theorem d_LoopRanker_budget_67 : decode b_LoopRanker_budget 67 = .ok (.lconst 1, 1) := by decide +kernel
theorem d_LoopRanker_budget_68 : decode b_LoopRanker_budget 68 = .ok (.ladd, 1) := by decide +kernel
theorem d_LoopRanker_budget_69 : decode b_LoopRanker_budget 69 = .ok (.invokestatic 150, 3) := by decide +kernel
theorem d_LoopRanker_budget_72 : decode b_LoopRanker_budget 72 = .ok (.lreturn, 1) := by decide +kernel
theorem d_LoopRanker_isStep_0 : decode b_LoopRanker_isStep 0 = .ok (.iload_n 1, 1) := by decide +kernel
theorem d_LoopRanker_isStep_1 : decode b_LoopRanker_isStep 1 = .ok (.ifCond .lt 15, 3) := by decide +kernel
theorem d_LoopRanker_isStep_4 : decode b_LoopRanker_isStep 4 = .ok (.iload_n 1, 1) := by decide +kernel
theorem d_LoopRanker_isStep_5 : decode b_LoopRanker_isStep 5 = .ok (.aload_n 0, 1) := by decide +kernel
theorem d_LoopRanker_isStep_6 : decode b_LoopRanker_isStep 6 = .ok (.getfield 23, 3) := by decide +kernel
theorem d_LoopRanker_isStep_9 : decode b_LoopRanker_isStep 9 = .ok (.if_icmp .ge 7, 3) := by decide +kernel
theorem d_LoopRanker_isStep_12 : decode b_LoopRanker_isStep 12 = .ok (.iconst 1, 1) := by decide +kernel
theorem d_LoopRanker_isStep_13 : decode b_LoopRanker_isStep 13 = .ok (.goto 4, 3) := by decide +kernel
theorem d_LoopRanker_isStep_16 : decode b_LoopRanker_isStep 16 = .ok (.iconst 0, 1) := by decide +kernel
theorem d_LoopRanker_isStep_17 : decode b_LoopRanker_isStep 17 = .ok (.ireturn, 1) := by decide +kernel
theorem d_LoopRanker_isVariable_0 : decode b_LoopRanker_isVariable 0 = .ok (.iload_n 0, 1) := by decide +kernel
theorem d_LoopRanker_isVariable_1 : decode b_LoopRanker_isVariable 1 = .ok (.ifCond .eq 8, 3) := by decide +kernel
theorem d_LoopRanker_isVariable_4 : decode b_LoopRanker_isVariable 4 = .ok (.iload_n 0, 1) := by decide +kernel
theorem d_LoopRanker_isVariable_5 : decode b_LoopRanker_isVariable 5 = .ok (.iconst 1, 1) := by decide +kernel
theorem d_LoopRanker_isVariable_6 : decode b_LoopRanker_isVariable 6 = .ok (.if_icmp .ne 7, 3) := by decide +kernel
theorem d_LoopRanker_isVariable_9 : decode b_LoopRanker_isVariable 9 = .ok (.iconst 1, 1) := by decide +kernel
theorem d_LoopRanker_isVariable_10 : decode b_LoopRanker_isVariable 10 = .ok (.goto 4, 3) := by decide +kernel
theorem d_LoopRanker_isVariable_13 : decode b_LoopRanker_isVariable 13 = .ok (.iconst 0, 1) := by decide +kernel
theorem d_LoopRanker_isVariable_14 : decode b_LoopRanker_isVariable 14 = .ok (.ireturn, 1) := by decide +kernel
theorem d_LoopRanker_isWithin_0 : decode b_LoopRanker_isWithin 0 = .ok (.lload_n 0, 1) := by decide +kernel
theorem d_LoopRanker_isWithin_1 : decode b_LoopRanker_isWithin 1 = .ok (.lload_n 2, 1) := by decide +kernel
theorem d_LoopRanker_isWithin_2 : decode b_LoopRanker_isWithin 2 = .ok (.lneg, 1) := by decide +kernel
theorem d_LoopRanker_isWithin_3 : decode b_LoopRanker_isWithin 3 = .ok (.lcmp, 1) := by decide +kernel
theorem d_LoopRanker_isWithin_4 : decode b_LoopRanker_isWithin 4 = .ok (.ifCond .lt 13, 3) := by decide +kernel
theorem d_LoopRanker_isWithin_7 : decode b_LoopRanker_isWithin 7 = .ok (.lload_n 0, 1) := by decide +kernel
theorem d_LoopRanker_isWithin_8 : decode b_LoopRanker_isWithin 8 = .ok (.lload_n 2, 1) := by decide +kernel
theorem d_LoopRanker_isWithin_9 : decode b_LoopRanker_isWithin 9 = .ok (.lcmp, 1) := by decide +kernel
theorem d_LoopRanker_isWithin_10 : decode b_LoopRanker_isWithin 10 = .ok (.ifCond .gt 7, 3) := by decide +kernel
theorem d_LoopRanker_isWithin_13 : decode b_LoopRanker_isWithin 13 = .ok (.iconst 1, 1) := by decide +kernel
theorem d_LoopRanker_isWithin_14 : decode b_LoopRanker_isWithin 14 = .ok (.goto 4, 3) := by decide +kernel
theorem d_LoopRanker_isWithin_17 : decode b_LoopRanker_isWithin 17 = .ok (.iconst 0, 1) := by decide +kernel
theorem d_LoopRanker_isWithin_18 : decode b_LoopRanker_isWithin 18 = .ok (.ireturn, 1) := by decide +kernel
