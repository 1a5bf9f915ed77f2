theorem d_Step_init_0 : decode b_Step_init 0 = .ok (.aload_n 0, 1) := by decide +kernel
theorem d_Step_init_1 : decode b_Step_init 1 = .ok (.invokespecial 3, 3) := by decide +kernel
theorem d_Step_init_4 : decode b_Step_init 4 = .ok (.aload_n 0, 1) := by decide +kernel
theorem d_Step_init_5 : decode b_Step_init 5 = .ok (.new 9, 3) := by decide +kernel
theorem d_Step_init_8 : decode b_Step_init 8 = .ok (.dup, 1) := by decide +kernel
theorem d_Step_init_9 : decode b_Step_init 9 = .ok (.invokespecial 11, 3) := by decide +kernel
theorem d_Step_init_12 : decode b_Step_init 12 = .ok (.putfield 12, 3) := by decide +kernel
theorem d_Step_init_15 : decode b_Step_init 15 = .ok (.aload_n 0, 1) := by decide +kernel
theorem d_Step_init_16 : decode b_Step_init 16 = .ok (.bipush 6, 2) := by decide +kernel
theorem d_Step_init_18 : decode b_Step_init 18 = .ok (.newarray .int, 2) := by decide +kernel
theorem d_Step_init_20 : decode b_Step_init 20 = .ok (.putfield 18, 3) := by decide +kernel
theorem d_Step_init_23 : decode b_Step_init 23 = .ok (.aload_n 0, 1) := by decide +kernel
theorem d_Step_init_24 : decode b_Step_init 24 = .ok (.bipush 80, 2) := by decide +kernel
theorem d_Step_init_26 : decode b_Step_init 26 = .ok (.newarray .int, 2) := by decide +kernel
theorem d_Step_init_28 : decode b_Step_init 28 = .ok (.putfield 22, 3) := by decide +kernel
theorem d_Step_init_31 : decode b_Step_init 31 = .ok (.aload_n 0, 1) := by decide +kernel
theorem d_Step_init_32 : decode b_Step_init 32 = .ok (.iconst 0, 1) := by decide +kernel
theorem d_Step_init_33 : decode b_Step_init 33 = .ok (.putfield 25, 3) := by decide +kernel
theorem d_Step_init_36 : decode b_Step_init 36 = .ok (.return_, 1) := by decide +kernel
theorem d_Step_reset_0 : decode b_Step_reset 0 = .ok (.aload_n 0, 1) := by decide +kernel
theorem d_Step_reset_1 : decode b_Step_reset 1 = .ok (.getfield 12, 3) := by decide +kernel
theorem d_Step_reset_4 : decode b_Step_reset 4 = .ok (.invokevirtual 29, 3) := by decide +kernel
theorem d_Step_reset_7 : decode b_Step_reset 7 = .ok (.aload_n 0, 1) := by decide +kernel
theorem d_Step_reset_8 : decode b_Step_reset 8 = .ok (.iconst 0, 1) := by decide +kernel
theorem d_Step_reset_9 : decode b_Step_reset 9 = .ok (.iconst 1, 1) := by decide +kernel
theorem d_Step_reset_10 : decode b_Step_reset 10 = .ok (.iconst 0, 1) := by decide +kernel
theorem d_Step_reset_11 : decode b_Step_reset 11 = .ok (.iconst 0, 1) := by decide +kernel
theorem d_Step_reset_12 : decode b_Step_reset 12 = .ok (.invokevirtual 32, 3) := by decide +kernel
theorem d_Step_reset_15 : decode b_Step_reset 15 = .ok (.aload_n 0, 1) := by decide +kernel
theorem d_Step_reset_16 : decode b_Step_reset 16 = .ok (.iconst 1, 1) := by decide +kernel
theorem d_Step_reset_17 : decode b_Step_reset 17 = .ok (.iconst 0, 1) := by decide +kernel
theorem d_Step_reset_18 : decode b_Step_reset 18 = .ok (.iconst 1, 1) := by decide +kernel
theorem d_Step_reset_19 : decode b_Step_reset 19 = .ok (.iconst 0, 1) := by decide +kernel
theorem d_Step_reset_20 : decode b_Step_reset 20 = .ok (.invokevirtual 32, 3) := by decide +kernel
theorem d_Step_reset_23 : decode b_Step_reset 23 = .ok (.return_, 1) := by decide +kernel
theorem d_Step_addRow_0 : decode b_Step_addRow 0 = .ok (.aload_n 0, 1) := by decide +kernel
theorem d_Step_addRow_1 : decode b_Step_addRow 1 = .ok (.getfield 12, 3) := by decide +kernel
theorem d_Step_addRow_4 : decode b_Step_addRow 4 = .ok (.iload_n 1, 1) := by decide +kernel
theorem d_Step_addRow_5 : decode b_Step_addRow 5 = .ok (.iload_n 2, 1) := by decide +kernel
theorem d_Step_addRow_6 : decode b_Step_addRow 6 = .ok (.iload_n 3, 1) := by decide +kernel
theorem d_Step_addRow_7 : decode b_Step_addRow 7 = .ok (.invokevirtual 36, 3) := by decide +kernel
theorem d_Step_addRow_10 : decode b_Step_addRow 10 = .ok (.aload_n 0, 1) := by decide +kernel
theorem d_Step_addRow_11 : decode b_Step_addRow 11 = .ok (.iconst 0, 1) := by decide +kernel
theorem d_Step_addRow_12 : decode b_Step_addRow 12 = .ok (.putfield 25, 3) := by decide +kernel
theorem d_Step_addRow_15 : decode b_Step_addRow 15 = .ok (.return_, 1) := by decide +kernel
theorem d_Step_setRule_0 : decode b_Step_setRule 0 = .ok (.iload_n 1, 1) := by decide +kernel
theorem d_Step_setRule_1 : decode b_Step_setRule 1 = .ok (.ifCond .ne 7, 3) := by decide +kernel
theorem d_Step_setRule_4 : decode b_Step_setRule 4 = .ok (.iconst 0, 1) := by decide +kernel
theorem d_Step_setRule_5 : decode b_Step_setRule 5 = .ok (.goto 4, 3) := by decide +kernel
theorem d_Step_setRule_8 : decode b_Step_setRule 8 = .ok (.iconst 3, 1) := by decide +kernel
theorem d_Step_setRule_9 : decode b_Step_setRule 9 = .ok (.istore 5, 2) := by decide +kernel
theorem d_Step_setRule_11 : decode b_Step_setRule 11 = .ok (.aload_n 0, 1) := by decide +kernel
theorem d_Step_setRule_12 : decode b_Step_setRule 12 = .ok (.getfield 18, 3) := by decide +kernel
theorem d_Step_setRule_15 : decode b_Step_setRule 15 = .ok (.iload 5, 2) := by decide +kernel
theorem d_Step_setRule_17 : decode b_Step_setRule 17 = .ok (.iload_n 2, 1) := by decide +kernel
theorem d_Step_setRule_18 : decode b_Step_setRule 18 = .ok (.iastore, 1) := by decide +kernel
theorem d_Step_setRule_19 : decode b_Step_setRule 19 = .ok (.aload_n 0, 1) := by decide +kernel
theorem d_Step_setRule_20 : decode b_Step_setRule 20 = .ok (.getfield 18, 3) := by decide +kernel
theorem d_Step_setRule_23 : decode b_Step_setRule 23 = .ok (.iload 5, 2) := by decide +kernel
theorem d_Step_setRule_25 : decode b_Step_setRule 25 = .ok (.iconst 1, 1) := by decide +kernel
theorem d_Step_setRule_26 : decode b_Step_setRule 26 = .ok (.iadd, 1) := by decide +kernel
theorem d_Step_setRule_27 : decode b_Step_setRule 27 = .ok (.iload_n 3, 1) := by decide +kernel
theorem d_Step_setRule_28 : decode b_Step_setRule 28 = .ok (.iastore, 1) := by decide +kernel
theorem d_Step_setRule_29 : decode b_Step_setRule 29 = .ok (.aload_n 0, 1) := by decide +kernel
theorem d_Step_setRule_30 : decode b_Step_setRule 30 = .ok (.getfield 18, 3) := by decide +kernel
theorem d_Step_setRule_33 : decode b_Step_setRule 33 = .ok (.iload 5, 2) := by decide +kernel
theorem d_Step_setRule_35 : decode b_Step_setRule 35 = .ok (.iconst 2, 1) := by decide +kernel
theorem d_Step_setRule_36 : decode b_Step_setRule 36 = .ok (.iadd, 1) := by decide +kernel
theorem d_Step_setRule_37 : decode b_Step_setRule 37 = .ok (.iload 4, 2) := by decide +kernel
theorem d_Step_setRule_39 : decode b_Step_setRule 39 = .ok (.iastore, 1) := by decide +kernel
theorem d_Step_setRule_40 : decode b_Step_setRule 40 = .ok (.aload_n 0, 1) := by decide +kernel
theorem d_Step_setRule_41 : decode b_Step_setRule 41 = .ok (.iconst 0, 1) := by decide +kernel
theorem d_Step_setRule_42 : decode b_Step_setRule 42 = .ok (.putfield 25, 3) := by decide +kernel
theorem d_Step_setRule_45 : decode b_Step_setRule 45 = .ok (.return_, 1) := by decide +kernel
theorem d_Step_next_0 : decode b_Step_next 0 = .ok (.iload_n 1, 1) := by decide +kernel
theorem d_Step_next_1 : decode b_Step_next 1 = .ok (.ifCond .ne 7, 3) := by decide +kernel
theorem d_Step_next_4 : decode b_Step_next 4 = .ok (.iconst 0, 1) := by decide +kernel
theorem d_Step_next_5 : decode b_Step_next 5 = .ok (.goto 4, 3) := by decide +kernel
theorem d_Step_next_8 : decode b_Step_next 8 = .ok (.iconst 3, 1) := by decide +kernel
theorem d_Step_next_9 : decode b_Step_next 9 = .ok (.istore 6, 2) := by decide +kernel
theorem d_Step_next_11 : decode b_Step_next 11 = .ok (.aload_n 0, 1) := by decide +kernel
theorem d_Step_next_12 : decode b_Step_next 12 = .ok (.getfield 18, 3) := by decide +kernel
theorem d_Step_next_15 : decode b_Step_next 15 = .ok (.iload 6, 2) := by decide +kernel
theorem d_Step_next_17 : decode b_Step_next 17 = .ok (.iaload, 1) := by decide +kernel
theorem d_Step_next_18 : decode b_Step_next 18 = .ok (.i2l, 1) := by decide +kernel
theorem d_Step_next_19 : decode b_Step_next 19 = .ok (.lload_n 2, 1) := by decide +kernel
theorem d_Step_next_20 : decode b_Step_next 20 = .ok (.lmul, 1) := by decide +kernel
theorem d_Step_next_21 : decode b_Step_next 21 = .ok (.aload_n 0, 1) := by decide +kernel
theorem d_Step_next_22 : decode b_Step_next 22 = .ok (.getfield 18, 3) := by decide +kernel
theorem d_Step_next_25 : decode b_Step_next 25 = .ok (.iload 6, 2) := by decide +kernel
theorem d_Step_next_27 : decode b_Step_next 27 = .ok (.iconst 1, 1) := by decide +kernel
theorem d_Step_next_28 : decode b_Step_next 28 = .ok (.iadd, 1) := by decide +kernel
theorem d_Step_next_29 : decode b_Step_next 29 = .ok (.iaload, 1) := by decide +kernel
theorem d_Step_next_30 : decode b_Step_next 30 = .ok (.i2l, 1) := by decide +kernel
theorem d_Step_next_31 : decode b_Step_next 31 = .ok (.lload 4, 2) := by decide +kernel
theorem d_Step_next_33 : decode b_Step_next 33 = .ok (.lmul, 1) := by decide +kernel
theorem d_Step_next_34 : decode b_Step_next 34 = .ok (.ladd, 1) := by decide +kernel
theorem d_Step_next_35 : decode b_Step_next 35 = .ok (.aload_n 0, 1) := by decide +kernel
theorem d_Step_next_36 : decode b_Step_next 36 = .ok (.getfield 18, 3) := by decide +kernel
theorem d_Step_next_39 : decode b_Step_next 39 = .ok (.iload 6, 2) := by decide +kernel
theorem d_Step_next_41 : decode b_Step_next 41 = .ok (.iconst 2, 1) := by decide +kernel
theorem d_Step_next_42 : decode b_Step_next 42 = .ok (.iadd, 1) := by decide +kernel
theorem d_Step_next_43 : decode b_Step_next 43 = .ok (.iaload, 1) := by decide +kernel
theorem d_Step_next_44 : decode b_Step_next 44 = .ok (.i2l, 1) := by decide +kernel
theorem d_Step_next_45 : decode b_Step_next 45 = .ok (.ladd, 1) := by decide +kernel
theorem d_Step_next_46 : decode b_Step_next 46 = .ok (.lreturn, 1) := by decide +kernel
theorem d_Step_changesByAtMost_0 : decode b_Step_changesByAtMost 0 = .ok (.aload_n 0, 1) := by decide +kernel
theorem d_Step_changesByAtMost_1 : decode b_Step_changesByAtMost 1 = .ok (.getfield 12, 3) := by decide +kernel
theorem d_Step_changesByAtMost_4 : decode b_Step_changesByAtMost 4 = .ok (.getfield 40, 3) := by decide +kernel
theorem d_Step_changesByAtMost_7 : decode b_Step_changesByAtMost 7 = .ok (.ifCond .eq 5, 3) := by decide +kernel
theorem d_Step_changesByAtMost_10 : decode b_Step_changesByAtMost 10 = .ok (.iconst 1, 1) := by decide +kernel
theorem d_Step_changesByAtMost_11 : decode b_Step_changesByAtMost 11 = .ok (.ireturn, 1) := by decide +kernel
theorem d_Step_changesByAtMost_12 : decode b_Step_changesByAtMost 12 = .ok (.aload_n 0, 1) := by decide +kernel
theorem d_Step_changesByAtMost_13 : decode b_Step_changesByAtMost 13 = .ok (.getfield 12, 3) := by decide +kernel
theorem d_Step_changesByAtMost_16 : decode b_Step_changesByAtMost 16 = .ok (.iload_n 1, 1) := by decide +kernel
theorem d_Step_changesByAtMost_17 : decode b_Step_changesByAtMost 17 = .ok (.aload_n 0, 1) := by decide +kernel
theorem d_Step_changesByAtMost_18 : decode b_Step_changesByAtMost 18 = .ok (.getfield 18, 3) := by decide +kernel
theorem d_Step_changesByAtMost_21 : decode b_Step_changesByAtMost 21 = .ok (.iconst 0, 1) := by decide +kernel
theorem d_Step_changesByAtMost_22 : decode b_Step_changesByAtMost 22 = .ok (.iaload, 1) := by decide +kernel
theorem d_Step_changesByAtMost_23 : decode b_Step_changesByAtMost 23 = .ok (.imul, 1) := by decide +kernel
theorem d_Step_changesByAtMost_24 : decode b_Step_changesByAtMost 24 = .ok (.iload_n 2, 1) := by decide +kernel
theorem d_Step_changesByAtMost_25 : decode b_Step_changesByAtMost 25 = .ok (.aload_n 0, 1) := by decide +kernel
theorem d_Step_changesByAtMost_26 : decode b_Step_changesByAtMost 26 = .ok (.getfield 18, 3) := by decide +kernel
theorem d_Step_changesByAtMost_29 : decode b_Step_changesByAtMost 29 = .ok (.iconst 3, 1) := by decide +kernel
theorem d_Step_changesByAtMost_30 : decode b_Step_changesByAtMost 30 = .ok (.iaload, 1) := by decide +kernel
theorem d_Step_changesByAtMost_31 : decode b_Step_changesByAtMost 31 = .ok (.imul, 1) := by decide +kernel
theorem d_Step_changesByAtMost_32 : decode b_Step_changesByAtMost 32 = .ok (.iadd, 1) := by decide +kernel
theorem d_Step_changesByAtMost_33 : decode b_Step_changesByAtMost 33 = .ok (.iload_n 1, 1) := by decide +kernel
theorem d_Step_changesByAtMost_34 : decode b_Step_changesByAtMost 34 = .ok (.isub, 1) := by decide +kernel
theorem d_Step_changesByAtMost_35 : decode b_Step_changesByAtMost 35 = .ok (.iload_n 1, 1) := by decide +kernel
theorem d_Step_changesByAtMost_36 : decode b_Step_changesByAtMost 36 = .ok (.aload_n 0, 1) := by decide +kernel
theorem d_Step_changesByAtMost_37 : decode b_Step_changesByAtMost 37 = .ok (.getfield 18, 3) := by decide +kernel
theorem d_Step_changesByAtMost_40 : decode b_Step_changesByAtMost 40 = .ok (.iconst 1, 1) := by decide +kernel
theorem d_Step_changesByAtMost_41 : decode b_Step_changesByAtMost 41 = .ok (.iaload, 1) := by decide +kernel
theorem d_Step_changesByAtMost_42 : decode b_Step_changesByAtMost 42 = .ok (.imul, 1) := by decide +kernel
theorem d_Step_changesByAtMost_43 : decode b_Step_changesByAtMost 43 = .ok (.iload_n 2, 1) := by decide +kernel
theorem d_Step_changesByAtMost_44 : decode b_Step_changesByAtMost 44 = .ok (.aload_n 0, 1) := by decide +kernel
theorem d_Step_changesByAtMost_45 : decode b_Step_changesByAtMost 45 = .ok (.getfield 18, 3) := by decide +kernel
theorem d_Step_changesByAtMost_48 : decode b_Step_changesByAtMost 48 = .ok (.iconst 4, 1) := by decide +kernel
theorem d_Step_changesByAtMost_49 : decode b_Step_changesByAtMost 49 = .ok (.iaload, 1) := by decide +kernel
theorem d_Step_changesByAtMost_50 : decode b_Step_changesByAtMost 50 = .ok (.imul, 1) := by decide +kernel
theorem d_Step_changesByAtMost_51 : decode b_Step_changesByAtMost 51 = .ok (.iadd, 1) := by decide +kernel
theorem d_Step_changesByAtMost_52 : decode b_Step_changesByAtMost 52 = .ok (.iload_n 2, 1) := by decide +kernel
theorem d_Step_changesByAtMost_53 : decode b_Step_changesByAtMost 53 = .ok (.isub, 1) := by decide +kernel
theorem d_Step_changesByAtMost_54 : decode b_Step_changesByAtMost 54 = .ok (.invokevirtual 43, 3) := by decide +kernel
theorem d_Step_changesByAtMost_57 : decode b_Step_changesByAtMost 57 = .ok (.aload_n 0, 1) := by decide +kernel
theorem d_Step_changesByAtMost_58 : decode b_Step_changesByAtMost 58 = .ok (.getfield 12, 3) := by decide +kernel
theorem d_Step_changesByAtMost_61 : decode b_Step_changesByAtMost 61 = .ok (.iload_n 3, 1) := by decide +kernel
theorem d_Step_changesByAtMost_62 : decode b_Step_changesByAtMost 62 = .ok (.iload_n 1, 1) := by decide +kernel
theorem d_Step_changesByAtMost_63 : decode b_Step_changesByAtMost 63 = .ok (.aload_n 0, 1) := by decide +kernel
theorem d_Step_changesByAtMost_64 : decode b_Step_changesByAtMost 64 = .ok (.getfield 18, 3) := by decide +kernel
theorem d_Step_changesByAtMost_67 : decode b_Step_changesByAtMost 67 = .ok (.iconst 2, 1) := by decide +kernel
theorem d_Step_changesByAtMost_68 : decode b_Step_changesByAtMost 68 = .ok (.iaload, 1) := by decide +kernel
theorem d_Step_changesByAtMost_69 : decode b_Step_changesByAtMost 69 = .ok (.imul, 1) := by decide +kernel
theorem d_Step_changesByAtMost_70 : decode b_Step_changesByAtMost 70 = .ok (.iload_n 2, 1) := by decide +kernel
theorem d_Step_changesByAtMost_71 : decode b_Step_changesByAtMost 71 = .ok (.aload_n 0, 1) := by decide +kernel
theorem d_Step_changesByAtMost_72 : decode b_Step_changesByAtMost 72 = .ok (.getfield 18, 3) := by decide +kernel
theorem d_Step_changesByAtMost_75 : decode b_Step_changesByAtMost 75 = .ok (.iconst 5, 1) := by decide +kernel
theorem d_Step_changesByAtMost_76 : decode b_Step_changesByAtMost 76 = .ok (.iaload, 1) := by decide +kernel
theorem d_Step_changesByAtMost_77 : decode b_Step_changesByAtMost 77 = .ok (.imul, 1) := by decide +kernel
theorem d_Step_changesByAtMost_78 : decode b_Step_changesByAtMost 78 = .ok (.iadd, 1) := by decide +kernel
theorem d_Step_changesByAtMost_79 : decode b_Step_changesByAtMost 79 = .ok (.isub, 1) := by decide +kernel
theorem d_Step_changesByAtMost_80 : decode b_Step_changesByAtMost 80 = .ok (.i2l, 1) := by decide +kernel
theorem d_Step_changesByAtMost_81 : decode b_Step_changesByAtMost 81 = .ok (.invokevirtual 47, 3) := by decide +kernel
theorem d_Step_changesByAtMost_84 : decode b_Step_changesByAtMost 84 = .ok (.ireturn, 1) := by decide +kernel
theorem d_Step_isBounded_0 : decode b_Step_isBounded 0 = .ok (.aload_n 0, 1) := by decide +kernel
theorem d_Step_isBounded_1 : decode b_Step_isBounded 1 = .ok (.getfield 12, 3) := by decide +kernel
theorem d_Step_isBounded_4 : decode b_Step_isBounded 4 = .ok (.getfield 40, 3) := by decide +kernel
theorem d_Step_isBounded_7 : decode b_Step_isBounded 7 = .ok (.ifCond .eq 5, 3) := by decide +kernel
theorem d_Step_isBounded_10 : decode b_Step_isBounded 10 = .ok (.iconst 1, 1) := by decide +kernel
theorem d_Step_isBounded_11 : decode b_Step_isBounded 11 = .ok (.ireturn, 1) := by decide +kernel
theorem d_Step_isBounded_12 : decode b_Step_isBounded 12 = .ok (.aload_n 0, 1) := by decide +kernel
theorem d_Step_isBounded_13 : decode b_Step_isBounded 13 = .ok (.getfield 12, 3) := by decide +kernel
theorem d_Step_isBounded_16 : decode b_Step_isBounded 16 = .ok (.iload_n 1, 1) := by decide +kernel
theorem d_Step_isBounded_17 : decode b_Step_isBounded 17 = .ok (.ineg, 1) := by decide +kernel
theorem d_Step_isBounded_18 : decode b_Step_isBounded 18 = .ok (.iload_n 2, 1) := by decide +kernel
theorem d_Step_isBounded_19 : decode b_Step_isBounded 19 = .ok (.ineg, 1) := by decide +kernel
theorem d_Step_isBounded_20 : decode b_Step_isBounded 20 = .ok (.invokevirtual 43, 3) := by decide +kernel
theorem d_Step_isBounded_23 : decode b_Step_isBounded 23 = .ok (.aload_n 0, 1) := by decide +kernel
theorem d_Step_isBounded_24 : decode b_Step_isBounded 24 = .ok (.getfield 12, 3) := by decide +kernel
theorem d_Step_isBounded_27 : decode b_Step_isBounded 27 = .ok (.invokevirtual 51, 3) := by decide +kernel
theorem d_Step_isBounded_30 : decode b_Step_isBounded 30 = .ok (.ireturn, 1) := by decide +kernel
theorem d_Step_findKinds_0 : decode b_Step_findKinds 0 = .ok (.aload_n 0, 1) := by decide +kernel
theorem d_Step_findKinds_1 : decode b_Step_findKinds 1 = .ok (.getfield 25, 3) := by decide +kernel
theorem d_Step_findKinds_4 : decode b_Step_findKinds 4 = .ok (.ifCond .eq 4, 3) := by decide +kernel
theorem d_Step_findKinds_7 : decode b_Step_findKinds 7 = .ok (.return_, 1) := by decide +kernel
theorem d_Step_findKinds_8 : decode b_Step_findKinds 8 = .ok (.aload_n 0, 1) := by decide +kernel
theorem d_Step_findKinds_9 : decode b_Step_findKinds 9 = .ok (.iconst 1, 1) := by decide +kernel
theorem d_Step_findKinds_10 : decode b_Step_findKinds 10 = .ok (.putfield 25, 3) := by decide +kernel
theorem d_Step_findKinds_13 : decode b_Step_findKinds 13 = .ok (.iconst 0, 1) := by decide +kernel
theorem d_Step_findKinds_14 : decode b_Step_findKinds 14 = .ok (.istore_n 3, 1) := by decide +kernel
theorem d_Step_findKinds_15 : decode b_Step_findKinds 15 = .ok (.iload_n 3, 1) := by decide +kernel
theorem d_Step_findKinds_16 : decode b_Step_findKinds 16 = .ok (.bipush 80, 2) := by decide +kernel
theorem d_Step_findKinds_18 : decode b_Step_findKinds 18 = .ok (.if_icmp .ge 77, 3) := by decide +kernel
theorem d_Step_findKinds_21 : decode b_Step_findKinds 21 = .ok (.aload_n 0, 1) := by decide +kernel
theorem d_Step_findKinds_22 : decode b_Step_findKinds 22 = .ok (.aload_n 1, 1) := by decide +kernel
theorem d_Step_findKinds_23 : decode b_Step_findKinds 23 = .ok (.iload_n 3, 1) := by decide +kernel
theorem d_Step_findKinds_24 : decode b_Step_findKinds 24 = .ok (.iaload, 1) := by decide +kernel
theorem d_Step_findKinds_25 : decode b_Step_findKinds 25 = .ok (.aload_n 2, 1) := by decide +kernel
theorem d_Step_findKinds_26 : decode b_Step_findKinds 26 = .ok (.iload_n 3, 1) := by decide +kernel
theorem d_Step_findKinds_27 : decode b_Step_findKinds 27 = .ok (.iaload, 1) := by decide +kernel
theorem d_Step_findKinds_28 : decode b_Step_findKinds 28 = .ok (.iconst 0, 1) := by decide +kernel
theorem d_Step_findKinds_29 : decode b_Step_findKinds 29 = .ok (.invokevirtual 55, 3) := by decide +kernel
theorem d_Step_findKinds_32 : decode b_Step_findKinds 32 = .ok (.ifCond .ne 13, 3) := by decide +kernel
theorem d_Step_findKinds_35 : decode b_Step_findKinds 35 = .ok (.aload_n 0, 1) := by decide +kernel
theorem d_Step_findKinds_36 : decode b_Step_findKinds 36 = .ok (.getfield 22, 3) := by decide +kernel
theorem d_Step_findKinds_39 : decode b_Step_findKinds 39 = .ok (.iload_n 3, 1) := by decide +kernel
theorem d_Step_findKinds_40 : decode b_Step_findKinds 40 = .ok (.iconst 0, 1) := by decide +kernel
theorem d_Step_findKinds_41 : decode b_Step_findKinds 41 = .ok (.iastore, 1) := by decide +kernel
theorem d_Step_findKinds_42 : decode b_Step_findKinds 42 = .ok (.goto 47, 3) := by decide +kernel
theorem d_Step_findKinds_45 : decode b_Step_findKinds 45 = .ok (.aload_n 0, 1) := by decide +kernel
theorem d_Step_findKinds_46 : decode b_Step_findKinds 46 = .ok (.aload_n 1, 1) := by decide +kernel
theorem d_Step_findKinds_47 : decode b_Step_findKinds 47 = .ok (.iload_n 3, 1) := by decide +kernel
theorem d_Step_findKinds_48 : decode b_Step_findKinds 48 = .ok (.iaload, 1) := by decide +kernel
theorem d_Step_findKinds_49 : decode b_Step_findKinds 49 = .ok (.aload_n 2, 1) := by decide +kernel
theorem d_Step_findKinds_50 : decode b_Step_findKinds 50 = .ok (.iload_n 3, 1) := by decide +kernel
theorem d_Step_findKinds_51 : decode b_Step_findKinds 51 = .ok (.iaload, 1) := by decide +kernel
theorem d_Step_findKinds_52 : decode b_Step_findKinds 52 = .ok (.iconst (-1), 1) := by decide +kernel
theorem d_Step_findKinds_53 : decode b_Step_findKinds 53 = .ok (.invokevirtual 55, 3) := by decide +kernel
theorem d_Step_findKinds_56 : decode b_Step_findKinds 56 = .ok (.ifCond .eq 26, 3) := by decide +kernel
theorem d_Step_findKinds_59 : decode b_Step_findKinds 59 = .ok (.aload_n 0, 1) := by decide +kernel
theorem d_Step_findKinds_60 : decode b_Step_findKinds 60 = .ok (.aload_n 1, 1) := by decide +kernel
theorem d_Step_findKinds_61 : decode b_Step_findKinds 61 = .ok (.iload_n 3, 1) := by decide +kernel
theorem d_Step_findKinds_62 : decode b_Step_findKinds 62 = .ok (.iaload, 1) := by decide +kernel
theorem d_Step_findKinds_63 : decode b_Step_findKinds 63 = .ok (.aload_n 2, 1) := by decide +kernel
theorem d_Step_findKinds_64 : decode b_Step_findKinds 64 = .ok (.iload_n 3, 1) := by decide +kernel
theorem d_Step_findKinds_65 : decode b_Step_findKinds 65 = .ok (.iaload, 1) := by decide +kernel
theorem d_Step_findKinds_66 : decode b_Step_findKinds 66 = .ok (.invokevirtual 59, 3) := by decide +kernel
theorem d_Step_findKinds_69 : decode b_Step_findKinds 69 = .ok (.ifCond .eq 13, 3) := by decide +kernel
theorem d_Step_findKinds_72 : decode b_Step_findKinds 72 = .ok (.aload_n 0, 1) := by decide +kernel
theorem d_Step_findKinds_73 : decode b_Step_findKinds 73 = .ok (.getfield 22, 3) := by decide +kernel
theorem d_Step_findKinds_76 : decode b_Step_findKinds 76 = .ok (.iload_n 3, 1) := by decide +kernel
theorem d_Step_findKinds_77 : decode b_Step_findKinds 77 = .ok (.iconst 2, 1) := by decide +kernel
theorem d_Step_findKinds_78 : decode b_Step_findKinds 78 = .ok (.iastore, 1) := by decide +kernel
theorem d_Step_findKinds_79 : decode b_Step_findKinds 79 = .ok (.goto 10, 3) := by decide +kernel
theorem d_Step_findKinds_82 : decode b_Step_findKinds 82 = .ok (.aload_n 0, 1) := by decide +kernel
theorem d_Step_findKinds_83 : decode b_Step_findKinds 83 = .ok (.getfield 22, 3) := by decide +kernel
theorem d_Step_findKinds_86 : decode b_Step_findKinds 86 = .ok (.iload_n 3, 1) := by decide +kernel
theorem d_Step_findKinds_87 : decode b_Step_findKinds 87 = .ok (.iconst 1, 1) := by decide +kernel
theorem d_Step_findKinds_88 : decode b_Step_findKinds 88 = .ok (.iastore, 1) := by decide +kernel
theorem d_Step_findKinds_89 : decode b_Step_findKinds 89 = .ok (.iinc 3 1, 3) := by decide +kernel
theorem d_Step_findKinds_92 : decode b_Step_findKinds 92 = .ok (.goto (-77), 3) := by decide +kernel
theorem d_Step_findKinds_95 : decode b_Step_findKinds 95 = .ok (.return_, 1) := by decide +kernel
