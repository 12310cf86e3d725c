theorem dX0_init_0 : decode cX0_init 0 = .ok (.aload_n 0, 1) := by decide +kernel
theorem dX0_init_1 : decode cX0_init 1 = .ok (.invokespecial 1, 3) := by decide +kernel
theorem dX0_init_4 : decode cX0_init 4 = .ok (.aload_n 0, 1) := by decide +kernel
theorem dX0_init_5 : decode cX0_init 5 = .ok (.bipush 40, 2) := by decide +kernel
theorem dX0_init_7 : decode cX0_init 7 = .ok (.anewarray 9, 3) := by decide +kernel
theorem dX0_init_10 : decode cX0_init 10 = .ok (.putfield 11, 3) := by decide +kernel
theorem dX0_init_13 : decode cX0_init 13 = .ok (.aload_n 0, 1) := by decide +kernel
theorem dX0_init_14 : decode cX0_init 14 = .ok (.new 9, 3) := by decide +kernel
theorem dX0_init_17 : decode cX0_init 17 = .ok (.dup, 1) := by decide +kernel
theorem dX0_init_18 : decode cX0_init 18 = .ok (.invokespecial 15, 3) := by decide +kernel
theorem dX0_init_21 : decode cX0_init 21 = .ok (.putfield 16, 3) := by decide +kernel
theorem dX0_init_24 : decode cX0_init 24 = .ok (.iconst 0, 1) := by decide +kernel
theorem dX0_init_25 : decode cX0_init 25 = .ok (.istore_n 1, 1) := by decide +kernel
theorem dX0_init_26 : decode cX0_init 26 = .ok (.iload_n 1, 1) := by decide +kernel
theorem dX0_init_27 : decode cX0_init 27 = .ok (.bipush 40, 2) := by decide +kernel
theorem dX0_init_29 : decode cX0_init 29 = .ok (.if_icmp .ge 22, 3) := by decide +kernel
theorem dX0_init_32 : decode cX0_init 32 = .ok (.aload_n 0, 1) := by decide +kernel
theorem dX0_init_33 : decode cX0_init 33 = .ok (.getfield 11, 3) := by decide +kernel
theorem dX0_init_36 : decode cX0_init 36 = .ok (.iload_n 1, 1) := by decide +kernel
theorem dX0_init_37 : decode cX0_init 37 = .ok (.new 9, 3) := by decide +kernel
theorem dX0_init_40 : decode cX0_init 40 = .ok (.dup, 1) := by decide +kernel
theorem dX0_init_41 : decode cX0_init 41 = .ok (.invokespecial 15, 3) := by decide +kernel
theorem dX0_init_44 : decode cX0_init 44 = .ok (.aastore, 1) := by decide +kernel
theorem dX0_init_45 : decode cX0_init 45 = .ok (.iinc 1 1, 3) := by decide +kernel
theorem dX0_init_48 : decode cX0_init 48 = .ok (.goto (-22), 3) := by decide +kernel
theorem dX0_init_51 : decode cX0_init 51 = .ok (.return_, 1) := by decide +kernel
theorem dX0_frameAt_0 : decode cX0_frameAt 0 = .ok (.iload_n 1, 1) := by decide +kernel
theorem dX0_frameAt_1 : decode cX0_frameAt 1 = .ok (.ifCond .lt 28, 3) := by decide +kernel
theorem dX0_frameAt_4 : decode cX0_frameAt 4 = .ok (.iload_n 1, 1) := by decide +kernel
theorem dX0_frameAt_5 : decode cX0_frameAt 5 = .ok (.aload_n 0, 1) := by decide +kernel
theorem dX0_frameAt_6 : decode cX0_frameAt 6 = .ok (.getfield 20, 3) := by decide +kernel
theorem dX0_frameAt_9 : decode cX0_frameAt 9 = .ok (.if_icmp .ge 20, 3) := by decide +kernel
theorem dX0_frameAt_12 : decode cX0_frameAt 12 = .ok (.aload_n 0, 1) := by decide +kernel
theorem dX0_frameAt_13 : decode cX0_frameAt 13 = .ok (.getfield 11, 3) := by decide +kernel
theorem dX0_frameAt_16 : decode cX0_frameAt 16 = .ok (.aload_n 0, 1) := by decide +kernel
theorem dX0_frameAt_17 : decode cX0_frameAt 17 = .ok (.getfield 24, 3) := by decide +kernel
theorem dX0_frameAt_20 : decode cX0_frameAt 20 = .ok (.iload_n 1, 1) := by decide +kernel
theorem dX0_frameAt_21 : decode cX0_frameAt 21 = .ok (.iadd, 1) := by decide +kernel
theorem dX0_frameAt_22 : decode cX0_frameAt 22 = .ok (.bipush 40, 2) := by decide +kernel
theorem dX0_frameAt_24 : decode cX0_frameAt 24 = .ok (.irem, 1) := by decide +kernel
theorem dX0_frameAt_25 : decode cX0_frameAt 25 = .ok (.aaload, 1) := by decide +kernel
theorem dX0_frameAt_26 : decode cX0_frameAt 26 = .ok (.goto 4, 3) := by decide +kernel
theorem dX0_frameAt_29 : decode cX0_frameAt 29 = .ok (.aconst_null, 1) := by decide +kernel
theorem dX0_frameAt_30 : decode cX0_frameAt 30 = .ok (.areturn, 1) := by decide +kernel
theorem dX0_add_0 : decode cX0_add 0 = .ok (.aload_n 0, 1) := by decide +kernel
theorem dX0_add_1 : decode cX0_add 1 = .ok (.getfield 20, 3) := by decide +kernel
theorem dX0_add_4 : decode cX0_add 4 = .ok (.bipush 40, 2) := by decide +kernel
theorem dX0_add_6 : decode cX0_add 6 = .ok (.if_icmp .lt 5, 3) := by decide +kernel
theorem dX0_add_9 : decode cX0_add 9 = .ok (.aconst_null, 1) := by decide +kernel
theorem dX0_add_10 : decode cX0_add 10 = .ok (.areturn, 1) := by decide +kernel
theorem dX0_add_11 : decode cX0_add 11 = .ok (.aload_n 0, 1) := by decide +kernel
theorem dX0_add_12 : decode cX0_add 12 = .ok (.dup, 1) := by decide +kernel
theorem dX0_add_13 : decode cX0_add 13 = .ok (.getfield 20, 3) := by decide +kernel
theorem dX0_add_16 : decode cX0_add 16 = .ok (.iconst 1, 1) := by decide +kernel
theorem dX0_add_17 : decode cX0_add 17 = .ok (.iadd, 1) := by decide +kernel
theorem dX0_add_18 : decode cX0_add 18 = .ok (.putfield 20, 3) := by decide +kernel
theorem dX0_add_21 : decode cX0_add 21 = .ok (.aload_n 0, 1) := by decide +kernel
theorem dX0_add_22 : decode cX0_add 22 = .ok (.getfield 11, 3) := by decide +kernel
theorem dX0_add_25 : decode cX0_add 25 = .ok (.aload_n 0, 1) := by decide +kernel
theorem dX0_add_26 : decode cX0_add 26 = .ok (.getfield 24, 3) := by decide +kernel
theorem dX0_add_29 : decode cX0_add 29 = .ok (.aload_n 0, 1) := by decide +kernel
theorem dX0_add_30 : decode cX0_add 30 = .ok (.getfield 20, 3) := by decide +kernel
theorem dX0_add_33 : decode cX0_add 33 = .ok (.iadd, 1) := by decide +kernel
theorem dX0_add_34 : decode cX0_add 34 = .ok (.iconst 1, 1) := by decide +kernel
theorem dX0_add_35 : decode cX0_add 35 = .ok (.isub, 1) := by decide +kernel
theorem dX0_add_36 : decode cX0_add 36 = .ok (.bipush 40, 2) := by decide +kernel
theorem dX0_add_38 : decode cX0_add 38 = .ok (.irem, 1) := by decide +kernel
theorem dX0_add_39 : decode cX0_add 39 = .ok (.aaload, 1) := by decide +kernel
theorem dX0_add_40 : decode cX0_add 40 = .ok (.areturn, 1) := by decide +kernel
theorem dX0_take_0 : decode cX0_take 0 = .ok (.aload_n 0, 1) := by decide +kernel
theorem dX0_take_1 : decode cX0_take 1 = .ok (.getfield 11, 3) := by decide +kernel
theorem dX0_take_4 : decode cX0_take 4 = .ok (.aload_n 0, 1) := by decide +kernel
theorem dX0_take_5 : decode cX0_take 5 = .ok (.getfield 24, 3) := by decide +kernel
theorem dX0_take_8 : decode cX0_take 8 = .ok (.aaload, 1) := by decide +kernel
theorem dX0_take_9 : decode cX0_take 9 = .ok (.astore_n 1, 1) := by decide +kernel
theorem dX0_take_10 : decode cX0_take 10 = .ok (.aload_n 0, 1) := by decide +kernel
theorem dX0_take_11 : decode cX0_take 11 = .ok (.getfield 11, 3) := by decide +kernel
theorem dX0_take_14 : decode cX0_take 14 = .ok (.aload_n 0, 1) := by decide +kernel
theorem dX0_take_15 : decode cX0_take 15 = .ok (.getfield 24, 3) := by decide +kernel
theorem dX0_take_18 : decode cX0_take 18 = .ok (.aload_n 0, 1) := by decide +kernel
theorem dX0_take_19 : decode cX0_take 19 = .ok (.getfield 16, 3) := by decide +kernel
theorem dX0_take_22 : decode cX0_take 22 = .ok (.aastore, 1) := by decide +kernel
theorem dX0_take_23 : decode cX0_take 23 = .ok (.aload_n 0, 1) := by decide +kernel
theorem dX0_take_24 : decode cX0_take 24 = .ok (.aload_n 1, 1) := by decide +kernel
theorem dX0_take_25 : decode cX0_take 25 = .ok (.putfield 16, 3) := by decide +kernel
theorem dX0_take_28 : decode cX0_take 28 = .ok (.aload_n 0, 1) := by decide +kernel
theorem dX0_take_29 : decode cX0_take 29 = .ok (.aload_n 0, 1) := by decide +kernel
theorem dX0_take_30 : decode cX0_take 30 = .ok (.getfield 24, 3) := by decide +kernel
theorem dX0_take_33 : decode cX0_take 33 = .ok (.iconst 1, 1) := by decide +kernel
theorem dX0_take_34 : decode cX0_take 34 = .ok (.iadd, 1) := by decide +kernel
theorem dX0_take_35 : decode cX0_take 35 = .ok (.bipush 40, 2) := by decide +kernel
theorem dX0_take_37 : decode cX0_take 37 = .ok (.irem, 1) := by decide +kernel
theorem dX0_take_38 : decode cX0_take 38 = .ok (.putfield 24, 3) := by decide +kernel
theorem dX0_take_41 : decode cX0_take 41 = .ok (.aload_n 0, 1) := by decide +kernel
theorem dX0_take_42 : decode cX0_take 42 = .ok (.dup, 1) := by decide +kernel
theorem dX0_take_43 : decode cX0_take 43 = .ok (.getfield 20, 3) := by decide +kernel
theorem dX0_take_46 : decode cX0_take 46 = .ok (.iconst 1, 1) := by decide +kernel
theorem dX0_take_47 : decode cX0_take 47 = .ok (.isub, 1) := by decide +kernel
theorem dX0_take_48 : decode cX0_take 48 = .ok (.putfield 20, 3) := by decide +kernel
theorem dX0_take_51 : decode cX0_take 51 = .ok (.aload_n 1, 1) := by decide +kernel
theorem dX0_take_52 : decode cX0_take 52 = .ok (.areturn, 1) := by decide +kernel
theorem dX0_hasKind_0 : decode cX0_hasKind 0 = .ok (.iconst 0, 1) := by decide +kernel
theorem dX0_hasKind_1 : decode cX0_hasKind 1 = .ok (.istore_n 2, 1) := by decide +kernel
theorem dX0_hasKind_2 : decode cX0_hasKind 2 = .ok (.iload_n 2, 1) := by decide +kernel
theorem dX0_hasKind_3 : decode cX0_hasKind 3 = .ok (.aload_n 0, 1) := by decide +kernel
theorem dX0_hasKind_4 : decode cX0_hasKind 4 = .ok (.getfield 20, 3) := by decide +kernel
theorem dX0_hasKind_7 : decode cX0_hasKind 7 = .ok (.if_icmp .ge 32, 3) := by decide +kernel
theorem dX0_hasKind_10 : decode cX0_hasKind 10 = .ok (.aload_n 0, 1) := by decide +kernel
theorem dX0_hasKind_11 : decode cX0_hasKind 11 = .ok (.getfield 11, 3) := by decide +kernel
theorem dX0_hasKind_14 : decode cX0_hasKind 14 = .ok (.aload_n 0, 1) := by decide +kernel
theorem dX0_hasKind_15 : decode cX0_hasKind 15 = .ok (.getfield 24, 3) := by decide +kernel
theorem dX0_hasKind_18 : decode cX0_hasKind 18 = .ok (.iload_n 2, 1) := by decide +kernel
theorem dX0_hasKind_19 : decode cX0_hasKind 19 = .ok (.iadd, 1) := by decide +kernel
theorem dX0_hasKind_20 : decode cX0_hasKind 20 = .ok (.bipush 40, 2) := by decide +kernel
theorem dX0_hasKind_22 : decode cX0_hasKind 22 = .ok (.irem, 1) := by decide +kernel
theorem dX0_hasKind_23 : decode cX0_hasKind 23 = .ok (.aaload, 1) := by decide +kernel
theorem dX0_hasKind_24 : decode cX0_hasKind 24 = .ok (.getfield 27, 3) := by decide +kernel
theorem dX0_hasKind_27 : decode cX0_hasKind 27 = .ok (.iload_n 1, 1) := by decide +kernel
theorem dX0_hasKind_28 : decode cX0_hasKind 28 = .ok (.if_icmp .ne 5, 3) := by decide +kernel
theorem dX0_hasKind_31 : decode cX0_hasKind 31 = .ok (.iconst 1, 1) := by decide +kernel
theorem dX0_hasKind_32 : decode cX0_hasKind 32 = .ok (.ireturn, 1) := by decide +kernel
theorem dX0_hasKind_33 : decode cX0_hasKind 33 = .ok (.iinc 2 1, 3) := by decide +kernel
theorem dX0_hasKind_36 : decode cX0_hasKind 36 = .ok (.goto (-34), 3) := by decide +kernel
theorem dX0_hasKind_39 : decode cX0_hasKind 39 = .ok (.iconst 0, 1) := by decide +kernel
theorem dX0_hasKind_40 : decode cX0_hasKind 40 = .ok (.ireturn, 1) := by decide +kernel
theorem dX0_copyFrom_0 : decode cX0_copyFrom 0 = .ok (.aload_n 0, 1) := by decide +kernel
theorem dX0_copyFrom_1 : decode cX0_copyFrom 1 = .ok (.iconst 0, 1) := by decide +kernel
theorem dX0_copyFrom_2 : decode cX0_copyFrom 2 = .ok (.putfield 24, 3) := by decide +kernel
theorem dX0_copyFrom_5 : decode cX0_copyFrom 5 = .ok (.aload_n 0, 1) := by decide +kernel
theorem dX0_copyFrom_6 : decode cX0_copyFrom 6 = .ok (.aload_n 1, 1) := by decide +kernel
theorem dX0_copyFrom_7 : decode cX0_copyFrom 7 = .ok (.getfield 20, 3) := by decide +kernel
theorem dX0_copyFrom_10 : decode cX0_copyFrom 10 = .ok (.putfield 20, 3) := by decide +kernel
theorem dX0_copyFrom_13 : decode cX0_copyFrom 13 = .ok (.iconst 0, 1) := by decide +kernel
theorem dX0_copyFrom_14 : decode cX0_copyFrom 14 = .ok (.istore_n 2, 1) := by decide +kernel
theorem dX0_copyFrom_15 : decode cX0_copyFrom 15 = .ok (.iload_n 2, 1) := by decide +kernel
theorem dX0_copyFrom_16 : decode cX0_copyFrom 16 = .ok (.aload_n 0, 1) := by decide +kernel
theorem dX0_copyFrom_17 : decode cX0_copyFrom 17 = .ok (.getfield 20, 3) := by decide +kernel
theorem dX0_copyFrom_20 : decode cX0_copyFrom 20 = .ok (.if_icmp .ge 38, 3) := by decide +kernel
theorem dX0_copyFrom_23 : decode cX0_copyFrom 23 = .ok (.iload_n 2, 1) := by decide +kernel
theorem dX0_copyFrom_24 : decode cX0_copyFrom 24 = .ok (.bipush 40, 2) := by decide +kernel
theorem dX0_copyFrom_26 : decode cX0_copyFrom 26 = .ok (.if_icmp .ge 32, 3) := by decide +kernel
theorem dX0_copyFrom_29 : decode cX0_copyFrom 29 = .ok (.aload_n 0, 1) := by decide +kernel
theorem dX0_copyFrom_30 : decode cX0_copyFrom 30 = .ok (.getfield 11, 3) := by decide +kernel
theorem dX0_copyFrom_33 : decode cX0_copyFrom 33 = .ok (.iload_n 2, 1) := by decide +kernel
theorem dX0_copyFrom_34 : decode cX0_copyFrom 34 = .ok (.aaload, 1) := by decide +kernel
theorem dX0_copyFrom_35 : decode cX0_copyFrom 35 = .ok (.aload_n 1, 1) := by decide +kernel
theorem dX0_copyFrom_36 : decode cX0_copyFrom 36 = .ok (.getfield 11, 3) := by decide +kernel
theorem dX0_copyFrom_39 : decode cX0_copyFrom 39 = .ok (.aload_n 1, 1) := by decide +kernel
theorem dX0_copyFrom_40 : decode cX0_copyFrom 40 = .ok (.getfield 24, 3) := by decide +kernel
theorem dX0_copyFrom_43 : decode cX0_copyFrom 43 = .ok (.iload_n 2, 1) := by decide +kernel
theorem dX0_copyFrom_44 : decode cX0_copyFrom 44 = .ok (.iadd, 1) := by decide +kernel
theorem dX0_copyFrom_45 : decode cX0_copyFrom 45 = .ok (.bipush 40, 2) := by decide +kernel
theorem dX0_copyFrom_47 : decode cX0_copyFrom 47 = .ok (.irem, 1) := by decide +kernel
theorem dX0_copyFrom_48 : decode cX0_copyFrom 48 = .ok (.aaload, 1) := by decide +kernel
theorem dX0_copyFrom_49 : decode cX0_copyFrom 49 = .ok (.invokevirtual 30, 3) := by decide +kernel
theorem dX0_copyFrom_52 : decode cX0_copyFrom 52 = .ok (.iinc 2 1, 3) := by decide +kernel
theorem dX0_copyFrom_55 : decode cX0_copyFrom 55 = .ok (.goto (-40), 3) := by decide +kernel
theorem dX0_copyFrom_58 : decode cX0_copyFrom 58 = .ok (.return_, 1) := by decide +kernel
theorem dX1_init_0 : decode cX1_init 0 = .ok (.aload_n 0, 1) := by decide +kernel
theorem dX1_init_1 : decode cX1_init 1 = .ok (.invokespecial 3, 3) := by decide +kernel
theorem dX1_init_4 : decode cX1_init 4 = .ok (.aload_n 0, 1) := by decide +kernel
theorem dX1_init_5 : decode cX1_init 5 = .ok (.new 9, 3) := by decide +kernel
theorem dX1_init_8 : decode cX1_init 8 = .ok (.dup, 1) := by decide +kernel
theorem dX1_init_9 : decode cX1_init 9 = .ok (.bipush 18, 2) := by decide +kernel
theorem dX1_init_11 : decode cX1_init 11 = .ok (.invokespecial 13, 3) := by decide +kernel
theorem dX1_init_14 : decode cX1_init 14 = .ok (.putfield 16, 3) := by decide +kernel
theorem dX1_init_17 : decode cX1_init 17 = .ok (.aload_n 0, 1) := by decide +kernel
theorem dX1_init_18 : decode cX1_init 18 = .ok (.iload_n 1, 1) := by decide +kernel
theorem dX1_init_19 : decode cX1_init 19 = .ok (.putfield 20, 3) := by decide +kernel
theorem dX1_init_22 : decode cX1_init 22 = .ok (.return_, 1) := by decide +kernel
theorem dX1_begin_0 : decode cX1_begin 0 = .ok (.aload_n 0, 1) := by decide +kernel
theorem dX1_begin_1 : decode cX1_begin 1 = .ok (.iload_n 1, 1) := by decide +kernel
theorem dX1_begin_2 : decode cX1_begin 2 = .ok (.putfield 24, 3) := by decide +kernel
theorem dX1_begin_5 : decode cX1_begin 5 = .ok (.aload_n 0, 1) := by decide +kernel
theorem dX1_begin_6 : decode cX1_begin 6 = .ok (.iload_n 2, 1) := by decide +kernel
theorem dX1_begin_7 : decode cX1_begin 7 = .ok (.putfield 28, 3) := by decide +kernel
theorem dX1_begin_10 : decode cX1_begin 10 = .ok (.aload_n 0, 1) := by decide +kernel
theorem dX1_begin_11 : decode cX1_begin 11 = .ok (.iload_n 1, 1) := by decide +kernel
theorem dX1_begin_12 : decode cX1_begin 12 = .ok (.ifCond .eq 9, 3) := by decide +kernel
theorem dX1_begin_15 : decode cX1_begin 15 = .ok (.iconst 3, 1) := by decide +kernel
theorem dX1_begin_16 : decode cX1_begin 16 = .ok (.iload_n 3, 1) := by decide +kernel
theorem dX1_begin_17 : decode cX1_begin 17 = .ok (.imul, 1) := by decide +kernel
theorem dX1_begin_18 : decode cX1_begin 18 = .ok (.goto 4, 3) := by decide +kernel
theorem dX1_begin_21 : decode cX1_begin 21 = .ok (.iload_n 3, 1) := by decide +kernel
theorem dX1_begin_22 : decode cX1_begin 22 = .ok (.putfield 31, 3) := by decide +kernel
theorem dX1_begin_25 : decode cX1_begin 25 = .ok (.aload_n 0, 1) := by decide +kernel
theorem dX1_begin_26 : decode cX1_begin 26 = .ok (.getfield 16, 3) := by decide +kernel
theorem dX1_begin_29 : decode cX1_begin 29 = .ok (.iconst 0, 1) := by decide +kernel
theorem dX1_begin_30 : decode cX1_begin 30 = .ok (.putfield 34, 3) := by decide +kernel
theorem dX1_begin_33 : decode cX1_begin 33 = .ok (.return_, 1) := by decide +kernel
theorem dX1_learn_0 : decode cX1_learn 0 = .ok (.lload_n 1, 1) := by decide +kernel
theorem dX1_learn_1 : decode cX1_learn 1 = .ok (.aload_n 0, 1) := by decide +kernel
theorem dX1_learn_2 : decode cX1_learn 2 = .ok (.getfield 28, 3) := by decide +kernel
theorem dX1_learn_5 : decode cX1_learn 5 = .ok (.iconst 1, 1) := by decide +kernel
theorem dX1_learn_6 : decode cX1_learn 6 = .ok (.iadd, 1) := by decide +kernel
theorem dX1_learn_7 : decode cX1_learn 7 = .ok (.invokestatic 37, 3) := by decide +kernel
theorem dX1_learn_10 : decode cX1_learn 10 = .ok (.lstore_n 3, 1) := by decide +kernel
theorem dX1_learn_11 : decode cX1_learn 11 = .ok (.lload_n 3, 1) := by decide +kernel
theorem dX1_learn_12 : decode cX1_learn 12 = .ok (.invokestatic 43, 3) := by decide +kernel
theorem dX1_learn_15 : decode cX1_learn 15 = .ok (.istore 5, 2) := by decide +kernel
theorem dX1_learn_17 : decode cX1_learn 17 = .ok (.iload 5, 2) := by decide +kernel
theorem dX1_learn_19 : decode cX1_learn 19 = .ok (.iconst 2, 1) := by decide +kernel
theorem dX1_learn_20 : decode cX1_learn 20 = .ok (.if_icmp .ge 4, 3) := by decide +kernel
theorem dX1_learn_23 : decode cX1_learn 23 = .ok (.return_, 1) := by decide +kernel
theorem dX1_learn_24 : decode cX1_learn 24 = .ok (.aload_n 0, 1) := by decide +kernel
theorem dX1_learn_25 : decode cX1_learn 25 = .ok (.getfield 24, 3) := by decide +kernel
theorem dX1_learn_28 : decode cX1_learn 28 = .ok (.ifCond .ne 16, 3) := by decide +kernel
theorem dX1_learn_31 : decode cX1_learn 31 = .ok (.aload_n 0, 1) := by decide +kernel
theorem dX1_learn_32 : decode cX1_learn 32 = .ok (.getfield 16, 3) := by decide +kernel
theorem dX1_learn_35 : decode cX1_learn 35 = .ok (.lload_n 3, 1) := by decide +kernel
theorem dX1_learn_36 : decode cX1_learn 36 = .ok (.aload_n 0, 1) := by decide +kernel
theorem dX1_learn_37 : decode cX1_learn 37 = .ok (.getfield 31, 3) := by decide +kernel
theorem dX1_learn_40 : decode cX1_learn 40 = .ok (.invokevirtual 47, 3) := by decide +kernel
theorem dX1_learn_43 : decode cX1_learn 43 = .ok (.return_, 1) := by decide +kernel
theorem dX1_learn_44 : decode cX1_learn 44 = .ok (.iconst 1, 1) := by decide +kernel
theorem dX1_learn_45 : decode cX1_learn 45 = .ok (.istore 6, 2) := by decide +kernel
theorem dX1_learn_47 : decode cX1_learn 47 = .ok (.iload 6, 2) := by decide +kernel
theorem dX1_learn_49 : decode cX1_learn 49 = .ok (.iload 5, 2) := by decide +kernel
theorem dX1_learn_51 : decode cX1_learn 51 = .ok (.if_icmp .ge 61, 3) := by decide +kernel
theorem dX1_learn_54 : decode cX1_learn 54 = .ok (.lload_n 3, 1) := by decide +kernel
theorem dX1_learn_55 : decode cX1_learn 55 = .ok (.iload 6, 2) := by decide +kernel
theorem dX1_learn_57 : decode cX1_learn 57 = .ok (.iconst 1, 1) := by decide +kernel
theorem dX1_learn_58 : decode cX1_learn 58 = .ok (.isub, 1) := by decide +kernel
theorem dX1_learn_59 : decode cX1_learn 59 = .ok (.invokestatic 51, 3) := by decide +kernel
theorem dX1_learn_62 : decode cX1_learn 62 = .ok (.istore 7, 2) := by decide +kernel
theorem dX1_learn_64 : decode cX1_learn 64 = .ok (.lload_n 3, 1) := by decide +kernel
theorem dX1_learn_65 : decode cX1_learn 65 = .ok (.iload 6, 2) := by decide +kernel
theorem dX1_learn_67 : decode cX1_learn 67 = .ok (.invokestatic 51, 3) := by decide +kernel
theorem dX1_learn_70 : decode cX1_learn 70 = .ok (.istore 8, 2) := by decide +kernel
theorem dX1_learn_72 : decode cX1_learn 72 = .ok (.aload_n 0, 1) := by decide +kernel
theorem dX1_learn_73 : decode cX1_learn 73 = .ok (.getfield 16, 3) := by decide +kernel
theorem dX1_learn_76 : decode cX1_learn 76 = .ok (.iload 7, 2) := by decide +kernel
theorem dX1_learn_78 : decode cX1_learn 78 = .ok (.iload 8, 2) := by decide +kernel
theorem dX1_learn_80 : decode cX1_learn 80 = .ok (.invokestatic 55, 3) := by decide +kernel
theorem dX1_learn_83 : decode cX1_learn 83 = .ok (.iconst 1, 1) := by decide +kernel
theorem dX1_learn_84 : decode cX1_learn 84 = .ok (.iadd, 1) := by decide +kernel
theorem dX1_learn_85 : decode cX1_learn 85 = .ok (.i2l, 1) := by decide +kernel
theorem dX1_learn_86 : decode cX1_learn 86 = .ok (.iload 7, 2) := by decide +kernel
theorem dX1_learn_88 : decode cX1_learn 88 = .ok (.iload 8, 2) := by decide +kernel
theorem dX1_learn_90 : decode cX1_learn 90 = .ok (.invokestatic 61, 3) := by decide +kernel
theorem dX1_learn_93 : decode cX1_learn 93 = .ok (.iconst 1, 1) := by decide +kernel
theorem dX1_learn_94 : decode cX1_learn 94 = .ok (.iadd, 1) := by decide +kernel
theorem dX1_learn_95 : decode cX1_learn 95 = .ok (.i2l, 1) := by decide +kernel
theorem dX1_learn_96 : decode cX1_learn 96 = .ok (.iconst 4, 1) := by decide +kernel
theorem dX1_learn_97 : decode cX1_learn 97 = .ok (.lshl, 1) := by decide +kernel
theorem dX1_learn_98 : decode cX1_learn 98 = .ok (.lor, 1) := by decide +kernel
theorem dX1_learn_99 : decode cX1_learn 99 = .ok (.aload_n 0, 1) := by decide +kernel
theorem dX1_learn_100 : decode cX1_learn 100 = .ok (.getfield 31, 3) := by decide +kernel
theorem dX1_learn_103 : decode cX1_learn 103 = .ok (.invokevirtual 47, 3) := by decide +kernel
theorem dX1_learn_106 : decode cX1_learn 106 = .ok (.iinc 6 1, 3) := by decide +kernel
theorem dX1_learn_109 : decode cX1_learn 109 = .ok (.goto (-62), 3) := by decide +kernel
theorem dX1_learn_112 : decode cX1_learn 112 = .ok (.return_, 1) := by decide +kernel
theorem dX1_forget_0 : decode cX1_forget 0 = .ok (.iload_n 1, 1) := by decide +kernel
theorem dX1_forget_1 : decode cX1_forget 1 = .ok (.ifCond .ge 4, 3) := by decide +kernel
theorem dX1_forget_4 : decode cX1_forget 4 = .ok (.return_, 1) := by decide +kernel
theorem dX1_forget_5 : decode cX1_forget 5 = .ok (.aload_n 0, 1) := by decide +kernel
theorem dX1_forget_6 : decode cX1_forget 6 = .ok (.getfield 16, 3) := by decide +kernel
theorem dX1_forget_9 : decode cX1_forget 9 = .ok (.getfield 34, 3) := by decide +kernel
theorem dX1_forget_12 : decode cX1_forget 12 = .ok (.istore_n 2, 1) := by decide +kernel
theorem dX1_forget_13 : decode cX1_forget 13 = .ok (.aload_n 0, 1) := by decide +kernel
theorem dX1_forget_14 : decode cX1_forget 14 = .ok (.getfield 16, 3) := by decide +kernel
theorem dX1_forget_17 : decode cX1_forget 17 = .ok (.iconst 0, 1) := by decide +kernel
theorem dX1_forget_18 : decode cX1_forget 18 = .ok (.putfield 34, 3) := by decide +kernel
theorem dX1_forget_21 : decode cX1_forget 21 = .ok (.iconst 0, 1) := by decide +kernel
theorem dX1_forget_22 : decode cX1_forget 22 = .ok (.istore_n 3, 1) := by decide +kernel
theorem dX1_forget_23 : decode cX1_forget 23 = .ok (.iload_n 3, 1) := by decide +kernel
theorem dX1_forget_24 : decode cX1_forget 24 = .ok (.iload_n 2, 1) := by decide +kernel
theorem dX1_forget_25 : decode cX1_forget 25 = .ok (.if_icmp .ge 88, 3) := by decide +kernel
theorem dX1_forget_28 : decode cX1_forget 28 = .ok (.iload_n 3, 1) := by decide +kernel
theorem dX1_forget_29 : decode cX1_forget 29 = .ok (.bipush 18, 2) := by decide +kernel
theorem dX1_forget_31 : decode cX1_forget 31 = .ok (.if_icmp .ge 82, 3) := by decide +kernel
theorem dX1_forget_34 : decode cX1_forget 34 = .ok (.aload_n 0, 1) := by decide +kernel
theorem dX1_forget_35 : decode cX1_forget 35 = .ok (.getfield 16, 3) := by decide +kernel
theorem dX1_forget_38 : decode cX1_forget 38 = .ok (.getfield 64, 3) := by decide +kernel
theorem dX1_forget_41 : decode cX1_forget 41 = .ok (.iload_n 3, 1) := by decide +kernel
theorem dX1_forget_42 : decode cX1_forget 42 = .ok (.laload, 1) := by decide +kernel
theorem dX1_forget_43 : decode cX1_forget 43 = .ok (.iload_n 1, 1) := by decide +kernel
theorem dX1_forget_44 : decode cX1_forget 44 = .ok (.bipush 10, 2) := by decide +kernel
theorem dX1_forget_46 : decode cX1_forget 46 = .ok (.idiv, 1) := by decide +kernel
theorem dX1_forget_47 : decode cX1_forget 47 = .ok (.iload_n 1, 1) := by decide +kernel
theorem dX1_forget_48 : decode cX1_forget 48 = .ok (.bipush 10, 2) := by decide +kernel
theorem dX1_forget_50 : decode cX1_forget 50 = .ok (.irem, 1) := by decide +kernel
theorem dX1_forget_51 : decode cX1_forget 51 = .ok (.invokestatic 68, 3) := by decide +kernel
theorem dX1_forget_54 : decode cX1_forget 54 = .ok (.lstore 4, 2) := by decide +kernel
theorem dX1_forget_56 : decode cX1_forget 56 = .ok (.lload 4, 2) := by decide +kernel
theorem dX1_forget_58 : decode cX1_forget 58 = .ok (.invokestatic 43, 3) := by decide +kernel
theorem dX1_forget_61 : decode cX1_forget 61 = .ok (.iconst 1, 1) := by decide +kernel
theorem dX1_forget_62 : decode cX1_forget 62 = .ok (.if_icmp .le 45, 3) := by decide +kernel
theorem dX1_forget_65 : decode cX1_forget 65 = .ok (.aload_n 0, 1) := by decide +kernel
theorem dX1_forget_66 : decode cX1_forget 66 = .ok (.getfield 16, 3) := by decide +kernel
theorem dX1_forget_69 : decode cX1_forget 69 = .ok (.lload 4, 2) := by decide +kernel
theorem dX1_forget_71 : decode cX1_forget 71 = .ok (.invokevirtual 72, 3) := by decide +kernel
theorem dX1_forget_74 : decode cX1_forget 74 = .ok (.ifCond .ne 33, 3) := by decide +kernel
theorem dX1_forget_77 : decode cX1_forget 77 = .ok (.aload_n 0, 1) := by decide +kernel
theorem dX1_forget_78 : decode cX1_forget 78 = .ok (.getfield 16, 3) := by decide +kernel
theorem dX1_forget_81 : decode cX1_forget 81 = .ok (.getfield 64, 3) := by decide +kernel
theorem dX1_forget_84 : decode cX1_forget 84 = .ok (.aload_n 0, 1) := by decide +kernel
theorem dX1_forget_85 : decode cX1_forget 85 = .ok (.getfield 16, 3) := by decide +kernel
theorem dX1_forget_88 : decode cX1_forget 88 = .ok (.getfield 34, 3) := by decide +kernel
theorem dX1_forget_91 : decode cX1_forget 91 = .ok (.lload 4, 2) := by decide +kernel
theorem dX1_forget_93 : decode cX1_forget 93 = .ok (.lastore, 1) := by decide +kernel
theorem dX1_forget_94 : decode cX1_forget 94 = .ok (.aload_n 0, 1) := by decide +kernel
theorem dX1_forget_95 : decode cX1_forget 95 = .ok (.getfield 16, 3) := by decide +kernel
theorem dX1_forget_98 : decode cX1_forget 98 = .ok (.dup, 1) := by decide +kernel
theorem dX1_forget_99 : decode cX1_forget 99 = .ok (.getfield 34, 3) := by decide +kernel
theorem dX1_forget_102 : decode cX1_forget 102 = .ok (.iconst 1, 1) := by decide +kernel
theorem dX1_forget_103 : decode cX1_forget 103 = .ok (.iadd, 1) := by decide +kernel
theorem dX1_forget_104 : decode cX1_forget 104 = .ok (.putfield 34, 3) := by decide +kernel
theorem dX1_forget_107 : decode cX1_forget 107 = .ok (.iinc 3 1, 3) := by decide +kernel
theorem dX1_forget_110 : decode cX1_forget 110 = .ok (.goto (-87), 3) := by decide +kernel
theorem dX1_forget_113 : decode cX1_forget 113 = .ok (.return_, 1) := by decide +kernel
theorem dX1_cut_0 : decode cX1_cut 0 = .ok (.lload_n 0, 1) := by decide +kernel
theorem dX1_cut_1 : decode cX1_cut 1 = .ok (.iload_n 2, 1) := by decide +kernel
theorem dX1_cut_2 : decode cX1_cut 2 = .ok (.invokestatic 76, 3) := by decide +kernel
theorem dX1_cut_5 : decode cX1_cut 5 = .ok (.istore 4, 2) := by decide +kernel
theorem dX1_cut_7 : decode cX1_cut 7 = .ok (.lload_n 0, 1) := by decide +kernel
theorem dX1_cut_8 : decode cX1_cut 8 = .ok (.iload_n 3, 1) := by decide +kernel
theorem dX1_cut_9 : decode cX1_cut 9 = .ok (.invokestatic 76, 3) := by decide +kernel
theorem dX1_cut_12 : decode cX1_cut 12 = .ok (.istore 5, 2) := by decide +kernel
theorem dX1_cut_14 : decode cX1_cut 14 = .ok (.iload 4, 2) := by decide +kernel
theorem dX1_cut_16 : decode cX1_cut 16 = .ok (.iconst (-1), 1) := by decide +kernel
theorem dX1_cut_17 : decode cX1_cut 17 = .ok (.if_icmp .eq 35, 3) := by decide +kernel
theorem dX1_cut_20 : decode cX1_cut 20 = .ok (.iload 5, 2) := by decide +kernel
theorem dX1_cut_22 : decode cX1_cut 22 = .ok (.iconst (-1), 1) := by decide +kernel
theorem dX1_cut_23 : decode cX1_cut 23 = .ok (.if_icmp .eq 29, 3) := by decide +kernel
theorem dX1_cut_26 : decode cX1_cut 26 = .ok (.iload 4, 2) := by decide +kernel
theorem dX1_cut_28 : decode cX1_cut 28 = .ok (.iload 5, 2) := by decide +kernel
theorem dX1_cut_30 : decode cX1_cut 30 = .ok (.isub, 1) := by decide +kernel
theorem dX1_cut_31 : decode cX1_cut 31 = .ok (.invokestatic 79, 3) := by decide +kernel
theorem dX1_cut_34 : decode cX1_cut 34 = .ok (.iconst 1, 1) := by decide +kernel
theorem dX1_cut_35 : decode cX1_cut 35 = .ok (.if_icmp .ne 17, 3) := by decide +kernel
theorem dX1_cut_38 : decode cX1_cut 38 = .ok (.lload_n 0, 1) := by decide +kernel
theorem dX1_cut_39 : decode cX1_cut 39 = .ok (.iload 4, 2) := by decide +kernel
theorem dX1_cut_41 : decode cX1_cut 41 = .ok (.iload 5, 2) := by decide +kernel
theorem dX1_cut_43 : decode cX1_cut 43 = .ok (.invokestatic 61, 3) := by decide +kernel
theorem dX1_cut_46 : decode cX1_cut 46 = .ok (.invokestatic 37, 3) := by decide +kernel
theorem dX1_cut_49 : decode cX1_cut 49 = .ok (.goto 4, 3) := by decide +kernel
theorem dX1_cut_52 : decode cX1_cut 52 = .ok (.lload_n 0, 1) := by decide +kernel
theorem dX1_cut_53 : decode cX1_cut 53 = .ok (.lreturn, 1) := by decide +kernel
theorem dX1_wayTo_0 : decode cX1_wayTo 0 = .ok (.aload_n 0, 1) := by decide +kernel
theorem dX1_wayTo_1 : decode cX1_wayTo 1 = .ok (.getfield 24, 3) := by decide +kernel
theorem dX1_wayTo_4 : decode cX1_wayTo 4 = .ok (.ifCond .eq 20, 3) := by decide +kernel
theorem dX1_wayTo_7 : decode cX1_wayTo 7 = .ok (.aload_n 0, 1) := by decide +kernel
theorem dX1_wayTo_8 : decode cX1_wayTo 8 = .ok (.invokevirtual 83, 3) := by decide +kernel
theorem dX1_wayTo_11 : decode cX1_wayTo 11 = .ok (.aload_n 0, 1) := by decide +kernel
theorem dX1_wayTo_12 : decode cX1_wayTo 12 = .ok (.getfield 20, 3) := by decide +kernel
theorem dX1_wayTo_15 : decode cX1_wayTo 15 = .ok (.iload_n 1, 1) := by decide +kernel
theorem dX1_wayTo_16 : decode cX1_wayTo 16 = .ok (.aload_n 0, 1) := by decide +kernel
theorem dX1_wayTo_17 : decode cX1_wayTo 17 = .ok (.getfield 28, 3) := by decide +kernel
theorem dX1_wayTo_20 : decode cX1_wayTo 20 = .ok (.invokestatic 87, 3) := by decide +kernel
theorem dX1_wayTo_23 : decode cX1_wayTo 23 = .ok (.lreturn, 1) := by decide +kernel
theorem dX1_wayTo_24 : decode cX1_wayTo 24 = .ok (.bipush 8, 2) := by decide +kernel
theorem dX1_wayTo_26 : decode cX1_wayTo 26 = .ok (.istore_n 2, 1) := by decide +kernel
theorem dX1_wayTo_27 : decode cX1_wayTo 27 = .ok (.lconst 0, 1) := by decide +kernel
theorem dX1_wayTo_28 : decode cX1_wayTo 28 = .ok (.lstore_n 3, 1) := by decide +kernel
theorem dX1_wayTo_29 : decode cX1_wayTo 29 = .ok (.iconst 0, 1) := by decide +kernel
theorem dX1_wayTo_30 : decode cX1_wayTo 30 = .ok (.istore 5, 2) := by decide +kernel
theorem dX1_wayTo_32 : decode cX1_wayTo 32 = .ok (.iload 5, 2) := by decide +kernel
theorem dX1_wayTo_34 : decode cX1_wayTo 34 = .ok (.aload_n 0, 1) := by decide +kernel
theorem dX1_wayTo_35 : decode cX1_wayTo 35 = .ok (.getfield 16, 3) := by decide +kernel
theorem dX1_wayTo_38 : decode cX1_wayTo 38 = .ok (.getfield 34, 3) := by decide +kernel
theorem dX1_wayTo_41 : decode cX1_wayTo 41 = .ok (.if_icmp .ge 55, 3) := by decide +kernel
theorem dX1_wayTo_44 : decode cX1_wayTo 44 = .ok (.aload_n 0, 1) := by decide +kernel
theorem dX1_wayTo_45 : decode cX1_wayTo 45 = .ok (.getfield 16, 3) := by decide +kernel
theorem dX1_wayTo_48 : decode cX1_wayTo 48 = .ok (.iload 5, 2) := by decide +kernel
theorem dX1_wayTo_50 : decode cX1_wayTo 50 = .ok (.invokevirtual 93, 3) := by decide +kernel
theorem dX1_wayTo_53 : decode cX1_wayTo 53 = .ok (.iload_n 1, 1) := by decide +kernel
theorem dX1_wayTo_54 : decode cX1_wayTo 54 = .ok (.invokestatic 76, 3) := by decide +kernel
theorem dX1_wayTo_57 : decode cX1_wayTo 57 = .ok (.istore 6, 2) := by decide +kernel
theorem dX1_wayTo_59 : decode cX1_wayTo 59 = .ok (.iload 6, 2) := by decide +kernel
theorem dX1_wayTo_61 : decode cX1_wayTo 61 = .ok (.ifCond .le 29, 3) := by decide +kernel
theorem dX1_wayTo_64 : decode cX1_wayTo 64 = .ok (.iload 6, 2) := by decide +kernel
theorem dX1_wayTo_66 : decode cX1_wayTo 66 = .ok (.iload_n 2, 1) := by decide +kernel
theorem dX1_wayTo_67 : decode cX1_wayTo 67 = .ok (.if_icmp .ge 23, 3) := by decide +kernel
theorem dX1_wayTo_70 : decode cX1_wayTo 70 = .ok (.iload 6, 2) := by decide +kernel
theorem dX1_wayTo_72 : decode cX1_wayTo 72 = .ok (.istore_n 2, 1) := by decide +kernel
theorem dX1_wayTo_73 : decode cX1_wayTo 73 = .ok (.aload_n 0, 1) := by decide +kernel
theorem dX1_wayTo_74 : decode cX1_wayTo 74 = .ok (.getfield 16, 3) := by decide +kernel
theorem dX1_wayTo_77 : decode cX1_wayTo 77 = .ok (.iload 5, 2) := by decide +kernel
theorem dX1_wayTo_79 : decode cX1_wayTo 79 = .ok (.invokevirtual 93, 3) := by decide +kernel
theorem dX1_wayTo_82 : decode cX1_wayTo 82 = .ok (.iload 6, 2) := by decide +kernel
theorem dX1_wayTo_84 : decode cX1_wayTo 84 = .ok (.iconst 1, 1) := by decide +kernel
theorem dX1_wayTo_85 : decode cX1_wayTo 85 = .ok (.iadd, 1) := by decide +kernel
theorem dX1_wayTo_86 : decode cX1_wayTo 86 = .ok (.invokestatic 37, 3) := by decide +kernel
theorem dX1_wayTo_89 : decode cX1_wayTo 89 = .ok (.lstore_n 3, 1) := by decide +kernel
theorem dX1_wayTo_90 : decode cX1_wayTo 90 = .ok (.iinc 5 1, 3) := by decide +kernel
theorem dX1_wayTo_93 : decode cX1_wayTo 93 = .ok (.goto (-61), 3) := by decide +kernel
theorem dX1_wayTo_96 : decode cX1_wayTo 96 = .ok (.lload_n 3, 1) := by decide +kernel
theorem dX1_wayTo_97 : decode cX1_wayTo 97 = .ok (.lreturn, 1) := by decide +kernel
theorem dX1_links_0 : decode cX1_links 0 = .ok (.lconst 0, 1) := by decide +kernel
theorem dX1_links_1 : decode cX1_links 1 = .ok (.lstore_n 1, 1) := by decide +kernel
theorem dX1_links_2 : decode cX1_links 2 = .ok (.iconst 0, 1) := by decide +kernel
theorem dX1_links_3 : decode cX1_links 3 = .ok (.istore_n 3, 1) := by decide +kernel
theorem dX1_links_4 : decode cX1_links 4 = .ok (.iload_n 3, 1) := by decide +kernel
theorem dX1_links_5 : decode cX1_links 5 = .ok (.aload_n 0, 1) := by decide +kernel
theorem dX1_links_6 : decode cX1_links 6 = .ok (.getfield 16, 3) := by decide +kernel
theorem dX1_links_9 : decode cX1_links 9 = .ok (.getfield 34, 3) := by decide +kernel
theorem dX1_links_12 : decode cX1_links 12 = .ok (.if_icmp .ge 23, 3) := by decide +kernel
theorem dX1_links_15 : decode cX1_links 15 = .ok (.lload_n 1, 1) := by decide +kernel
theorem dX1_links_16 : decode cX1_links 16 = .ok (.aload_n 0, 1) := by decide +kernel
theorem dX1_links_17 : decode cX1_links 17 = .ok (.getfield 16, 3) := by decide +kernel
theorem dX1_links_20 : decode cX1_links 20 = .ok (.iload_n 3, 1) := by decide +kernel
theorem dX1_links_21 : decode cX1_links 21 = .ok (.invokevirtual 93, 3) := by decide +kernel
theorem dX1_links_24 : decode cX1_links 24 = .ok (.invokestatic 97, 3) := by decide +kernel
theorem dX1_links_27 : decode cX1_links 27 = .ok (.lor, 1) := by decide +kernel
theorem dX1_links_28 : decode cX1_links 28 = .ok (.lstore_n 1, 1) := by decide +kernel
theorem dX1_links_29 : decode cX1_links 29 = .ok (.iinc 3 1, 3) := by decide +kernel
theorem dX1_links_32 : decode cX1_links 32 = .ok (.goto (-28), 3) := by decide +kernel
theorem dX1_links_35 : decode cX1_links 35 = .ok (.lload_n 1, 1) := by decide +kernel
theorem dX1_links_36 : decode cX1_links 36 = .ok (.lreturn, 1) := by decide +kernel
theorem dX1_copyFrom_0 : decode cX1_copyFrom 0 = .ok (.aload_n 0, 1) := by decide +kernel
theorem dX1_copyFrom_1 : decode cX1_copyFrom 1 = .ok (.getfield 16, 3) := by decide +kernel
theorem dX1_copyFrom_4 : decode cX1_copyFrom 4 = .ok (.aload_n 1, 1) := by decide +kernel
theorem dX1_copyFrom_5 : decode cX1_copyFrom 5 = .ok (.getfield 16, 3) := by decide +kernel
theorem dX1_copyFrom_8 : decode cX1_copyFrom 8 = .ok (.invokevirtual 101, 3) := by decide +kernel
theorem dX1_copyFrom_11 : decode cX1_copyFrom 11 = .ok (.aload_n 0, 1) := by decide +kernel
theorem dX1_copyFrom_12 : decode cX1_copyFrom 12 = .ok (.aload_n 1, 1) := by decide +kernel
theorem dX1_copyFrom_13 : decode cX1_copyFrom 13 = .ok (.getfield 24, 3) := by decide +kernel
theorem dX1_copyFrom_16 : decode cX1_copyFrom 16 = .ok (.putfield 24, 3) := by decide +kernel
theorem dX1_copyFrom_19 : decode cX1_copyFrom 19 = .ok (.aload_n 0, 1) := by decide +kernel
theorem dX1_copyFrom_20 : decode cX1_copyFrom 20 = .ok (.aload_n 1, 1) := by decide +kernel
theorem dX1_copyFrom_21 : decode cX1_copyFrom 21 = .ok (.getfield 28, 3) := by decide +kernel
theorem dX1_copyFrom_24 : decode cX1_copyFrom 24 = .ok (.putfield 28, 3) := by decide +kernel
theorem dX1_copyFrom_27 : decode cX1_copyFrom 27 = .ok (.aload_n 0, 1) := by decide +kernel
theorem dX1_copyFrom_28 : decode cX1_copyFrom 28 = .ok (.aload_n 1, 1) := by decide +kernel
theorem dX1_copyFrom_29 : decode cX1_copyFrom 29 = .ok (.getfield 31, 3) := by decide +kernel
theorem dX1_copyFrom_32 : decode cX1_copyFrom 32 = .ok (.putfield 31, 3) := by decide +kernel
theorem dX1_copyFrom_35 : decode cX1_copyFrom 35 = .ok (.return_, 1) := by decide +kernel
theorem dX2_init_0 : decode cX2_init 0 = .ok (.aload_n 0, 1) := by decide +kernel
theorem dX2_init_1 : decode cX2_init 1 = .ok (.invokespecial 3, 3) := by decide +kernel
theorem dX2_init_4 : decode cX2_init 4 = .ok (.aload_n 0, 1) := by decide +kernel
theorem dX2_init_5 : decode cX2_init 5 = .ok (.iload_n 1, 1) := by decide +kernel
theorem dX2_init_6 : decode cX2_init 6 = .ok (.putfield 9, 3) := by decide +kernel
theorem dX2_init_9 : decode cX2_init 9 = .ok (.return_, 1) := by decide +kernel
theorem dX2_begin_0 : decode cX2_begin 0 = .ok (.aload_n 0, 1) := by decide +kernel
theorem dX2_begin_1 : decode cX2_begin 1 = .ok (.iload_n 1, 1) := by decide +kernel
theorem dX2_begin_2 : decode cX2_begin 2 = .ok (.putfield 15, 3) := by decide +kernel
theorem dX2_begin_5 : decode cX2_begin 5 = .ok (.aload_n 0, 1) := by decide +kernel
theorem dX2_begin_6 : decode cX2_begin 6 = .ok (.iload_n 2, 1) := by decide +kernel
theorem dX2_begin_7 : decode cX2_begin 7 = .ok (.putfield 18, 3) := by decide +kernel
theorem dX2_begin_10 : decode cX2_begin 10 = .ok (.aload_n 0, 1) := by decide +kernel
theorem dX2_begin_11 : decode cX2_begin 11 = .ok (.iconst 0, 1) := by decide +kernel
theorem dX2_begin_12 : decode cX2_begin 12 = .ok (.putfield 21, 3) := by decide +kernel
theorem dX2_begin_15 : decode cX2_begin 15 = .ok (.aload_n 0, 1) := by decide +kernel
theorem dX2_begin_16 : decode cX2_begin 16 = .ok (.iconst 0, 1) := by decide +kernel
theorem dX2_begin_17 : decode cX2_begin 17 = .ok (.putfield 24, 3) := by decide +kernel
theorem dX2_begin_20 : decode cX2_begin 20 = .ok (.aload_n 0, 1) := by decide +kernel
theorem dX2_begin_21 : decode cX2_begin 21 = .ok (.lconst 0, 1) := by decide +kernel
theorem dX2_begin_22 : decode cX2_begin 22 = .ok (.putfield 29, 3) := by decide +kernel
theorem dX2_begin_25 : decode cX2_begin 25 = .ok (.aload_n 0, 1) := by decide +kernel
theorem dX2_begin_26 : decode cX2_begin 26 = .ok (.lconst 0, 1) := by decide +kernel
theorem dX2_begin_27 : decode cX2_begin 27 = .ok (.iload_n 1, 1) := by decide +kernel
theorem dX2_begin_28 : decode cX2_begin 28 = .ok (.invokestatic 33, 3) := by decide +kernel
theorem dX2_begin_31 : decode cX2_begin 31 = .ok (.putfield 37, 3) := by decide +kernel
theorem dX2_begin_34 : decode cX2_begin 34 = .ok (.aload_n 0, 1) := by decide +kernel
theorem dX2_begin_35 : decode cX2_begin 35 = .ok (.iload_n 3, 1) := by decide +kernel
theorem dX2_begin_36 : decode cX2_begin 36 = .ok (.putfield 40, 3) := by decide +kernel
theorem dX2_begin_39 : decode cX2_begin 39 = .ok (.aload_n 0, 1) := by decide +kernel
theorem dX2_begin_40 : decode cX2_begin 40 = .ok (.iconst (-1), 1) := by decide +kernel
theorem dX2_begin_41 : decode cX2_begin 41 = .ok (.putfield 43, 3) := by decide +kernel
theorem dX2_begin_44 : decode cX2_begin 44 = .ok (.aload_n 0, 1) := by decide +kernel
theorem dX2_begin_45 : decode cX2_begin 45 = .ok (.iload_n 3, 1) := by decide +kernel
theorem dX2_begin_46 : decode cX2_begin 46 = .ok (.putfield 46, 3) := by decide +kernel
theorem dX2_begin_49 : decode cX2_begin 49 = .ok (.aload_n 0, 1) := by decide +kernel
theorem dX2_begin_50 : decode cX2_begin 50 = .ok (.iconst 0, 1) := by decide +kernel
theorem dX2_begin_51 : decode cX2_begin 51 = .ok (.putfield 49, 3) := by decide +kernel
theorem dX2_begin_54 : decode cX2_begin 54 = .ok (.return_, 1) := by decide +kernel
theorem dX2_stand_0 : decode cX2_stand 0 = .ok (.aload_n 0, 1) := by decide +kernel
theorem dX2_stand_1 : decode cX2_stand 1 = .ok (.iload_n 1, 1) := by decide +kernel
theorem dX2_stand_2 : decode cX2_stand 2 = .ok (.putfield 21, 3) := by decide +kernel
theorem dX2_stand_5 : decode cX2_stand 5 = .ok (.aload_n 0, 1) := by decide +kernel
theorem dX2_stand_6 : decode cX2_stand 6 = .ok (.lload_n 2, 1) := by decide +kernel
theorem dX2_stand_7 : decode cX2_stand 7 = .ok (.putfield 29, 3) := by decide +kernel
theorem dX2_stand_10 : decode cX2_stand 10 = .ok (.return_, 1) := by decide +kernel
theorem dX2_copyFrom_0 : decode cX2_copyFrom 0 = .ok (.aload_n 0, 1) := by decide +kernel
theorem dX2_copyFrom_1 : decode cX2_copyFrom 1 = .ok (.aload_n 1, 1) := by decide +kernel
theorem dX2_copyFrom_2 : decode cX2_copyFrom 2 = .ok (.getfield 15, 3) := by decide +kernel
theorem dX2_copyFrom_5 : decode cX2_copyFrom 5 = .ok (.aload_n 1, 1) := by decide +kernel
theorem dX2_copyFrom_6 : decode cX2_copyFrom 6 = .ok (.getfield 18, 3) := by decide +kernel
theorem dX2_copyFrom_9 : decode cX2_copyFrom 9 = .ok (.aload_n 1, 1) := by decide +kernel
theorem dX2_copyFrom_10 : decode cX2_copyFrom 10 = .ok (.getfield 40, 3) := by decide +kernel
theorem dX2_copyFrom_13 : decode cX2_copyFrom 13 = .ok (.invokevirtual 52, 3) := by decide +kernel
theorem dX2_copyFrom_16 : decode cX2_copyFrom 16 = .ok (.aload_n 0, 1) := by decide +kernel
theorem dX2_copyFrom_17 : decode cX2_copyFrom 17 = .ok (.aload_n 1, 1) := by decide +kernel
theorem dX2_copyFrom_18 : decode cX2_copyFrom 18 = .ok (.getfield 21, 3) := by decide +kernel
theorem dX2_copyFrom_21 : decode cX2_copyFrom 21 = .ok (.aload_n 1, 1) := by decide +kernel
theorem dX2_copyFrom_22 : decode cX2_copyFrom 22 = .ok (.getfield 29, 3) := by decide +kernel
theorem dX2_copyFrom_25 : decode cX2_copyFrom 25 = .ok (.invokevirtual 56, 3) := by decide +kernel
theorem dX2_copyFrom_28 : decode cX2_copyFrom 28 = .ok (.aload_n 0, 1) := by decide +kernel
theorem dX2_copyFrom_29 : decode cX2_copyFrom 29 = .ok (.aload_n 1, 1) := by decide +kernel
theorem dX2_copyFrom_30 : decode cX2_copyFrom 30 = .ok (.getfield 24, 3) := by decide +kernel
theorem dX2_copyFrom_33 : decode cX2_copyFrom 33 = .ok (.putfield 24, 3) := by decide +kernel
theorem dX2_copyFrom_36 : decode cX2_copyFrom 36 = .ok (.aload_n 0, 1) := by decide +kernel
theorem dX2_copyFrom_37 : decode cX2_copyFrom 37 = .ok (.aload_n 1, 1) := by decide +kernel
theorem dX2_copyFrom_38 : decode cX2_copyFrom 38 = .ok (.getfield 37, 3) := by decide +kernel
theorem dX2_copyFrom_41 : decode cX2_copyFrom 41 = .ok (.putfield 37, 3) := by decide +kernel
theorem dX2_copyFrom_44 : decode cX2_copyFrom 44 = .ok (.aload_n 0, 1) := by decide +kernel
theorem dX2_copyFrom_45 : decode cX2_copyFrom 45 = .ok (.aload_n 1, 1) := by decide +kernel
theorem dX2_copyFrom_46 : decode cX2_copyFrom 46 = .ok (.getfield 43, 3) := by decide +kernel
theorem dX2_copyFrom_49 : decode cX2_copyFrom 49 = .ok (.putfield 43, 3) := by decide +kernel
theorem dX2_copyFrom_52 : decode cX2_copyFrom 52 = .ok (.aload_n 0, 1) := by decide +kernel
theorem dX2_copyFrom_53 : decode cX2_copyFrom 53 = .ok (.aload_n 1, 1) := by decide +kernel
theorem dX2_copyFrom_54 : decode cX2_copyFrom 54 = .ok (.getfield 46, 3) := by decide +kernel
theorem dX2_copyFrom_57 : decode cX2_copyFrom 57 = .ok (.putfield 46, 3) := by decide +kernel
theorem dX2_copyFrom_60 : decode cX2_copyFrom 60 = .ok (.aload_n 0, 1) := by decide +kernel
theorem dX2_copyFrom_61 : decode cX2_copyFrom 61 = .ok (.aload_n 1, 1) := by decide +kernel
theorem dX2_copyFrom_62 : decode cX2_copyFrom 62 = .ok (.getfield 49, 3) := by decide +kernel
theorem dX2_copyFrom_65 : decode cX2_copyFrom 65 = .ok (.putfield 49, 3) := by decide +kernel
theorem dX2_copyFrom_68 : decode cX2_copyFrom 68 = .ok (.return_, 1) := by decide +kernel
theorem dX3_init_0 : decode cX3_init 0 = .ok (.aload_n 0, 1) := by decide +kernel
theorem dX3_init_1 : decode cX3_init 1 = .ok (.invokespecial 3, 3) := by decide +kernel
theorem dX3_init_4 : decode cX3_init 4 = .ok (.return_, 1) := by decide +kernel
theorem dX3_begin_0 : decode cX3_begin 0 = .ok (.aload_n 0, 1) := by decide +kernel
theorem dX3_begin_1 : decode cX3_begin 1 = .ok (.iload_n 1, 1) := by decide +kernel
theorem dX3_begin_2 : decode cX3_begin 2 = .ok (.putfield 9, 3) := by decide +kernel
theorem dX3_begin_5 : decode cX3_begin 5 = .ok (.aload_n 0, 1) := by decide +kernel
theorem dX3_begin_6 : decode cX3_begin 6 = .ok (.iload_n 2, 1) := by decide +kernel
theorem dX3_begin_7 : decode cX3_begin 7 = .ok (.putfield 15, 3) := by decide +kernel
theorem dX3_begin_10 : decode cX3_begin 10 = .ok (.aload_n 0, 1) := by decide +kernel
theorem dX3_begin_11 : decode cX3_begin 11 = .ok (.iload_n 3, 1) := by decide +kernel
theorem dX3_begin_12 : decode cX3_begin 12 = .ok (.putfield 18, 3) := by decide +kernel
theorem dX3_begin_15 : decode cX3_begin 15 = .ok (.aload_n 0, 1) := by decide +kernel
theorem dX3_begin_16 : decode cX3_begin 16 = .ok (.iload 4, 2) := by decide +kernel
theorem dX3_begin_18 : decode cX3_begin 18 = .ok (.putfield 21, 3) := by decide +kernel
theorem dX3_begin_21 : decode cX3_begin 21 = .ok (.aload_n 0, 1) := by decide +kernel
theorem dX3_begin_22 : decode cX3_begin 22 = .ok (.iconst (-1), 1) := by decide +kernel
theorem dX3_begin_23 : decode cX3_begin 23 = .ok (.putfield 24, 3) := by decide +kernel
theorem dX3_begin_26 : decode cX3_begin 26 = .ok (.aload_n 0, 1) := by decide +kernel
theorem dX3_begin_27 : decode cX3_begin 27 = .ok (.iconst (-1), 1) := by decide +kernel
theorem dX3_begin_28 : decode cX3_begin 28 = .ok (.putfield 27, 3) := by decide +kernel
theorem dX3_begin_31 : decode cX3_begin 31 = .ok (.aload_n 0, 1) := by decide +kernel
theorem dX3_begin_32 : decode cX3_begin 32 = .ok (.lload 5, 2) := by decide +kernel
theorem dX3_begin_34 : decode cX3_begin 34 = .ok (.putfield 30, 3) := by decide +kernel
theorem dX3_begin_37 : decode cX3_begin 37 = .ok (.return_, 1) := by decide +kernel
theorem dX3_copyFrom_0 : decode cX3_copyFrom 0 = .ok (.aload_n 0, 1) := by decide +kernel
theorem dX3_copyFrom_1 : decode cX3_copyFrom 1 = .ok (.aload_n 1, 1) := by decide +kernel
theorem dX3_copyFrom_2 : decode cX3_copyFrom 2 = .ok (.getfield 9, 3) := by decide +kernel
theorem dX3_copyFrom_5 : decode cX3_copyFrom 5 = .ok (.aload_n 1, 1) := by decide +kernel
theorem dX3_copyFrom_6 : decode cX3_copyFrom 6 = .ok (.getfield 15, 3) := by decide +kernel
theorem dX3_copyFrom_9 : decode cX3_copyFrom 9 = .ok (.aload_n 1, 1) := by decide +kernel
theorem dX3_copyFrom_10 : decode cX3_copyFrom 10 = .ok (.getfield 18, 3) := by decide +kernel
theorem dX3_copyFrom_13 : decode cX3_copyFrom 13 = .ok (.aload_n 1, 1) := by decide +kernel
theorem dX3_copyFrom_14 : decode cX3_copyFrom 14 = .ok (.getfield 21, 3) := by decide +kernel
theorem dX3_copyFrom_17 : decode cX3_copyFrom 17 = .ok (.aload_n 1, 1) := by decide +kernel
theorem dX3_copyFrom_18 : decode cX3_copyFrom 18 = .ok (.getfield 30, 3) := by decide +kernel
theorem dX3_copyFrom_21 : decode cX3_copyFrom 21 = .ok (.invokevirtual 34, 3) := by decide +kernel
theorem dX3_copyFrom_24 : decode cX3_copyFrom 24 = .ok (.aload_n 0, 1) := by decide +kernel
theorem dX3_copyFrom_25 : decode cX3_copyFrom 25 = .ok (.aload_n 1, 1) := by decide +kernel
theorem dX3_copyFrom_26 : decode cX3_copyFrom 26 = .ok (.getfield 24, 3) := by decide +kernel
theorem dX3_copyFrom_29 : decode cX3_copyFrom 29 = .ok (.putfield 24, 3) := by decide +kernel
theorem dX3_copyFrom_32 : decode cX3_copyFrom 32 = .ok (.aload_n 0, 1) := by decide +kernel
theorem dX3_copyFrom_33 : decode cX3_copyFrom 33 = .ok (.aload_n 1, 1) := by decide +kernel
theorem dX3_copyFrom_34 : decode cX3_copyFrom 34 = .ok (.getfield 27, 3) := by decide +kernel
theorem dX3_copyFrom_37 : decode cX3_copyFrom 37 = .ok (.putfield 27, 3) := by decide +kernel
theorem dX3_copyFrom_40 : decode cX3_copyFrom 40 = .ok (.return_, 1) := by decide +kernel
theorem dX4_both_0 : decode cX4_both 0 = .ok (.lconst 1, 1) := by decide +kernel
theorem dX4_both_1 : decode cX4_both 1 = .ok (.bipush 8, 2) := by decide +kernel
theorem dX4_both_3 : decode cX4_both 3 = .ok (.iload_n 0, 1) := by decide +kernel
theorem dX4_both_4 : decode cX4_both 4 = .ok (.imul, 1) := by decide +kernel
theorem dX4_both_5 : decode cX4_both 5 = .ok (.iload_n 1, 1) := by decide +kernel
theorem dX4_both_6 : decode cX4_both 6 = .ok (.iadd, 1) := by decide +kernel
theorem dX4_both_7 : decode cX4_both 7 = .ok (.lshl, 1) := by decide +kernel
theorem dX4_both_8 : decode cX4_both 8 = .ok (.lconst 1, 1) := by decide +kernel
theorem dX4_both_9 : decode cX4_both 9 = .ok (.bipush 8, 2) := by decide +kernel
theorem dX4_both_11 : decode cX4_both 11 = .ok (.iload_n 1, 1) := by decide +kernel
theorem dX4_both_12 : decode cX4_both 12 = .ok (.imul, 1) := by decide +kernel
theorem dX4_both_13 : decode cX4_both 13 = .ok (.iload_n 0, 1) := by decide +kernel
theorem dX4_both_14 : decode cX4_both 14 = .ok (.iadd, 1) := by decide +kernel
theorem dX4_both_15 : decode cX4_both 15 = .ok (.lshl, 1) := by decide +kernel
theorem dX4_both_16 : decode cX4_both 16 = .ok (.lor, 1) := by decide +kernel
theorem dX4_both_17 : decode cX4_both 17 = .ok (.lreturn, 1) := by decide +kernel
theorem dX4_hold_0 : decode cX4_hold 0 = .ok (.lload_n 0, 1) := by decide +kernel
theorem dX4_hold_1 : decode cX4_hold 1 = .ok (.iload_n 2, 1) := by decide +kernel
theorem dX4_hold_2 : decode cX4_hold 2 = .ok (.iload_n 3, 1) := by decide +kernel
theorem dX4_hold_3 : decode cX4_hold 3 = .ok (.invokestatic 9, 3) := by decide +kernel
theorem dX4_hold_6 : decode cX4_hold 6 = .ok (.land, 1) := by decide +kernel
theorem dX4_hold_7 : decode cX4_hold 7 = .ok (.lconst 0, 1) := by decide +kernel
theorem dX4_hold_8 : decode cX4_hold 8 = .ok (.lcmp, 1) := by decide +kernel
theorem dX4_hold_9 : decode cX4_hold 9 = .ok (.ifCond .eq 7, 3) := by decide +kernel
theorem dX4_hold_12 : decode cX4_hold 12 = .ok (.iconst 1, 1) := by decide +kernel
theorem dX4_hold_13 : decode cX4_hold 13 = .ok (.goto 4, 3) := by decide +kernel
theorem dX4_hold_16 : decode cX4_hold 16 = .ok (.iconst 0, 1) := by decide +kernel
theorem dX4_hold_17 : decode cX4_hold 17 = .ok (.ireturn, 1) := by decide +kernel
theorem dX4_near_0 : decode cX4_near 0 = .ok (.lload_n 0, 1) := by decide +kernel
theorem dX4_near_1 : decode cX4_near 1 = .ok (.bipush 8, 2) := by decide +kernel
theorem dX4_near_3 : decode cX4_near 3 = .ok (.iload_n 2, 1) := by decide +kernel
theorem dX4_near_4 : decode cX4_near 4 = .ok (.imul, 1) := by decide +kernel
theorem dX4_near_5 : decode cX4_near 5 = .ok (.lushr, 1) := by decide +kernel
theorem dX4_near_6 : decode cX4_near 6 = .ok (.l2i, 1) := by decide +kernel
theorem dX4_near_7 : decode cX4_near 7 = .ok (.sipush 255, 3) := by decide +kernel
theorem dX4_near_10 : decode cX4_near 10 = .ok (.iand, 1) := by decide +kernel
theorem dX4_near_11 : decode cX4_near 11 = .ok (.ireturn, 1) := by decide +kernel
theorem dX4_count_0 : decode cX4_count 0 = .ok (.lload_n 0, 1) := by decide +kernel
theorem dX4_count_1 : decode cX4_count 1 = .ok (.invokestatic 15, 3) := by decide +kernel
theorem dX4_count_4 : decode cX4_count 4 = .ok (.iconst 2, 1) := by decide +kernel
theorem dX4_count_5 : decode cX4_count 5 = .ok (.idiv, 1) := by decide +kernel
theorem dX4_count_6 : decode cX4_count 6 = .ok (.ireturn, 1) := by decide +kernel
theorem dX4_told_0 : decode cX4_told 0 = .ok (.bipush 10, 2) := by decide +kernel
theorem dX4_told_2 : decode cX4_told 2 = .ok (.iload_n 0, 1) := by decide +kernel
theorem dX4_told_3 : decode cX4_told 3 = .ok (.iload_n 1, 1) := by decide +kernel
theorem dX4_told_4 : decode cX4_told 4 = .ok (.invokestatic 21, 3) := by decide +kernel
theorem dX4_told_7 : decode cX4_told 7 = .ok (.imul, 1) := by decide +kernel
theorem dX4_told_8 : decode cX4_told 8 = .ok (.iload_n 0, 1) := by decide +kernel
theorem dX4_told_9 : decode cX4_told 9 = .ok (.iload_n 1, 1) := by decide +kernel
theorem dX4_told_10 : decode cX4_told 10 = .ok (.invokestatic 27, 3) := by decide +kernel
theorem dX4_told_13 : decode cX4_told 13 = .ok (.iadd, 1) := by decide +kernel
theorem dX4_told_14 : decode cX4_told 14 = .ok (.ireturn, 1) := by decide +kernel
theorem dX4_along_0 : decode cX4_along 0 = .ok (.lconst 0, 1) := by decide +kernel
theorem dX4_along_1 : decode cX4_along 1 = .ok (.lstore_n 2, 1) := by decide +kernel
theorem dX4_along_2 : decode cX4_along 2 = .ok (.iconst 1, 1) := by decide +kernel
theorem dX4_along_3 : decode cX4_along 3 = .ok (.istore 4, 2) := by decide +kernel
theorem dX4_along_5 : decode cX4_along 5 = .ok (.iload 4, 2) := by decide +kernel
theorem dX4_along_7 : decode cX4_along 7 = .ok (.bipush 8, 2) := by decide +kernel
theorem dX4_along_9 : decode cX4_along 9 = .ok (.if_icmp .ge 40, 3) := by decide +kernel
theorem dX4_along_12 : decode cX4_along 12 = .ok (.lload_n 0, 1) := by decide +kernel
theorem dX4_along_13 : decode cX4_along 13 = .ok (.iconst 4, 1) := by decide +kernel
theorem dX4_along_14 : decode cX4_along 14 = .ok (.iload 4, 2) := by decide +kernel
theorem dX4_along_16 : decode cX4_along 16 = .ok (.imul, 1) := by decide +kernel
theorem dX4_along_17 : decode cX4_along 17 = .ok (.lushr, 1) := by decide +kernel
theorem dX4_along_18 : decode cX4_along 18 = .ok (.lconst 0, 1) := by decide +kernel
theorem dX4_along_19 : decode cX4_along 19 = .ok (.lcmp, 1) := by decide +kernel
theorem dX4_along_20 : decode cX4_along 20 = .ok (.ifCond .eq 29, 3) := by decide +kernel
theorem dX4_along_23 : decode cX4_along 23 = .ok (.lload_n 2, 1) := by decide +kernel
theorem dX4_along_24 : decode cX4_along 24 = .ok (.lload_n 0, 1) := by decide +kernel
theorem dX4_along_25 : decode cX4_along 25 = .ok (.iload 4, 2) := by decide +kernel
theorem dX4_along_27 : decode cX4_along 27 = .ok (.iconst 1, 1) := by decide +kernel
theorem dX4_along_28 : decode cX4_along 28 = .ok (.isub, 1) := by decide +kernel
theorem dX4_along_29 : decode cX4_along 29 = .ok (.invokestatic 30, 3) := by decide +kernel
theorem dX4_along_32 : decode cX4_along 32 = .ok (.lload_n 0, 1) := by decide +kernel
theorem dX4_along_33 : decode cX4_along 33 = .ok (.iload 4, 2) := by decide +kernel
theorem dX4_along_35 : decode cX4_along 35 = .ok (.invokestatic 30, 3) := by decide +kernel
theorem dX4_along_38 : decode cX4_along 38 = .ok (.invokestatic 9, 3) := by decide +kernel
theorem dX4_along_41 : decode cX4_along 41 = .ok (.lor, 1) := by decide +kernel
theorem dX4_along_42 : decode cX4_along 42 = .ok (.lstore_n 2, 1) := by decide +kernel
theorem dX4_along_43 : decode cX4_along 43 = .ok (.iinc 4 1, 3) := by decide +kernel
theorem dX4_along_46 : decode cX4_along 46 = .ok (.goto (-41), 3) := by decide +kernel
theorem dX4_along_49 : decode cX4_along 49 = .ok (.lload_n 2, 1) := by decide +kernel
theorem dX4_along_50 : decode cX4_along 50 = .ok (.lreturn, 1) := by decide +kernel
theorem dX4_levels_0 : decode cX4_levels 0 = .ok (.iconst 1, 1) := by decide +kernel
theorem dX4_levels_1 : decode cX4_levels 1 = .ok (.iload_n 2, 1) := by decide +kernel
theorem dX4_levels_2 : decode cX4_levels 2 = .ok (.ishl, 1) := by decide +kernel
theorem dX4_levels_3 : decode cX4_levels 3 = .ok (.istore_n 3, 1) := by decide +kernel
theorem dX4_levels_4 : decode cX4_levels 4 = .ok (.iload_n 3, 1) := by decide +kernel
theorem dX4_levels_5 : decode cX4_levels 5 = .ok (.istore 4, 2) := by decide +kernel
theorem dX4_levels_7 : decode cX4_levels 7 = .ok (.iload_n 3, 1) := by decide +kernel
theorem dX4_levels_8 : decode cX4_levels 8 = .ok (.i2l, 1) := by decide +kernel
theorem dX4_levels_9 : decode cX4_levels 9 = .ok (.lstore 5, 2) := by decide +kernel
theorem dX4_levels_11 : decode cX4_levels 11 = .ok (.iconst 1, 1) := by decide +kernel
theorem dX4_levels_12 : decode cX4_levels 12 = .ok (.istore 7, 2) := by decide +kernel
theorem dX4_levels_14 : decode cX4_levels 14 = .ok (.iload 7, 2) := by decide +kernel
theorem dX4_levels_16 : decode cX4_levels 16 = .ok (.bipush 8, 2) := by decide +kernel
theorem dX4_levels_18 : decode cX4_levels 18 = .ok (.if_icmp .ge 85, 3) := by decide +kernel
theorem dX4_levels_21 : decode cX4_levels 21 = .ok (.iconst 0, 1) := by decide +kernel
theorem dX4_levels_22 : decode cX4_levels 22 = .ok (.istore 8, 2) := by decide +kernel
theorem dX4_levels_24 : decode cX4_levels 24 = .ok (.iconst 0, 1) := by decide +kernel
theorem dX4_levels_25 : decode cX4_levels 25 = .ok (.istore 9, 2) := by decide +kernel
theorem dX4_levels_27 : decode cX4_levels 27 = .ok (.iload 9, 2) := by decide +kernel
theorem dX4_levels_29 : decode cX4_levels 29 = .ok (.bipush 8, 2) := by decide +kernel
theorem dX4_levels_31 : decode cX4_levels 31 = .ok (.if_icmp .ge 39, 3) := by decide +kernel
theorem dX4_levels_34 : decode cX4_levels 34 = .ok (.iload 8, 2) := by decide +kernel
theorem dX4_levels_36 : decode cX4_levels 36 = .ok (.iload_n 3, 1) := by decide +kernel
theorem dX4_levels_37 : decode cX4_levels 37 = .ok (.iload 9, 2) := by decide +kernel
theorem dX4_levels_39 : decode cX4_levels 39 = .ok (.ishr, 1) := by decide +kernel
theorem dX4_levels_40 : decode cX4_levels 40 = .ok (.iconst 1, 1) := by decide +kernel
theorem dX4_levels_41 : decode cX4_levels 41 = .ok (.iand, 1) := by decide +kernel
theorem dX4_levels_42 : decode cX4_levels 42 = .ok (.ifCond .eq 18, 3) := by decide +kernel
theorem dX4_levels_45 : decode cX4_levels 45 = .ok (.lload_n 0, 1) := by decide +kernel
theorem dX4_levels_46 : decode cX4_levels 46 = .ok (.bipush 8, 2) := by decide +kernel
theorem dX4_levels_48 : decode cX4_levels 48 = .ok (.iload 9, 2) := by decide +kernel
theorem dX4_levels_50 : decode cX4_levels 50 = .ok (.imul, 1) := by decide +kernel
theorem dX4_levels_51 : decode cX4_levels 51 = .ok (.lushr, 1) := by decide +kernel
theorem dX4_levels_52 : decode cX4_levels 52 = .ok (.l2i, 1) := by decide +kernel
theorem dX4_levels_53 : decode cX4_levels 53 = .ok (.sipush 255, 3) := by decide +kernel
theorem dX4_levels_56 : decode cX4_levels 56 = .ok (.iand, 1) := by decide +kernel
theorem dX4_levels_57 : decode cX4_levels 57 = .ok (.goto 4, 3) := by decide +kernel
theorem dX4_levels_60 : decode cX4_levels 60 = .ok (.iconst 0, 1) := by decide +kernel
theorem dX4_levels_61 : decode cX4_levels 61 = .ok (.ior, 1) := by decide +kernel
theorem dX4_levels_62 : decode cX4_levels 62 = .ok (.istore 8, 2) := by decide +kernel
theorem dX4_levels_64 : decode cX4_levels 64 = .ok (.iinc 9 1, 3) := by decide +kernel
theorem dX4_levels_67 : decode cX4_levels 67 = .ok (.goto (-40), 3) := by decide +kernel
theorem dX4_levels_70 : decode cX4_levels 70 = .ok (.iload 8, 2) := by decide +kernel
theorem dX4_levels_72 : decode cX4_levels 72 = .ok (.iload 4, 2) := by decide +kernel
theorem dX4_levels_74 : decode cX4_levels 74 = .ok (.iconst (-1), 1) := by decide +kernel
theorem dX4_levels_75 : decode cX4_levels 75 = .ok (.ixor, 1) := by decide +kernel
theorem dX4_levels_76 : decode cX4_levels 76 = .ok (.iand, 1) := by decide +kernel
theorem dX4_levels_77 : decode cX4_levels 77 = .ok (.istore_n 3, 1) := by decide +kernel
theorem dX4_levels_78 : decode cX4_levels 78 = .ok (.iload 4, 2) := by decide +kernel
theorem dX4_levels_80 : decode cX4_levels 80 = .ok (.iload_n 3, 1) := by decide +kernel
theorem dX4_levels_81 : decode cX4_levels 81 = .ok (.ior, 1) := by decide +kernel
theorem dX4_levels_82 : decode cX4_levels 82 = .ok (.istore 4, 2) := by decide +kernel
theorem dX4_levels_84 : decode cX4_levels 84 = .ok (.lload 5, 2) := by decide +kernel
theorem dX4_levels_86 : decode cX4_levels 86 = .ok (.iload_n 3, 1) := by decide +kernel
theorem dX4_levels_87 : decode cX4_levels 87 = .ok (.i2l, 1) := by decide +kernel
theorem dX4_levels_88 : decode cX4_levels 88 = .ok (.bipush 8, 2) := by decide +kernel
theorem dX4_levels_90 : decode cX4_levels 90 = .ok (.iload 7, 2) := by decide +kernel
theorem dX4_levels_92 : decode cX4_levels 92 = .ok (.imul, 1) := by decide +kernel
theorem dX4_levels_93 : decode cX4_levels 93 = .ok (.lshl, 1) := by decide +kernel
theorem dX4_levels_94 : decode cX4_levels 94 = .ok (.lor, 1) := by decide +kernel
theorem dX4_levels_95 : decode cX4_levels 95 = .ok (.lstore 5, 2) := by decide +kernel
theorem dX4_levels_97 : decode cX4_levels 97 = .ok (.iinc 7 1, 3) := by decide +kernel
theorem dX4_levels_100 : decode cX4_levels 100 = .ok (.goto (-86), 3) := by decide +kernel
theorem dX4_levels_103 : decode cX4_levels 103 = .ok (.lload 5, 2) := by decide +kernel
theorem dX4_levels_105 : decode cX4_levels 105 = .ok (.lreturn, 1) := by decide +kernel
theorem dX4_levelOf_0 : decode cX4_levelOf 0 = .ok (.iconst 0, 1) := by decide +kernel
theorem dX4_levelOf_1 : decode cX4_levelOf 1 = .ok (.istore_n 3, 1) := by decide +kernel
theorem dX4_levelOf_2 : decode cX4_levelOf 2 = .ok (.iload_n 3, 1) := by decide +kernel
theorem dX4_levelOf_3 : decode cX4_levelOf 3 = .ok (.bipush 8, 2) := by decide +kernel
theorem dX4_levelOf_5 : decode cX4_levelOf 5 = .ok (.if_icmp .ge 26, 3) := by decide +kernel
theorem dX4_levelOf_8 : decode cX4_levelOf 8 = .ok (.lload_n 0, 1) := by decide +kernel
theorem dX4_levelOf_9 : decode cX4_levelOf 9 = .ok (.bipush 8, 2) := by decide +kernel
theorem dX4_levelOf_11 : decode cX4_levelOf 11 = .ok (.iload_n 3, 1) := by decide +kernel
theorem dX4_levelOf_12 : decode cX4_levelOf 12 = .ok (.imul, 1) := by decide +kernel
theorem dX4_levelOf_13 : decode cX4_levelOf 13 = .ok (.iload_n 2, 1) := by decide +kernel
theorem dX4_levelOf_14 : decode cX4_levelOf 14 = .ok (.iadd, 1) := by decide +kernel
theorem dX4_levelOf_15 : decode cX4_levelOf 15 = .ok (.lushr, 1) := by decide +kernel
theorem dX4_levelOf_16 : decode cX4_levelOf 16 = .ok (.lconst 1, 1) := by decide +kernel
theorem dX4_levelOf_17 : decode cX4_levelOf 17 = .ok (.land, 1) := by decide +kernel
theorem dX4_levelOf_18 : decode cX4_levelOf 18 = .ok (.lconst 0, 1) := by decide +kernel
theorem dX4_levelOf_19 : decode cX4_levelOf 19 = .ok (.lcmp, 1) := by decide +kernel
theorem dX4_levelOf_20 : decode cX4_levelOf 20 = .ok (.ifCond .eq 5, 3) := by decide +kernel
theorem dX4_levelOf_23 : decode cX4_levelOf 23 = .ok (.iload_n 3, 1) := by decide +kernel
theorem dX4_levelOf_24 : decode cX4_levelOf 24 = .ok (.ireturn, 1) := by decide +kernel
theorem dX4_levelOf_25 : decode cX4_levelOf 25 = .ok (.iinc 3 1, 3) := by decide +kernel
theorem dX4_levelOf_28 : decode cX4_levelOf 28 = .ok (.goto (-26), 3) := by decide +kernel
theorem dX4_levelOf_31 : decode cX4_levelOf 31 = .ok (.iconst (-1), 1) := by decide +kernel
theorem dX4_levelOf_32 : decode cX4_levelOf 32 = .ok (.ireturn, 1) := by decide +kernel
theorem dX4_distance_0 : decode cX4_distance 0 = .ok (.lload_n 0, 1) := by decide +kernel
theorem dX4_distance_1 : decode cX4_distance 1 = .ok (.iload_n 3, 1) := by decide +kernel
theorem dX4_distance_2 : decode cX4_distance 2 = .ok (.invokestatic 36, 3) := by decide +kernel
theorem dX4_distance_5 : decode cX4_distance 5 = .ok (.iload_n 2, 1) := by decide +kernel
theorem dX4_distance_6 : decode cX4_distance 6 = .ok (.invokestatic 40, 3) := by decide +kernel
theorem dX4_distance_9 : decode cX4_distance 9 = .ok (.ireturn, 1) := by decide +kernel
theorem dX4_leastRow_0 : decode cX4_leastRow 0 = .ok (.lload_n 0, 1) := by decide +kernel
theorem dX4_leastRow_1 : decode cX4_leastRow 1 = .ok (.iload_n 3, 1) := by decide +kernel
theorem dX4_leastRow_2 : decode cX4_leastRow 2 = .ok (.invokestatic 36, 3) := by decide +kernel
theorem dX4_leastRow_5 : decode cX4_leastRow 5 = .ok (.lstore 5, 2) := by decide +kernel
theorem dX4_leastRow_7 : decode cX4_leastRow 7 = .ok (.lload 5, 2) := by decide +kernel
theorem dX4_leastRow_9 : decode cX4_leastRow 9 = .ok (.iload_n 2, 1) := by decide +kernel
theorem dX4_leastRow_10 : decode cX4_leastRow 10 = .ok (.invokestatic 40, 3) := by decide +kernel
theorem dX4_leastRow_13 : decode cX4_leastRow 13 = .ok (.istore 7, 2) := by decide +kernel
theorem dX4_leastRow_15 : decode cX4_leastRow 15 = .ok (.iload 7, 2) := by decide +kernel
theorem dX4_leastRow_17 : decode cX4_leastRow 17 = .ok (.iconst 1, 1) := by decide +kernel
theorem dX4_leastRow_18 : decode cX4_leastRow 18 = .ok (.if_icmp .lt 10, 3) := by decide +kernel
theorem dX4_leastRow_21 : decode cX4_leastRow 21 = .ok (.iload 7, 2) := by decide +kernel
theorem dX4_leastRow_23 : decode cX4_leastRow 23 = .ok (.iload 4, 2) := by decide +kernel
theorem dX4_leastRow_25 : decode cX4_leastRow 25 = .ok (.if_icmp .le 5, 3) := by decide +kernel
theorem dX4_leastRow_28 : decode cX4_leastRow 28 = .ok (.lconst 0, 1) := by decide +kernel
theorem dX4_leastRow_29 : decode cX4_leastRow 29 = .ok (.lreturn, 1) := by decide +kernel
theorem dX4_leastRow_30 : decode cX4_leastRow 30 = .ok (.iload_n 2, 1) := by decide +kernel
theorem dX4_leastRow_31 : decode cX4_leastRow 31 = .ok (.istore 8, 2) := by decide +kernel
theorem dX4_leastRow_33 : decode cX4_leastRow 33 = .ok (.iload_n 2, 1) := by decide +kernel
theorem dX4_leastRow_34 : decode cX4_leastRow 34 = .ok (.iconst 1, 1) := by decide +kernel
theorem dX4_leastRow_35 : decode cX4_leastRow 35 = .ok (.iadd, 1) := by decide +kernel
theorem dX4_leastRow_36 : decode cX4_leastRow 36 = .ok (.i2l, 1) := by decide +kernel
theorem dX4_leastRow_37 : decode cX4_leastRow 37 = .ok (.lstore 9, 2) := by decide +kernel
theorem dX4_leastRow_39 : decode cX4_leastRow 39 = .ok (.iconst 1, 1) := by decide +kernel
theorem dX4_leastRow_40 : decode cX4_leastRow 40 = .ok (.istore 11, 2) := by decide +kernel
theorem dX4_leastRow_42 : decode cX4_leastRow 42 = .ok (.iload 11, 2) := by decide +kernel
theorem dX4_leastRow_44 : decode cX4_leastRow 44 = .ok (.bipush 8, 2) := by decide +kernel
theorem dX4_leastRow_46 : decode cX4_leastRow 46 = .ok (.if_icmp .ge 57, 3) := by decide +kernel
theorem dX4_leastRow_49 : decode cX4_leastRow 49 = .ok (.iload 7, 2) := by decide +kernel
theorem dX4_leastRow_51 : decode cX4_leastRow 51 = .ok (.ifCond .le 52, 3) := by decide +kernel
theorem dX4_leastRow_54 : decode cX4_leastRow 54 = .ok (.iinc 7 (-1), 3) := by decide +kernel
theorem dX4_leastRow_57 : decode cX4_leastRow 57 = .ok (.lload_n 0, 1) := by decide +kernel
theorem dX4_leastRow_58 : decode cX4_leastRow 58 = .ok (.iload 8, 2) := by decide +kernel
theorem dX4_leastRow_60 : decode cX4_leastRow 60 = .ok (.invokestatic 43, 3) := by decide +kernel
theorem dX4_leastRow_63 : decode cX4_leastRow 63 = .ok (.lload 5, 2) := by decide +kernel
theorem dX4_leastRow_65 : decode cX4_leastRow 65 = .ok (.bipush 8, 2) := by decide +kernel
theorem dX4_leastRow_67 : decode cX4_leastRow 67 = .ok (.iload 7, 2) := by decide +kernel
theorem dX4_leastRow_69 : decode cX4_leastRow 69 = .ok (.imul, 1) := by decide +kernel
theorem dX4_leastRow_70 : decode cX4_leastRow 70 = .ok (.lushr, 1) := by decide +kernel
theorem dX4_leastRow_71 : decode cX4_leastRow 71 = .ok (.l2i, 1) := by decide +kernel
theorem dX4_leastRow_72 : decode cX4_leastRow 72 = .ok (.iand, 1) := by decide +kernel
theorem dX4_leastRow_73 : decode cX4_leastRow 73 = .ok (.istore 12, 2) := by decide +kernel
theorem dX4_leastRow_75 : decode cX4_leastRow 75 = .ok (.iload 12, 2) := by decide +kernel
theorem dX4_leastRow_77 : decode cX4_leastRow 77 = .ok (.iload 12, 2) := by decide +kernel
theorem dX4_leastRow_79 : decode cX4_leastRow 79 = .ok (.ineg, 1) := by decide +kernel
theorem dX4_leastRow_80 : decode cX4_leastRow 80 = .ok (.iand, 1) := by decide +kernel
theorem dX4_leastRow_81 : decode cX4_leastRow 81 = .ok (.iconst 1, 1) := by decide +kernel
theorem dX4_leastRow_82 : decode cX4_leastRow 82 = .ok (.isub, 1) := by decide +kernel
theorem dX4_leastRow_83 : decode cX4_leastRow 83 = .ok (.invokestatic 46, 3) := by decide +kernel
theorem dX4_leastRow_86 : decode cX4_leastRow 86 = .ok (.istore 8, 2) := by decide +kernel
theorem dX4_leastRow_88 : decode cX4_leastRow 88 = .ok (.lload 9, 2) := by decide +kernel
theorem dX4_leastRow_90 : decode cX4_leastRow 90 = .ok (.iload 8, 2) := by decide +kernel
theorem dX4_leastRow_92 : decode cX4_leastRow 92 = .ok (.invokestatic 51, 3) := by decide +kernel
theorem dX4_leastRow_95 : decode cX4_leastRow 95 = .ok (.lstore 9, 2) := by decide +kernel
theorem dX4_leastRow_97 : decode cX4_leastRow 97 = .ok (.iinc 11 1, 3) := by decide +kernel
theorem dX4_leastRow_100 : decode cX4_leastRow 100 = .ok (.goto (-58), 3) := by decide +kernel
theorem dX4_leastRow_103 : decode cX4_leastRow 103 = .ok (.lload 9, 2) := by decide +kernel
theorem dX4_leastRow_105 : decode cX4_leastRow 105 = .ok (.lreturn, 1) := by decide +kernel
theorem dX5_init_0 : decode cX5_init 0 = .ok (.aload_n 0, 1) := by decide +kernel
theorem dX5_init_1 : decode cX5_init 1 = .ok (.invokespecial 3, 3) := by decide +kernel
theorem dX5_init_4 : decode cX5_init 4 = .ok (.aload_n 0, 1) := by decide +kernel
theorem dX5_init_5 : decode cX5_init 5 = .ok (.new 9, 3) := by decide +kernel
theorem dX5_init_8 : decode cX5_init 8 = .ok (.dup, 1) := by decide +kernel
theorem dX5_init_9 : decode cX5_init 9 = .ok (.bipush 6, 2) := by decide +kernel
theorem dX5_init_11 : decode cX5_init 11 = .ok (.invokespecial 11, 3) := by decide +kernel
theorem dX5_init_14 : decode cX5_init 14 = .ok (.putfield 14, 3) := by decide +kernel
theorem dX5_init_17 : decode cX5_init 17 = .ok (.aload_n 0, 1) := by decide +kernel
theorem dX5_init_18 : decode cX5_init 18 = .ok (.iconst 4, 1) := by decide +kernel
theorem dX5_init_19 : decode cX5_init 19 = .ok (.newarray .int, 2) := by decide +kernel
theorem dX5_init_21 : decode cX5_init 21 = .ok (.putfield 20, 3) := by decide +kernel
theorem dX5_init_24 : decode cX5_init 24 = .ok (.aload_n 0, 1) := by decide +kernel
theorem dX5_init_25 : decode cX5_init 25 = .ok (.bipush 8, 2) := by decide +kernel
theorem dX5_init_27 : decode cX5_init 27 = .ok (.newarray .int, 2) := by decide +kernel
theorem dX5_init_29 : decode cX5_init 29 = .ok (.putfield 24, 3) := by decide +kernel
theorem dX5_init_32 : decode cX5_init 32 = .ok (.aload_n 0, 1) := by decide +kernel
theorem dX5_init_33 : decode cX5_init 33 = .ok (.new 27, 3) := by decide +kernel
theorem dX5_init_36 : decode cX5_init 36 = .ok (.dup, 1) := by decide +kernel
theorem dX5_init_37 : decode cX5_init 37 = .ok (.iload_n 1, 1) := by decide +kernel
theorem dX5_init_38 : decode cX5_init 38 = .ok (.invokespecial 29, 3) := by decide +kernel
theorem dX5_init_41 : decode cX5_init 41 = .ok (.putfield 30, 3) := by decide +kernel
theorem dX5_init_44 : decode cX5_init 44 = .ok (.return_, 1) := by decide +kernel
theorem dX5_begin_0 : decode cX5_begin 0 = .ok (.aload_n 0, 1) := by decide +kernel
theorem dX5_begin_1 : decode cX5_begin 1 = .ok (.getfield 14, 3) := by decide +kernel
theorem dX5_begin_4 : decode cX5_begin 4 = .ok (.iconst 0, 1) := by decide +kernel
theorem dX5_begin_5 : decode cX5_begin 5 = .ok (.putfield 34, 3) := by decide +kernel
theorem dX5_begin_8 : decode cX5_begin 8 = .ok (.aload_n 0, 1) := by decide +kernel
theorem dX5_begin_9 : decode cX5_begin 9 = .ok (.iconst 0, 1) := by decide +kernel
theorem dX5_begin_10 : decode cX5_begin 10 = .ok (.putfield 38, 3) := by decide +kernel
theorem dX5_begin_13 : decode cX5_begin 13 = .ok (.aload_n 0, 1) := by decide +kernel
theorem dX5_begin_14 : decode cX5_begin 14 = .ok (.iconst 0, 1) := by decide +kernel
theorem dX5_begin_15 : decode cX5_begin 15 = .ok (.putfield 41, 3) := by decide +kernel
theorem dX5_begin_18 : decode cX5_begin 18 = .ok (.aload_n 0, 1) := by decide +kernel
theorem dX5_begin_19 : decode cX5_begin 19 = .ok (.iconst (-1), 1) := by decide +kernel
theorem dX5_begin_20 : decode cX5_begin 20 = .ok (.putfield 44, 3) := by decide +kernel
theorem dX5_begin_23 : decode cX5_begin 23 = .ok (.aload_n 0, 1) := by decide +kernel
theorem dX5_begin_24 : decode cX5_begin 24 = .ok (.iconst 0, 1) := by decide +kernel
theorem dX5_begin_25 : decode cX5_begin 25 = .ok (.putfield 47, 3) := by decide +kernel
theorem dX5_begin_28 : decode cX5_begin 28 = .ok (.aload_n 0, 1) := by decide +kernel
theorem dX5_begin_29 : decode cX5_begin 29 = .ok (.iload_n 1, 1) := by decide +kernel
theorem dX5_begin_30 : decode cX5_begin 30 = .ok (.ifCond .ne 7, 3) := by decide +kernel
theorem dX5_begin_33 : decode cX5_begin 33 = .ok (.iconst 1, 1) := by decide +kernel
theorem dX5_begin_34 : decode cX5_begin 34 = .ok (.goto 4, 3) := by decide +kernel
theorem dX5_begin_37 : decode cX5_begin 37 = .ok (.iconst 0, 1) := by decide +kernel
theorem dX5_begin_38 : decode cX5_begin 38 = .ok (.putfield 50, 3) := by decide +kernel
theorem dX5_begin_41 : decode cX5_begin 41 = .ok (.return_, 1) := by decide +kernel
theorem dX5_waitingAt_0 : decode cX5_waitingAt 0 = .ok (.iload_n 1, 1) := by decide +kernel
theorem dX5_waitingAt_1 : decode cX5_waitingAt 1 = .ok (.ifCond .lt 25, 3) := by decide +kernel
theorem dX5_waitingAt_4 : decode cX5_waitingAt 4 = .ok (.iload_n 1, 1) := by decide +kernel
theorem dX5_waitingAt_5 : decode cX5_waitingAt 5 = .ok (.aload_n 0, 1) := by decide +kernel
theorem dX5_waitingAt_6 : decode cX5_waitingAt 6 = .ok (.getfield 38, 3) := by decide +kernel
theorem dX5_waitingAt_9 : decode cX5_waitingAt 9 = .ok (.if_icmp .ge 17, 3) := by decide +kernel
theorem dX5_waitingAt_12 : decode cX5_waitingAt 12 = .ok (.iload_n 1, 1) := by decide +kernel
theorem dX5_waitingAt_13 : decode cX5_waitingAt 13 = .ok (.iconst 4, 1) := by decide +kernel
theorem dX5_waitingAt_14 : decode cX5_waitingAt 14 = .ok (.if_icmp .ge 12, 3) := by decide +kernel
theorem dX5_waitingAt_17 : decode cX5_waitingAt 17 = .ok (.aload_n 0, 1) := by decide +kernel
theorem dX5_waitingAt_18 : decode cX5_waitingAt 18 = .ok (.getfield 20, 3) := by decide +kernel
theorem dX5_waitingAt_21 : decode cX5_waitingAt 21 = .ok (.iload_n 1, 1) := by decide +kernel
theorem dX5_waitingAt_22 : decode cX5_waitingAt 22 = .ok (.iaload, 1) := by decide +kernel
theorem dX5_waitingAt_23 : decode cX5_waitingAt 23 = .ok (.goto 4, 3) := by decide +kernel
theorem dX5_waitingAt_26 : decode cX5_waitingAt 26 = .ok (.iconst (-1), 1) := by decide +kernel
theorem dX5_waitingAt_27 : decode cX5_waitingAt 27 = .ok (.ireturn, 1) := by decide +kernel
theorem dX5_copyFrom_0 : decode cX5_copyFrom 0 = .ok (.aload_n 0, 1) := by decide +kernel
theorem dX5_copyFrom_1 : decode cX5_copyFrom 1 = .ok (.getfield 30, 3) := by decide +kernel
theorem dX5_copyFrom_4 : decode cX5_copyFrom 4 = .ok (.aload_n 1, 1) := by decide +kernel
theorem dX5_copyFrom_5 : decode cX5_copyFrom 5 = .ok (.getfield 30, 3) := by decide +kernel
theorem dX5_copyFrom_8 : decode cX5_copyFrom 8 = .ok (.invokevirtual 54, 3) := by decide +kernel
theorem dX5_copyFrom_11 : decode cX5_copyFrom 11 = .ok (.aload_n 0, 1) := by decide +kernel
theorem dX5_copyFrom_12 : decode cX5_copyFrom 12 = .ok (.getfield 14, 3) := by decide +kernel
theorem dX5_copyFrom_15 : decode cX5_copyFrom 15 = .ok (.aload_n 1, 1) := by decide +kernel
theorem dX5_copyFrom_16 : decode cX5_copyFrom 16 = .ok (.getfield 14, 3) := by decide +kernel
theorem dX5_copyFrom_19 : decode cX5_copyFrom 19 = .ok (.invokevirtual 58, 3) := by decide +kernel
theorem dX5_copyFrom_22 : decode cX5_copyFrom 22 = .ok (.aload_n 1, 1) := by decide +kernel
theorem dX5_copyFrom_23 : decode cX5_copyFrom 23 = .ok (.getfield 20, 3) := by decide +kernel
theorem dX5_copyFrom_26 : decode cX5_copyFrom 26 = .ok (.iconst 0, 1) := by decide +kernel
theorem dX5_copyFrom_27 : decode cX5_copyFrom 27 = .ok (.aload_n 0, 1) := by decide +kernel
theorem dX5_copyFrom_28 : decode cX5_copyFrom 28 = .ok (.getfield 20, 3) := by decide +kernel
theorem dX5_copyFrom_31 : decode cX5_copyFrom 31 = .ok (.iconst 0, 1) := by decide +kernel
theorem dX5_copyFrom_32 : decode cX5_copyFrom 32 = .ok (.iconst 4, 1) := by decide +kernel
theorem dX5_copyFrom_33 : decode cX5_copyFrom 33 = .ok (.invokestatic 61, 3) := by decide +kernel
theorem dX5_copyFrom_36 : decode cX5_copyFrom 36 = .ok (.aload_n 0, 1) := by decide +kernel
theorem dX5_copyFrom_37 : decode cX5_copyFrom 37 = .ok (.aload_n 1, 1) := by decide +kernel
theorem dX5_copyFrom_38 : decode cX5_copyFrom 38 = .ok (.getfield 38, 3) := by decide +kernel
theorem dX5_copyFrom_41 : decode cX5_copyFrom 41 = .ok (.putfield 38, 3) := by decide +kernel
theorem dX5_copyFrom_44 : decode cX5_copyFrom 44 = .ok (.aload_n 0, 1) := by decide +kernel
theorem dX5_copyFrom_45 : decode cX5_copyFrom 45 = .ok (.aload_n 1, 1) := by decide +kernel
theorem dX5_copyFrom_46 : decode cX5_copyFrom 46 = .ok (.getfield 41, 3) := by decide +kernel
theorem dX5_copyFrom_49 : decode cX5_copyFrom 49 = .ok (.putfield 41, 3) := by decide +kernel
theorem dX5_copyFrom_52 : decode cX5_copyFrom 52 = .ok (.aload_n 0, 1) := by decide +kernel
theorem dX5_copyFrom_53 : decode cX5_copyFrom 53 = .ok (.aload_n 1, 1) := by decide +kernel
theorem dX5_copyFrom_54 : decode cX5_copyFrom 54 = .ok (.getfield 44, 3) := by decide +kernel
theorem dX5_copyFrom_57 : decode cX5_copyFrom 57 = .ok (.putfield 44, 3) := by decide +kernel
theorem dX5_copyFrom_60 : decode cX5_copyFrom 60 = .ok (.aload_n 0, 1) := by decide +kernel
theorem dX5_copyFrom_61 : decode cX5_copyFrom 61 = .ok (.aload_n 1, 1) := by decide +kernel
theorem dX5_copyFrom_62 : decode cX5_copyFrom 62 = .ok (.getfield 47, 3) := by decide +kernel
theorem dX5_copyFrom_65 : decode cX5_copyFrom 65 = .ok (.putfield 47, 3) := by decide +kernel
theorem dX5_copyFrom_68 : decode cX5_copyFrom 68 = .ok (.aload_n 1, 1) := by decide +kernel
theorem dX5_copyFrom_69 : decode cX5_copyFrom 69 = .ok (.getfield 24, 3) := by decide +kernel
theorem dX5_copyFrom_72 : decode cX5_copyFrom 72 = .ok (.iconst 0, 1) := by decide +kernel
theorem dX5_copyFrom_73 : decode cX5_copyFrom 73 = .ok (.aload_n 0, 1) := by decide +kernel
theorem dX5_copyFrom_74 : decode cX5_copyFrom 74 = .ok (.getfield 24, 3) := by decide +kernel
theorem dX5_copyFrom_77 : decode cX5_copyFrom 77 = .ok (.iconst 0, 1) := by decide +kernel
theorem dX5_copyFrom_78 : decode cX5_copyFrom 78 = .ok (.bipush 8, 2) := by decide +kernel
theorem dX5_copyFrom_80 : decode cX5_copyFrom 80 = .ok (.invokestatic 61, 3) := by decide +kernel
theorem dX5_copyFrom_83 : decode cX5_copyFrom 83 = .ok (.aload_n 0, 1) := by decide +kernel
theorem dX5_copyFrom_84 : decode cX5_copyFrom 84 = .ok (.aload_n 1, 1) := by decide +kernel
theorem dX5_copyFrom_85 : decode cX5_copyFrom 85 = .ok (.getfield 50, 3) := by decide +kernel
theorem dX5_copyFrom_88 : decode cX5_copyFrom 88 = .ok (.putfield 50, 3) := by decide +kernel
theorem dX5_copyFrom_91 : decode cX5_copyFrom 91 = .ok (.return_, 1) := by decide +kernel
theorem dX6_init_0 : decode cX6_init 0 = .ok (.aload_n 0, 1) := by decide +kernel
theorem dX6_init_1 : decode cX6_init 1 = .ok (.invokespecial 3, 3) := by decide +kernel
theorem dX6_init_4 : decode cX6_init 4 = .ok (.aload_n 0, 1) := by decide +kernel
theorem dX6_init_5 : decode cX6_init 5 = .ok (.bipush 8, 2) := by decide +kernel
theorem dX6_init_7 : decode cX6_init 7 = .ok (.newarray .int, 2) := by decide +kernel
theorem dX6_init_9 : decode cX6_init 9 = .ok (.putfield 9, 3) := by decide +kernel
theorem dX6_init_12 : decode cX6_init 12 = .ok (.aload_n 0, 1) := by decide +kernel
theorem dX6_init_13 : decode cX6_init 13 = .ok (.bipush 8, 2) := by decide +kernel
theorem dX6_init_15 : decode cX6_init 15 = .ok (.newarray .int, 2) := by decide +kernel
theorem dX6_init_17 : decode cX6_init 17 = .ok (.putfield 15, 3) := by decide +kernel
theorem dX6_init_20 : decode cX6_init 20 = .ok (.return_, 1) := by decide +kernel
theorem dX6_begin_0 : decode cX6_begin 0 = .ok (.getstatic 18, 3) := by decide +kernel
theorem dX6_begin_3 : decode cX6_begin 3 = .ok (.iconst 0, 1) := by decide +kernel
theorem dX6_begin_4 : decode cX6_begin 4 = .ok (.aload_n 0, 1) := by decide +kernel
theorem dX6_begin_5 : decode cX6_begin 5 = .ok (.getfield 9, 3) := by decide +kernel
theorem dX6_begin_8 : decode cX6_begin 8 = .ok (.iconst 0, 1) := by decide +kernel
theorem dX6_begin_9 : decode cX6_begin 9 = .ok (.bipush 8, 2) := by decide +kernel
theorem dX6_begin_11 : decode cX6_begin 11 = .ok (.invokestatic 21, 3) := by decide +kernel
theorem dX6_begin_14 : decode cX6_begin 14 = .ok (.aload_n 0, 1) := by decide +kernel
theorem dX6_begin_15 : decode cX6_begin 15 = .ok (.lconst 0, 1) := by decide +kernel
theorem dX6_begin_16 : decode cX6_begin 16 = .ok (.putfield 27, 3) := by decide +kernel
theorem dX6_begin_19 : decode cX6_begin 19 = .ok (.aload_n 0, 1) := by decide +kernel
theorem dX6_begin_20 : decode cX6_begin 20 = .ok (.iconst 0, 1) := by decide +kernel
theorem dX6_begin_21 : decode cX6_begin 21 = .ok (.putfield 31, 3) := by decide +kernel
theorem dX6_begin_24 : decode cX6_begin 24 = .ok (.aload_n 0, 1) := by decide +kernel
theorem dX6_begin_25 : decode cX6_begin 25 = .ok (.iconst 0, 1) := by decide +kernel
theorem dX6_begin_26 : decode cX6_begin 26 = .ok (.putfield 35, 3) := by decide +kernel
theorem dX6_begin_29 : decode cX6_begin 29 = .ok (.aload_n 0, 1) := by decide +kernel
theorem dX6_begin_30 : decode cX6_begin 30 = .ok (.iconst 0, 1) := by decide +kernel
theorem dX6_begin_31 : decode cX6_begin 31 = .ok (.putfield 38, 3) := by decide +kernel
theorem dX6_begin_34 : decode cX6_begin 34 = .ok (.aload_n 0, 1) := by decide +kernel
theorem dX6_begin_35 : decode cX6_begin 35 = .ok (.iconst (-1), 1) := by decide +kernel
theorem dX6_begin_36 : decode cX6_begin 36 = .ok (.putfield 41, 3) := by decide +kernel
theorem dX6_begin_39 : decode cX6_begin 39 = .ok (.aload_n 0, 1) := by decide +kernel
theorem dX6_begin_40 : decode cX6_begin 40 = .ok (.iconst (-1), 1) := by decide +kernel
theorem dX6_begin_41 : decode cX6_begin 41 = .ok (.putfield 44, 3) := by decide +kernel
theorem dX6_begin_44 : decode cX6_begin 44 = .ok (.iconst 0, 1) := by decide +kernel
theorem dX6_begin_45 : decode cX6_begin 45 = .ok (.istore_n 1, 1) := by decide +kernel
theorem dX6_begin_46 : decode cX6_begin 46 = .ok (.iload_n 1, 1) := by decide +kernel
theorem dX6_begin_47 : decode cX6_begin 47 = .ok (.bipush 8, 2) := by decide +kernel
theorem dX6_begin_49 : decode cX6_begin 49 = .ok (.if_icmp .ge 16, 3) := by decide +kernel
theorem dX6_begin_52 : decode cX6_begin 52 = .ok (.aload_n 0, 1) := by decide +kernel
theorem dX6_begin_53 : decode cX6_begin 53 = .ok (.getfield 15, 3) := by decide +kernel
theorem dX6_begin_56 : decode cX6_begin 56 = .ok (.iload_n 1, 1) := by decide +kernel
theorem dX6_begin_57 : decode cX6_begin 57 = .ok (.iconst (-1), 1) := by decide +kernel
theorem dX6_begin_58 : decode cX6_begin 58 = .ok (.iastore, 1) := by decide +kernel
theorem dX6_begin_59 : decode cX6_begin 59 = .ok (.iinc 1 1, 3) := by decide +kernel
theorem dX6_begin_62 : decode cX6_begin 62 = .ok (.goto (-16), 3) := by decide +kernel
theorem dX6_begin_65 : decode cX6_begin 65 = .ok (.return_, 1) := by decide +kernel
theorem dX6_readAll_0 : decode cX6_readAll 0 = .ok (.aload_n 0, 1) := by decide +kernel
theorem dX6_readAll_1 : decode cX6_readAll 1 = .ok (.invokevirtual 47, 3) := by decide +kernel
theorem dX6_readAll_4 : decode cX6_readAll 4 = .ok (.aload_n 0, 1) := by decide +kernel
theorem dX6_readAll_5 : decode cX6_readAll 5 = .ok (.aload_n 1, 1) := by decide +kernel
theorem dX6_readAll_6 : decode cX6_readAll 6 = .ok (.putfield 50, 3) := by decide +kernel
theorem dX6_readAll_9 : decode cX6_readAll 9 = .ok (.aload_n 0, 1) := by decide +kernel
theorem dX6_readAll_10 : decode cX6_readAll 10 = .ok (.iconst 0, 1) := by decide +kernel
theorem dX6_readAll_11 : decode cX6_readAll 11 = .ok (.putfield 54, 3) := by decide +kernel
theorem dX6_readAll_14 : decode cX6_readAll 14 = .ok (.aload_n 0, 1) := by decide +kernel
theorem dX6_readAll_15 : decode cX6_readAll 15 = .ok (.invokevirtual 57, 3) := by decide +kernel
theorem dX6_readAll_18 : decode cX6_readAll 18 = .ok (.iconst 0, 1) := by decide +kernel
theorem dX6_readAll_19 : decode cX6_readAll 19 = .ok (.istore_n 2, 1) := by decide +kernel
theorem dX6_readAll_20 : decode cX6_readAll 20 = .ok (.iload_n 2, 1) := by decide +kernel
theorem dX6_readAll_21 : decode cX6_readAll 21 = .ok (.sipush 400, 3) := by decide +kernel
theorem dX6_readAll_24 : decode cX6_readAll 24 = .ok (.if_icmp .gt 28, 3) := by decide +kernel
theorem dX6_readAll_27 : decode cX6_readAll 27 = .ok (.aload_n 0, 1) := by decide +kernel
theorem dX6_readAll_28 : decode cX6_readAll 28 = .ok (.getfield 62, 3) := by decide +kernel
theorem dX6_readAll_31 : decode cX6_readAll 31 = .ok (.iconst 3, 1) := by decide +kernel
theorem dX6_readAll_32 : decode cX6_readAll 32 = .ok (.if_icmp .eq 20, 3) := by decide +kernel
theorem dX6_readAll_35 : decode cX6_readAll 35 = .ok (.aload_n 0, 1) := by decide +kernel
theorem dX6_readAll_36 : decode cX6_readAll 36 = .ok (.getfield 38, 3) := by decide +kernel
theorem dX6_readAll_39 : decode cX6_readAll 39 = .ok (.ifCond .ne 13, 3) := by decide +kernel
theorem dX6_readAll_42 : decode cX6_readAll 42 = .ok (.aload_n 0, 1) := by decide +kernel
theorem dX6_readAll_43 : decode cX6_readAll 43 = .ok (.invokevirtual 65, 3) := by decide +kernel
theorem dX6_readAll_46 : decode cX6_readAll 46 = .ok (.iinc 2 1, 3) := by decide +kernel
theorem dX6_readAll_49 : decode cX6_readAll 49 = .ok (.goto (-29), 3) := by decide +kernel
theorem dX6_readAll_52 : decode cX6_readAll 52 = .ok (.aload_n 0, 1) := by decide +kernel
theorem dX6_readAll_53 : decode cX6_readAll 53 = .ok (.getfield 38, 3) := by decide +kernel
theorem dX6_readAll_56 : decode cX6_readAll 56 = .ok (.ifCond .ne 20, 3) := by decide +kernel
theorem dX6_readAll_59 : decode cX6_readAll 59 = .ok (.aload_n 0, 1) := by decide +kernel
theorem dX6_readAll_60 : decode cX6_readAll 60 = .ok (.getfield 44, 3) := by decide +kernel
theorem dX6_readAll_63 : decode cX6_readAll 63 = .ok (.iconst (-1), 1) := by decide +kernel
theorem dX6_readAll_64 : decode cX6_readAll 64 = .ok (.if_icmp .eq 12, 3) := by decide +kernel
theorem dX6_readAll_67 : decode cX6_readAll 67 = .ok (.aload_n 0, 1) := by decide +kernel
theorem dX6_readAll_68 : decode cX6_readAll 68 = .ok (.iconst 2, 1) := by decide +kernel
theorem dX6_readAll_69 : decode cX6_readAll 69 = .ok (.aload_n 0, 1) := by decide +kernel
theorem dX6_readAll_70 : decode cX6_readAll 70 = .ok (.getfield 44, 3) := by decide +kernel
theorem dX6_readAll_73 : decode cX6_readAll 73 = .ok (.invokevirtual 68, 3) := by decide +kernel
theorem dX6_readAll_76 : decode cX6_readAll 76 = .ok (.aload_n 0, 1) := by decide +kernel
theorem dX6_readAll_77 : decode cX6_readAll 77 = .ok (.getfield 9, 3) := by decide +kernel
theorem dX6_readAll_80 : decode cX6_readAll 80 = .ok (.iconst 0, 1) := by decide +kernel
theorem dX6_readAll_81 : decode cX6_readAll 81 = .ok (.iaload, 1) := by decide +kernel
theorem dX6_readAll_82 : decode cX6_readAll 82 = .ok (.istore_n 2, 1) := by decide +kernel
theorem dX6_readAll_83 : decode cX6_readAll 83 = .ok (.iload_n 2, 1) := by decide +kernel
theorem dX6_readAll_84 : decode cX6_readAll 84 = .ok (.bipush 8, 2) := by decide +kernel
theorem dX6_readAll_86 : decode cX6_readAll 86 = .ok (.if_icmp .ge 70, 3) := by decide +kernel
theorem dX6_readAll_89 : decode cX6_readAll 89 = .ok (.iload_n 2, 1) := by decide +kernel
theorem dX6_readAll_90 : decode cX6_readAll 90 = .ok (.ifCond .lt 66, 3) := by decide +kernel
theorem dX6_readAll_93 : decode cX6_readAll 93 = .ok (.aload_n 0, 1) := by decide +kernel
theorem dX6_readAll_94 : decode cX6_readAll 94 = .ok (.getfield 38, 3) := by decide +kernel
theorem dX6_readAll_97 : decode cX6_readAll 97 = .ok (.iconst 1, 1) := by decide +kernel
theorem dX6_readAll_98 : decode cX6_readAll 98 = .ok (.if_icmp .eq 58, 3) := by decide +kernel
theorem dX6_readAll_101 : decode cX6_readAll 101 = .ok (.aload_n 0, 1) := by decide +kernel
theorem dX6_readAll_102 : decode cX6_readAll 102 = .ok (.getfield 38, 3) := by decide +kernel
theorem dX6_readAll_105 : decode cX6_readAll 105 = .ok (.iconst 2, 1) := by decide +kernel
theorem dX6_readAll_106 : decode cX6_readAll 106 = .ok (.if_icmp .eq 50, 3) := by decide +kernel
theorem dX6_readAll_109 : decode cX6_readAll 109 = .ok (.aload_n 0, 1) := by decide +kernel
theorem dX6_readAll_110 : decode cX6_readAll 110 = .ok (.getfield 15, 3) := by decide +kernel
theorem dX6_readAll_113 : decode cX6_readAll 113 = .ok (.iload_n 2, 1) := by decide +kernel
theorem dX6_readAll_114 : decode cX6_readAll 114 = .ok (.iaload, 1) := by decide +kernel
theorem dX6_readAll_115 : decode cX6_readAll 115 = .ok (.iconst (-1), 1) := by decide +kernel
theorem dX6_readAll_116 : decode cX6_readAll 116 = .ok (.if_icmp .eq 34, 3) := by decide +kernel
theorem dX6_readAll_119 : decode cX6_readAll 119 = .ok (.aload_n 0, 1) := by decide +kernel
theorem dX6_readAll_120 : decode cX6_readAll 120 = .ok (.getfield 38, 3) := by decide +kernel
theorem dX6_readAll_123 : decode cX6_readAll 123 = .ok (.ifCond .eq 16, 3) := by decide +kernel
theorem dX6_readAll_126 : decode cX6_readAll 126 = .ok (.aload_n 0, 1) := by decide +kernel
theorem dX6_readAll_127 : decode cX6_readAll 127 = .ok (.getfield 15, 3) := by decide +kernel
theorem dX6_readAll_130 : decode cX6_readAll 130 = .ok (.iload_n 2, 1) := by decide +kernel
theorem dX6_readAll_131 : decode cX6_readAll 131 = .ok (.iaload, 1) := by decide +kernel
theorem dX6_readAll_132 : decode cX6_readAll 132 = .ok (.aload_n 0, 1) := by decide +kernel
theorem dX6_readAll_133 : decode cX6_readAll 133 = .ok (.getfield 41, 3) := by decide +kernel
theorem dX6_readAll_136 : decode cX6_readAll 136 = .ok (.if_icmp .ge 14, 3) := by decide +kernel
theorem dX6_readAll_139 : decode cX6_readAll 139 = .ok (.aload_n 0, 1) := by decide +kernel
theorem dX6_readAll_140 : decode cX6_readAll 140 = .ok (.iconst 3, 1) := by decide +kernel
theorem dX6_readAll_141 : decode cX6_readAll 141 = .ok (.aload_n 0, 1) := by decide +kernel
theorem dX6_readAll_142 : decode cX6_readAll 142 = .ok (.getfield 15, 3) := by decide +kernel
theorem dX6_readAll_145 : decode cX6_readAll 145 = .ok (.iload_n 2, 1) := by decide +kernel
theorem dX6_readAll_146 : decode cX6_readAll 146 = .ok (.iaload, 1) := by decide +kernel
theorem dX6_readAll_147 : decode cX6_readAll 147 = .ok (.invokevirtual 68, 3) := by decide +kernel
theorem dX6_readAll_150 : decode cX6_readAll 150 = .ok (.iinc 2 1, 3) := by decide +kernel
theorem dX6_readAll_153 : decode cX6_readAll 153 = .ok (.goto (-70), 3) := by decide +kernel
theorem dX6_readAll_156 : decode cX6_readAll 156 = .ok (.return_, 1) := by decide +kernel
theorem dX6_fail_0 : decode cX6_fail 0 = .ok (.aload_n 0, 1) := by decide +kernel
theorem dX6_fail_1 : decode cX6_fail 1 = .ok (.iload_n 1, 1) := by decide +kernel
theorem dX6_fail_2 : decode cX6_fail 2 = .ok (.putfield 38, 3) := by decide +kernel
theorem dX6_fail_5 : decode cX6_fail 5 = .ok (.aload_n 0, 1) := by decide +kernel
theorem dX6_fail_6 : decode cX6_fail 6 = .ok (.iload_n 2, 1) := by decide +kernel
theorem dX6_fail_7 : decode cX6_fail 7 = .ok (.putfield 41, 3) := by decide +kernel
theorem dX6_fail_10 : decode cX6_fail 10 = .ok (.return_, 1) := by decide +kernel
theorem dX6_step_0 : decode cX6_step 0 = .ok (.aload_n 0, 1) := by decide +kernel
theorem dX6_step_1 : decode cX6_step 1 = .ok (.aload_n 0, 1) := by decide +kernel
theorem dX6_step_2 : decode cX6_step 2 = .ok (.getfield 54, 3) := by decide +kernel
theorem dX6_step_5 : decode cX6_step 5 = .ok (.putfield 72, 3) := by decide +kernel
theorem dX6_step_8 : decode cX6_step 8 = .ok (.aload_n 0, 1) := by decide +kernel
theorem dX6_step_9 : decode cX6_step 9 = .ok (.getfield 72, 3) := by decide +kernel
theorem dX6_step_12 : decode cX6_step 12 = .ok (.sipush 400, 3) := by decide +kernel
theorem dX6_step_15 : decode cX6_step 15 = .ok (.if_icmp .ge 33, 3) := by decide +kernel
theorem dX6_step_18 : decode cX6_step 18 = .ok (.aload_n 0, 1) := by decide +kernel
theorem dX6_step_19 : decode cX6_step 19 = .ok (.getfield 50, 3) := by decide +kernel
theorem dX6_step_22 : decode cX6_step 22 = .ok (.aload_n 0, 1) := by decide +kernel
theorem dX6_step_23 : decode cX6_step 23 = .ok (.getfield 72, 3) := by decide +kernel
theorem dX6_step_26 : decode cX6_step 26 = .ok (.invokevirtual 75, 3) := by decide +kernel
theorem dX6_step_29 : decode cX6_step 29 = .ok (.invokestatic 79, 3) := by decide +kernel
theorem dX6_step_32 : decode cX6_step 32 = .ok (.ifCond .eq 16, 3) := by decide +kernel
theorem dX6_step_35 : decode cX6_step 35 = .ok (.aload_n 0, 1) := by decide +kernel
theorem dX6_step_36 : decode cX6_step 36 = .ok (.dup, 1) := by decide +kernel
theorem dX6_step_37 : decode cX6_step 37 = .ok (.getfield 72, 3) := by decide +kernel
theorem dX6_step_40 : decode cX6_step 40 = .ok (.iconst 1, 1) := by decide +kernel
theorem dX6_step_41 : decode cX6_step 41 = .ok (.iadd, 1) := by decide +kernel
theorem dX6_step_42 : decode cX6_step 42 = .ok (.putfield 72, 3) := by decide +kernel
theorem dX6_step_45 : decode cX6_step 45 = .ok (.goto (-37), 3) := by decide +kernel
theorem dX6_step_48 : decode cX6_step 48 = .ok (.aload_n 0, 1) := by decide +kernel
theorem dX6_step_49 : decode cX6_step 49 = .ok (.aload_n 0, 1) := by decide +kernel
theorem dX6_step_50 : decode cX6_step 50 = .ok (.getfield 72, 3) := by decide +kernel
theorem dX6_step_53 : decode cX6_step 53 = .ok (.putfield 54, 3) := by decide +kernel
theorem dX6_step_56 : decode cX6_step 56 = .ok (.aload_n 0, 1) := by decide +kernel
theorem dX6_step_57 : decode cX6_step 57 = .ok (.getfield 50, 3) := by decide +kernel
theorem dX6_step_60 : decode cX6_step 60 = .ok (.aload_n 0, 1) := by decide +kernel
theorem dX6_step_61 : decode cX6_step 61 = .ok (.getfield 72, 3) := by decide +kernel
theorem dX6_step_64 : decode cX6_step 64 = .ok (.invokevirtual 75, 3) := by decide +kernel
theorem dX6_step_67 : decode cX6_step 67 = .ok (.istore_n 1, 1) := by decide +kernel
theorem dX6_step_68 : decode cX6_step 68 = .ok (.iload_n 1, 1) := by decide +kernel
theorem dX6_step_69 : decode cX6_step 69 = .ok (.iconst (-1), 1) := by decide +kernel
theorem dX6_step_70 : decode cX6_step 70 = .ok (.if_icmp .ne 11, 3) := by decide +kernel
theorem dX6_step_73 : decode cX6_step 73 = .ok (.aload_n 0, 1) := by decide +kernel
theorem dX6_step_74 : decode cX6_step 74 = .ok (.iconst 3, 1) := by decide +kernel
theorem dX6_step_75 : decode cX6_step 75 = .ok (.putfield 62, 3) := by decide +kernel
theorem dX6_step_78 : decode cX6_step 78 = .ok (.goto 154, 3) := by decide +kernel
theorem dX6_step_81 : decode cX6_step 81 = .ok (.iload_n 1, 1) := by decide +kernel
theorem dX6_step_82 : decode cX6_step 82 = .ok (.bipush 59, 2) := by decide +kernel
theorem dX6_step_84 : decode cX6_step 84 = .ok (.if_icmp .ne 21, 3) := by decide +kernel
theorem dX6_step_87 : decode cX6_step 87 = .ok (.aload_n 0, 1) := by decide +kernel
theorem dX6_step_88 : decode cX6_step 88 = .ok (.iconst 2, 1) := by decide +kernel
theorem dX6_step_89 : decode cX6_step 89 = .ok (.putfield 62, 3) := by decide +kernel
theorem dX6_step_92 : decode cX6_step 92 = .ok (.aload_n 0, 1) := by decide +kernel
theorem dX6_step_93 : decode cX6_step 93 = .ok (.dup, 1) := by decide +kernel
theorem dX6_step_94 : decode cX6_step 94 = .ok (.getfield 54, 3) := by decide +kernel
theorem dX6_step_97 : decode cX6_step 97 = .ok (.iconst 1, 1) := by decide +kernel
theorem dX6_step_98 : decode cX6_step 98 = .ok (.iadd, 1) := by decide +kernel
theorem dX6_step_99 : decode cX6_step 99 = .ok (.putfield 54, 3) := by decide +kernel
theorem dX6_step_102 : decode cX6_step 102 = .ok (.goto 130, 3) := by decide +kernel
theorem dX6_step_105 : decode cX6_step 105 = .ok (.iload_n 1, 1) := by decide +kernel
theorem dX6_step_106 : decode cX6_step 106 = .ok (.invokestatic 83, 3) := by decide +kernel
theorem dX6_step_109 : decode cX6_step 109 = .ok (.ifCond .eq 48, 3) := by decide +kernel
theorem dX6_step_112 : decode cX6_step 112 = .ok (.aload_n 0, 1) := by decide +kernel
theorem dX6_step_113 : decode cX6_step 113 = .ok (.iconst 0, 1) := by decide +kernel
theorem dX6_step_114 : decode cX6_step 114 = .ok (.putfield 62, 3) := by decide +kernel
theorem dX6_step_117 : decode cX6_step 117 = .ok (.aload_n 0, 1) := by decide +kernel
theorem dX6_step_118 : decode cX6_step 118 = .ok (.getfield 54, 3) := by decide +kernel
theorem dX6_step_121 : decode cX6_step 121 = .ok (.sipush 400, 3) := by decide +kernel
theorem dX6_step_124 : decode cX6_step 124 = .ok (.if_icmp .ge 108, 3) := by decide +kernel
theorem dX6_step_127 : decode cX6_step 127 = .ok (.aload_n 0, 1) := by decide +kernel
theorem dX6_step_128 : decode cX6_step 128 = .ok (.getfield 50, 3) := by decide +kernel
theorem dX6_step_131 : decode cX6_step 131 = .ok (.aload_n 0, 1) := by decide +kernel
theorem dX6_step_132 : decode cX6_step 132 = .ok (.getfield 54, 3) := by decide +kernel
theorem dX6_step_135 : decode cX6_step 135 = .ok (.invokevirtual 75, 3) := by decide +kernel
theorem dX6_step_138 : decode cX6_step 138 = .ok (.invokestatic 83, 3) := by decide +kernel
theorem dX6_step_141 : decode cX6_step 141 = .ok (.ifCond .eq 91, 3) := by decide +kernel
theorem dX6_step_144 : decode cX6_step 144 = .ok (.aload_n 0, 1) := by decide +kernel
theorem dX6_step_145 : decode cX6_step 145 = .ok (.dup, 1) := by decide +kernel
theorem dX6_step_146 : decode cX6_step 146 = .ok (.getfield 54, 3) := by decide +kernel
theorem dX6_step_149 : decode cX6_step 149 = .ok (.iconst 1, 1) := by decide +kernel
theorem dX6_step_150 : decode cX6_step 150 = .ok (.iadd, 1) := by decide +kernel
theorem dX6_step_151 : decode cX6_step 151 = .ok (.putfield 54, 3) := by decide +kernel
theorem dX6_step_154 : decode cX6_step 154 = .ok (.goto (-37), 3) := by decide +kernel
theorem dX6_step_157 : decode cX6_step 157 = .ok (.aload_n 0, 1) := by decide +kernel
theorem dX6_step_158 : decode cX6_step 158 = .ok (.getfield 54, 3) := by decide +kernel
theorem dX6_step_161 : decode cX6_step 161 = .ok (.sipush 400, 3) := by decide +kernel
theorem dX6_step_164 : decode cX6_step 164 = .ok (.if_icmp .ge 33, 3) := by decide +kernel
theorem dX6_step_167 : decode cX6_step 167 = .ok (.aload_n 0, 1) := by decide +kernel
theorem dX6_step_168 : decode cX6_step 168 = .ok (.getfield 50, 3) := by decide +kernel
theorem dX6_step_171 : decode cX6_step 171 = .ok (.aload_n 0, 1) := by decide +kernel
theorem dX6_step_172 : decode cX6_step 172 = .ok (.getfield 54, 3) := by decide +kernel
theorem dX6_step_175 : decode cX6_step 175 = .ok (.invokevirtual 75, 3) := by decide +kernel
theorem dX6_step_178 : decode cX6_step 178 = .ok (.invokestatic 86, 3) := by decide +kernel
theorem dX6_step_181 : decode cX6_step 181 = .ok (.ifCond .eq 16, 3) := by decide +kernel
theorem dX6_step_184 : decode cX6_step 184 = .ok (.aload_n 0, 1) := by decide +kernel
theorem dX6_step_185 : decode cX6_step 185 = .ok (.dup, 1) := by decide +kernel
theorem dX6_step_186 : decode cX6_step 186 = .ok (.getfield 54, 3) := by decide +kernel
theorem dX6_step_189 : decode cX6_step 189 = .ok (.iconst 1, 1) := by decide +kernel
theorem dX6_step_190 : decode cX6_step 190 = .ok (.iadd, 1) := by decide +kernel
theorem dX6_step_191 : decode cX6_step 191 = .ok (.putfield 54, 3) := by decide +kernel
theorem dX6_step_194 : decode cX6_step 194 = .ok (.goto (-37), 3) := by decide +kernel
theorem dX6_step_197 : decode cX6_step 197 = .ok (.aload_n 0, 1) := by decide +kernel
theorem dX6_step_198 : decode cX6_step 198 = .ok (.aload_n 0, 1) := by decide +kernel
theorem dX6_step_199 : decode cX6_step 199 = .ok (.getfield 54, 3) := by decide +kernel
theorem dX6_step_202 : decode cX6_step 202 = .ok (.aload_n 0, 1) := by decide +kernel
theorem dX6_step_203 : decode cX6_step 203 = .ok (.getfield 72, 3) := by decide +kernel
theorem dX6_step_206 : decode cX6_step 206 = .ok (.isub, 1) := by decide +kernel
theorem dX6_step_207 : decode cX6_step 207 = .ok (.iconst 1, 1) := by decide +kernel
theorem dX6_step_208 : decode cX6_step 208 = .ok (.if_icmp .eq 16, 3) := by decide +kernel
theorem dX6_step_211 : decode cX6_step 211 = .ok (.aload_n 0, 1) := by decide +kernel
theorem dX6_step_212 : decode cX6_step 212 = .ok (.getfield 54, 3) := by decide +kernel
theorem dX6_step_215 : decode cX6_step 215 = .ok (.aload_n 0, 1) := by decide +kernel
theorem dX6_step_216 : decode cX6_step 216 = .ok (.getfield 72, 3) := by decide +kernel
theorem dX6_step_219 : decode cX6_step 219 = .ok (.isub, 1) := by decide +kernel
theorem dX6_step_220 : decode cX6_step 220 = .ok (.iconst 2, 1) := by decide +kernel
theorem dX6_step_221 : decode cX6_step 221 = .ok (.if_icmp .ne 7, 3) := by decide +kernel
theorem dX6_step_224 : decode cX6_step 224 = .ok (.iconst 1, 1) := by decide +kernel
theorem dX6_step_225 : decode cX6_step 225 = .ok (.goto 4, 3) := by decide +kernel
theorem dX6_step_228 : decode cX6_step 228 = .ok (.iconst 4, 1) := by decide +kernel
theorem dX6_step_229 : decode cX6_step 229 = .ok (.putfield 62, 3) := by decide +kernel
theorem dX6_step_232 : decode cX6_step 232 = .ok (.return_, 1) := by decide +kernel
theorem dX6_isBlank_0 : decode cX6_isBlank 0 = .ok (.iload_n 0, 1) := by decide +kernel
theorem dX6_isBlank_1 : decode cX6_isBlank 1 = .ok (.bipush 32, 2) := by decide +kernel
theorem dX6_isBlank_3 : decode cX6_isBlank 3 = .ok (.if_icmp .eq 9, 3) := by decide +kernel
theorem dX6_isBlank_6 : decode cX6_isBlank 6 = .ok (.iload_n 0, 1) := by decide +kernel
theorem dX6_isBlank_7 : decode cX6_isBlank 7 = .ok (.bipush 10, 2) := by decide +kernel
theorem dX6_isBlank_9 : decode cX6_isBlank 9 = .ok (.if_icmp .ne 7, 3) := by decide +kernel
theorem dX6_isBlank_12 : decode cX6_isBlank 12 = .ok (.iconst 1, 1) := by decide +kernel
theorem dX6_isBlank_13 : decode cX6_isBlank 13 = .ok (.goto 4, 3) := by decide +kernel
theorem dX6_isBlank_16 : decode cX6_isBlank 16 = .ok (.iconst 0, 1) := by decide +kernel
theorem dX6_isBlank_17 : decode cX6_isBlank 17 = .ok (.ireturn, 1) := by decide +kernel
theorem dX6_isLetter_0 : decode cX6_isLetter 0 = .ok (.iload_n 0, 1) := by decide +kernel
theorem dX6_isLetter_1 : decode cX6_isLetter 1 = .ok (.bipush 97, 2) := by decide +kernel
theorem dX6_isLetter_3 : decode cX6_isLetter 3 = .ok (.if_icmp .lt 13, 3) := by decide +kernel
theorem dX6_isLetter_6 : decode cX6_isLetter 6 = .ok (.iload_n 0, 1) := by decide +kernel
theorem dX6_isLetter_7 : decode cX6_isLetter 7 = .ok (.bipush 122, 2) := by decide +kernel
theorem dX6_isLetter_9 : decode cX6_isLetter 9 = .ok (.if_icmp .gt 7, 3) := by decide +kernel
theorem dX6_isLetter_12 : decode cX6_isLetter 12 = .ok (.iconst 1, 1) := by decide +kernel
theorem dX6_isLetter_13 : decode cX6_isLetter 13 = .ok (.goto 4, 3) := by decide +kernel
theorem dX6_isLetter_16 : decode cX6_isLetter 16 = .ok (.iconst 0, 1) := by decide +kernel
theorem dX6_isLetter_17 : decode cX6_isLetter 17 = .ok (.ireturn, 1) := by decide +kernel
theorem dX6_isDigit_0 : decode cX6_isDigit 0 = .ok (.iload_n 0, 1) := by decide +kernel
theorem dX6_isDigit_1 : decode cX6_isDigit 1 = .ok (.bipush 48, 2) := by decide +kernel
theorem dX6_isDigit_3 : decode cX6_isDigit 3 = .ok (.if_icmp .lt 13, 3) := by decide +kernel
theorem dX6_isDigit_6 : decode cX6_isDigit 6 = .ok (.iload_n 0, 1) := by decide +kernel
theorem dX6_isDigit_7 : decode cX6_isDigit 7 = .ok (.bipush 57, 2) := by decide +kernel
theorem dX6_isDigit_9 : decode cX6_isDigit 9 = .ok (.if_icmp .gt 7, 3) := by decide +kernel
theorem dX6_isDigit_12 : decode cX6_isDigit 12 = .ok (.iconst 1, 1) := by decide +kernel
theorem dX6_isDigit_13 : decode cX6_isDigit 13 = .ok (.goto 4, 3) := by decide +kernel
theorem dX6_isDigit_16 : decode cX6_isDigit 16 = .ok (.iconst 0, 1) := by decide +kernel
theorem dX6_isDigit_17 : decode cX6_isDigit 17 = .ok (.ireturn, 1) := by decide +kernel
theorem dX6_readClause_0 : decode cX6_readClause 0 = .ok (.aload_n 0, 1) := by decide +kernel
theorem dX6_readClause_1 : decode cX6_readClause 1 = .ok (.invokevirtual 89, 3) := by decide +kernel
theorem dX6_readClause_4 : decode cX6_readClause 4 = .ok (.istore_n 1, 1) := by decide +kernel
theorem dX6_readClause_5 : decode cX6_readClause 5 = .ok (.iload_n 1, 1) := by decide +kernel
theorem dX6_readClause_6 : decode cX6_readClause 6 = .ok (.iconst (-1), 1) := by decide +kernel
theorem dX6_readClause_7 : decode cX6_readClause 7 = .ok (.if_icmp .ne 13, 3) := by decide +kernel
theorem dX6_readClause_10 : decode cX6_readClause 10 = .ok (.aload_n 0, 1) := by decide +kernel
theorem dX6_readClause_11 : decode cX6_readClause 11 = .ok (.iconst 1, 1) := by decide +kernel
theorem dX6_readClause_12 : decode cX6_readClause 12 = .ok (.aload_n 0, 1) := by decide +kernel
theorem dX6_readClause_13 : decode cX6_readClause 13 = .ok (.getfield 72, 3) := by decide +kernel
theorem dX6_readClause_16 : decode cX6_readClause 16 = .ok (.invokevirtual 68, 3) := by decide +kernel
theorem dX6_readClause_19 : decode cX6_readClause 19 = .ok (.return_, 1) := by decide +kernel
theorem dX6_readClause_20 : decode cX6_readClause 20 = .ok (.aload_n 0, 1) := by decide +kernel
theorem dX6_readClause_21 : decode cX6_readClause 21 = .ok (.invokevirtual 57, 3) := by decide +kernel
theorem dX6_readClause_24 : decode cX6_readClause 24 = .ok (.aload_n 0, 1) := by decide +kernel
theorem dX6_readClause_25 : decode cX6_readClause 25 = .ok (.iload_n 1, 1) := by decide +kernel
theorem dX6_readClause_26 : decode cX6_readClause 26 = .ok (.iconst (-1), 1) := by decide +kernel
theorem dX6_readClause_27 : decode cX6_readClause 27 = .ok (.invokevirtual 93, 3) := by decide +kernel
theorem dX6_readClause_30 : decode cX6_readClause 30 = .ok (.istore_n 2, 1) := by decide +kernel
theorem dX6_readClause_31 : decode cX6_readClause 31 = .ok (.iload_n 1, 1) := by decide +kernel
theorem dX6_readClause_32 : decode cX6_readClause 32 = .ok (.bipush 8, 2) := by decide +kernel
theorem dX6_readClause_34 : decode cX6_readClause 34 = .ok (.if_icmp .ne 19, 3) := by decide +kernel
theorem dX6_readClause_37 : decode cX6_readClause 37 = .ok (.aload_n 0, 1) := by decide +kernel
theorem dX6_readClause_38 : decode cX6_readClause 38 = .ok (.getfield 38, 3) := by decide +kernel
theorem dX6_readClause_41 : decode cX6_readClause 41 = .ok (.ifCond .ne 12, 3) := by decide +kernel
theorem dX6_readClause_44 : decode cX6_readClause 44 = .ok (.aload_n 0, 1) := by decide +kernel
theorem dX6_readClause_45 : decode cX6_readClause 45 = .ok (.iload_n 1, 1) := by decide +kernel
theorem dX6_readClause_46 : decode cX6_readClause 46 = .ok (.iload_n 2, 1) := by decide +kernel
theorem dX6_readClause_47 : decode cX6_readClause 47 = .ok (.invokevirtual 93, 3) := by decide +kernel
theorem dX6_readClause_50 : decode cX6_readClause 50 = .ok (.goto 4, 3) := by decide +kernel
theorem dX6_readClause_53 : decode cX6_readClause 53 = .ok (.iconst (-1), 1) := by decide +kernel
theorem dX6_readClause_54 : decode cX6_readClause 54 = .ok (.istore_n 3, 1) := by decide +kernel
theorem dX6_readClause_55 : decode cX6_readClause 55 = .ok (.aload_n 0, 1) := by decide +kernel
theorem dX6_readClause_56 : decode cX6_readClause 56 = .ok (.getfield 38, 3) := by decide +kernel
theorem dX6_readClause_59 : decode cX6_readClause 59 = .ok (.ifCond .ne 20, 3) := by decide +kernel
theorem dX6_readClause_62 : decode cX6_readClause 62 = .ok (.aload_n 0, 1) := by decide +kernel
theorem dX6_readClause_63 : decode cX6_readClause 63 = .ok (.getfield 62, 3) := by decide +kernel
theorem dX6_readClause_66 : decode cX6_readClause 66 = .ok (.iconst 2, 1) := by decide +kernel
theorem dX6_readClause_67 : decode cX6_readClause 67 = .ok (.if_icmp .eq 12, 3) := by decide +kernel
theorem dX6_readClause_70 : decode cX6_readClause 70 = .ok (.aload_n 0, 1) := by decide +kernel
theorem dX6_readClause_71 : decode cX6_readClause 71 = .ok (.iconst 1, 1) := by decide +kernel
theorem dX6_readClause_72 : decode cX6_readClause 72 = .ok (.aload_n 0, 1) := by decide +kernel
theorem dX6_readClause_73 : decode cX6_readClause 73 = .ok (.getfield 72, 3) := by decide +kernel
theorem dX6_readClause_76 : decode cX6_readClause 76 = .ok (.invokevirtual 68, 3) := by decide +kernel
theorem dX6_readClause_79 : decode cX6_readClause 79 = .ok (.aload_n 0, 1) := by decide +kernel
theorem dX6_readClause_80 : decode cX6_readClause 80 = .ok (.getfield 38, 3) := by decide +kernel
theorem dX6_readClause_83 : decode cX6_readClause 83 = .ok (.ifCond .ne 14, 3) := by decide +kernel
theorem dX6_readClause_86 : decode cX6_readClause 86 = .ok (.aload_n 0, 1) := by decide +kernel
theorem dX6_readClause_87 : decode cX6_readClause 87 = .ok (.invokevirtual 57, 3) := by decide +kernel
theorem dX6_readClause_90 : decode cX6_readClause 90 = .ok (.aload_n 0, 1) := by decide +kernel
theorem dX6_readClause_91 : decode cX6_readClause 91 = .ok (.iload_n 1, 1) := by decide +kernel
theorem dX6_readClause_92 : decode cX6_readClause 92 = .ok (.iload_n 2, 1) := by decide +kernel
theorem dX6_readClause_93 : decode cX6_readClause 93 = .ok (.iload_n 3, 1) := by decide +kernel
theorem dX6_readClause_94 : decode cX6_readClause 94 = .ok (.invokevirtual 97, 3) := by decide +kernel
theorem dX6_readClause_97 : decode cX6_readClause 97 = .ok (.return_, 1) := by decide +kernel
theorem dX6_findWord_0 : decode cX6_findWord 0 = .ok (.aload_n 0, 1) := by decide +kernel
theorem dX6_findWord_1 : decode cX6_findWord 1 = .ok (.getfield 54, 3) := by decide +kernel
theorem dX6_findWord_4 : decode cX6_findWord 4 = .ok (.aload_n 0, 1) := by decide +kernel
theorem dX6_findWord_5 : decode cX6_findWord 5 = .ok (.getfield 72, 3) := by decide +kernel
theorem dX6_findWord_8 : decode cX6_findWord 8 = .ok (.isub, 1) := by decide +kernel
theorem dX6_findWord_9 : decode cX6_findWord 9 = .ok (.istore_n 1, 1) := by decide +kernel
theorem dX6_findWord_10 : decode cX6_findWord 10 = .ok (.iconst 0, 1) := by decide +kernel
theorem dX6_findWord_11 : decode cX6_findWord 11 = .ok (.istore_n 2, 1) := by decide +kernel
theorem dX6_findWord_12 : decode cX6_findWord 12 = .ok (.iload_n 2, 1) := by decide +kernel
theorem dX6_findWord_13 : decode cX6_findWord 13 = .ok (.bipush 11, 2) := by decide +kernel
theorem dX6_findWord_15 : decode cX6_findWord 15 = .ok (.if_icmp .ge 85, 3) := by decide +kernel
theorem dX6_findWord_18 : decode cX6_findWord 18 = .ok (.aload_n 0, 1) := by decide +kernel
theorem dX6_findWord_19 : decode cX6_findWord 19 = .ok (.getfield 62, 3) := by decide +kernel
theorem dX6_findWord_22 : decode cX6_findWord 22 = .ok (.ifCond .ne 78, 3) := by decide +kernel
theorem dX6_findWord_25 : decode cX6_findWord 25 = .ok (.iload_n 1, 1) := by decide +kernel
theorem dX6_findWord_26 : decode cX6_findWord 26 = .ok (.bipush 8, 2) := by decide +kernel
theorem dX6_findWord_28 : decode cX6_findWord 28 = .ok (.if_icmp .ge 72, 3) := by decide +kernel
theorem dX6_findWord_31 : decode cX6_findWord 31 = .ok (.iconst 0, 1) := by decide +kernel
theorem dX6_findWord_32 : decode cX6_findWord 32 = .ok (.istore_n 3, 1) := by decide +kernel
theorem dX6_findWord_33 : decode cX6_findWord 33 = .ok (.iload_n 3, 1) := by decide +kernel
theorem dX6_findWord_34 : decode cX6_findWord 34 = .ok (.iload_n 1, 1) := by decide +kernel
theorem dX6_findWord_35 : decode cX6_findWord 35 = .ok (.if_icmp .ge 36, 3) := by decide +kernel
theorem dX6_findWord_38 : decode cX6_findWord 38 = .ok (.ldc 101, 2) := by decide +kernel
theorem dX6_findWord_40 : decode cX6_findWord 40 = .ok (.bipush 8, 2) := by decide +kernel
theorem dX6_findWord_42 : decode cX6_findWord 42 = .ok (.iload_n 2, 1) := by decide +kernel
theorem dX6_findWord_43 : decode cX6_findWord 43 = .ok (.imul, 1) := by decide +kernel
theorem dX6_findWord_44 : decode cX6_findWord 44 = .ok (.iload_n 3, 1) := by decide +kernel
theorem dX6_findWord_45 : decode cX6_findWord 45 = .ok (.iadd, 1) := by decide +kernel
theorem dX6_findWord_46 : decode cX6_findWord 46 = .ok (.invokevirtual 103, 3) := by decide +kernel
theorem dX6_findWord_49 : decode cX6_findWord 49 = .ok (.aload_n 0, 1) := by decide +kernel
theorem dX6_findWord_50 : decode cX6_findWord 50 = .ok (.getfield 50, 3) := by decide +kernel
theorem dX6_findWord_53 : decode cX6_findWord 53 = .ok (.aload_n 0, 1) := by decide +kernel
theorem dX6_findWord_54 : decode cX6_findWord 54 = .ok (.getfield 72, 3) := by decide +kernel
theorem dX6_findWord_57 : decode cX6_findWord 57 = .ok (.iload_n 3, 1) := by decide +kernel
theorem dX6_findWord_58 : decode cX6_findWord 58 = .ok (.iadd, 1) := by decide +kernel
theorem dX6_findWord_59 : decode cX6_findWord 59 = .ok (.invokevirtual 75, 3) := by decide +kernel
theorem dX6_findWord_62 : decode cX6_findWord 62 = .ok (.if_icmp .ne 9, 3) := by decide +kernel
theorem dX6_findWord_65 : decode cX6_findWord 65 = .ok (.iinc 3 1, 3) := by decide +kernel
theorem dX6_findWord_68 : decode cX6_findWord 68 = .ok (.goto (-35), 3) := by decide +kernel
theorem dX6_findWord_71 : decode cX6_findWord 71 = .ok (.iload_n 3, 1) := by decide +kernel
theorem dX6_findWord_72 : decode cX6_findWord 72 = .ok (.iload_n 1, 1) := by decide +kernel
theorem dX6_findWord_73 : decode cX6_findWord 73 = .ok (.if_icmp .ne 21, 3) := by decide +kernel
theorem dX6_findWord_76 : decode cX6_findWord 76 = .ok (.ldc 101, 2) := by decide +kernel
theorem dX6_findWord_78 : decode cX6_findWord 78 = .ok (.bipush 8, 2) := by decide +kernel
theorem dX6_findWord_80 : decode cX6_findWord 80 = .ok (.iload_n 2, 1) := by decide +kernel
theorem dX6_findWord_81 : decode cX6_findWord 81 = .ok (.imul, 1) := by decide +kernel
theorem dX6_findWord_82 : decode cX6_findWord 82 = .ok (.iload_n 1, 1) := by decide +kernel
theorem dX6_findWord_83 : decode cX6_findWord 83 = .ok (.iadd, 1) := by decide +kernel
theorem dX6_findWord_84 : decode cX6_findWord 84 = .ok (.invokevirtual 103, 3) := by decide +kernel
theorem dX6_findWord_87 : decode cX6_findWord 87 = .ok (.bipush 32, 2) := by decide +kernel
theorem dX6_findWord_89 : decode cX6_findWord 89 = .ok (.if_icmp .ne 5, 3) := by decide +kernel
theorem dX6_findWord_92 : decode cX6_findWord 92 = .ok (.iload_n 2, 1) := by decide +kernel
theorem dX6_findWord_93 : decode cX6_findWord 93 = .ok (.ireturn, 1) := by decide +kernel
theorem dX6_findWord_94 : decode cX6_findWord 94 = .ok (.iinc 2 1, 3) := by decide +kernel
theorem dX6_findWord_97 : decode cX6_findWord 97 = .ok (.goto (-85), 3) := by decide +kernel
theorem dX6_findWord_100 : decode cX6_findWord 100 = .ok (.iconst (-1), 1) := by decide +kernel
theorem dX6_findWord_101 : decode cX6_findWord 101 = .ok (.ireturn, 1) := by decide +kernel
theorem dX6_readNumber_0 : decode cX6_readNumber 0 = .ok (.aload_n 0, 1) := by decide +kernel
theorem dX6_readNumber_1 : decode cX6_readNumber 1 = .ok (.getfield 62, 3) := by decide +kernel
theorem dX6_readNumber_4 : decode cX6_readNumber 4 = .ok (.iconst 1, 1) := by decide +kernel
theorem dX6_readNumber_5 : decode cX6_readNumber 5 = .ok (.if_icmp .eq 14, 3) := by decide +kernel
theorem dX6_readNumber_8 : decode cX6_readNumber 8 = .ok (.aload_n 0, 1) := by decide +kernel
theorem dX6_readNumber_9 : decode cX6_readNumber 9 = .ok (.iconst 1, 1) := by decide +kernel
