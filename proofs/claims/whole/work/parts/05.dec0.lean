theorem dX0_init_0 : decode cX0_init 0 = .ok (.aload_n 0, 1) := by decide +kernel
theorem dX0_init_1 : decode cX0_init 1 = .ok (.invokespecial 3, 3) := by decide +kernel
theorem dX0_init_4 : decode cX0_init 4 = .ok (.aload_n 0, 1) := by decide +kernel
theorem dX0_init_5 : decode cX0_init 5 = .ok (.bipush 50, 2) := by decide +kernel
theorem dX0_init_7 : decode cX0_init 7 = .ok (.newarray .int, 2) := by decide +kernel
theorem dX0_init_9 : decode cX0_init 9 = .ok (.putfield 11, 3) := by decide +kernel
theorem dX0_init_12 : decode cX0_init 12 = .ok (.aload_n 0, 1) := by decide +kernel
theorem dX0_init_13 : decode cX0_init 13 = .ok (.iconst 0, 1) := by decide +kernel
theorem dX0_init_14 : decode cX0_init 14 = .ok (.putfield 15, 3) := by decide +kernel
theorem dX0_init_17 : decode cX0_init 17 = .ok (.aload_n 0, 1) := by decide +kernel
theorem dX0_init_18 : decode cX0_init 18 = .ok (.bipush 24, 2) := by decide +kernel
theorem dX0_init_20 : decode cX0_init 20 = .ok (.newarray .int, 2) := by decide +kernel
theorem dX0_init_22 : decode cX0_init 22 = .ok (.putfield 19, 3) := by decide +kernel
theorem dX0_init_25 : decode cX0_init 25 = .ok (.aload_n 0, 1) := by decide +kernel
theorem dX0_init_26 : decode cX0_init 26 = .ok (.iconst 0, 1) := by decide +kernel
theorem dX0_init_27 : decode cX0_init 27 = .ok (.putfield 22, 3) := by decide +kernel
theorem dX0_init_30 : decode cX0_init 30 = .ok (.aload_n 0, 1) := by decide +kernel
theorem dX0_init_31 : decode cX0_init 31 = .ok (.iconst 0, 1) := by decide +kernel
theorem dX0_init_32 : decode cX0_init 32 = .ok (.putfield 25, 3) := by decide +kernel
theorem dX0_init_35 : decode cX0_init 35 = .ok (.aload_n 0, 1) := by decide +kernel
theorem dX0_init_36 : decode cX0_init 36 = .ok (.iconst 0, 1) := by decide +kernel
theorem dX0_init_37 : decode cX0_init 37 = .ok (.putfield 28, 3) := by decide +kernel
theorem dX0_init_40 : decode cX0_init 40 = .ok (.return_, 1) := by decide +kernel
theorem dX0_isKind_0 : decode cX0_isKind 0 = .ok (.iload_n 0, 1) := by decide +kernel
theorem dX0_isKind_1 : decode cX0_isKind 1 = .ok (.ifCond .lt 13, 3) := by decide +kernel
theorem dX0_isKind_4 : decode cX0_isKind 4 = .ok (.iload_n 0, 1) := by decide +kernel
theorem dX0_isKind_5 : decode cX0_isKind 5 = .ok (.bipush 8, 2) := by decide +kernel
theorem dX0_isKind_7 : decode cX0_isKind 7 = .ok (.if_icmp .ge 7, 3) := by decide +kernel
theorem dX0_isKind_10 : decode cX0_isKind 10 = .ok (.iconst 1, 1) := by decide +kernel
theorem dX0_isKind_11 : decode cX0_isKind 11 = .ok (.goto 4, 3) := by decide +kernel
theorem dX0_isKind_14 : decode cX0_isKind 14 = .ok (.iconst 0, 1) := by decide +kernel
theorem dX0_isKind_15 : decode cX0_isKind 15 = .ok (.ireturn, 1) := by decide +kernel
theorem dX0_isUnder_0 : decode cX0_isUnder 0 = .ok (.iload_n 0, 1) := by decide +kernel
theorem dX0_isUnder_1 : decode cX0_isUnder 1 = .ok (.istore_n 2, 1) := by decide +kernel
theorem dX0_isUnder_2 : decode cX0_isUnder 2 = .ok (.iconst 0, 1) := by decide +kernel
theorem dX0_isUnder_3 : decode cX0_isUnder 3 = .ok (.istore_n 3, 1) := by decide +kernel
theorem dX0_isUnder_4 : decode cX0_isUnder 4 = .ok (.iload_n 3, 1) := by decide +kernel
theorem dX0_isUnder_5 : decode cX0_isUnder 5 = .ok (.bipush 8, 2) := by decide +kernel
theorem dX0_isUnder_7 : decode cX0_isUnder 7 = .ok (.if_icmp .ge 29, 3) := by decide +kernel
theorem dX0_isUnder_10 : decode cX0_isUnder 10 = .ok (.iload_n 2, 1) := by decide +kernel
theorem dX0_isUnder_11 : decode cX0_isUnder 11 = .ok (.invokestatic 31, 3) := by decide +kernel
theorem dX0_isUnder_14 : decode cX0_isUnder 14 = .ok (.ifCond .eq 22, 3) := by decide +kernel
theorem dX0_isUnder_17 : decode cX0_isUnder 17 = .ok (.iload_n 2, 1) := by decide +kernel
theorem dX0_isUnder_18 : decode cX0_isUnder 18 = .ok (.iload_n 1, 1) := by decide +kernel
theorem dX0_isUnder_19 : decode cX0_isUnder 19 = .ok (.if_icmp .ne 5, 3) := by decide +kernel
theorem dX0_isUnder_22 : decode cX0_isUnder 22 = .ok (.iconst 1, 1) := by decide +kernel
theorem dX0_isUnder_23 : decode cX0_isUnder 23 = .ok (.ireturn, 1) := by decide +kernel
theorem dX0_isUnder_24 : decode cX0_isUnder 24 = .ok (.getstatic 35, 3) := by decide +kernel
theorem dX0_isUnder_27 : decode cX0_isUnder 27 = .ok (.iload_n 2, 1) := by decide +kernel
theorem dX0_isUnder_28 : decode cX0_isUnder 28 = .ok (.iaload, 1) := by decide +kernel
theorem dX0_isUnder_29 : decode cX0_isUnder 29 = .ok (.istore_n 2, 1) := by decide +kernel
theorem dX0_isUnder_30 : decode cX0_isUnder 30 = .ok (.iinc 3 1, 3) := by decide +kernel
theorem dX0_isUnder_33 : decode cX0_isUnder 33 = .ok (.goto (-29), 3) := by decide +kernel
theorem dX0_isUnder_36 : decode cX0_isUnder 36 = .ok (.iconst 0, 1) := by decide +kernel
theorem dX0_isUnder_37 : decode cX0_isUnder 37 = .ok (.ireturn, 1) := by decide +kernel
theorem dX0_isFull_0 : decode cX0_isFull 0 = .ok (.aload_n 0, 1) := by decide +kernel
theorem dX0_isFull_1 : decode cX0_isFull 1 = .ok (.getfield 15, 3) := by decide +kernel
theorem dX0_isFull_4 : decode cX0_isFull 4 = .ok (.bipush 50, 2) := by decide +kernel
theorem dX0_isFull_6 : decode cX0_isFull 6 = .ok (.if_icmp .lt 7, 3) := by decide +kernel
theorem dX0_isFull_9 : decode cX0_isFull 9 = .ok (.iconst 1, 1) := by decide +kernel
theorem dX0_isFull_10 : decode cX0_isFull 10 = .ok (.goto 4, 3) := by decide +kernel
theorem dX0_isFull_13 : decode cX0_isFull 13 = .ok (.iconst 0, 1) := by decide +kernel
theorem dX0_isFull_14 : decode cX0_isFull 14 = .ok (.ireturn, 1) := by decide +kernel
theorem dX0_size_0 : decode cX0_size 0 = .ok (.aload_n 0, 1) := by decide +kernel
theorem dX0_size_1 : decode cX0_size 1 = .ok (.getfield 15, 3) := by decide +kernel
theorem dX0_size_4 : decode cX0_size 4 = .ok (.ireturn, 1) := by decide +kernel
theorem dX0_make_0 : decode cX0_make 0 = .ok (.aload_n 0, 1) := by decide +kernel
theorem dX0_make_1 : decode cX0_make 1 = .ok (.invokevirtual 38, 3) := by decide +kernel
theorem dX0_make_4 : decode cX0_make 4 = .ok (.ifCond .eq 6, 3) := by decide +kernel
theorem dX0_make_7 : decode cX0_make 7 = .ok (.bipush (-3), 2) := by decide +kernel
theorem dX0_make_9 : decode cX0_make 9 = .ok (.ireturn, 1) := by decide +kernel
theorem dX0_make_10 : decode cX0_make 10 = .ok (.aload_n 0, 1) := by decide +kernel
theorem dX0_make_11 : decode cX0_make 11 = .ok (.getfield 11, 3) := by decide +kernel
theorem dX0_make_14 : decode cX0_make 14 = .ok (.aload_n 0, 1) := by decide +kernel
theorem dX0_make_15 : decode cX0_make 15 = .ok (.getfield 15, 3) := by decide +kernel
theorem dX0_make_18 : decode cX0_make 18 = .ok (.iload_n 1, 1) := by decide +kernel
theorem dX0_make_19 : decode cX0_make 19 = .ok (.iastore, 1) := by decide +kernel
theorem dX0_make_20 : decode cX0_make 20 = .ok (.aload_n 0, 1) := by decide +kernel
theorem dX0_make_21 : decode cX0_make 21 = .ok (.dup, 1) := by decide +kernel
theorem dX0_make_22 : decode cX0_make 22 = .ok (.getfield 15, 3) := by decide +kernel
theorem dX0_make_25 : decode cX0_make 25 = .ok (.iconst 1, 1) := by decide +kernel
theorem dX0_make_26 : decode cX0_make 26 = .ok (.iadd, 1) := by decide +kernel
theorem dX0_make_27 : decode cX0_make 27 = .ok (.putfield 15, 3) := by decide +kernel
theorem dX0_make_30 : decode cX0_make 30 = .ok (.aload_n 0, 1) := by decide +kernel
theorem dX0_make_31 : decode cX0_make 31 = .ok (.getfield 15, 3) := by decide +kernel
theorem dX0_make_34 : decode cX0_make 34 = .ok (.iconst 1, 1) := by decide +kernel
theorem dX0_make_35 : decode cX0_make 35 = .ok (.isub, 1) := by decide +kernel
theorem dX0_make_36 : decode cX0_make 36 = .ok (.ireturn, 1) := by decide +kernel
theorem dX0_has_0 : decode cX0_has 0 = .ok (.iload_n 1, 1) := by decide +kernel
theorem dX0_has_1 : decode cX0_has 1 = .ok (.ifCond .lt 15, 3) := by decide +kernel
theorem dX0_has_4 : decode cX0_has 4 = .ok (.iload_n 1, 1) := by decide +kernel
theorem dX0_has_5 : decode cX0_has 5 = .ok (.aload_n 0, 1) := by decide +kernel
theorem dX0_has_6 : decode cX0_has 6 = .ok (.getfield 15, 3) := by decide +kernel
theorem dX0_has_9 : decode cX0_has 9 = .ok (.if_icmp .ge 7, 3) := by decide +kernel
theorem dX0_has_12 : decode cX0_has 12 = .ok (.iconst 1, 1) := by decide +kernel
theorem dX0_has_13 : decode cX0_has 13 = .ok (.goto 4, 3) := by decide +kernel
theorem dX0_has_16 : decode cX0_has 16 = .ok (.iconst 0, 1) := by decide +kernel
theorem dX0_has_17 : decode cX0_has 17 = .ok (.ireturn, 1) := by decide +kernel
theorem dX0_kindOf_0 : decode cX0_kindOf 0 = .ok (.aload_n 0, 1) := by decide +kernel
theorem dX0_kindOf_1 : decode cX0_kindOf 1 = .ok (.iload_n 1, 1) := by decide +kernel
theorem dX0_kindOf_2 : decode cX0_kindOf 2 = .ok (.invokevirtual 42, 3) := by decide +kernel
theorem dX0_kindOf_5 : decode cX0_kindOf 5 = .ok (.ifCond .eq 12, 3) := by decide +kernel
theorem dX0_kindOf_8 : decode cX0_kindOf 8 = .ok (.aload_n 0, 1) := by decide +kernel
theorem dX0_kindOf_9 : decode cX0_kindOf 9 = .ok (.getfield 11, 3) := by decide +kernel
theorem dX0_kindOf_12 : decode cX0_kindOf 12 = .ok (.iload_n 1, 1) := by decide +kernel
theorem dX0_kindOf_13 : decode cX0_kindOf 13 = .ok (.iaload, 1) := by decide +kernel
theorem dX0_kindOf_14 : decode cX0_kindOf 14 = .ok (.goto 4, 3) := by decide +kernel
theorem dX0_kindOf_17 : decode cX0_kindOf 17 = .ok (.iconst (-1), 1) := by decide +kernel
theorem dX0_kindOf_18 : decode cX0_kindOf 18 = .ok (.ireturn, 1) := by decide +kernel
theorem dX0_ran_0 : decode cX0_ran 0 = .ok (.aload_n 0, 1) := by decide +kernel
theorem dX0_ran_1 : decode cX0_ran 1 = .ok (.getfield 22, 3) := by decide +kernel
theorem dX0_ran_4 : decode cX0_ran 4 = .ok (.ireturn, 1) := by decide +kernel
theorem dX0_traced_0 : decode cX0_traced 0 = .ok (.aload_n 0, 1) := by decide +kernel
theorem dX0_traced_1 : decode cX0_traced 1 = .ok (.getfield 22, 3) := by decide +kernel
theorem dX0_traced_4 : decode cX0_traced 4 = .ok (.bipush 24, 2) := by decide +kernel
theorem dX0_traced_6 : decode cX0_traced 6 = .ok (.invokestatic 45, 3) := by decide +kernel
theorem dX0_traced_9 : decode cX0_traced 9 = .ok (.ireturn, 1) := by decide +kernel
theorem dX0_tracedAt_0 : decode cX0_tracedAt 0 = .ok (.iload_n 1, 1) := by decide +kernel
theorem dX0_tracedAt_1 : decode cX0_tracedAt 1 = .ok (.ifCond .lt 20, 3) := by decide +kernel
theorem dX0_tracedAt_4 : decode cX0_tracedAt 4 = .ok (.iload_n 1, 1) := by decide +kernel
theorem dX0_tracedAt_5 : decode cX0_tracedAt 5 = .ok (.aload_n 0, 1) := by decide +kernel
theorem dX0_tracedAt_6 : decode cX0_tracedAt 6 = .ok (.invokevirtual 51, 3) := by decide +kernel
theorem dX0_tracedAt_9 : decode cX0_tracedAt 9 = .ok (.if_icmp .ge 12, 3) := by decide +kernel
theorem dX0_tracedAt_12 : decode cX0_tracedAt 12 = .ok (.aload_n 0, 1) := by decide +kernel
theorem dX0_tracedAt_13 : decode cX0_tracedAt 13 = .ok (.getfield 19, 3) := by decide +kernel
theorem dX0_tracedAt_16 : decode cX0_tracedAt 16 = .ok (.iload_n 1, 1) := by decide +kernel
theorem dX0_tracedAt_17 : decode cX0_tracedAt 17 = .ok (.iaload, 1) := by decide +kernel
theorem dX0_tracedAt_18 : decode cX0_tracedAt 18 = .ok (.goto 4, 3) := by decide +kernel
theorem dX0_tracedAt_21 : decode cX0_tracedAt 21 = .ok (.iconst (-1), 1) := by decide +kernel
theorem dX0_tracedAt_22 : decode cX0_tracedAt 22 = .ok (.ireturn, 1) := by decide +kernel
theorem dX0_perform_0 : decode cX0_perform 0 = .ok (.aload_n 0, 1) := by decide +kernel
theorem dX0_perform_1 : decode cX0_perform 1 = .ok (.iconst 0, 1) := by decide +kernel
theorem dX0_perform_2 : decode cX0_perform 2 = .ok (.putfield 22, 3) := by decide +kernel
theorem dX0_perform_5 : decode cX0_perform 5 = .ok (.aload_n 0, 1) := by decide +kernel
theorem dX0_perform_6 : decode cX0_perform 6 = .ok (.iload_n 1, 1) := by decide +kernel
theorem dX0_perform_7 : decode cX0_perform 7 = .ok (.invokevirtual 42, 3) := by decide +kernel
theorem dX0_perform_10 : decode cX0_perform 10 = .ok (.ifCond .eq 12, 3) := by decide +kernel
theorem dX0_perform_13 : decode cX0_perform 13 = .ok (.iload_n 2, 1) := by decide +kernel
theorem dX0_perform_14 : decode cX0_perform 14 = .ok (.ifCond .lt 8, 3) := by decide +kernel
theorem dX0_perform_17 : decode cX0_perform 17 = .ok (.iload_n 2, 1) := by decide +kernel
theorem dX0_perform_18 : decode cX0_perform 18 = .ok (.iconst 4, 1) := by decide +kernel
theorem dX0_perform_19 : decode cX0_perform 19 = .ok (.if_icmp .lt 5, 3) := by decide +kernel
theorem dX0_perform_22 : decode cX0_perform 22 = .ok (.iconst 0, 1) := by decide +kernel
theorem dX0_perform_23 : decode cX0_perform 23 = .ok (.ireturn, 1) := by decide +kernel
theorem dX0_perform_24 : decode cX0_perform 24 = .ok (.aload_n 0, 1) := by decide +kernel
theorem dX0_perform_25 : decode cX0_perform 25 = .ok (.iload_n 1, 1) := by decide +kernel
theorem dX0_perform_26 : decode cX0_perform 26 = .ok (.putfield 25, 3) := by decide +kernel
theorem dX0_perform_29 : decode cX0_perform 29 = .ok (.aload_n 0, 1) := by decide +kernel
theorem dX0_perform_30 : decode cX0_perform 30 = .ok (.aload_n 0, 1) := by decide +kernel
theorem dX0_perform_31 : decode cX0_perform 31 = .ok (.getfield 11, 3) := by decide +kernel
theorem dX0_perform_34 : decode cX0_perform 34 = .ok (.iload_n 1, 1) := by decide +kernel
theorem dX0_perform_35 : decode cX0_perform 35 = .ok (.iaload, 1) := by decide +kernel
theorem dX0_perform_36 : decode cX0_perform 36 = .ok (.putfield 28, 3) := by decide +kernel
theorem dX0_perform_39 : decode cX0_perform 39 = .ok (.aload_n 0, 1) := by decide +kernel
theorem dX0_perform_40 : decode cX0_perform 40 = .ok (.aload_n 0, 1) := by decide +kernel
theorem dX0_perform_41 : decode cX0_perform 41 = .ok (.getfield 28, 3) := by decide +kernel
theorem dX0_perform_44 : decode cX0_perform 44 = .ok (.iload_n 2, 1) := by decide +kernel
theorem dX0_perform_45 : decode cX0_perform 45 = .ok (.iload_n 3, 1) := by decide +kernel
theorem dX0_perform_46 : decode cX0_perform 46 = .ok (.iconst 0, 1) := by decide +kernel
theorem dX0_perform_47 : decode cX0_perform 47 = .ok (.invokevirtual 54, 3) := by decide +kernel
theorem dX0_perform_50 : decode cX0_perform 50 = .ok (.ireturn, 1) := by decide +kernel
theorem dX0_holderFrom_0 : decode cX0_holderFrom 0 = .ok (.iload_n 0, 1) := by decide +kernel
theorem dX0_holderFrom_1 : decode cX0_holderFrom 1 = .ok (.istore_n 2, 1) := by decide +kernel
theorem dX0_holderFrom_2 : decode cX0_holderFrom 2 = .ok (.iconst 0, 1) := by decide +kernel
theorem dX0_holderFrom_3 : decode cX0_holderFrom 3 = .ok (.istore_n 3, 1) := by decide +kernel
theorem dX0_holderFrom_4 : decode cX0_holderFrom 4 = .ok (.iload_n 3, 1) := by decide +kernel
theorem dX0_holderFrom_5 : decode cX0_holderFrom 5 = .ok (.bipush 8, 2) := by decide +kernel
theorem dX0_holderFrom_7 : decode cX0_holderFrom 7 = .ok (.if_icmp .ge 36, 3) := by decide +kernel
theorem dX0_holderFrom_10 : decode cX0_holderFrom 10 = .ok (.iload_n 2, 1) := by decide +kernel
theorem dX0_holderFrom_11 : decode cX0_holderFrom 11 = .ok (.invokestatic 31, 3) := by decide +kernel
theorem dX0_holderFrom_14 : decode cX0_holderFrom 14 = .ok (.ifCond .eq 29, 3) := by decide +kernel
theorem dX0_holderFrom_17 : decode cX0_holderFrom 17 = .ok (.getstatic 58, 3) := by decide +kernel
theorem dX0_holderFrom_20 : decode cX0_holderFrom 20 = .ok (.iconst 4, 1) := by decide +kernel
theorem dX0_holderFrom_21 : decode cX0_holderFrom 21 = .ok (.iload_n 2, 1) := by decide +kernel
theorem dX0_holderFrom_22 : decode cX0_holderFrom 22 = .ok (.imul, 1) := by decide +kernel
theorem dX0_holderFrom_23 : decode cX0_holderFrom 23 = .ok (.iload_n 1, 1) := by decide +kernel
theorem dX0_holderFrom_24 : decode cX0_holderFrom 24 = .ok (.iadd, 1) := by decide +kernel
theorem dX0_holderFrom_25 : decode cX0_holderFrom 25 = .ok (.iaload, 1) := by decide +kernel
theorem dX0_holderFrom_26 : decode cX0_holderFrom 26 = .ok (.ifCond .eq 5, 3) := by decide +kernel
theorem dX0_holderFrom_29 : decode cX0_holderFrom 29 = .ok (.iload_n 2, 1) := by decide +kernel
theorem dX0_holderFrom_30 : decode cX0_holderFrom 30 = .ok (.ireturn, 1) := by decide +kernel
theorem dX0_holderFrom_31 : decode cX0_holderFrom 31 = .ok (.getstatic 35, 3) := by decide +kernel
theorem dX0_holderFrom_34 : decode cX0_holderFrom 34 = .ok (.iload_n 2, 1) := by decide +kernel
theorem dX0_holderFrom_35 : decode cX0_holderFrom 35 = .ok (.iaload, 1) := by decide +kernel
theorem dX0_holderFrom_36 : decode cX0_holderFrom 36 = .ok (.istore_n 2, 1) := by decide +kernel
theorem dX0_holderFrom_37 : decode cX0_holderFrom 37 = .ok (.iinc 3 1, 3) := by decide +kernel
theorem dX0_holderFrom_40 : decode cX0_holderFrom 40 = .ok (.goto (-36), 3) := by decide +kernel
theorem dX0_holderFrom_43 : decode cX0_holderFrom 43 = .ok (.iconst (-1), 1) := by decide +kernel
theorem dX0_holderFrom_44 : decode cX0_holderFrom 44 = .ok (.ireturn, 1) := by decide +kernel
theorem dX0_noteRun_0 : decode cX0_noteRun 0 = .ok (.aload_n 0, 1) := by decide +kernel
theorem dX0_noteRun_1 : decode cX0_noteRun 1 = .ok (.getfield 22, 3) := by decide +kernel
theorem dX0_noteRun_4 : decode cX0_noteRun 4 = .ok (.bipush 24, 2) := by decide +kernel
theorem dX0_noteRun_6 : decode cX0_noteRun 6 = .ok (.if_icmp .ge 13, 3) := by decide +kernel
theorem dX0_noteRun_9 : decode cX0_noteRun 9 = .ok (.aload_n 0, 1) := by decide +kernel
theorem dX0_noteRun_10 : decode cX0_noteRun 10 = .ok (.getfield 19, 3) := by decide +kernel
theorem dX0_noteRun_13 : decode cX0_noteRun 13 = .ok (.aload_n 0, 1) := by decide +kernel
theorem dX0_noteRun_14 : decode cX0_noteRun 14 = .ok (.getfield 22, 3) := by decide +kernel
theorem dX0_noteRun_17 : decode cX0_noteRun 17 = .ok (.iload_n 1, 1) := by decide +kernel
theorem dX0_noteRun_18 : decode cX0_noteRun 18 = .ok (.iastore, 1) := by decide +kernel
theorem dX0_noteRun_19 : decode cX0_noteRun 19 = .ok (.aload_n 0, 1) := by decide +kernel
theorem dX0_noteRun_20 : decode cX0_noteRun 20 = .ok (.dup, 1) := by decide +kernel
theorem dX0_noteRun_21 : decode cX0_noteRun 21 = .ok (.getfield 22, 3) := by decide +kernel
theorem dX0_noteRun_24 : decode cX0_noteRun 24 = .ok (.iconst 1, 1) := by decide +kernel
theorem dX0_noteRun_25 : decode cX0_noteRun 25 = .ok (.iadd, 1) := by decide +kernel
theorem dX0_noteRun_26 : decode cX0_noteRun 26 = .ok (.putfield 22, 3) := by decide +kernel
theorem dX0_noteRun_29 : decode cX0_noteRun 29 = .ok (.return_, 1) := by decide +kernel
theorem dX0_runFrom_0 : decode cX0_runFrom 0 = .ok (.iload_n 1, 1) := by decide +kernel
theorem dX0_runFrom_1 : decode cX0_runFrom 1 = .ok (.iload_n 2, 1) := by decide +kernel
theorem dX0_runFrom_2 : decode cX0_runFrom 2 = .ok (.invokestatic 61, 3) := by decide +kernel
theorem dX0_runFrom_5 : decode cX0_runFrom 5 = .ok (.istore 5, 2) := by decide +kernel
theorem dX0_runFrom_7 : decode cX0_runFrom 7 = .ok (.iload 5, 2) := by decide +kernel
theorem dX0_runFrom_9 : decode cX0_runFrom 9 = .ok (.ifCond .lt 10, 3) := by decide +kernel
theorem dX0_runFrom_12 : decode cX0_runFrom 12 = .ok (.iload 4, 2) := by decide +kernel
theorem dX0_runFrom_14 : decode cX0_runFrom 14 = .ok (.bipush 40, 2) := by decide +kernel
theorem dX0_runFrom_16 : decode cX0_runFrom 16 = .ok (.if_icmp .le 5, 3) := by decide +kernel
theorem dX0_runFrom_19 : decode cX0_runFrom 19 = .ok (.iconst 0, 1) := by decide +kernel
theorem dX0_runFrom_20 : decode cX0_runFrom 20 = .ok (.ireturn, 1) := by decide +kernel
theorem dX0_runFrom_21 : decode cX0_runFrom 21 = .ok (.getstatic 58, 3) := by decide +kernel
theorem dX0_runFrom_24 : decode cX0_runFrom 24 = .ok (.iconst 4, 1) := by decide +kernel
theorem dX0_runFrom_25 : decode cX0_runFrom 25 = .ok (.iload 5, 2) := by decide +kernel
theorem dX0_runFrom_27 : decode cX0_runFrom 27 = .ok (.imul, 1) := by decide +kernel
theorem dX0_runFrom_28 : decode cX0_runFrom 28 = .ok (.iload_n 2, 1) := by decide +kernel
theorem dX0_runFrom_29 : decode cX0_runFrom 29 = .ok (.iadd, 1) := by decide +kernel
theorem dX0_runFrom_30 : decode cX0_runFrom 30 = .ok (.iaload, 1) := by decide +kernel
theorem dX0_runFrom_31 : decode cX0_runFrom 31 = .ok (.istore 6, 2) := by decide +kernel
theorem dX0_runFrom_33 : decode cX0_runFrom 33 = .ok (.getstatic 35, 3) := by decide +kernel
theorem dX0_runFrom_36 : decode cX0_runFrom 36 = .ok (.iload 5, 2) := by decide +kernel
theorem dX0_runFrom_38 : decode cX0_runFrom 38 = .ok (.iaload, 1) := by decide +kernel
theorem dX0_runFrom_39 : decode cX0_runFrom 39 = .ok (.istore 7, 2) := by decide +kernel
theorem dX0_runFrom_41 : decode cX0_runFrom 41 = .ok (.iload 4, 2) := by decide +kernel
theorem dX0_runFrom_43 : decode cX0_runFrom 43 = .ok (.iconst 1, 1) := by decide +kernel
theorem dX0_runFrom_44 : decode cX0_runFrom 44 = .ok (.iadd, 1) := by decide +kernel
theorem dX0_runFrom_45 : decode cX0_runFrom 45 = .ok (.istore 8, 2) := by decide +kernel
theorem dX0_runFrom_47 : decode cX0_runFrom 47 = .ok (.aload_n 0, 1) := by decide +kernel
theorem dX0_runFrom_48 : decode cX0_runFrom 48 = .ok (.iload 6, 2) := by decide +kernel
theorem dX0_runFrom_50 : decode cX0_runFrom 50 = .ok (.invokevirtual 64, 3) := by decide +kernel
theorem dX0_runFrom_53 : decode cX0_runFrom 53 = .ok (.iload 6, 2) := by decide +kernel
theorem dX0_runFrom_55 : decode cX0_runFrom 55 = .ok (.lookupswitch 327 #[(1, 121), (2, 128), (10, 154), (11, 169), (20, 176), (30, 189), (40, 201), (41, 214), (50, 227), (60, 240), (61, 264), (70, 277), (80, 290), (81, 314)], 121) := by decide +kernel
theorem dX0_runFrom_176 : decode cX0_runFrom 176 = .ok (.iload_n 3, 1) := by decide +kernel
theorem dX0_runFrom_177 : decode cX0_runFrom 177 = .ok (.aload_n 0, 1) := by decide +kernel
theorem dX0_runFrom_178 : decode cX0_runFrom 178 = .ok (.getfield 25, 3) := by decide +kernel
theorem dX0_runFrom_181 : decode cX0_runFrom 181 = .ok (.iadd, 1) := by decide +kernel
theorem dX0_runFrom_182 : decode cX0_runFrom 182 = .ok (.ireturn, 1) := by decide +kernel
theorem dX0_runFrom_183 : decode cX0_runFrom 183 = .ok (.aload_n 0, 1) := by decide +kernel
theorem dX0_runFrom_184 : decode cX0_runFrom 184 = .ok (.aload_n 0, 1) := by decide +kernel
theorem dX0_runFrom_185 : decode cX0_runFrom 185 = .ok (.getfield 28, 3) := by decide +kernel
theorem dX0_runFrom_188 : decode cX0_runFrom 188 = .ok (.iconst 1, 1) := by decide +kernel
theorem dX0_runFrom_189 : decode cX0_runFrom 189 = .ok (.iload_n 3, 1) := by decide +kernel
theorem dX0_runFrom_190 : decode cX0_runFrom 190 = .ok (.iload 8, 2) := by decide +kernel
theorem dX0_runFrom_192 : decode cX0_runFrom 192 = .ok (.invokevirtual 54, 3) := by decide +kernel
theorem dX0_runFrom_195 : decode cX0_runFrom 195 = .ok (.aload_n 0, 1) := by decide +kernel
theorem dX0_runFrom_196 : decode cX0_runFrom 196 = .ok (.aload_n 0, 1) := by decide +kernel
theorem dX0_runFrom_197 : decode cX0_runFrom 197 = .ok (.getfield 28, 3) := by decide +kernel
theorem dX0_runFrom_200 : decode cX0_runFrom 200 = .ok (.iconst 2, 1) := by decide +kernel
theorem dX0_runFrom_201 : decode cX0_runFrom 201 = .ok (.iconst 1, 1) := by decide +kernel
theorem dX0_runFrom_202 : decode cX0_runFrom 202 = .ok (.iload 8, 2) := by decide +kernel
theorem dX0_runFrom_204 : decode cX0_runFrom 204 = .ok (.invokevirtual 54, 3) := by decide +kernel
theorem dX0_runFrom_207 : decode cX0_runFrom 207 = .ok (.isub, 1) := by decide +kernel
theorem dX0_runFrom_208 : decode cX0_runFrom 208 = .ok (.ireturn, 1) := by decide +kernel
theorem dX0_runFrom_209 : decode cX0_runFrom 209 = .ok (.aload_n 0, 1) := by decide +kernel
theorem dX0_runFrom_210 : decode cX0_runFrom 210 = .ok (.aload_n 0, 1) := by decide +kernel
theorem dX0_runFrom_211 : decode cX0_runFrom 211 = .ok (.getfield 28, 3) := by decide +kernel
theorem dX0_runFrom_214 : decode cX0_runFrom 214 = .ok (.iconst 0, 1) := by decide +kernel
theorem dX0_runFrom_215 : decode cX0_runFrom 215 = .ok (.iload_n 3, 1) := by decide +kernel
theorem dX0_runFrom_216 : decode cX0_runFrom 216 = .ok (.iload 8, 2) := by decide +kernel
theorem dX0_runFrom_218 : decode cX0_runFrom 218 = .ok (.invokevirtual 54, 3) := by decide +kernel
theorem dX0_runFrom_221 : decode cX0_runFrom 221 = .ok (.iconst 2, 1) := by decide +kernel
theorem dX0_runFrom_222 : decode cX0_runFrom 222 = .ok (.imul, 1) := by decide +kernel
theorem dX0_runFrom_223 : decode cX0_runFrom 223 = .ok (.ireturn, 1) := by decide +kernel
theorem dX0_runFrom_224 : decode cX0_runFrom 224 = .ok (.iload_n 3, 1) := by decide +kernel
theorem dX0_runFrom_225 : decode cX0_runFrom 225 = .ok (.aload_n 0, 1) := by decide +kernel
theorem dX0_runFrom_226 : decode cX0_runFrom 226 = .ok (.getfield 25, 3) := by decide +kernel
theorem dX0_runFrom_229 : decode cX0_runFrom 229 = .ok (.ixor, 1) := by decide +kernel
theorem dX0_runFrom_230 : decode cX0_runFrom 230 = .ok (.ireturn, 1) := by decide +kernel
theorem dX0_runFrom_231 : decode cX0_runFrom 231 = .ok (.aload_n 0, 1) := by decide +kernel
theorem dX0_runFrom_232 : decode cX0_runFrom 232 = .ok (.iload 7, 2) := by decide +kernel
theorem dX0_runFrom_234 : decode cX0_runFrom 234 = .ok (.iconst 0, 1) := by decide +kernel
theorem dX0_runFrom_235 : decode cX0_runFrom 235 = .ok (.iload_n 3, 1) := by decide +kernel
theorem dX0_runFrom_236 : decode cX0_runFrom 236 = .ok (.iload 8, 2) := by decide +kernel
theorem dX0_runFrom_238 : decode cX0_runFrom 238 = .ok (.invokevirtual 54, 3) := by decide +kernel
theorem dX0_runFrom_241 : decode cX0_runFrom 241 = .ok (.iconst 3, 1) := by decide +kernel
theorem dX0_runFrom_242 : decode cX0_runFrom 242 = .ok (.iadd, 1) := by decide +kernel
theorem dX0_runFrom_243 : decode cX0_runFrom 243 = .ok (.ireturn, 1) := by decide +kernel
theorem dX0_runFrom_244 : decode cX0_runFrom 244 = .ok (.aload_n 0, 1) := by decide +kernel
theorem dX0_runFrom_245 : decode cX0_runFrom 245 = .ok (.iload 7, 2) := by decide +kernel
theorem dX0_runFrom_247 : decode cX0_runFrom 247 = .ok (.iconst 1, 1) := by decide +kernel
theorem dX0_runFrom_248 : decode cX0_runFrom 248 = .ok (.iload_n 3, 1) := by decide +kernel
theorem dX0_runFrom_249 : decode cX0_runFrom 249 = .ok (.iload 8, 2) := by decide +kernel
theorem dX0_runFrom_251 : decode cX0_runFrom 251 = .ok (.invokevirtual 54, 3) := by decide +kernel
theorem dX0_runFrom_254 : decode cX0_runFrom 254 = .ok (.ineg, 1) := by decide +kernel
theorem dX0_runFrom_255 : decode cX0_runFrom 255 = .ok (.ireturn, 1) := by decide +kernel
theorem dX0_runFrom_256 : decode cX0_runFrom 256 = .ok (.aload_n 0, 1) := by decide +kernel
theorem dX0_runFrom_257 : decode cX0_runFrom 257 = .ok (.iload 7, 2) := by decide +kernel
theorem dX0_runFrom_259 : decode cX0_runFrom 259 = .ok (.iconst 2, 1) := by decide +kernel
theorem dX0_runFrom_260 : decode cX0_runFrom 260 = .ok (.iload_n 3, 1) := by decide +kernel
theorem dX0_runFrom_261 : decode cX0_runFrom 261 = .ok (.iload 8, 2) := by decide +kernel
theorem dX0_runFrom_263 : decode cX0_runFrom 263 = .ok (.invokevirtual 54, 3) := by decide +kernel
theorem dX0_runFrom_266 : decode cX0_runFrom 266 = .ok (.iconst 3, 1) := by decide +kernel
theorem dX0_runFrom_267 : decode cX0_runFrom 267 = .ok (.imul, 1) := by decide +kernel
theorem dX0_runFrom_268 : decode cX0_runFrom 268 = .ok (.ireturn, 1) := by decide +kernel
theorem dX0_runFrom_269 : decode cX0_runFrom 269 = .ok (.aload_n 0, 1) := by decide +kernel
theorem dX0_runFrom_270 : decode cX0_runFrom 270 = .ok (.iload 7, 2) := by decide +kernel
theorem dX0_runFrom_272 : decode cX0_runFrom 272 = .ok (.iconst 1, 1) := by decide +kernel
theorem dX0_runFrom_273 : decode cX0_runFrom 273 = .ok (.iload_n 3, 1) := by decide +kernel
theorem dX0_runFrom_274 : decode cX0_runFrom 274 = .ok (.iconst 1, 1) := by decide +kernel
theorem dX0_runFrom_275 : decode cX0_runFrom 275 = .ok (.iadd, 1) := by decide +kernel
theorem dX0_runFrom_276 : decode cX0_runFrom 276 = .ok (.iload 8, 2) := by decide +kernel
theorem dX0_runFrom_278 : decode cX0_runFrom 278 = .ok (.invokevirtual 54, 3) := by decide +kernel
theorem dX0_runFrom_281 : decode cX0_runFrom 281 = .ok (.ireturn, 1) := by decide +kernel
theorem dX0_runFrom_282 : decode cX0_runFrom 282 = .ok (.aload_n 0, 1) := by decide +kernel
theorem dX0_runFrom_283 : decode cX0_runFrom 283 = .ok (.iload 7, 2) := by decide +kernel
theorem dX0_runFrom_285 : decode cX0_runFrom 285 = .ok (.iconst 3, 1) := by decide +kernel
theorem dX0_runFrom_286 : decode cX0_runFrom 286 = .ok (.iload_n 3, 1) := by decide +kernel
theorem dX0_runFrom_287 : decode cX0_runFrom 287 = .ok (.iload 8, 2) := by decide +kernel
theorem dX0_runFrom_289 : decode cX0_runFrom 289 = .ok (.invokevirtual 54, 3) := by decide +kernel
theorem dX0_runFrom_292 : decode cX0_runFrom 292 = .ok (.iconst 5, 1) := by decide +kernel
theorem dX0_runFrom_293 : decode cX0_runFrom 293 = .ok (.ixor, 1) := by decide +kernel
theorem dX0_runFrom_294 : decode cX0_runFrom 294 = .ok (.ireturn, 1) := by decide +kernel
theorem dX0_runFrom_295 : decode cX0_runFrom 295 = .ok (.aload_n 0, 1) := by decide +kernel
theorem dX0_runFrom_296 : decode cX0_runFrom 296 = .ok (.iload 7, 2) := by decide +kernel
theorem dX0_runFrom_298 : decode cX0_runFrom 298 = .ok (.iconst 2, 1) := by decide +kernel
theorem dX0_runFrom_299 : decode cX0_runFrom 299 = .ok (.iload_n 3, 1) := by decide +kernel
theorem dX0_runFrom_300 : decode cX0_runFrom 300 = .ok (.iload 8, 2) := by decide +kernel
theorem dX0_runFrom_302 : decode cX0_runFrom 302 = .ok (.invokevirtual 54, 3) := by decide +kernel
theorem dX0_runFrom_305 : decode cX0_runFrom 305 = .ok (.aload_n 0, 1) := by decide +kernel
theorem dX0_runFrom_306 : decode cX0_runFrom 306 = .ok (.aload_n 0, 1) := by decide +kernel
theorem dX0_runFrom_307 : decode cX0_runFrom 307 = .ok (.getfield 28, 3) := by decide +kernel
theorem dX0_runFrom_310 : decode cX0_runFrom 310 = .ok (.iconst 0, 1) := by decide +kernel
theorem dX0_runFrom_311 : decode cX0_runFrom 311 = .ok (.iconst 2, 1) := by decide +kernel
theorem dX0_runFrom_312 : decode cX0_runFrom 312 = .ok (.iload 8, 2) := by decide +kernel
theorem dX0_runFrom_314 : decode cX0_runFrom 314 = .ok (.invokevirtual 54, 3) := by decide +kernel
theorem dX0_runFrom_317 : decode cX0_runFrom 317 = .ok (.isub, 1) := by decide +kernel
theorem dX0_runFrom_318 : decode cX0_runFrom 318 = .ok (.ireturn, 1) := by decide +kernel
theorem dX0_runFrom_319 : decode cX0_runFrom 319 = .ok (.aload_n 0, 1) := by decide +kernel
theorem dX0_runFrom_320 : decode cX0_runFrom 320 = .ok (.iload 7, 2) := by decide +kernel
theorem dX0_runFrom_322 : decode cX0_runFrom 322 = .ok (.iconst 3, 1) := by decide +kernel
theorem dX0_runFrom_323 : decode cX0_runFrom 323 = .ok (.iload_n 3, 1) := by decide +kernel
theorem dX0_runFrom_324 : decode cX0_runFrom 324 = .ok (.iload 8, 2) := by decide +kernel
theorem dX0_runFrom_326 : decode cX0_runFrom 326 = .ok (.invokevirtual 54, 3) := by decide +kernel
theorem dX0_runFrom_329 : decode cX0_runFrom 329 = .ok (.iconst 1, 1) := by decide +kernel
theorem dX0_runFrom_330 : decode cX0_runFrom 330 = .ok (.iadd, 1) := by decide +kernel
theorem dX0_runFrom_331 : decode cX0_runFrom 331 = .ok (.ireturn, 1) := by decide +kernel
theorem dX0_runFrom_332 : decode cX0_runFrom 332 = .ok (.aload_n 0, 1) := by decide +kernel
theorem dX0_runFrom_333 : decode cX0_runFrom 333 = .ok (.iload 7, 2) := by decide +kernel
theorem dX0_runFrom_335 : decode cX0_runFrom 335 = .ok (.iconst 0, 1) := by decide +kernel
theorem dX0_runFrom_336 : decode cX0_runFrom 336 = .ok (.iload_n 3, 1) := by decide +kernel
theorem dX0_runFrom_337 : decode cX0_runFrom 337 = .ok (.iload 8, 2) := by decide +kernel
theorem dX0_runFrom_339 : decode cX0_runFrom 339 = .ok (.invokevirtual 54, 3) := by decide +kernel
theorem dX0_runFrom_342 : decode cX0_runFrom 342 = .ok (.iconst 2, 1) := by decide +kernel
theorem dX0_runFrom_343 : decode cX0_runFrom 343 = .ok (.imul, 1) := by decide +kernel
theorem dX0_runFrom_344 : decode cX0_runFrom 344 = .ok (.ireturn, 1) := by decide +kernel
theorem dX0_runFrom_345 : decode cX0_runFrom 345 = .ok (.aload_n 0, 1) := by decide +kernel
theorem dX0_runFrom_346 : decode cX0_runFrom 346 = .ok (.iload 7, 2) := by decide +kernel
theorem dX0_runFrom_348 : decode cX0_runFrom 348 = .ok (.iconst 1, 1) := by decide +kernel
theorem dX0_runFrom_349 : decode cX0_runFrom 349 = .ok (.iload_n 3, 1) := by decide +kernel
theorem dX0_runFrom_350 : decode cX0_runFrom 350 = .ok (.iload 8, 2) := by decide +kernel
theorem dX0_runFrom_352 : decode cX0_runFrom 352 = .ok (.invokevirtual 54, 3) := by decide +kernel
theorem dX0_runFrom_355 : decode cX0_runFrom 355 = .ok (.aload_n 0, 1) := by decide +kernel
theorem dX0_runFrom_356 : decode cX0_runFrom 356 = .ok (.aload_n 0, 1) := by decide +kernel
theorem dX0_runFrom_357 : decode cX0_runFrom 357 = .ok (.getfield 28, 3) := by decide +kernel
theorem dX0_runFrom_360 : decode cX0_runFrom 360 = .ok (.iconst 2, 1) := by decide +kernel
theorem dX0_runFrom_361 : decode cX0_runFrom 361 = .ok (.iconst 2, 1) := by decide +kernel
theorem dX0_runFrom_362 : decode cX0_runFrom 362 = .ok (.iload 8, 2) := by decide +kernel
theorem dX0_runFrom_364 : decode cX0_runFrom 364 = .ok (.invokevirtual 54, 3) := by decide +kernel
theorem dX0_runFrom_367 : decode cX0_runFrom 367 = .ok (.iadd, 1) := by decide +kernel
theorem dX0_runFrom_368 : decode cX0_runFrom 368 = .ok (.ireturn, 1) := by decide +kernel
theorem dX0_runFrom_369 : decode cX0_runFrom 369 = .ok (.aload_n 0, 1) := by decide +kernel
theorem dX0_runFrom_370 : decode cX0_runFrom 370 = .ok (.iload 7, 2) := by decide +kernel
theorem dX0_runFrom_372 : decode cX0_runFrom 372 = .ok (.iconst 0, 1) := by decide +kernel
theorem dX0_runFrom_373 : decode cX0_runFrom 373 = .ok (.iload_n 3, 1) := by decide +kernel
theorem dX0_runFrom_374 : decode cX0_runFrom 374 = .ok (.iload 8, 2) := by decide +kernel
theorem dX0_runFrom_376 : decode cX0_runFrom 376 = .ok (.invokevirtual 54, 3) := by decide +kernel
theorem dX0_runFrom_379 : decode cX0_runFrom 379 = .ok (.iconst 1, 1) := by decide +kernel
theorem dX0_runFrom_380 : decode cX0_runFrom 380 = .ok (.isub, 1) := by decide +kernel
theorem dX0_runFrom_381 : decode cX0_runFrom 381 = .ok (.ireturn, 1) := by decide +kernel
theorem dX0_runFrom_382 : decode cX0_runFrom 382 = .ok (.iconst 0, 1) := by decide +kernel
theorem dX0_runFrom_383 : decode cX0_runFrom 383 = .ok (.ireturn, 1) := by decide +kernel
theorem dX1_init_0 : decode cX1_init 0 = .ok (.aload_n 0, 1) := by decide +kernel
theorem dX1_init_1 : decode cX1_init 1 = .ok (.invokespecial 3, 3) := by decide +kernel
theorem dX1_init_4 : decode cX1_init 4 = .ok (.aload_n 0, 1) := by decide +kernel
theorem dX1_init_5 : decode cX1_init 5 = .ok (.bipush 7, 2) := by decide +kernel
theorem dX1_init_7 : decode cX1_init 7 = .ok (.newarray .int, 2) := by decide +kernel
theorem dX1_init_9 : decode cX1_init 9 = .ok (.putfield 9, 3) := by decide +kernel
theorem dX1_init_12 : decode cX1_init 12 = .ok (.aload_n 0, 1) := by decide +kernel
theorem dX1_init_13 : decode cX1_init 13 = .ok (.iconst 0, 1) := by decide +kernel
theorem dX1_init_14 : decode cX1_init 14 = .ok (.putfield 15, 3) := by decide +kernel
theorem dX1_init_17 : decode cX1_init 17 = .ok (.iconst 0, 1) := by decide +kernel
theorem dX1_init_18 : decode cX1_init 18 = .ok (.istore_n 1, 1) := by decide +kernel
theorem dX1_init_19 : decode cX1_init 19 = .ok (.iload_n 1, 1) := by decide +kernel
theorem dX1_init_20 : decode cX1_init 20 = .ok (.bipush 7, 2) := by decide +kernel
theorem dX1_init_22 : decode cX1_init 22 = .ok (.if_icmp .ge 16, 3) := by decide +kernel
theorem dX1_init_25 : decode cX1_init 25 = .ok (.aload_n 0, 1) := by decide +kernel
theorem dX1_init_26 : decode cX1_init 26 = .ok (.getfield 9, 3) := by decide +kernel
theorem dX1_init_29 : decode cX1_init 29 = .ok (.iload_n 1, 1) := by decide +kernel
theorem dX1_init_30 : decode cX1_init 30 = .ok (.iconst (-1), 1) := by decide +kernel
theorem dX1_init_31 : decode cX1_init 31 = .ok (.iastore, 1) := by decide +kernel
theorem dX1_init_32 : decode cX1_init 32 = .ok (.iinc 1 1, 3) := by decide +kernel
theorem dX1_init_35 : decode cX1_init 35 = .ok (.goto (-16), 3) := by decide +kernel
theorem dX1_init_38 : decode cX1_init 38 = .ok (.return_, 1) := by decide +kernel
theorem dX1_isSeat_0 : decode cX1_isSeat 0 = .ok (.iload_n 0, 1) := by decide +kernel
theorem dX1_isSeat_1 : decode cX1_isSeat 1 = .ok (.ifCond .lt 13, 3) := by decide +kernel
theorem dX1_isSeat_4 : decode cX1_isSeat 4 = .ok (.iload_n 0, 1) := by decide +kernel
theorem dX1_isSeat_5 : decode cX1_isSeat 5 = .ok (.bipush 7, 2) := by decide +kernel
theorem dX1_isSeat_7 : decode cX1_isSeat 7 = .ok (.if_icmp .ge 7, 3) := by decide +kernel
theorem dX1_isSeat_10 : decode cX1_isSeat 10 = .ok (.iconst 1, 1) := by decide +kernel
theorem dX1_isSeat_11 : decode cX1_isSeat 11 = .ok (.goto 4, 3) := by decide +kernel
theorem dX1_isSeat_14 : decode cX1_isSeat 14 = .ok (.iconst 0, 1) := by decide +kernel
theorem dX1_isSeat_15 : decode cX1_isSeat 15 = .ok (.ireturn, 1) := by decide +kernel
theorem dX1_boundTo_0 : decode cX1_boundTo 0 = .ok (.iload_n 1, 1) := by decide +kernel
theorem dX1_boundTo_1 : decode cX1_boundTo 1 = .ok (.invokestatic 19, 3) := by decide +kernel
theorem dX1_boundTo_4 : decode cX1_boundTo 4 = .ok (.ifCond .eq 12, 3) := by decide +kernel
theorem dX1_boundTo_7 : decode cX1_boundTo 7 = .ok (.aload_n 0, 1) := by decide +kernel
theorem dX1_boundTo_8 : decode cX1_boundTo 8 = .ok (.getfield 9, 3) := by decide +kernel
theorem dX1_boundTo_11 : decode cX1_boundTo 11 = .ok (.iload_n 1, 1) := by decide +kernel
theorem dX1_boundTo_12 : decode cX1_boundTo 12 = .ok (.iaload, 1) := by decide +kernel
theorem dX1_boundTo_13 : decode cX1_boundTo 13 = .ok (.goto 4, 3) := by decide +kernel
theorem dX1_boundTo_16 : decode cX1_boundTo 16 = .ok (.iconst (-1), 1) := by decide +kernel
theorem dX1_boundTo_17 : decode cX1_boundTo 17 = .ok (.ireturn, 1) := by decide +kernel
theorem dX1_isFree_0 : decode cX1_isFree 0 = .ok (.iload_n 1, 1) := by decide +kernel
theorem dX1_isFree_1 : decode cX1_isFree 1 = .ok (.invokestatic 19, 3) := by decide +kernel
theorem dX1_isFree_4 : decode cX1_isFree 4 = .ok (.ifCond .eq 17, 3) := by decide +kernel
theorem dX1_isFree_7 : decode cX1_isFree 7 = .ok (.aload_n 0, 1) := by decide +kernel
theorem dX1_isFree_8 : decode cX1_isFree 8 = .ok (.getfield 9, 3) := by decide +kernel
theorem dX1_isFree_11 : decode cX1_isFree 11 = .ok (.iload_n 1, 1) := by decide +kernel
theorem dX1_isFree_12 : decode cX1_isFree 12 = .ok (.iaload, 1) := by decide +kernel
theorem dX1_isFree_13 : decode cX1_isFree 13 = .ok (.iconst (-1), 1) := by decide +kernel
theorem dX1_isFree_14 : decode cX1_isFree 14 = .ok (.if_icmp .ne 7, 3) := by decide +kernel
theorem dX1_isFree_17 : decode cX1_isFree 17 = .ok (.iconst 1, 1) := by decide +kernel
theorem dX1_isFree_18 : decode cX1_isFree 18 = .ok (.goto 4, 3) := by decide +kernel
theorem dX1_isFree_21 : decode cX1_isFree 21 = .ok (.iconst 0, 1) := by decide +kernel
theorem dX1_isFree_22 : decode cX1_isFree 22 = .ok (.ireturn, 1) := by decide +kernel
theorem dX1_casesAhead_0 : decode cX1_casesAhead 0 = .ok (.aload_n 0, 1) := by decide +kernel
theorem dX1_casesAhead_1 : decode cX1_casesAhead 1 = .ok (.getfield 15, 3) := by decide +kernel
theorem dX1_casesAhead_4 : decode cX1_casesAhead 4 = .ok (.ireturn, 1) := by decide +kernel
theorem dX1_howManyBound_0 : decode cX1_howManyBound 0 = .ok (.iconst 0, 1) := by decide +kernel
theorem dX1_howManyBound_1 : decode cX1_howManyBound 1 = .ok (.istore_n 1, 1) := by decide +kernel
theorem dX1_howManyBound_2 : decode cX1_howManyBound 2 = .ok (.iconst 0, 1) := by decide +kernel
theorem dX1_howManyBound_3 : decode cX1_howManyBound 3 = .ok (.istore_n 2, 1) := by decide +kernel
theorem dX1_howManyBound_4 : decode cX1_howManyBound 4 = .ok (.iload_n 2, 1) := by decide +kernel
theorem dX1_howManyBound_5 : decode cX1_howManyBound 5 = .ok (.bipush 7, 2) := by decide +kernel
theorem dX1_howManyBound_7 : decode cX1_howManyBound 7 = .ok (.if_icmp .ge 22, 3) := by decide +kernel
theorem dX1_howManyBound_10 : decode cX1_howManyBound 10 = .ok (.aload_n 0, 1) := by decide +kernel
theorem dX1_howManyBound_11 : decode cX1_howManyBound 11 = .ok (.getfield 9, 3) := by decide +kernel
theorem dX1_howManyBound_14 : decode cX1_howManyBound 14 = .ok (.iload_n 2, 1) := by decide +kernel
theorem dX1_howManyBound_15 : decode cX1_howManyBound 15 = .ok (.iaload, 1) := by decide +kernel
theorem dX1_howManyBound_16 : decode cX1_howManyBound 16 = .ok (.iconst (-1), 1) := by decide +kernel
theorem dX1_howManyBound_17 : decode cX1_howManyBound 17 = .ok (.if_icmp .eq 6, 3) := by decide +kernel
theorem dX1_howManyBound_20 : decode cX1_howManyBound 20 = .ok (.iinc 1 1, 3) := by decide +kernel
theorem dX1_howManyBound_23 : decode cX1_howManyBound 23 = .ok (.iinc 2 1, 3) := by decide +kernel
theorem dX1_howManyBound_26 : decode cX1_howManyBound 26 = .ok (.goto (-22), 3) := by decide +kernel
theorem dX1_howManyBound_29 : decode cX1_howManyBound 29 = .ok (.iload_n 1, 1) := by decide +kernel
theorem dX1_howManyBound_30 : decode cX1_howManyBound 30 = .ok (.ireturn, 1) := by decide +kernel
theorem dX1_speakerFor_0 : decode cX1_speakerFor 0 = .ok (.iconst 0, 1) := by decide +kernel
theorem dX1_speakerFor_1 : decode cX1_speakerFor 1 = .ok (.istore_n 2, 1) := by decide +kernel
theorem dX1_speakerFor_2 : decode cX1_speakerFor 2 = .ok (.iload_n 2, 1) := by decide +kernel
theorem dX1_speakerFor_3 : decode cX1_speakerFor 3 = .ok (.bipush 7, 2) := by decide +kernel
theorem dX1_speakerFor_5 : decode cX1_speakerFor 5 = .ok (.if_icmp .ge 21, 3) := by decide +kernel
theorem dX1_speakerFor_8 : decode cX1_speakerFor 8 = .ok (.aload_n 0, 1) := by decide +kernel
theorem dX1_speakerFor_9 : decode cX1_speakerFor 9 = .ok (.getfield 9, 3) := by decide +kernel
theorem dX1_speakerFor_12 : decode cX1_speakerFor 12 = .ok (.iload_n 2, 1) := by decide +kernel
theorem dX1_speakerFor_13 : decode cX1_speakerFor 13 = .ok (.iaload, 1) := by decide +kernel
theorem dX1_speakerFor_14 : decode cX1_speakerFor 14 = .ok (.iload_n 1, 1) := by decide +kernel
theorem dX1_speakerFor_15 : decode cX1_speakerFor 15 = .ok (.if_icmp .ne 5, 3) := by decide +kernel
theorem dX1_speakerFor_18 : decode cX1_speakerFor 18 = .ok (.iload_n 2, 1) := by decide +kernel
theorem dX1_speakerFor_19 : decode cX1_speakerFor 19 = .ok (.ireturn, 1) := by decide +kernel
theorem dX1_speakerFor_20 : decode cX1_speakerFor 20 = .ok (.iinc 2 1, 3) := by decide +kernel
theorem dX1_speakerFor_23 : decode cX1_speakerFor 23 = .ok (.goto (-21), 3) := by decide +kernel
theorem dX1_speakerFor_26 : decode cX1_speakerFor 26 = .ok (.iload_n 1, 1) := by decide +kernel
theorem dX1_speakerFor_27 : decode cX1_speakerFor 27 = .ok (.ireturn, 1) := by decide +kernel
theorem dX1_setFree_0 : decode cX1_setFree 0 = .ok (.iload_n 1, 1) := by decide +kernel
theorem dX1_setFree_1 : decode cX1_setFree 1 = .ok (.invokestatic 19, 3) := by decide +kernel
theorem dX1_setFree_4 : decode cX1_setFree 4 = .ok (.ifCond .eq 10, 3) := by decide +kernel
theorem dX1_setFree_7 : decode cX1_setFree 7 = .ok (.aload_n 0, 1) := by decide +kernel
theorem dX1_setFree_8 : decode cX1_setFree 8 = .ok (.getfield 9, 3) := by decide +kernel
theorem dX1_setFree_11 : decode cX1_setFree 11 = .ok (.iload_n 1, 1) := by decide +kernel
theorem dX1_setFree_12 : decode cX1_setFree 12 = .ok (.iconst (-1), 1) := by decide +kernel
theorem dX1_setFree_13 : decode cX1_setFree 13 = .ok (.iastore, 1) := by decide +kernel
theorem dX1_setFree_14 : decode cX1_setFree 14 = .ok (.return_, 1) := by decide +kernel
theorem dX1_settle_0 : decode cX1_settle 0 = .ok (.iload_n 1, 1) := by decide +kernel
theorem dX1_settle_1 : decode cX1_settle 1 = .ok (.invokestatic 19, 3) := by decide +kernel
theorem dX1_settle_4 : decode cX1_settle 4 = .ok (.ifCond .eq 10, 3) := by decide +kernel
theorem dX1_settle_7 : decode cX1_settle 7 = .ok (.iload_n 2, 1) := by decide +kernel
theorem dX1_settle_8 : decode cX1_settle 8 = .ok (.invokestatic 19, 3) := by decide +kernel
theorem dX1_settle_11 : decode cX1_settle 11 = .ok (.ifCond .ne 4, 3) := by decide +kernel
theorem dX1_settle_14 : decode cX1_settle 14 = .ok (.return_, 1) := by decide +kernel
theorem dX1_settle_15 : decode cX1_settle 15 = .ok (.aload_n 0, 1) := by decide +kernel
theorem dX1_settle_16 : decode cX1_settle 16 = .ok (.iload_n 2, 1) := by decide +kernel
theorem dX1_settle_17 : decode cX1_settle 17 = .ok (.invokevirtual 23, 3) := by decide +kernel
theorem dX1_settle_20 : decode cX1_settle 20 = .ok (.istore 4, 2) := by decide +kernel
theorem dX1_settle_22 : decode cX1_settle 22 = .ok (.iload_n 3, 1) := by decide +kernel
theorem dX1_settle_23 : decode cX1_settle 23 = .ok (.ifCond .eq 22, 3) := by decide +kernel
theorem dX1_settle_26 : decode cX1_settle 26 = .ok (.aload_n 0, 1) := by decide +kernel
theorem dX1_settle_27 : decode cX1_settle 27 = .ok (.getfield 9, 3) := by decide +kernel
theorem dX1_settle_30 : decode cX1_settle 30 = .ok (.iload 4, 2) := by decide +kernel
theorem dX1_settle_32 : decode cX1_settle 32 = .ok (.iload 4, 2) := by decide +kernel
theorem dX1_settle_34 : decode cX1_settle 34 = .ok (.iastore, 1) := by decide +kernel
theorem dX1_settle_35 : decode cX1_settle 35 = .ok (.aload_n 0, 1) := by decide +kernel
theorem dX1_settle_36 : decode cX1_settle 36 = .ok (.getfield 9, 3) := by decide +kernel
theorem dX1_settle_39 : decode cX1_settle 39 = .ok (.iload_n 2, 1) := by decide +kernel
theorem dX1_settle_40 : decode cX1_settle 40 = .ok (.iconst (-1), 1) := by decide +kernel
theorem dX1_settle_41 : decode cX1_settle 41 = .ok (.iastore, 1) := by decide +kernel
theorem dX1_settle_42 : decode cX1_settle 42 = .ok (.goto 18, 3) := by decide +kernel
theorem dX1_settle_45 : decode cX1_settle 45 = .ok (.aload_n 0, 1) := by decide +kernel
theorem dX1_settle_46 : decode cX1_settle 46 = .ok (.getfield 9, 3) := by decide +kernel
theorem dX1_settle_49 : decode cX1_settle 49 = .ok (.iload 4, 2) := by decide +kernel
theorem dX1_settle_51 : decode cX1_settle 51 = .ok (.iconst (-1), 1) := by decide +kernel
theorem dX1_settle_52 : decode cX1_settle 52 = .ok (.iastore, 1) := by decide +kernel
theorem dX1_settle_53 : decode cX1_settle 53 = .ok (.aload_n 0, 1) := by decide +kernel
theorem dX1_settle_54 : decode cX1_settle 54 = .ok (.getfield 9, 3) := by decide +kernel
theorem dX1_settle_57 : decode cX1_settle 57 = .ok (.iload_n 1, 1) := by decide +kernel
theorem dX1_settle_58 : decode cX1_settle 58 = .ok (.iload_n 2, 1) := by decide +kernel
theorem dX1_settle_59 : decode cX1_settle 59 = .ok (.iastore, 1) := by decide +kernel
theorem dX1_settle_60 : decode cX1_settle 60 = .ok (.aload_n 0, 1) := by decide +kernel
theorem dX1_settle_61 : decode cX1_settle 61 = .ok (.dup, 1) := by decide +kernel
theorem dX1_settle_62 : decode cX1_settle 62 = .ok (.getfield 15, 3) := by decide +kernel
theorem dX1_settle_65 : decode cX1_settle 65 = .ok (.iconst 1, 1) := by decide +kernel
theorem dX1_settle_66 : decode cX1_settle 66 = .ok (.iadd, 1) := by decide +kernel
theorem dX1_settle_67 : decode cX1_settle 67 = .ok (.putfield 15, 3) := by decide +kernel
theorem dX1_settle_70 : decode cX1_settle 70 = .ok (.return_, 1) := by decide +kernel
theorem dX1_beginYear_0 : decode cX1_beginYear 0 = .ok (.iconst 0, 1) := by decide +kernel
theorem dX1_beginYear_1 : decode cX1_beginYear 1 = .ok (.istore_n 1, 1) := by decide +kernel
theorem dX1_beginYear_2 : decode cX1_beginYear 2 = .ok (.iload_n 1, 1) := by decide +kernel
theorem dX1_beginYear_3 : decode cX1_beginYear 3 = .ok (.bipush 7, 2) := by decide +kernel
theorem dX1_beginYear_5 : decode cX1_beginYear 5 = .ok (.if_icmp .ge 16, 3) := by decide +kernel
theorem dX1_beginYear_8 : decode cX1_beginYear 8 = .ok (.aload_n 0, 1) := by decide +kernel
theorem dX1_beginYear_9 : decode cX1_beginYear 9 = .ok (.getfield 9, 3) := by decide +kernel
theorem dX1_beginYear_12 : decode cX1_beginYear 12 = .ok (.iload_n 1, 1) := by decide +kernel
theorem dX1_beginYear_13 : decode cX1_beginYear 13 = .ok (.iconst (-1), 1) := by decide +kernel
theorem dX1_beginYear_14 : decode cX1_beginYear 14 = .ok (.iastore, 1) := by decide +kernel
theorem dX1_beginYear_15 : decode cX1_beginYear 15 = .ok (.iinc 1 1, 3) := by decide +kernel
theorem dX1_beginYear_18 : decode cX1_beginYear 18 = .ok (.goto (-16), 3) := by decide +kernel
theorem dX1_beginYear_21 : decode cX1_beginYear 21 = .ok (.aload_n 0, 1) := by decide +kernel
theorem dX1_beginYear_22 : decode cX1_beginYear 22 = .ok (.iconst 0, 1) := by decide +kernel
theorem dX1_beginYear_23 : decode cX1_beginYear 23 = .ok (.putfield 15, 3) := by decide +kernel
theorem dX1_beginYear_26 : decode cX1_beginYear 26 = .ok (.return_, 1) := by decide +kernel
theorem dX1_copyFrom_0 : decode cX1_copyFrom 0 = .ok (.aload_n 1, 1) := by decide +kernel
theorem dX1_copyFrom_1 : decode cX1_copyFrom 1 = .ok (.getfield 9, 3) := by decide +kernel
theorem dX1_copyFrom_4 : decode cX1_copyFrom 4 = .ok (.iconst 0, 1) := by decide +kernel
theorem dX1_copyFrom_5 : decode cX1_copyFrom 5 = .ok (.aload_n 0, 1) := by decide +kernel
theorem dX1_copyFrom_6 : decode cX1_copyFrom 6 = .ok (.getfield 9, 3) := by decide +kernel
theorem dX1_copyFrom_9 : decode cX1_copyFrom 9 = .ok (.iconst 0, 1) := by decide +kernel
theorem dX1_copyFrom_10 : decode cX1_copyFrom 10 = .ok (.bipush 7, 2) := by decide +kernel
theorem dX1_copyFrom_12 : decode cX1_copyFrom 12 = .ok (.invokestatic 27, 3) := by decide +kernel
theorem dX1_copyFrom_15 : decode cX1_copyFrom 15 = .ok (.aload_n 0, 1) := by decide +kernel
theorem dX1_copyFrom_16 : decode cX1_copyFrom 16 = .ok (.aload_n 1, 1) := by decide +kernel
theorem dX1_copyFrom_17 : decode cX1_copyFrom 17 = .ok (.getfield 15, 3) := by decide +kernel
theorem dX1_copyFrom_20 : decode cX1_copyFrom 20 = .ok (.putfield 15, 3) := by decide +kernel
theorem dX1_copyFrom_23 : decode cX1_copyFrom 23 = .ok (.return_, 1) := by decide +kernel
theorem dX1_toCode_0 : decode cX1_toCode 0 = .ok (.iconst 0, 1) := by decide +kernel
theorem dX1_toCode_1 : decode cX1_toCode 1 = .ok (.istore_n 1, 1) := by decide +kernel
theorem dX1_toCode_2 : decode cX1_toCode 2 = .ok (.iconst 3, 1) := by decide +kernel
theorem dX1_toCode_3 : decode cX1_toCode 3 = .ok (.istore_n 2, 1) := by decide +kernel
theorem dX1_toCode_4 : decode cX1_toCode 4 = .ok (.iload_n 2, 1) := by decide +kernel
theorem dX1_toCode_5 : decode cX1_toCode 5 = .ok (.ifCond .lt 22, 3) := by decide +kernel
theorem dX1_toCode_8 : decode cX1_toCode 8 = .ok (.iload_n 1, 1) := by decide +kernel
theorem dX1_toCode_9 : decode cX1_toCode 9 = .ok (.iconst 5, 1) := by decide +kernel
theorem dX1_toCode_10 : decode cX1_toCode 10 = .ok (.imul, 1) := by decide +kernel
theorem dX1_toCode_11 : decode cX1_toCode 11 = .ok (.aload_n 0, 1) := by decide +kernel
theorem dX1_toCode_12 : decode cX1_toCode 12 = .ok (.getfield 9, 3) := by decide +kernel
theorem dX1_toCode_15 : decode cX1_toCode 15 = .ok (.iload_n 2, 1) := by decide +kernel
theorem dX1_toCode_16 : decode cX1_toCode 16 = .ok (.iaload, 1) := by decide +kernel
theorem dX1_toCode_17 : decode cX1_toCode 17 = .ok (.iadd, 1) := by decide +kernel
theorem dX1_toCode_18 : decode cX1_toCode 18 = .ok (.iconst 1, 1) := by decide +kernel
theorem dX1_toCode_19 : decode cX1_toCode 19 = .ok (.iadd, 1) := by decide +kernel
theorem dX1_toCode_20 : decode cX1_toCode 20 = .ok (.istore_n 1, 1) := by decide +kernel
theorem dX1_toCode_21 : decode cX1_toCode 21 = .ok (.iinc 2 (-1), 3) := by decide +kernel
theorem dX1_toCode_24 : decode cX1_toCode 24 = .ok (.goto (-20), 3) := by decide +kernel
theorem dX1_toCode_27 : decode cX1_toCode 27 = .ok (.iload_n 1, 1) := by decide +kernel
theorem dX1_toCode_28 : decode cX1_toCode 28 = .ok (.ireturn, 1) := by decide +kernel
theorem dX1_fromCode_0 : decode cX1_fromCode 0 = .ok (.aload_n 0, 1) := by decide +kernel
theorem dX1_fromCode_1 : decode cX1_fromCode 1 = .ok (.invokevirtual 35, 3) := by decide +kernel
theorem dX1_fromCode_4 : decode cX1_fromCode 4 = .ok (.iload_n 1, 1) := by decide +kernel
theorem dX1_fromCode_5 : decode cX1_fromCode 5 = .ok (.istore_n 3, 1) := by decide +kernel
theorem dX1_fromCode_6 : decode cX1_fromCode 6 = .ok (.iconst 0, 1) := by decide +kernel
theorem dX1_fromCode_7 : decode cX1_fromCode 7 = .ok (.istore 4, 2) := by decide +kernel
theorem dX1_fromCode_9 : decode cX1_fromCode 9 = .ok (.iload 4, 2) := by decide +kernel
theorem dX1_fromCode_11 : decode cX1_fromCode 11 = .ok (.iconst 4, 1) := by decide +kernel
theorem dX1_fromCode_12 : decode cX1_fromCode 12 = .ok (.if_icmp .ge 25, 3) := by decide +kernel
theorem dX1_fromCode_15 : decode cX1_fromCode 15 = .ok (.aload_n 0, 1) := by decide +kernel
theorem dX1_fromCode_16 : decode cX1_fromCode 16 = .ok (.getfield 9, 3) := by decide +kernel
theorem dX1_fromCode_19 : decode cX1_fromCode 19 = .ok (.iload 4, 2) := by decide +kernel
theorem dX1_fromCode_21 : decode cX1_fromCode 21 = .ok (.iload_n 3, 1) := by decide +kernel
theorem dX1_fromCode_22 : decode cX1_fromCode 22 = .ok (.iconst 5, 1) := by decide +kernel
theorem dX1_fromCode_23 : decode cX1_fromCode 23 = .ok (.irem, 1) := by decide +kernel
theorem dX1_fromCode_24 : decode cX1_fromCode 24 = .ok (.iconst 1, 1) := by decide +kernel
theorem dX1_fromCode_25 : decode cX1_fromCode 25 = .ok (.isub, 1) := by decide +kernel
theorem dX1_fromCode_26 : decode cX1_fromCode 26 = .ok (.iastore, 1) := by decide +kernel
theorem dX1_fromCode_27 : decode cX1_fromCode 27 = .ok (.iload_n 3, 1) := by decide +kernel
theorem dX1_fromCode_28 : decode cX1_fromCode 28 = .ok (.iconst 5, 1) := by decide +kernel
theorem dX1_fromCode_29 : decode cX1_fromCode 29 = .ok (.idiv, 1) := by decide +kernel
theorem dX1_fromCode_30 : decode cX1_fromCode 30 = .ok (.istore_n 3, 1) := by decide +kernel
theorem dX1_fromCode_31 : decode cX1_fromCode 31 = .ok (.iinc 4 1, 3) := by decide +kernel
theorem dX1_fromCode_34 : decode cX1_fromCode 34 = .ok (.goto (-25), 3) := by decide +kernel
theorem dX1_fromCode_37 : decode cX1_fromCode 37 = .ok (.aload_n 0, 1) := by decide +kernel
theorem dX1_fromCode_38 : decode cX1_fromCode 38 = .ok (.iload_n 2, 1) := by decide +kernel
theorem dX1_fromCode_39 : decode cX1_fromCode 39 = .ok (.putfield 15, 3) := by decide +kernel
theorem dX1_fromCode_42 : decode cX1_fromCode 42 = .ok (.return_, 1) := by decide +kernel
theorem dX2_init_0 : decode cX2_init 0 = .ok (.aload_n 0, 1) := by decide +kernel
theorem dX2_init_1 : decode cX2_init 1 = .ok (.invokespecial 3, 3) := by decide +kernel
theorem dX2_init_4 : decode cX2_init 4 = .ok (.aload_n 0, 1) := by decide +kernel
theorem dX2_init_5 : decode cX2_init 5 = .ok (.new 9, 3) := by decide +kernel
theorem dX2_init_8 : decode cX2_init 8 = .ok (.dup, 1) := by decide +kernel
theorem dX2_init_9 : decode cX2_init 9 = .ok (.invokespecial 11, 3) := by decide +kernel
theorem dX2_init_12 : decode cX2_init 12 = .ok (.putfield 12, 3) := by decide +kernel
theorem dX2_init_15 : decode cX2_init 15 = .ok (.aload_n 0, 1) := by decide +kernel
theorem dX2_init_16 : decode cX2_init 16 = .ok (.iconst 0, 1) := by decide +kernel
theorem dX2_init_17 : decode cX2_init 17 = .ok (.putfield 18, 3) := by decide +kernel
theorem dX2_init_20 : decode cX2_init 20 = .ok (.aload_n 0, 1) := by decide +kernel
theorem dX2_init_21 : decode cX2_init 21 = .ok (.iconst 0, 1) := by decide +kernel
theorem dX2_init_22 : decode cX2_init 22 = .ok (.putfield 22, 3) := by decide +kernel
theorem dX2_init_25 : decode cX2_init 25 = .ok (.aload_n 0, 1) := by decide +kernel
theorem dX2_init_26 : decode cX2_init 26 = .ok (.iconst 0, 1) := by decide +kernel
theorem dX2_init_27 : decode cX2_init 27 = .ok (.putfield 25, 3) := by decide +kernel
theorem dX2_init_30 : decode cX2_init 30 = .ok (.aload_n 0, 1) := by decide +kernel
theorem dX2_init_31 : decode cX2_init 31 = .ok (.bipush (-2), 2) := by decide +kernel
theorem dX2_init_33 : decode cX2_init 33 = .ok (.putfield 28, 3) := by decide +kernel
theorem dX2_init_36 : decode cX2_init 36 = .ok (.aload_n 0, 1) := by decide +kernel
theorem dX2_init_37 : decode cX2_init 37 = .ok (.bipush (-2), 2) := by decide +kernel
theorem dX2_init_39 : decode cX2_init 39 = .ok (.putfield 31, 3) := by decide +kernel
theorem dX2_init_42 : decode cX2_init 42 = .ok (.aload_n 0, 1) := by decide +kernel
theorem dX2_init_43 : decode cX2_init 43 = .ok (.lconst 0, 1) := by decide +kernel
theorem dX2_init_44 : decode cX2_init 44 = .ok (.putfield 34, 3) := by decide +kernel
theorem dX2_init_47 : decode cX2_init 47 = .ok (.aload_n 0, 1) := by decide +kernel
theorem dX2_init_48 : decode cX2_init 48 = .ok (.iconst 0, 1) := by decide +kernel
theorem dX2_init_49 : decode cX2_init 49 = .ok (.putfield 38, 3) := by decide +kernel
theorem dX2_init_52 : decode cX2_init 52 = .ok (.aload_n 0, 1) := by decide +kernel
theorem dX2_init_53 : decode cX2_init 53 = .ok (.bipush (-2), 2) := by decide +kernel
theorem dX2_init_55 : decode cX2_init 55 = .ok (.putfield 41, 3) := by decide +kernel
theorem dX2_init_58 : decode cX2_init 58 = .ok (.aload_n 0, 1) := by decide +kernel
theorem dX2_init_59 : decode cX2_init 59 = .ok (.aload_n 1, 1) := by decide +kernel
theorem dX2_init_60 : decode cX2_init 60 = .ok (.putfield 44, 3) := by decide +kernel
theorem dX2_init_63 : decode cX2_init 63 = .ok (.return_, 1) := by decide +kernel
theorem dX2_follow_0 : decode cX2_follow 0 = .ok (.aload_n 0, 1) := by decide +kernel
theorem dX2_follow_1 : decode cX2_follow 1 = .ok (.getfield 12, 3) := by decide +kernel
theorem dX2_follow_4 : decode cX2_follow 4 = .ok (.aload_n 2, 1) := by decide +kernel
theorem dX2_follow_5 : decode cX2_follow 5 = .ok (.invokevirtual 48, 3) := by decide +kernel
theorem dX2_follow_8 : decode cX2_follow 8 = .ok (.aload_n 0, 1) := by decide +kernel
theorem dX2_follow_9 : decode cX2_follow 9 = .ok (.iconst 0, 1) := by decide +kernel
theorem dX2_follow_10 : decode cX2_follow 10 = .ok (.putfield 18, 3) := by decide +kernel
theorem dX2_follow_13 : decode cX2_follow 13 = .ok (.aload_n 0, 1) := by decide +kernel
theorem dX2_follow_14 : decode cX2_follow 14 = .ok (.ldc 52, 2) := by decide +kernel
theorem dX2_follow_16 : decode cX2_follow 16 = .ok (.putfield 22, 3) := by decide +kernel
theorem dX2_follow_19 : decode cX2_follow 19 = .ok (.aload_n 0, 1) := by decide +kernel
theorem dX2_follow_20 : decode cX2_follow 20 = .ok (.iconst 0, 1) := by decide +kernel
theorem dX2_follow_21 : decode cX2_follow 21 = .ok (.putfield 25, 3) := by decide +kernel
theorem dX2_follow_24 : decode cX2_follow 24 = .ok (.aload_n 0, 1) := by decide +kernel
theorem dX2_follow_25 : decode cX2_follow 25 = .ok (.getfield 18, 3) := by decide +kernel
theorem dX2_follow_28 : decode cX2_follow 28 = .ok (.bipush 20, 2) := by decide +kernel
theorem dX2_follow_30 : decode cX2_follow 30 = .ok (.if_icmp .ge 50, 3) := by decide +kernel
theorem dX2_follow_33 : decode cX2_follow 33 = .ok (.aload_n 0, 1) := by decide +kernel
theorem dX2_follow_34 : decode cX2_follow 34 = .ok (.aload_n 1, 1) := by decide +kernel
theorem dX2_follow_35 : decode cX2_follow 35 = .ok (.aload_n 0, 1) := by decide +kernel
theorem dX2_follow_36 : decode cX2_follow 36 = .ok (.getfield 18, 3) := by decide +kernel
theorem dX2_follow_39 : decode cX2_follow 39 = .ok (.invokevirtual 53, 3) := by decide +kernel
theorem dX2_follow_42 : decode cX2_follow 42 = .ok (.ifCond .eq 38, 3) := by decide +kernel
theorem dX2_follow_45 : decode cX2_follow 45 = .ok (.aload_n 1, 1) := by decide +kernel
theorem dX2_follow_46 : decode cX2_follow 46 = .ok (.aload_n 0, 1) := by decide +kernel
theorem dX2_follow_47 : decode cX2_follow 47 = .ok (.getfield 18, 3) := by decide +kernel
theorem dX2_follow_50 : decode cX2_follow 50 = .ok (.invokestatic 57, 3) := by decide +kernel
theorem dX2_follow_53 : decode cX2_follow 53 = .ok (.iconst (-1), 1) := by decide +kernel
theorem dX2_follow_54 : decode cX2_follow 54 = .ok (.if_icmp .eq 26, 3) := by decide +kernel
theorem dX2_follow_57 : decode cX2_follow 57 = .ok (.aload_n 0, 1) := by decide +kernel
theorem dX2_follow_58 : decode cX2_follow 58 = .ok (.aload_n 1, 1) := by decide +kernel
theorem dX2_follow_59 : decode cX2_follow 59 = .ok (.aload_n 0, 1) := by decide +kernel
theorem dX2_follow_60 : decode cX2_follow 60 = .ok (.getfield 18, 3) := by decide +kernel
theorem dX2_follow_63 : decode cX2_follow 63 = .ok (.iload_n 3, 1) := by decide +kernel
theorem dX2_follow_64 : decode cX2_follow 64 = .ok (.invokevirtual 61, 3) := by decide +kernel
theorem dX2_follow_67 : decode cX2_follow 67 = .ok (.aload_n 0, 1) := by decide +kernel
theorem dX2_follow_68 : decode cX2_follow 68 = .ok (.dup, 1) := by decide +kernel
theorem dX2_follow_69 : decode cX2_follow 69 = .ok (.getfield 18, 3) := by decide +kernel
theorem dX2_follow_72 : decode cX2_follow 72 = .ok (.iconst 1, 1) := by decide +kernel
theorem dX2_follow_73 : decode cX2_follow 73 = .ok (.iadd, 1) := by decide +kernel
theorem dX2_follow_74 : decode cX2_follow 74 = .ok (.putfield 18, 3) := by decide +kernel
theorem dX2_follow_77 : decode cX2_follow 77 = .ok (.goto (-53), 3) := by decide +kernel
theorem dX2_follow_80 : decode cX2_follow 80 = .ok (.return_, 1) := by decide +kernel
theorem dX2_hear_0 : decode cX2_hear 0 = .ok (.aload_n 1, 1) := by decide +kernel
theorem dX2_hear_1 : decode cX2_hear 1 = .ok (.iload_n 2, 1) := by decide +kernel
theorem dX2_hear_2 : decode cX2_hear 2 = .ok (.invokestatic 65, 3) := by decide +kernel
theorem dX2_hear_5 : decode cX2_hear 5 = .ok (.istore 4, 2) := by decide +kernel
theorem dX2_hear_7 : decode cX2_hear 7 = .ok (.aload_n 1, 1) := by decide +kernel
theorem dX2_hear_8 : decode cX2_hear 8 = .ok (.iload_n 2, 1) := by decide +kernel
theorem dX2_hear_9 : decode cX2_hear 9 = .ok (.invokestatic 68, 3) := by decide +kernel
theorem dX2_hear_12 : decode cX2_hear 12 = .ok (.istore 5, 2) := by decide +kernel
theorem dX2_hear_14 : decode cX2_hear 14 = .ok (.aload_n 1, 1) := by decide +kernel
theorem dX2_hear_15 : decode cX2_hear 15 = .ok (.iload_n 2, 1) := by decide +kernel
theorem dX2_hear_16 : decode cX2_hear 16 = .ok (.invokestatic 57, 3) := by decide +kernel
theorem dX2_hear_19 : decode cX2_hear 19 = .ok (.iconst 1, 1) := by decide +kernel
theorem dX2_hear_20 : decode cX2_hear 20 = .ok (.if_icmp .ne 7, 3) := by decide +kernel
theorem dX2_hear_23 : decode cX2_hear 23 = .ok (.iconst 1, 1) := by decide +kernel
theorem dX2_hear_24 : decode cX2_hear 24 = .ok (.goto 4, 3) := by decide +kernel
theorem dX2_hear_27 : decode cX2_hear 27 = .ok (.iconst 0, 1) := by decide +kernel
theorem dX2_hear_28 : decode cX2_hear 28 = .ok (.istore 6, 2) := by decide +kernel
theorem dX2_hear_30 : decode cX2_hear 30 = .ok (.iload 6, 2) := by decide +kernel
theorem dX2_hear_32 : decode cX2_hear 32 = .ok (.aload_n 0, 1) := by decide +kernel
theorem dX2_hear_33 : decode cX2_hear 33 = .ok (.getfield 44, 3) := by decide +kernel
theorem dX2_hear_36 : decode cX2_hear 36 = .ok (.aload_n 0, 1) := by decide +kernel
theorem dX2_hear_37 : decode cX2_hear 37 = .ok (.getfield 12, 3) := by decide +kernel
theorem dX2_hear_40 : decode cX2_hear 40 = .ok (.iload 4, 2) := by decide +kernel
theorem dX2_hear_42 : decode cX2_hear 42 = .ok (.iload 5, 2) := by decide +kernel
theorem dX2_hear_44 : decode cX2_hear 44 = .ok (.invokevirtual 71, 3) := by decide +kernel
theorem dX2_hear_47 : decode cX2_hear 47 = .ok (.invokestatic 77, 3) := by decide +kernel
theorem dX2_hear_50 : decode cX2_hear 50 = .ok (.istore 7, 2) := by decide +kernel
theorem dX2_hear_52 : decode cX2_hear 52 = .ok (.aload_n 0, 1) := by decide +kernel
theorem dX2_hear_53 : decode cX2_hear 53 = .ok (.aload_n 0, 1) := by decide +kernel
theorem dX2_hear_54 : decode cX2_hear 54 = .ok (.getfield 22, 3) := by decide +kernel
theorem dX2_hear_57 : decode cX2_hear 57 = .ok (.iload 7, 2) := by decide +kernel
theorem dX2_hear_59 : decode cX2_hear 59 = .ok (.imul, 1) := by decide +kernel
theorem dX2_hear_60 : decode cX2_hear 60 = .ok (.bipush 12, 2) := by decide +kernel
theorem dX2_hear_62 : decode cX2_hear 62 = .ok (.idiv, 1) := by decide +kernel
theorem dX2_hear_63 : decode cX2_hear 63 = .ok (.putfield 22, 3) := by decide +kernel
theorem dX2_hear_66 : decode cX2_hear 66 = .ok (.iload 6, 2) := by decide +kernel
theorem dX2_hear_68 : decode cX2_hear 68 = .ok (.ifCond .eq 8, 3) := by decide +kernel
theorem dX2_hear_71 : decode cX2_hear 71 = .ok (.iload 5, 2) := by decide +kernel
theorem dX2_hear_73 : decode cX2_hear 73 = .ok (.goto 5, 3) := by decide +kernel
theorem dX2_hear_76 : decode cX2_hear 76 = .ok (.iload 4, 2) := by decide +kernel
theorem dX2_hear_78 : decode cX2_hear 78 = .ok (.istore 8, 2) := by decide +kernel
theorem dX2_hear_80 : decode cX2_hear 80 = .ok (.iload_n 3, 1) := by decide +kernel
theorem dX2_hear_81 : decode cX2_hear 81 = .ok (.iload 4, 2) := by decide +kernel
theorem dX2_hear_83 : decode cX2_hear 83 = .ok (.if_icmp .eq 9, 3) := by decide +kernel
theorem dX2_hear_86 : decode cX2_hear 86 = .ok (.iload_n 3, 1) := by decide +kernel
theorem dX2_hear_87 : decode cX2_hear 87 = .ok (.iload 5, 2) := by decide +kernel
theorem dX2_hear_89 : decode cX2_hear 89 = .ok (.if_icmp .ne 41, 3) := by decide +kernel
theorem dX2_hear_92 : decode cX2_hear 92 = .ok (.aload_n 0, 1) := by decide +kernel
theorem dX2_hear_93 : decode cX2_hear 93 = .ok (.getfield 44, 3) := by decide +kernel
theorem dX2_hear_96 : decode cX2_hear 96 = .ok (.invokevirtual 81, 3) := by decide +kernel
theorem dX2_hear_99 : decode cX2_hear 99 = .ok (.iload 8, 2) := by decide +kernel
theorem dX2_hear_101 : decode cX2_hear 101 = .ok (.iconst 3, 1) := by decide +kernel
theorem dX2_hear_102 : decode cX2_hear 102 = .ok (.invokevirtual 85, 3) := by decide +kernel
theorem dX2_hear_105 : decode cX2_hear 105 = .ok (.istore 9, 2) := by decide +kernel
theorem dX2_hear_107 : decode cX2_hear 107 = .ok (.aload_n 0, 1) := by decide +kernel
theorem dX2_hear_108 : decode cX2_hear 108 = .ok (.dup, 1) := by decide +kernel
theorem dX2_hear_109 : decode cX2_hear 109 = .ok (.getfield 25, 3) := by decide +kernel
theorem dX2_hear_112 : decode cX2_hear 112 = .ok (.iload_n 3, 1) := by decide +kernel
theorem dX2_hear_113 : decode cX2_hear 113 = .ok (.iload 8, 2) := by decide +kernel
theorem dX2_hear_115 : decode cX2_hear 115 = .ok (.if_icmp .ne 9, 3) := by decide +kernel
theorem dX2_hear_118 : decode cX2_hear 118 = .ok (.iload 9, 2) := by decide +kernel
theorem dX2_hear_120 : decode cX2_hear 120 = .ok (.ineg, 1) := by decide +kernel
theorem dX2_hear_121 : decode cX2_hear 121 = .ok (.goto 5, 3) := by decide +kernel
theorem dX2_hear_124 : decode cX2_hear 124 = .ok (.iload 9, 2) := by decide +kernel
theorem dX2_hear_126 : decode cX2_hear 126 = .ok (.iadd, 1) := by decide +kernel
theorem dX2_hear_127 : decode cX2_hear 127 = .ok (.putfield 25, 3) := by decide +kernel
theorem dX2_hear_130 : decode cX2_hear 130 = .ok (.aload_n 0, 1) := by decide +kernel
theorem dX2_hear_131 : decode cX2_hear 131 = .ok (.getfield 12, 3) := by decide +kernel
theorem dX2_hear_134 : decode cX2_hear 134 = .ok (.iload 4, 2) := by decide +kernel
theorem dX2_hear_136 : decode cX2_hear 136 = .ok (.iload 5, 2) := by decide +kernel
theorem dX2_hear_138 : decode cX2_hear 138 = .ok (.iload 6, 2) := by decide +kernel
theorem dX2_hear_140 : decode cX2_hear 140 = .ok (.invokevirtual 91, 3) := by decide +kernel
theorem dX2_hear_143 : decode cX2_hear 143 = .ok (.return_, 1) := by decide +kernel
theorem dX2_heard_0 : decode cX2_heard 0 = .ok (.aload_n 0, 1) := by decide +kernel
theorem dX2_heard_1 : decode cX2_heard 1 = .ok (.getfield 18, 3) := by decide +kernel
theorem dX2_heard_4 : decode cX2_heard 4 = .ok (.ireturn, 1) := by decide +kernel
theorem dX2_millionths_0 : decode cX2_millionths 0 = .ok (.aload_n 0, 1) := by decide +kernel
theorem dX2_millionths_1 : decode cX2_millionths 1 = .ok (.getfield 22, 3) := by decide +kernel
theorem dX2_millionths_4 : decode cX2_millionths 4 = .ok (.ireturn, 1) := by decide +kernel
theorem dX2_gained_0 : decode cX2_gained 0 = .ok (.aload_n 0, 1) := by decide +kernel
theorem dX2_gained_1 : decode cX2_gained 1 = .ok (.getfield 25, 3) := by decide +kernel
theorem dX2_gained_4 : decode cX2_gained 4 = .ok (.ireturn, 1) := by decide +kernel
theorem dX2_boundTo_0 : decode cX2_boundTo 0 = .ok (.aload_n 0, 1) := by decide +kernel
theorem dX2_boundTo_1 : decode cX2_boundTo 1 = .ok (.getfield 12, 3) := by decide +kernel
theorem dX2_boundTo_4 : decode cX2_boundTo 4 = .ok (.iload_n 1, 1) := by decide +kernel
theorem dX2_boundTo_5 : decode cX2_boundTo 5 = .ok (.invokevirtual 95, 3) := by decide +kernel
theorem dX2_boundTo_8 : decode cX2_boundTo 8 = .ok (.ireturn, 1) := by decide +kernel
theorem dX2_chargerOf_0 : decode cX2_chargerOf 0 = .ok (.aload_n 0, 1) := by decide +kernel
theorem dX2_chargerOf_1 : decode cX2_chargerOf 1 = .ok (.iconst 3, 1) := by decide +kernel
theorem dX2_chargerOf_2 : decode cX2_chargerOf 2 = .ok (.iload_n 1, 1) := by decide +kernel
theorem dX2_chargerOf_3 : decode cX2_chargerOf 3 = .ok (.imul, 1) := by decide +kernel
theorem dX2_chargerOf_4 : decode cX2_chargerOf 4 = .ok (.invokevirtual 99, 3) := by decide +kernel
theorem dX2_chargerOf_7 : decode cX2_chargerOf 7 = .ok (.ireturn, 1) := by decide +kernel
theorem dX2_chargedOf_0 : decode cX2_chargedOf 0 = .ok (.aload_n 0, 1) := by decide +kernel
theorem dX2_chargedOf_1 : decode cX2_chargedOf 1 = .ok (.iconst 3, 1) := by decide +kernel
theorem dX2_chargedOf_2 : decode cX2_chargedOf 2 = .ok (.iload_n 1, 1) := by decide +kernel
theorem dX2_chargedOf_3 : decode cX2_chargedOf 3 = .ok (.imul, 1) := by decide +kernel
theorem dX2_chargedOf_4 : decode cX2_chargedOf 4 = .ok (.iconst 1, 1) := by decide +kernel
theorem dX2_chargedOf_5 : decode cX2_chargedOf 5 = .ok (.iadd, 1) := by decide +kernel
theorem dX2_chargedOf_6 : decode cX2_chargedOf 6 = .ok (.invokevirtual 99, 3) := by decide +kernel
theorem dX2_chargedOf_9 : decode cX2_chargedOf 9 = .ok (.ireturn, 1) := by decide +kernel
theorem dX2_endOf_0 : decode cX2_endOf 0 = .ok (.aload_n 0, 1) := by decide +kernel
theorem dX2_endOf_1 : decode cX2_endOf 1 = .ok (.iconst 3, 1) := by decide +kernel
theorem dX2_endOf_2 : decode cX2_endOf 2 = .ok (.iload_n 1, 1) := by decide +kernel
theorem dX2_endOf_3 : decode cX2_endOf 3 = .ok (.imul, 1) := by decide +kernel
theorem dX2_endOf_4 : decode cX2_endOf 4 = .ok (.iconst 2, 1) := by decide +kernel
theorem dX2_endOf_5 : decode cX2_endOf 5 = .ok (.iadd, 1) := by decide +kernel
theorem dX2_endOf_6 : decode cX2_endOf 6 = .ok (.invokevirtual 99, 3) := by decide +kernel
theorem dX2_endOf_9 : decode cX2_endOf 9 = .ok (.ireturn, 1) := by decide +kernel
theorem dX2_isWhole_0 : decode cX2_isWhole 0 = .ok (.iconst 3, 1) := by decide +kernel
theorem dX2_isWhole_1 : decode cX2_isWhole 1 = .ok (.iload_n 1, 1) := by decide +kernel
theorem dX2_isWhole_2 : decode cX2_isWhole 2 = .ok (.imul, 1) := by decide +kernel
theorem dX2_isWhole_3 : decode cX2_isWhole 3 = .ok (.iconst 3, 1) := by decide +kernel
theorem dX2_isWhole_4 : decode cX2_isWhole 4 = .ok (.iadd, 1) := by decide +kernel
theorem dX2_isWhole_5 : decode cX2_isWhole 5 = .ok (.aload_n 0, 1) := by decide +kernel
theorem dX2_isWhole_6 : decode cX2_isWhole 6 = .ok (.invokevirtual 104, 3) := by decide +kernel
theorem dX2_isWhole_9 : decode cX2_isWhole 9 = .ok (.if_icmp .gt 7, 3) := by decide +kernel
theorem dX2_isWhole_12 : decode cX2_isWhole 12 = .ok (.iconst 1, 1) := by decide +kernel
theorem dX2_isWhole_13 : decode cX2_isWhole 13 = .ok (.goto 4, 3) := by decide +kernel
theorem dX2_isWhole_16 : decode cX2_isWhole 16 = .ok (.iconst 0, 1) := by decide +kernel
theorem dX2_isWhole_17 : decode cX2_isWhole 17 = .ok (.ireturn, 1) := by decide +kernel
theorem dX2_isLet_0 : decode cX2_isLet 0 = .ok (.aload_n 1, 1) := by decide +kernel
theorem dX2_isLet_1 : decode cX2_isLet 1 = .ok (.iload_n 2, 1) := by decide +kernel
theorem dX2_isLet_2 : decode cX2_isLet 2 = .ok (.invokestatic 108, 3) := by decide +kernel
theorem dX2_isLet_5 : decode cX2_isLet 5 = .ok (.ifCond .ne 5, 3) := by decide +kernel
theorem dX2_isLet_8 : decode cX2_isLet 8 = .ok (.iconst 0, 1) := by decide +kernel
theorem dX2_isLet_9 : decode cX2_isLet 9 = .ok (.ireturn, 1) := by decide +kernel
theorem dX2_isLet_10 : decode cX2_isLet 10 = .ok (.aload_n 1, 1) := by decide +kernel
theorem dX2_isLet_11 : decode cX2_isLet 11 = .ok (.iload_n 2, 1) := by decide +kernel
theorem dX2_isLet_12 : decode cX2_isLet 12 = .ok (.invokestatic 65, 3) := by decide +kernel
theorem dX2_isLet_15 : decode cX2_isLet 15 = .ok (.istore_n 3, 1) := by decide +kernel
theorem dX2_isLet_16 : decode cX2_isLet 16 = .ok (.aload_n 1, 1) := by decide +kernel
theorem dX2_isLet_17 : decode cX2_isLet 17 = .ok (.iload_n 2, 1) := by decide +kernel
theorem dX2_isLet_18 : decode cX2_isLet 18 = .ok (.invokestatic 57, 3) := by decide +kernel
theorem dX2_isLet_21 : decode cX2_isLet 21 = .ok (.istore 4, 2) := by decide +kernel
theorem dX2_isLet_23 : decode cX2_isLet 23 = .ok (.aload_n 0, 1) := by decide +kernel
theorem dX2_isLet_24 : decode cX2_isLet 24 = .ok (.getfield 44, 3) := by decide +kernel
theorem dX2_isLet_27 : decode cX2_isLet 27 = .ok (.invokevirtual 81, 3) := by decide +kernel
theorem dX2_isLet_30 : decode cX2_isLet 30 = .ok (.iload_n 3, 1) := by decide +kernel
theorem dX2_isLet_31 : decode cX2_isLet 31 = .ok (.aload_n 1, 1) := by decide +kernel
theorem dX2_isLet_32 : decode cX2_isLet 32 = .ok (.iload_n 2, 1) := by decide +kernel
theorem dX2_isLet_33 : decode cX2_isLet 33 = .ok (.invokestatic 68, 3) := by decide +kernel
theorem dX2_isLet_36 : decode cX2_isLet 36 = .ok (.invokevirtual 111, 3) := by decide +kernel
theorem dX2_isLet_39 : decode cX2_isLet 39 = .ok (.ifCond .eq 30, 3) := by decide +kernel
theorem dX2_isLet_42 : decode cX2_isLet 42 = .ok (.aload_n 0, 1) := by decide +kernel
theorem dX2_isLet_43 : decode cX2_isLet 43 = .ok (.getfield 12, 3) := by decide +kernel
theorem dX2_isLet_46 : decode cX2_isLet 46 = .ok (.iload_n 3, 1) := by decide +kernel
theorem dX2_isLet_47 : decode cX2_isLet 47 = .ok (.invokevirtual 115, 3) := by decide +kernel
theorem dX2_isLet_50 : decode cX2_isLet 50 = .ok (.ifCond .eq 19, 3) := by decide +kernel
theorem dX2_isLet_53 : decode cX2_isLet 53 = .ok (.iload 4, 2) := by decide +kernel
theorem dX2_isLet_55 : decode cX2_isLet 55 = .ok (.iconst (-1), 1) := by decide +kernel
theorem dX2_isLet_56 : decode cX2_isLet 56 = .ok (.if_icmp .lt 13, 3) := by decide +kernel
theorem dX2_isLet_59 : decode cX2_isLet 59 = .ok (.iload 4, 2) := by decide +kernel
theorem dX2_isLet_61 : decode cX2_isLet 61 = .ok (.iconst 1, 1) := by decide +kernel
theorem dX2_isLet_62 : decode cX2_isLet 62 = .ok (.if_icmp .gt 7, 3) := by decide +kernel
theorem dX2_isLet_65 : decode cX2_isLet 65 = .ok (.iconst 1, 1) := by decide +kernel
theorem dX2_isLet_66 : decode cX2_isLet 66 = .ok (.goto 4, 3) := by decide +kernel
theorem dX2_isLet_69 : decode cX2_isLet 69 = .ok (.iconst 0, 1) := by decide +kernel
theorem dX2_isLet_70 : decode cX2_isLet 70 = .ok (.ireturn, 1) := by decide +kernel
theorem dX2_casesOf_0 : decode cX2_casesOf 0 = .ok (.bipush 16, 2) := by decide +kernel
theorem dX2_casesOf_2 : decode cX2_casesOf 2 = .ok (.aload_n 0, 1) := by decide +kernel
theorem dX2_casesOf_3 : decode cX2_casesOf 3 = .ok (.invokevirtual 104, 3) := by decide +kernel
theorem dX2_casesOf_6 : decode cX2_casesOf 6 = .ok (.iconst 2, 1) := by decide +kernel
theorem dX2_casesOf_7 : decode cX2_casesOf 7 = .ok (.iadd, 1) := by decide +kernel
theorem dX2_casesOf_8 : decode cX2_casesOf 8 = .ok (.iconst 3, 1) := by decide +kernel
theorem dX2_casesOf_9 : decode cX2_casesOf 9 = .ok (.idiv, 1) := by decide +kernel
theorem dX2_casesOf_10 : decode cX2_casesOf 10 = .ok (.invokestatic 119, 3) := by decide +kernel
theorem dX2_casesOf_13 : decode cX2_casesOf 13 = .ok (.ireturn, 1) := by decide +kernel
theorem dX2_countUnknown_0 : decode cX2_countUnknown 0 = .ok (.iconst 0, 1) := by decide +kernel
theorem dX2_countUnknown_1 : decode cX2_countUnknown 1 = .ok (.istore_n 2, 1) := by decide +kernel
theorem dX2_countUnknown_2 : decode cX2_countUnknown 2 = .ok (.iconst 0, 1) := by decide +kernel
theorem dX2_countUnknown_3 : decode cX2_countUnknown 3 = .ok (.istore_n 3, 1) := by decide +kernel
theorem dX2_countUnknown_4 : decode cX2_countUnknown 4 = .ok (.iload_n 3, 1) := by decide +kernel
theorem dX2_countUnknown_5 : decode cX2_countUnknown 5 = .ok (.aload_n 1, 1) := by decide +kernel
theorem dX2_countUnknown_6 : decode cX2_countUnknown 6 = .ok (.invokestatic 124, 3) := by decide +kernel
theorem dX2_countUnknown_9 : decode cX2_countUnknown 9 = .ok (.if_icmp .ge 65, 3) := by decide +kernel
theorem dX2_countUnknown_12 : decode cX2_countUnknown 12 = .ok (.aload_n 1, 1) := by decide +kernel
theorem dX2_countUnknown_13 : decode cX2_countUnknown 13 = .ok (.iload_n 3, 1) := by decide +kernel
theorem dX2_countUnknown_14 : decode cX2_countUnknown 14 = .ok (.invokestatic 108, 3) := by decide +kernel
theorem dX2_countUnknown_17 : decode cX2_countUnknown 17 = .ok (.ifCond .eq 51, 3) := by decide +kernel
theorem dX2_countUnknown_20 : decode cX2_countUnknown 20 = .ok (.aload_n 1, 1) := by decide +kernel
theorem dX2_countUnknown_21 : decode cX2_countUnknown 21 = .ok (.iload_n 3, 1) := by decide +kernel
theorem dX2_countUnknown_22 : decode cX2_countUnknown 22 = .ok (.invokestatic 57, 3) := by decide +kernel
theorem dX2_countUnknown_25 : decode cX2_countUnknown 25 = .ok (.iconst (-1), 1) := by decide +kernel
theorem dX2_countUnknown_26 : decode cX2_countUnknown 26 = .ok (.if_icmp .ne 42, 3) := by decide +kernel
theorem dX2_countUnknown_29 : decode cX2_countUnknown 29 = .ok (.aload_n 0, 1) := by decide +kernel
theorem dX2_countUnknown_30 : decode cX2_countUnknown 30 = .ok (.getfield 44, 3) := by decide +kernel
theorem dX2_countUnknown_33 : decode cX2_countUnknown 33 = .ok (.invokevirtual 81, 3) := by decide +kernel
theorem dX2_countUnknown_36 : decode cX2_countUnknown 36 = .ok (.aload_n 1, 1) := by decide +kernel
theorem dX2_countUnknown_37 : decode cX2_countUnknown 37 = .ok (.iload_n 3, 1) := by decide +kernel
theorem dX2_countUnknown_38 : decode cX2_countUnknown 38 = .ok (.invokestatic 65, 3) := by decide +kernel
theorem dX2_countUnknown_41 : decode cX2_countUnknown 41 = .ok (.invokevirtual 128, 3) := by decide +kernel
theorem dX2_countUnknown_44 : decode cX2_countUnknown 44 = .ok (.ifCond .eq 24, 3) := by decide +kernel
theorem dX2_countUnknown_47 : decode cX2_countUnknown 47 = .ok (.aload_n 0, 1) := by decide +kernel
theorem dX2_countUnknown_48 : decode cX2_countUnknown 48 = .ok (.getfield 44, 3) := by decide +kernel
theorem dX2_countUnknown_51 : decode cX2_countUnknown 51 = .ok (.invokevirtual 81, 3) := by decide +kernel
theorem dX2_countUnknown_54 : decode cX2_countUnknown 54 = .ok (.aload_n 1, 1) := by decide +kernel
theorem dX2_countUnknown_55 : decode cX2_countUnknown 55 = .ok (.iload_n 3, 1) := by decide +kernel
theorem dX2_countUnknown_56 : decode cX2_countUnknown 56 = .ok (.invokestatic 68, 3) := by decide +kernel
theorem dX2_countUnknown_59 : decode cX2_countUnknown 59 = .ok (.invokevirtual 128, 3) := by decide +kernel
theorem dX2_countUnknown_62 : decode cX2_countUnknown 62 = .ok (.ifCond .eq 6, 3) := by decide +kernel
theorem dX2_countUnknown_65 : decode cX2_countUnknown 65 = .ok (.iinc 2 1, 3) := by decide +kernel
theorem dX2_countUnknown_68 : decode cX2_countUnknown 68 = .ok (.iinc 3 1, 3) := by decide +kernel
theorem dX2_countUnknown_71 : decode cX2_countUnknown 71 = .ok (.goto (-67), 3) := by decide +kernel
theorem dX2_countUnknown_74 : decode cX2_countUnknown 74 = .ok (.iload_n 2, 1) := by decide +kernel
theorem dX2_countUnknown_75 : decode cX2_countUnknown 75 = .ok (.ireturn, 1) := by decide +kernel
theorem dX2_firstWrong_0 : decode cX2_firstWrong 0 = .ok (.aload_n 0, 1) := by decide +kernel
theorem dX2_firstWrong_1 : decode cX2_firstWrong 1 = .ok (.aload_n 1, 1) := by decide +kernel
theorem dX2_firstWrong_2 : decode cX2_firstWrong 2 = .ok (.aload_n 2, 1) := by decide +kernel
theorem dX2_firstWrong_3 : decode cX2_firstWrong 3 = .ok (.iconst (-1), 1) := by decide +kernel
theorem dX2_firstWrong_4 : decode cX2_firstWrong 4 = .ok (.invokevirtual 131, 3) := by decide +kernel
theorem dX2_firstWrong_7 : decode cX2_firstWrong 7 = .ok (.aload_n 0, 1) := by decide +kernel
theorem dX2_firstWrong_8 : decode cX2_firstWrong 8 = .ok (.getfield 28, 3) := by decide +kernel
theorem dX2_firstWrong_11 : decode cX2_firstWrong 11 = .ok (.ireturn, 1) := by decide +kernel
theorem dX2_weighWays_0 : decode cX2_weighWays 0 = .ok (.iconst 1, 1) := by decide +kernel
theorem dX2_weighWays_1 : decode cX2_weighWays 1 = .ok (.bipush 8, 2) := by decide +kernel
theorem dX2_weighWays_3 : decode cX2_weighWays 3 = .ok (.aload_n 0, 1) := by decide +kernel
theorem dX2_weighWays_4 : decode cX2_weighWays 4 = .ok (.aload_n 1, 1) := by decide +kernel
theorem dX2_weighWays_5 : decode cX2_weighWays 5 = .ok (.invokevirtual 135, 3) := by decide +kernel
theorem dX2_weighWays_8 : decode cX2_weighWays 8 = .ok (.invokestatic 119, 3) := by decide +kernel
theorem dX2_weighWays_11 : decode cX2_weighWays 11 = .ok (.ishl, 1) := by decide +kernel
theorem dX2_weighWays_12 : decode cX2_weighWays 12 = .ok (.istore_n 3, 1) := by decide +kernel
theorem dX2_weighWays_13 : decode cX2_weighWays 13 = .ok (.lconst 0, 1) := by decide +kernel
theorem dX2_weighWays_14 : decode cX2_weighWays 14 = .ok (.lstore 4, 2) := by decide +kernel
theorem dX2_weighWays_16 : decode cX2_weighWays 16 = .ok (.aload_n 0, 1) := by decide +kernel
theorem dX2_weighWays_17 : decode cX2_weighWays 17 = .ok (.iconst 0, 1) := by decide +kernel
theorem dX2_weighWays_18 : decode cX2_weighWays 18 = .ok (.putfield 38, 3) := by decide +kernel
theorem dX2_weighWays_21 : decode cX2_weighWays 21 = .ok (.aload_n 0, 1) := by decide +kernel
theorem dX2_weighWays_22 : decode cX2_weighWays 22 = .ok (.bipush (-2), 2) := by decide +kernel
theorem dX2_weighWays_24 : decode cX2_weighWays 24 = .ok (.putfield 41, 3) := by decide +kernel
theorem dX2_weighWays_27 : decode cX2_weighWays 27 = .ok (.iconst 0, 1) := by decide +kernel
theorem dX2_weighWays_28 : decode cX2_weighWays 28 = .ok (.istore 6, 2) := by decide +kernel
theorem dX2_weighWays_30 : decode cX2_weighWays 30 = .ok (.iload 6, 2) := by decide +kernel
theorem dX2_weighWays_32 : decode cX2_weighWays 32 = .ok (.iload_n 3, 1) := by decide +kernel
theorem dX2_weighWays_33 : decode cX2_weighWays 33 = .ok (.if_icmp .ge 58, 3) := by decide +kernel
theorem dX2_weighWays_36 : decode cX2_weighWays 36 = .ok (.aload_n 0, 1) := by decide +kernel
theorem dX2_weighWays_37 : decode cX2_weighWays 37 = .ok (.aload_n 1, 1) := by decide +kernel
theorem dX2_weighWays_38 : decode cX2_weighWays 38 = .ok (.aload_n 2, 1) := by decide +kernel
theorem dX2_weighWays_39 : decode cX2_weighWays 39 = .ok (.iload 6, 2) := by decide +kernel
theorem dX2_weighWays_41 : decode cX2_weighWays 41 = .ok (.invokevirtual 131, 3) := by decide +kernel
theorem dX2_weighWays_44 : decode cX2_weighWays 44 = .ok (.aload_n 0, 1) := by decide +kernel
theorem dX2_weighWays_45 : decode cX2_weighWays 45 = .ok (.getfield 28, 3) := by decide +kernel
theorem dX2_weighWays_48 : decode cX2_weighWays 48 = .ok (.bipush (-2), 2) := by decide +kernel
theorem dX2_weighWays_50 : decode cX2_weighWays 50 = .ok (.if_icmp .ne 35, 3) := by decide +kernel
theorem dX2_weighWays_53 : decode cX2_weighWays 53 = .ok (.aload_n 0, 1) := by decide +kernel
theorem dX2_weighWays_54 : decode cX2_weighWays 54 = .ok (.dup, 1) := by decide +kernel
theorem dX2_weighWays_55 : decode cX2_weighWays 55 = .ok (.getfield 38, 3) := by decide +kernel
theorem dX2_weighWays_58 : decode cX2_weighWays 58 = .ok (.iconst 1, 1) := by decide +kernel
theorem dX2_weighWays_59 : decode cX2_weighWays 59 = .ok (.iadd, 1) := by decide +kernel
theorem dX2_weighWays_60 : decode cX2_weighWays 60 = .ok (.putfield 38, 3) := by decide +kernel
theorem dX2_weighWays_63 : decode cX2_weighWays 63 = .ok (.aload_n 0, 1) := by decide +kernel
theorem dX2_weighWays_64 : decode cX2_weighWays 64 = .ok (.getfield 34, 3) := by decide +kernel
theorem dX2_weighWays_67 : decode cX2_weighWays 67 = .ok (.lload 4, 2) := by decide +kernel
theorem dX2_weighWays_69 : decode cX2_weighWays 69 = .ok (.lcmp, 1) := by decide +kernel
theorem dX2_weighWays_70 : decode cX2_weighWays 70 = .ok (.ifCond .le 15, 3) := by decide +kernel
theorem dX2_weighWays_73 : decode cX2_weighWays 73 = .ok (.aload_n 0, 1) := by decide +kernel
theorem dX2_weighWays_74 : decode cX2_weighWays 74 = .ok (.getfield 34, 3) := by decide +kernel
theorem dX2_weighWays_77 : decode cX2_weighWays 77 = .ok (.lstore 4, 2) := by decide +kernel
theorem dX2_weighWays_79 : decode cX2_weighWays 79 = .ok (.aload_n 0, 1) := by decide +kernel
theorem dX2_weighWays_80 : decode cX2_weighWays 80 = .ok (.iload 6, 2) := by decide +kernel
theorem dX2_weighWays_82 : decode cX2_weighWays 82 = .ok (.putfield 41, 3) := by decide +kernel
theorem dX2_weighWays_85 : decode cX2_weighWays 85 = .ok (.iinc 6 1, 3) := by decide +kernel
theorem dX2_weighWays_88 : decode cX2_weighWays 88 = .ok (.goto (-58), 3) := by decide +kernel
theorem dX2_weighWays_91 : decode cX2_weighWays 91 = .ok (.return_, 1) := by decide +kernel
theorem dX2_ways_0 : decode cX2_ways 0 = .ok (.aload_n 0, 1) := by decide +kernel
theorem dX2_ways_1 : decode cX2_ways 1 = .ok (.getfield 38, 3) := by decide +kernel
theorem dX2_ways_4 : decode cX2_ways 4 = .ok (.ireturn, 1) := by decide +kernel
theorem dX2_likeliestWay_0 : decode cX2_likeliestWay 0 = .ok (.aload_n 0, 1) := by decide +kernel
theorem dX2_likeliestWay_1 : decode cX2_likeliestWay 1 = .ok (.getfield 41, 3) := by decide +kernel
theorem dX2_likeliestWay_4 : decode cX2_likeliestWay 4 = .ok (.ireturn, 1) := by decide +kernel
theorem dX2_firstSold_0 : decode cX2_firstSold 0 = .ok (.aload_n 0, 1) := by decide +kernel
theorem dX2_firstSold_1 : decode cX2_firstSold 1 = .ok (.getfield 41, 3) := by decide +kernel
theorem dX2_firstSold_4 : decode cX2_firstSold 4 = .ok (.bipush (-2), 2) := by decide +kernel
theorem dX2_firstSold_6 : decode cX2_firstSold 6 = .ok (.if_icmp .ne 6, 3) := by decide +kernel
theorem dX2_firstSold_9 : decode cX2_firstSold 9 = .ok (.bipush (-2), 2) := by decide +kernel
theorem dX2_firstSold_11 : decode cX2_firstSold 11 = .ok (.ireturn, 1) := by decide +kernel
theorem dX2_firstSold_12 : decode cX2_firstSold 12 = .ok (.aload_n 0, 1) := by decide +kernel
theorem dX2_firstSold_13 : decode cX2_firstSold 13 = .ok (.aload_n 1, 1) := by decide +kernel
theorem dX2_firstSold_14 : decode cX2_firstSold 14 = .ok (.aload_n 2, 1) := by decide +kernel
theorem dX2_firstSold_15 : decode cX2_firstSold 15 = .ok (.aload_n 0, 1) := by decide +kernel
theorem dX2_firstSold_16 : decode cX2_firstSold 16 = .ok (.getfield 41, 3) := by decide +kernel
theorem dX2_firstSold_19 : decode cX2_firstSold 19 = .ok (.invokevirtual 131, 3) := by decide +kernel
theorem dX2_firstSold_22 : decode cX2_firstSold 22 = .ok (.aload_n 0, 1) := by decide +kernel
theorem dX2_firstSold_23 : decode cX2_firstSold 23 = .ok (.getfield 31, 3) := by decide +kernel
theorem dX2_firstSold_26 : decode cX2_firstSold 26 = .ok (.ireturn, 1) := by decide +kernel
theorem dX2_walk_0 : decode cX2_walk 0 = .ok (.aload_n 0, 1) := by decide +kernel
theorem dX2_walk_1 : decode cX2_walk 1 = .ok (.getfield 12, 3) := by decide +kernel
theorem dX2_walk_4 : decode cX2_walk 4 = .ok (.aload_n 2, 1) := by decide +kernel
theorem dX2_walk_5 : decode cX2_walk 5 = .ok (.invokevirtual 48, 3) := by decide +kernel
theorem dX2_walk_8 : decode cX2_walk 8 = .ok (.aload_n 0, 1) := by decide +kernel
theorem dX2_walk_9 : decode cX2_walk 9 = .ok (.bipush (-2), 2) := by decide +kernel
theorem dX2_walk_11 : decode cX2_walk 11 = .ok (.putfield 28, 3) := by decide +kernel
theorem dX2_walk_14 : decode cX2_walk 14 = .ok (.aload_n 0, 1) := by decide +kernel
theorem dX2_walk_15 : decode cX2_walk 15 = .ok (.bipush (-2), 2) := by decide +kernel
theorem dX2_walk_17 : decode cX2_walk 17 = .ok (.putfield 31, 3) := by decide +kernel
theorem dX2_walk_20 : decode cX2_walk 20 = .ok (.aload_n 0, 1) := by decide +kernel
theorem dX2_walk_21 : decode cX2_walk 21 = .ok (.lconst 1, 1) := by decide +kernel
theorem dX2_walk_22 : decode cX2_walk 22 = .ok (.putfield 34, 3) := by decide +kernel
theorem dX2_walk_25 : decode cX2_walk 25 = .ok (.iconst 0, 1) := by decide +kernel
theorem dX2_walk_26 : decode cX2_walk 26 = .ok (.istore 4, 2) := by decide +kernel
theorem dX2_walk_28 : decode cX2_walk 28 = .ok (.iconst 0, 1) := by decide +kernel
theorem dX2_walk_29 : decode cX2_walk 29 = .ok (.istore 5, 2) := by decide +kernel
theorem dX2_walk_31 : decode cX2_walk 31 = .ok (.iload 5, 2) := by decide +kernel
theorem dX2_walk_33 : decode cX2_walk 33 = .ok (.aload_n 1, 1) := by decide +kernel
theorem dX2_walk_34 : decode cX2_walk 34 = .ok (.invokestatic 124, 3) := by decide +kernel
theorem dX2_walk_37 : decode cX2_walk 37 = .ok (.if_icmp .ge 194, 3) := by decide +kernel
theorem dX2_walk_40 : decode cX2_walk 40 = .ok (.aload_n 0, 1) := by decide +kernel
theorem dX2_walk_41 : decode cX2_walk 41 = .ok (.aload_n 1, 1) := by decide +kernel
theorem dX2_walk_42 : decode cX2_walk 42 = .ok (.iload 5, 2) := by decide +kernel
theorem dX2_walk_44 : decode cX2_walk 44 = .ok (.invokevirtual 53, 3) := by decide +kernel
theorem dX2_walk_47 : decode cX2_walk 47 = .ok (.ifCond .ne 10, 3) := by decide +kernel
theorem dX2_walk_50 : decode cX2_walk 50 = .ok (.aload_n 0, 1) := by decide +kernel
theorem dX2_walk_51 : decode cX2_walk 51 = .ok (.iload 5, 2) := by decide +kernel
theorem dX2_walk_53 : decode cX2_walk 53 = .ok (.putfield 28, 3) := by decide +kernel
theorem dX2_walk_56 : decode cX2_walk 56 = .ok (.return_, 1) := by decide +kernel
theorem dX2_walk_57 : decode cX2_walk 57 = .ok (.aload_n 0, 1) := by decide +kernel
theorem dX2_walk_58 : decode cX2_walk 58 = .ok (.getfield 44, 3) := by decide +kernel
theorem dX2_walk_61 : decode cX2_walk 61 = .ok (.aload_n 0, 1) := by decide +kernel
theorem dX2_walk_62 : decode cX2_walk 62 = .ok (.getfield 12, 3) := by decide +kernel
theorem dX2_walk_65 : decode cX2_walk 65 = .ok (.aload_n 1, 1) := by decide +kernel
theorem dX2_walk_66 : decode cX2_walk 66 = .ok (.iload 5, 2) := by decide +kernel
theorem dX2_walk_68 : decode cX2_walk 68 = .ok (.invokestatic 65, 3) := by decide +kernel
theorem dX2_walk_71 : decode cX2_walk 71 = .ok (.aload_n 1, 1) := by decide +kernel
theorem dX2_walk_72 : decode cX2_walk 72 = .ok (.iload 5, 2) := by decide +kernel
theorem dX2_walk_74 : decode cX2_walk 74 = .ok (.invokestatic 68, 3) := by decide +kernel
theorem dX2_walk_77 : decode cX2_walk 77 = .ok (.invokevirtual 71, 3) := by decide +kernel
theorem dX2_walk_80 : decode cX2_walk 80 = .ok (.istore 6, 2) := by decide +kernel
theorem dX2_walk_82 : decode cX2_walk 82 = .ok (.aload_n 1, 1) := by decide +kernel
theorem dX2_walk_83 : decode cX2_walk 83 = .ok (.iload 5, 2) := by decide +kernel
theorem dX2_walk_85 : decode cX2_walk 85 = .ok (.invokestatic 57, 3) := by decide +kernel
theorem dX2_walk_88 : decode cX2_walk 88 = .ok (.iconst 1, 1) := by decide +kernel
theorem dX2_walk_89 : decode cX2_walk 89 = .ok (.if_icmp .ne 7, 3) := by decide +kernel
theorem dX2_walk_92 : decode cX2_walk 92 = .ok (.iconst 1, 1) := by decide +kernel
theorem dX2_walk_93 : decode cX2_walk 93 = .ok (.goto 4, 3) := by decide +kernel
theorem dX2_walk_96 : decode cX2_walk 96 = .ok (.iconst 0, 1) := by decide +kernel
theorem dX2_walk_97 : decode cX2_walk 97 = .ok (.istore 7, 2) := by decide +kernel
theorem dX2_walk_99 : decode cX2_walk 99 = .ok (.aload_n 1, 1) := by decide +kernel
theorem dX2_walk_100 : decode cX2_walk 100 = .ok (.iload 5, 2) := by decide +kernel
theorem dX2_walk_102 : decode cX2_walk 102 = .ok (.invokestatic 57, 3) := by decide +kernel
theorem dX2_walk_105 : decode cX2_walk 105 = .ok (.iconst (-1), 1) := by decide +kernel
theorem dX2_walk_106 : decode cX2_walk 106 = .ok (.if_icmp .ne 43, 3) := by decide +kernel
theorem dX2_walk_109 : decode cX2_walk 109 = .ok (.iload_n 3, 1) := by decide +kernel
theorem dX2_walk_110 : decode cX2_walk 110 = .ok (.iconst (-1), 1) := by decide +kernel
theorem dX2_walk_111 : decode cX2_walk 111 = .ok (.if_icmp .ne 18, 3) := by decide +kernel
theorem dX2_walk_114 : decode cX2_walk 114 = .ok (.iload 6, 2) := by decide +kernel
theorem dX2_walk_116 : decode cX2_walk 116 = .ok (.bipush 6, 2) := by decide +kernel
theorem dX2_walk_118 : decode cX2_walk 118 = .ok (.if_icmp .lt 7, 3) := by decide +kernel
theorem dX2_walk_121 : decode cX2_walk 121 = .ok (.iconst 1, 1) := by decide +kernel
theorem dX2_walk_122 : decode cX2_walk 122 = .ok (.goto 22, 3) := by decide +kernel
theorem dX2_walk_125 : decode cX2_walk 125 = .ok (.iconst 0, 1) := by decide +kernel
theorem dX2_walk_126 : decode cX2_walk 126 = .ok (.goto 18, 3) := by decide +kernel
theorem dX2_walk_129 : decode cX2_walk 129 = .ok (.iload_n 3, 1) := by decide +kernel
theorem dX2_walk_130 : decode cX2_walk 130 = .ok (.iload 4, 2) := by decide +kernel
theorem dX2_walk_132 : decode cX2_walk 132 = .ok (.ishr, 1) := by decide +kernel
theorem dX2_walk_133 : decode cX2_walk 133 = .ok (.iconst 1, 1) := by decide +kernel
theorem dX2_walk_134 : decode cX2_walk 134 = .ok (.iand, 1) := by decide +kernel
theorem dX2_walk_135 : decode cX2_walk 135 = .ok (.iconst 1, 1) := by decide +kernel
theorem dX2_walk_136 : decode cX2_walk 136 = .ok (.if_icmp .ne 7, 3) := by decide +kernel
theorem dX2_walk_139 : decode cX2_walk 139 = .ok (.iconst 1, 1) := by decide +kernel
theorem dX2_walk_140 : decode cX2_walk 140 = .ok (.goto 4, 3) := by decide +kernel
theorem dX2_walk_143 : decode cX2_walk 143 = .ok (.iconst 0, 1) := by decide +kernel
theorem dX2_walk_144 : decode cX2_walk 144 = .ok (.istore 7, 2) := by decide +kernel
theorem dX2_walk_146 : decode cX2_walk 146 = .ok (.iinc 4 1, 3) := by decide +kernel
theorem dX2_walk_149 : decode cX2_walk 149 = .ok (.iload 7, 2) := by decide +kernel
theorem dX2_walk_151 : decode cX2_walk 151 = .ok (.iload 6, 2) := by decide +kernel
theorem dX2_walk_153 : decode cX2_walk 153 = .ok (.invokestatic 77, 3) := by decide +kernel
theorem dX2_walk_156 : decode cX2_walk 156 = .ok (.istore 8, 2) := by decide +kernel
theorem dX2_walk_158 : decode cX2_walk 158 = .ok (.iload 8, 2) := by decide +kernel
theorem dX2_walk_160 : decode cX2_walk 160 = .ok (.ifCond .ne 10, 3) := by decide +kernel
theorem dX2_walk_163 : decode cX2_walk 163 = .ok (.aload_n 0, 1) := by decide +kernel
theorem dX2_walk_164 : decode cX2_walk 164 = .ok (.iload 5, 2) := by decide +kernel
theorem dX2_walk_166 : decode cX2_walk 166 = .ok (.putfield 28, 3) := by decide +kernel
theorem dX2_walk_169 : decode cX2_walk 169 = .ok (.return_, 1) := by decide +kernel
theorem dX2_walk_170 : decode cX2_walk 170 = .ok (.aload_n 0, 1) := by decide +kernel
theorem dX2_walk_171 : decode cX2_walk 171 = .ok (.getfield 31, 3) := by decide +kernel
theorem dX2_walk_174 : decode cX2_walk 174 = .ok (.bipush (-2), 2) := by decide +kernel
theorem dX2_walk_176 : decode cX2_walk 176 = .ok (.if_icmp .ne 16, 3) := by decide +kernel
theorem dX2_walk_179 : decode cX2_walk 179 = .ok (.iload 8, 2) := by decide +kernel
theorem dX2_walk_181 : decode cX2_walk 181 = .ok (.bipush 6, 2) := by decide +kernel
theorem dX2_walk_183 : decode cX2_walk 183 = .ok (.if_icmp .ge 9, 3) := by decide +kernel
theorem dX2_walk_186 : decode cX2_walk 186 = .ok (.aload_n 0, 1) := by decide +kernel
theorem dX2_walk_187 : decode cX2_walk 187 = .ok (.iload 5, 2) := by decide +kernel
theorem dX2_walk_189 : decode cX2_walk 189 = .ok (.putfield 31, 3) := by decide +kernel
theorem dX2_walk_192 : decode cX2_walk 192 = .ok (.aload_n 0, 1) := by decide +kernel
theorem dX2_walk_193 : decode cX2_walk 193 = .ok (.dup, 1) := by decide +kernel
theorem dX2_walk_194 : decode cX2_walk 194 = .ok (.getfield 34, 3) := by decide +kernel
theorem dX2_walk_197 : decode cX2_walk 197 = .ok (.iload 8, 2) := by decide +kernel
theorem dX2_walk_199 : decode cX2_walk 199 = .ok (.i2l, 1) := by decide +kernel
theorem dX2_walk_200 : decode cX2_walk 200 = .ok (.lmul, 1) := by decide +kernel
theorem dX2_walk_201 : decode cX2_walk 201 = .ok (.putfield 34, 3) := by decide +kernel
theorem dX2_walk_204 : decode cX2_walk 204 = .ok (.aload_n 0, 1) := by decide +kernel
theorem dX2_walk_205 : decode cX2_walk 205 = .ok (.getfield 12, 3) := by decide +kernel
theorem dX2_walk_208 : decode cX2_walk 208 = .ok (.aload_n 1, 1) := by decide +kernel
theorem dX2_walk_209 : decode cX2_walk 209 = .ok (.iload 5, 2) := by decide +kernel
theorem dX2_walk_211 : decode cX2_walk 211 = .ok (.invokestatic 65, 3) := by decide +kernel
theorem dX2_walk_214 : decode cX2_walk 214 = .ok (.aload_n 1, 1) := by decide +kernel
theorem dX2_walk_215 : decode cX2_walk 215 = .ok (.iload 5, 2) := by decide +kernel
theorem dX2_walk_217 : decode cX2_walk 217 = .ok (.invokestatic 68, 3) := by decide +kernel
theorem dX2_walk_220 : decode cX2_walk 220 = .ok (.iload 7, 2) := by decide +kernel
theorem dX2_walk_222 : decode cX2_walk 222 = .ok (.invokevirtual 91, 3) := by decide +kernel
theorem dX2_walk_225 : decode cX2_walk 225 = .ok (.iinc 5 1, 3) := by decide +kernel
theorem dX2_walk_228 : decode cX2_walk 228 = .ok (.goto (-197), 3) := by decide +kernel
theorem dX2_walk_231 : decode cX2_walk 231 = .ok (.return_, 1) := by decide +kernel
theorem dX3_init_0 : decode cX3_init 0 = .ok (.aload_n 0, 1) := by decide +kernel
theorem dX3_init_1 : decode cX3_init 1 = .ok (.invokespecial 3, 3) := by decide +kernel
theorem dX3_init_4 : decode cX3_init 4 = .ok (.aload_n 0, 1) := by decide +kernel
theorem dX3_init_5 : decode cX3_init 5 = .ok (.ldc 11, 2) := by decide +kernel
theorem dX3_init_7 : decode cX3_init 7 = .ok (.invokevirtual 13, 3) := by decide +kernel
theorem dX3_init_10 : decode cX3_init 10 = .ok (.newarray .int, 2) := by decide +kernel
theorem dX3_init_12 : decode cX3_init 12 = .ok (.putfield 19, 3) := by decide +kernel
theorem dX3_init_15 : decode cX3_init 15 = .ok (.aload_n 0, 1) := by decide +kernel
theorem dX3_init_16 : decode cX3_init 16 = .ok (.aload_n 1, 1) := by decide +kernel
theorem dX3_init_17 : decode cX3_init 17 = .ok (.putfield 25, 3) := by decide +kernel
theorem dX3_init_20 : decode cX3_init 20 = .ok (.aload_n 0, 1) := by decide +kernel
theorem dX3_init_21 : decode cX3_init 21 = .ok (.aload_n 2, 1) := by decide +kernel
theorem dX3_init_22 : decode cX3_init 22 = .ok (.putfield 29, 3) := by decide +kernel
theorem dX3_init_25 : decode cX3_init 25 = .ok (.return_, 1) := by decide +kernel
theorem dX3_folk_0 : decode cX3_folk 0 = .ok (.aload_n 0, 1) := by decide +kernel
theorem dX3_folk_1 : decode cX3_folk 1 = .ok (.getfield 25, 3) := by decide +kernel
theorem dX3_folk_4 : decode cX3_folk 4 = .ok (.areturn, 1) := by decide +kernel
theorem dX3_twelfths_0 : decode cX3_twelfths 0 = .ok (.aload_n 1, 1) := by decide +kernel
theorem dX3_twelfths_1 : decode cX3_twelfths 1 = .ok (.iload_n 3, 1) := by decide +kernel
theorem dX3_twelfths_2 : decode cX3_twelfths 2 = .ok (.invokevirtual 33, 3) := by decide +kernel
theorem dX3_twelfths_5 : decode cX3_twelfths 5 = .ok (.istore 4, 2) := by decide +kernel
theorem dX3_twelfths_7 : decode cX3_twelfths 7 = .ok (.aload_n 0, 1) := by decide +kernel
theorem dX3_twelfths_8 : decode cX3_twelfths 8 = .ok (.aload_n 1, 1) := by decide +kernel
theorem dX3_twelfths_9 : decode cX3_twelfths 9 = .ok (.iload_n 2, 1) := by decide +kernel
theorem dX3_twelfths_10 : decode cX3_twelfths 10 = .ok (.iload_n 3, 1) := by decide +kernel
theorem dX3_twelfths_11 : decode cX3_twelfths 11 = .ok (.aload_n 0, 1) := by decide +kernel
theorem dX3_twelfths_12 : decode cX3_twelfths 12 = .ok (.getfield 25, 3) := by decide +kernel
theorem dX3_twelfths_15 : decode cX3_twelfths 15 = .ok (.iload 4, 2) := by decide +kernel
theorem dX3_twelfths_17 : decode cX3_twelfths 17 = .ok (.iconst 1, 1) := by decide +kernel
theorem dX3_twelfths_18 : decode cX3_twelfths 18 = .ok (.invokevirtual 39, 3) := by decide +kernel
theorem dX3_twelfths_21 : decode cX3_twelfths 21 = .ok (.iload 4, 2) := by decide +kernel
theorem dX3_twelfths_23 : decode cX3_twelfths 23 = .ok (.iload_n 3, 1) := by decide +kernel
theorem dX3_twelfths_24 : decode cX3_twelfths 24 = .ok (.if_icmp .ne 7, 3) := by decide +kernel
theorem dX3_twelfths_27 : decode cX3_twelfths 27 = .ok (.iconst 1, 1) := by decide +kernel
theorem dX3_twelfths_28 : decode cX3_twelfths 28 = .ok (.goto 4, 3) := by decide +kernel
theorem dX3_twelfths_31 : decode cX3_twelfths 31 = .ok (.iconst 0, 1) := by decide +kernel
theorem dX3_twelfths_32 : decode cX3_twelfths 32 = .ok (.invokevirtual 45, 3) := by decide +kernel
theorem dX3_twelfths_35 : decode cX3_twelfths 35 = .ok (.ireturn, 1) := by decide +kernel
theorem dX3_twelfthsAgainst_0 : decode cX3_twelfthsAgainst 0 = .ok (.aload_n 0, 1) := by decide +kernel
theorem dX3_twelfthsAgainst_1 : decode cX3_twelfthsAgainst 1 = .ok (.getfield 25, 3) := by decide +kernel
theorem dX3_twelfthsAgainst_4 : decode cX3_twelfthsAgainst 4 = .ok (.iload_n 2, 1) := by decide +kernel
theorem dX3_twelfthsAgainst_5 : decode cX3_twelfthsAgainst 5 = .ok (.iconst 0, 1) := by decide +kernel
theorem dX3_twelfthsAgainst_6 : decode cX3_twelfthsAgainst 6 = .ok (.invokevirtual 39, 3) := by decide +kernel
theorem dX3_twelfthsAgainst_9 : decode cX3_twelfthsAgainst 9 = .ok (.istore 6, 2) := by decide +kernel
theorem dX3_twelfthsAgainst_11 : decode cX3_twelfthsAgainst 11 = .ok (.aload_n 0, 1) := by decide +kernel
theorem dX3_twelfthsAgainst_12 : decode cX3_twelfthsAgainst 12 = .ok (.getfield 25, 3) := by decide +kernel
theorem dX3_twelfthsAgainst_15 : decode cX3_twelfthsAgainst 15 = .ok (.iload_n 2, 1) := by decide +kernel
theorem dX3_twelfthsAgainst_16 : decode cX3_twelfthsAgainst 16 = .ok (.iconst 2, 1) := by decide +kernel
theorem dX3_twelfthsAgainst_17 : decode cX3_twelfthsAgainst 17 = .ok (.invokevirtual 39, 3) := by decide +kernel
theorem dX3_twelfthsAgainst_20 : decode cX3_twelfthsAgainst 20 = .ok (.iload_n 3, 1) := by decide +kernel
theorem dX3_twelfthsAgainst_21 : decode cX3_twelfthsAgainst 21 = .ok (.if_icmp .ne 7, 3) := by decide +kernel
theorem dX3_twelfthsAgainst_24 : decode cX3_twelfthsAgainst 24 = .ok (.iconst 1, 1) := by decide +kernel
theorem dX3_twelfthsAgainst_25 : decode cX3_twelfthsAgainst 25 = .ok (.goto 4, 3) := by decide +kernel
theorem dX3_twelfthsAgainst_28 : decode cX3_twelfthsAgainst 28 = .ok (.iconst 0, 1) := by decide +kernel
theorem dX3_twelfthsAgainst_29 : decode cX3_twelfthsAgainst 29 = .ok (.istore 7, 2) := by decide +kernel
theorem dX3_twelfthsAgainst_31 : decode cX3_twelfthsAgainst 31 = .ok (.bipush 6, 2) := by decide +kernel
theorem dX3_twelfthsAgainst_33 : decode cX3_twelfthsAgainst 33 = .ok (.iload 6, 2) := by decide +kernel
theorem dX3_twelfthsAgainst_35 : decode cX3_twelfthsAgainst 35 = .ok (.iadd, 1) := by decide +kernel
theorem dX3_twelfthsAgainst_36 : decode cX3_twelfthsAgainst 36 = .ok (.iload 7, 2) := by decide +kernel
theorem dX3_twelfthsAgainst_38 : decode cX3_twelfthsAgainst 38 = .ok (.iadd, 1) := by decide +kernel
theorem dX3_twelfthsAgainst_39 : decode cX3_twelfthsAgainst 39 = .ok (.iload 4, 2) := by decide +kernel
theorem dX3_twelfthsAgainst_41 : decode cX3_twelfthsAgainst 41 = .ok (.isub, 1) := by decide +kernel
theorem dX3_twelfthsAgainst_42 : decode cX3_twelfthsAgainst 42 = .ok (.istore 8, 2) := by decide +kernel
theorem dX3_twelfthsAgainst_44 : decode cX3_twelfthsAgainst 44 = .ok (.aload_n 0, 1) := by decide +kernel
theorem dX3_twelfthsAgainst_45 : decode cX3_twelfthsAgainst 45 = .ok (.getfield 29, 3) := by decide +kernel
theorem dX3_twelfthsAgainst_48 : decode cX3_twelfthsAgainst 48 = .ok (.invokevirtual 49, 3) := by decide +kernel
theorem dX3_twelfthsAgainst_51 : decode cX3_twelfthsAgainst 51 = .ok (.ifCond .eq 76, 3) := by decide +kernel
theorem dX3_twelfthsAgainst_54 : decode cX3_twelfthsAgainst 54 = .ok (.aload_n 0, 1) := by decide +kernel
theorem dX3_twelfthsAgainst_55 : decode cX3_twelfthsAgainst 55 = .ok (.getfield 19, 3) := by decide +kernel
theorem dX3_twelfthsAgainst_58 : decode cX3_twelfthsAgainst 58 = .ok (.iconst 0, 1) := by decide +kernel
theorem dX3_twelfthsAgainst_59 : decode cX3_twelfthsAgainst 59 = .ok (.iload 6, 2) := by decide +kernel
theorem dX3_twelfthsAgainst_61 : decode cX3_twelfthsAgainst 61 = .ok (.iastore, 1) := by decide +kernel
theorem dX3_twelfthsAgainst_62 : decode cX3_twelfthsAgainst 62 = .ok (.aload_n 0, 1) := by decide +kernel
theorem dX3_twelfthsAgainst_63 : decode cX3_twelfthsAgainst 63 = .ok (.getfield 19, 3) := by decide +kernel
theorem dX3_twelfthsAgainst_66 : decode cX3_twelfthsAgainst 66 = .ok (.iconst 1, 1) := by decide +kernel
theorem dX3_twelfthsAgainst_67 : decode cX3_twelfthsAgainst 67 = .ok (.iload 4, 2) := by decide +kernel
theorem dX3_twelfthsAgainst_69 : decode cX3_twelfthsAgainst 69 = .ok (.iastore, 1) := by decide +kernel
theorem dX3_twelfthsAgainst_70 : decode cX3_twelfthsAgainst 70 = .ok (.aload_n 0, 1) := by decide +kernel
theorem dX3_twelfthsAgainst_71 : decode cX3_twelfthsAgainst 71 = .ok (.getfield 19, 3) := by decide +kernel
theorem dX3_twelfthsAgainst_74 : decode cX3_twelfthsAgainst 74 = .ok (.iconst 2, 1) := by decide +kernel
theorem dX3_twelfthsAgainst_75 : decode cX3_twelfthsAgainst 75 = .ok (.iload 5, 2) := by decide +kernel
theorem dX3_twelfthsAgainst_77 : decode cX3_twelfthsAgainst 77 = .ok (.ifCond .eq 7, 3) := by decide +kernel
theorem dX3_twelfthsAgainst_80 : decode cX3_twelfthsAgainst 80 = .ok (.iconst 1, 1) := by decide +kernel
theorem dX3_twelfthsAgainst_81 : decode cX3_twelfthsAgainst 81 = .ok (.goto 4, 3) := by decide +kernel
theorem dX3_twelfthsAgainst_84 : decode cX3_twelfthsAgainst 84 = .ok (.iconst 0, 1) := by decide +kernel
theorem dX3_twelfthsAgainst_85 : decode cX3_twelfthsAgainst 85 = .ok (.iastore, 1) := by decide +kernel
theorem dX3_twelfthsAgainst_86 : decode cX3_twelfthsAgainst 86 = .ok (.aload_n 0, 1) := by decide +kernel
theorem dX3_twelfthsAgainst_87 : decode cX3_twelfthsAgainst 87 = .ok (.getfield 19, 3) := by decide +kernel
theorem dX3_twelfthsAgainst_90 : decode cX3_twelfthsAgainst 90 = .ok (.iconst 3, 1) := by decide +kernel
theorem dX3_twelfthsAgainst_91 : decode cX3_twelfthsAgainst 91 = .ok (.iload 7, 2) := by decide +kernel
theorem dX3_twelfthsAgainst_93 : decode cX3_twelfthsAgainst 93 = .ok (.iastore, 1) := by decide +kernel
theorem dX3_twelfthsAgainst_94 : decode cX3_twelfthsAgainst 94 = .ok (.aload_n 0, 1) := by decide +kernel
theorem dX3_twelfthsAgainst_95 : decode cX3_twelfthsAgainst 95 = .ok (.getfield 19, 3) := by decide +kernel
theorem dX3_twelfthsAgainst_98 : decode cX3_twelfthsAgainst 98 = .ok (.iconst 4, 1) := by decide +kernel
theorem dX3_twelfthsAgainst_99 : decode cX3_twelfthsAgainst 99 = .ok (.aload_n 1, 1) := by decide +kernel
theorem dX3_twelfthsAgainst_100 : decode cX3_twelfthsAgainst 100 = .ok (.invokevirtual 55, 3) := by decide +kernel
theorem dX3_twelfthsAgainst_103 : decode cX3_twelfthsAgainst 103 = .ok (.iastore, 1) := by decide +kernel
theorem dX3_twelfthsAgainst_104 : decode cX3_twelfthsAgainst 104 = .ok (.aload_n 0, 1) := by decide +kernel
theorem dX3_twelfthsAgainst_105 : decode cX3_twelfthsAgainst 105 = .ok (.getfield 19, 3) := by decide +kernel
theorem dX3_twelfthsAgainst_108 : decode cX3_twelfthsAgainst 108 = .ok (.iconst 5, 1) := by decide +kernel
theorem dX3_twelfthsAgainst_109 : decode cX3_twelfthsAgainst 109 = .ok (.aload_n 1, 1) := by decide +kernel
theorem dX3_twelfthsAgainst_110 : decode cX3_twelfthsAgainst 110 = .ok (.invokevirtual 58, 3) := by decide +kernel
theorem dX3_twelfthsAgainst_113 : decode cX3_twelfthsAgainst 113 = .ok (.iastore, 1) := by decide +kernel
theorem dX3_twelfthsAgainst_114 : decode cX3_twelfthsAgainst 114 = .ok (.aload_n 0, 1) := by decide +kernel
theorem dX3_twelfthsAgainst_115 : decode cX3_twelfthsAgainst 115 = .ok (.getfield 29, 3) := by decide +kernel
theorem dX3_twelfthsAgainst_118 : decode cX3_twelfthsAgainst 118 = .ok (.aload_n 0, 1) := by decide +kernel
theorem dX3_twelfthsAgainst_119 : decode cX3_twelfthsAgainst 119 = .ok (.getfield 19, 3) := by decide +kernel
theorem dX3_twelfthsAgainst_122 : decode cX3_twelfthsAgainst 122 = .ok (.invokevirtual 61, 3) := by decide +kernel
theorem dX3_twelfthsAgainst_125 : decode cX3_twelfthsAgainst 125 = .ok (.istore 8, 2) := by decide +kernel
theorem dX3_twelfthsAgainst_127 : decode cX3_twelfthsAgainst 127 = .ok (.iconst 0, 1) := by decide +kernel
theorem dX3_twelfthsAgainst_128 : decode cX3_twelfthsAgainst 128 = .ok (.bipush 12, 2) := by decide +kernel
theorem dX3_twelfthsAgainst_130 : decode cX3_twelfthsAgainst 130 = .ok (.iload 8, 2) := by decide +kernel
theorem dX3_twelfthsAgainst_132 : decode cX3_twelfthsAgainst 132 = .ok (.invokestatic 65, 3) := by decide +kernel
theorem dX3_twelfthsAgainst_135 : decode cX3_twelfthsAgainst 135 = .ok (.invokestatic 70, 3) := by decide +kernel
theorem dX3_twelfthsAgainst_138 : decode cX3_twelfthsAgainst 138 = .ok (.ireturn, 1) := by decide +kernel
theorem dX3_shareOf_0 : decode cX3_shareOf 0 = .ok (.iload_n 0, 1) := by decide +kernel
theorem dX3_shareOf_1 : decode cX3_shareOf 1 = .ok (.ifCond .eq 7, 3) := by decide +kernel
theorem dX3_shareOf_4 : decode cX3_shareOf 4 = .ok (.iload_n 1, 1) := by decide +kernel
theorem dX3_shareOf_5 : decode cX3_shareOf 5 = .ok (.goto 7, 3) := by decide +kernel
theorem dX3_shareOf_8 : decode cX3_shareOf 8 = .ok (.bipush 12, 2) := by decide +kernel
theorem dX3_shareOf_10 : decode cX3_shareOf 10 = .ok (.iload_n 1, 1) := by decide +kernel
theorem dX3_shareOf_11 : decode cX3_shareOf 11 = .ok (.isub, 1) := by decide +kernel
theorem dX3_shareOf_12 : decode cX3_shareOf 12 = .ok (.ireturn, 1) := by decide +kernel
theorem dX3_easiest_0 : decode cX3_easiest 0 = .ok (.aload_n 0, 1) := by decide +kernel
theorem dX3_easiest_1 : decode cX3_easiest 1 = .ok (.aload_n 1, 1) := by decide +kernel
theorem dX3_easiest_2 : decode cX3_easiest 2 = .ok (.iload_n 2, 1) := by decide +kernel
theorem dX3_easiest_3 : decode cX3_easiest 3 = .ok (.iconst 1, 1) := by decide +kernel
theorem dX3_easiest_4 : decode cX3_easiest 4 = .ok (.invokevirtual 73, 3) := by decide +kernel
theorem dX3_easiest_7 : decode cX3_easiest 7 = .ok (.ireturn, 1) := by decide +kernel
theorem dX3_hardest_0 : decode cX3_hardest 0 = .ok (.aload_n 0, 1) := by decide +kernel
theorem dX3_hardest_1 : decode cX3_hardest 1 = .ok (.aload_n 1, 1) := by decide +kernel
theorem dX3_hardest_2 : decode cX3_hardest 2 = .ok (.iload_n 2, 1) := by decide +kernel
theorem dX3_hardest_3 : decode cX3_hardest 3 = .ok (.iconst 0, 1) := by decide +kernel
theorem dX3_hardest_4 : decode cX3_hardest 4 = .ok (.invokevirtual 73, 3) := by decide +kernel
theorem dX3_hardest_7 : decode cX3_hardest 7 = .ok (.ireturn, 1) := by decide +kernel
theorem dX3_foremost_0 : decode cX3_foremost 0 = .ok (.bipush (-2), 2) := by decide +kernel
theorem dX3_foremost_2 : decode cX3_foremost 2 = .ok (.istore 4, 2) := by decide +kernel
theorem dX3_foremost_4 : decode cX3_foremost 4 = .ok (.iconst (-1), 1) := by decide +kernel
theorem dX3_foremost_5 : decode cX3_foremost 5 = .ok (.istore 5, 2) := by decide +kernel
theorem dX3_foremost_7 : decode cX3_foremost 7 = .ok (.iconst 0, 1) := by decide +kernel
theorem dX3_foremost_8 : decode cX3_foremost 8 = .ok (.istore 6, 2) := by decide +kernel
theorem dX3_foremost_10 : decode cX3_foremost 10 = .ok (.iload 6, 2) := by decide +kernel
theorem dX3_foremost_12 : decode cX3_foremost 12 = .ok (.aload_n 0, 1) := by decide +kernel
theorem dX3_foremost_13 : decode cX3_foremost 13 = .ok (.getfield 25, 3) := by decide +kernel
theorem dX3_foremost_16 : decode cX3_foremost 16 = .ok (.invokevirtual 77, 3) := by decide +kernel
theorem dX3_foremost_19 : decode cX3_foremost 19 = .ok (.if_icmp .ge 48, 3) := by decide +kernel
theorem dX3_foremost_22 : decode cX3_foremost 22 = .ok (.iload 6, 2) := by decide +kernel
theorem dX3_foremost_24 : decode cX3_foremost 24 = .ok (.iload_n 2, 1) := by decide +kernel
theorem dX3_foremost_25 : decode cX3_foremost 25 = .ok (.if_icmp .ne 7, 3) := by decide +kernel
theorem dX3_foremost_28 : decode cX3_foremost 28 = .ok (.iconst (-1), 1) := by decide +kernel
theorem dX3_foremost_29 : decode cX3_foremost 29 = .ok (.goto 15, 3) := by decide +kernel
theorem dX3_foremost_32 : decode cX3_foremost 32 = .ok (.iload_n 3, 1) := by decide +kernel
theorem dX3_foremost_33 : decode cX3_foremost 33 = .ok (.aload_n 0, 1) := by decide +kernel
theorem dX3_foremost_34 : decode cX3_foremost 34 = .ok (.aload_n 1, 1) := by decide +kernel
theorem dX3_foremost_35 : decode cX3_foremost 35 = .ok (.iload_n 2, 1) := by decide +kernel
theorem dX3_foremost_36 : decode cX3_foremost 36 = .ok (.iload 6, 2) := by decide +kernel
theorem dX3_foremost_38 : decode cX3_foremost 38 = .ok (.invokevirtual 80, 3) := by decide +kernel
theorem dX3_foremost_41 : decode cX3_foremost 41 = .ok (.invokestatic 84, 3) := by decide +kernel
theorem dX3_foremost_44 : decode cX3_foremost 44 = .ok (.istore 7, 2) := by decide +kernel
theorem dX3_foremost_46 : decode cX3_foremost 46 = .ok (.iload 7, 2) := by decide +kernel
theorem dX3_foremost_48 : decode cX3_foremost 48 = .ok (.iload 5, 2) := by decide +kernel
theorem dX3_foremost_50 : decode cX3_foremost 50 = .ok (.if_icmp .le 11, 3) := by decide +kernel
theorem dX3_foremost_53 : decode cX3_foremost 53 = .ok (.iload 7, 2) := by decide +kernel
theorem dX3_foremost_55 : decode cX3_foremost 55 = .ok (.istore 5, 2) := by decide +kernel
theorem dX3_foremost_57 : decode cX3_foremost 57 = .ok (.iload 6, 2) := by decide +kernel
theorem dX3_foremost_59 : decode cX3_foremost 59 = .ok (.istore 4, 2) := by decide +kernel
theorem dX3_foremost_61 : decode cX3_foremost 61 = .ok (.iinc 6 1, 3) := by decide +kernel
theorem dX3_foremost_64 : decode cX3_foremost 64 = .ok (.goto (-54), 3) := by decide +kernel
theorem dX3_foremost_67 : decode cX3_foremost 67 = .ok (.iload 4, 2) := by decide +kernel
theorem dX3_foremost_69 : decode cX3_foremost 69 = .ok (.ireturn, 1) := by decide +kernel
theorem dX4_init_0 : decode cX4_init 0 = .ok (.aload_n 0, 1) := by decide +kernel
theorem dX4_init_1 : decode cX4_init 1 = .ok (.invokespecial 3, 3) := by decide +kernel
theorem dX4_init_4 : decode cX4_init 4 = .ok (.aload_n 0, 1) := by decide +kernel
theorem dX4_init_5 : decode cX4_init 5 = .ok (.bipush 10, 2) := by decide +kernel
theorem dX4_init_7 : decode cX4_init 7 = .ok (.newarray .int, 2) := by decide +kernel
theorem dX4_init_9 : decode cX4_init 9 = .ok (.putfield 11, 3) := by decide +kernel
theorem dX4_init_12 : decode cX4_init 12 = .ok (.aload_n 0, 1) := by decide +kernel
theorem dX4_init_13 : decode cX4_init 13 = .ok (.bipush 10, 2) := by decide +kernel
theorem dX4_init_15 : decode cX4_init 15 = .ok (.newarray .int, 2) := by decide +kernel
theorem dX4_init_17 : decode cX4_init 17 = .ok (.putfield 15, 3) := by decide +kernel
theorem dX4_init_20 : decode cX4_init 20 = .ok (.aload_n 0, 1) := by decide +kernel
theorem dX4_init_21 : decode cX4_init 21 = .ok (.iconst 0, 1) := by decide +kernel
theorem dX4_init_22 : decode cX4_init 22 = .ok (.putfield 18, 3) := by decide +kernel
theorem dX4_init_25 : decode cX4_init 25 = .ok (.aload_n 0, 1) := by decide +kernel
theorem dX4_init_26 : decode cX4_init 26 = .ok (.bipush 7, 2) := by decide +kernel
theorem dX4_init_28 : decode cX4_init 28 = .ok (.newarray .int, 2) := by decide +kernel
theorem dX4_init_30 : decode cX4_init 30 = .ok (.putfield 22, 3) := by decide +kernel
theorem dX4_init_33 : decode cX4_init 33 = .ok (.aload_n 0, 1) := by decide +kernel
theorem dX4_init_34 : decode cX4_init 34 = .ok (.bipush 6, 2) := by decide +kernel
theorem dX4_init_36 : decode cX4_init 36 = .ok (.newarray .int, 2) := by decide +kernel
theorem dX4_init_38 : decode cX4_init 38 = .ok (.putfield 25, 3) := by decide +kernel
theorem dX4_init_41 : decode cX4_init 41 = .ok (.return_, 1) := by decide +kernel
theorem dX4_size_0 : decode cX4_size 0 = .ok (.aload_n 0, 1) := by decide +kernel
theorem dX4_size_1 : decode cX4_size 1 = .ok (.getfield 18, 3) := by decide +kernel
theorem dX4_size_4 : decode cX4_size 4 = .ok (.ireturn, 1) := by decide +kernel
theorem dX4_read_0 : decode cX4_read 0 = .ok (.aload_n 0, 1) := by decide +kernel
theorem dX4_read_1 : decode cX4_read 1 = .ok (.iconst 0, 1) := by decide +kernel
theorem dX4_read_2 : decode cX4_read 2 = .ok (.putfield 18, 3) := by decide +kernel
theorem dX4_read_5 : decode cX4_read 5 = .ok (.iconst 0, 1) := by decide +kernel
theorem dX4_read_6 : decode cX4_read 6 = .ok (.istore_n 3, 1) := by decide +kernel
theorem dX4_read_7 : decode cX4_read 7 = .ok (.iload_n 3, 1) := by decide +kernel
theorem dX4_read_8 : decode cX4_read 8 = .ok (.bipush 7, 2) := by decide +kernel
theorem dX4_read_10 : decode cX4_read 10 = .ok (.if_icmp .ge 16, 3) := by decide +kernel
theorem dX4_read_13 : decode cX4_read 13 = .ok (.aload_n 0, 1) := by decide +kernel
theorem dX4_read_14 : decode cX4_read 14 = .ok (.getfield 22, 3) := by decide +kernel
theorem dX4_read_17 : decode cX4_read 17 = .ok (.iload_n 3, 1) := by decide +kernel
theorem dX4_read_18 : decode cX4_read 18 = .ok (.iconst 0, 1) := by decide +kernel
theorem dX4_read_19 : decode cX4_read 19 = .ok (.iastore, 1) := by decide +kernel
theorem dX4_read_20 : decode cX4_read 20 = .ok (.iinc 3 1, 3) := by decide +kernel
theorem dX4_read_23 : decode cX4_read 23 = .ok (.goto (-16), 3) := by decide +kernel
theorem dX4_read_26 : decode cX4_read 26 = .ok (.iconst 0, 1) := by decide +kernel
theorem dX4_read_27 : decode cX4_read 27 = .ok (.istore_n 3, 1) := by decide +kernel
theorem dX4_read_28 : decode cX4_read 28 = .ok (.iload_n 3, 1) := by decide +kernel
theorem dX4_read_29 : decode cX4_read 29 = .ok (.bipush 10, 2) := by decide +kernel
theorem dX4_read_31 : decode cX4_read 31 = .ok (.if_icmp .ge 93, 3) := by decide +kernel
theorem dX4_read_34 : decode cX4_read 34 = .ok (.iconst 2, 1) := by decide +kernel
theorem dX4_read_35 : decode cX4_read 35 = .ok (.iload_n 3, 1) := by decide +kernel
theorem dX4_read_36 : decode cX4_read 36 = .ok (.imul, 1) := by decide +kernel
theorem dX4_read_37 : decode cX4_read 37 = .ok (.iconst 2, 1) := by decide +kernel
theorem dX4_read_38 : decode cX4_read 38 = .ok (.iadd, 1) := by decide +kernel
theorem dX4_read_39 : decode cX4_read 39 = .ok (.aload_n 1, 1) := by decide +kernel
theorem dX4_read_40 : decode cX4_read 40 = .ok (.invokevirtual 28, 3) := by decide +kernel
theorem dX4_read_43 : decode cX4_read 43 = .ok (.if_icmp .gt 81, 3) := by decide +kernel
theorem dX4_read_46 : decode cX4_read 46 = .ok (.aload_n 1, 1) := by decide +kernel
theorem dX4_read_47 : decode cX4_read 47 = .ok (.iconst 2, 1) := by decide +kernel
theorem dX4_read_48 : decode cX4_read 48 = .ok (.iload_n 3, 1) := by decide +kernel
theorem dX4_read_49 : decode cX4_read 49 = .ok (.imul, 1) := by decide +kernel
theorem dX4_read_50 : decode cX4_read 50 = .ok (.invokevirtual 33, 3) := by decide +kernel
theorem dX4_read_53 : decode cX4_read 53 = .ok (.istore 4, 2) := by decide +kernel
theorem dX4_read_55 : decode cX4_read 55 = .ok (.aload_n 1, 1) := by decide +kernel
theorem dX4_read_56 : decode cX4_read 56 = .ok (.iconst 2, 1) := by decide +kernel
theorem dX4_read_57 : decode cX4_read 57 = .ok (.iload_n 3, 1) := by decide +kernel
theorem dX4_read_58 : decode cX4_read 58 = .ok (.imul, 1) := by decide +kernel
theorem dX4_read_59 : decode cX4_read 59 = .ok (.iconst 1, 1) := by decide +kernel
theorem dX4_read_60 : decode cX4_read 60 = .ok (.iadd, 1) := by decide +kernel
theorem dX4_read_61 : decode cX4_read 61 = .ok (.invokevirtual 33, 3) := by decide +kernel
theorem dX4_read_64 : decode cX4_read 64 = .ok (.istore 5, 2) := by decide +kernel
theorem dX4_read_66 : decode cX4_read 66 = .ok (.aload_n 2, 1) := by decide +kernel
theorem dX4_read_67 : decode cX4_read 67 = .ok (.iload 4, 2) := by decide +kernel
theorem dX4_read_69 : decode cX4_read 69 = .ok (.iload 5, 2) := by decide +kernel
theorem dX4_read_71 : decode cX4_read 71 = .ok (.invokevirtual 37, 3) := by decide +kernel
theorem dX4_read_74 : decode cX4_read 74 = .ok (.ifCond .ne 4, 3) := by decide +kernel
theorem dX4_read_77 : decode cX4_read 77 = .ok (.return_, 1) := by decide +kernel
theorem dX4_read_78 : decode cX4_read 78 = .ok (.aload_n 0, 1) := by decide +kernel
theorem dX4_read_79 : decode cX4_read 79 = .ok (.getfield 11, 3) := by decide +kernel
theorem dX4_read_82 : decode cX4_read 82 = .ok (.iload_n 3, 1) := by decide +kernel
theorem dX4_read_83 : decode cX4_read 83 = .ok (.iload 4, 2) := by decide +kernel
theorem dX4_read_85 : decode cX4_read 85 = .ok (.iastore, 1) := by decide +kernel
theorem dX4_read_86 : decode cX4_read 86 = .ok (.aload_n 0, 1) := by decide +kernel
theorem dX4_read_87 : decode cX4_read 87 = .ok (.getfield 15, 3) := by decide +kernel
theorem dX4_read_90 : decode cX4_read 90 = .ok (.iload_n 3, 1) := by decide +kernel
theorem dX4_read_91 : decode cX4_read 91 = .ok (.iload 5, 2) := by decide +kernel
theorem dX4_read_93 : decode cX4_read 93 = .ok (.iastore, 1) := by decide +kernel
theorem dX4_read_94 : decode cX4_read 94 = .ok (.aload_n 0, 1) := by decide +kernel
theorem dX4_read_95 : decode cX4_read 95 = .ok (.getfield 22, 3) := by decide +kernel
theorem dX4_read_98 : decode cX4_read 98 = .ok (.iload 4, 2) := by decide +kernel
theorem dX4_read_100 : decode cX4_read 100 = .ok (.dup2, 1) := by decide +kernel
theorem dX4_read_101 : decode cX4_read 101 = .ok (.iaload, 1) := by decide +kernel
theorem dX4_read_102 : decode cX4_read 102 = .ok (.iconst 1, 1) := by decide +kernel
theorem dX4_read_103 : decode cX4_read 103 = .ok (.iload 5, 2) := by decide +kernel
theorem dX4_read_105 : decode cX4_read 105 = .ok (.ishl, 1) := by decide +kernel
theorem dX4_read_106 : decode cX4_read 106 = .ok (.ior, 1) := by decide +kernel
theorem dX4_read_107 : decode cX4_read 107 = .ok (.iastore, 1) := by decide +kernel
theorem dX4_read_108 : decode cX4_read 108 = .ok (.aload_n 0, 1) := by decide +kernel
theorem dX4_read_109 : decode cX4_read 109 = .ok (.dup, 1) := by decide +kernel
theorem dX4_read_110 : decode cX4_read 110 = .ok (.getfield 18, 3) := by decide +kernel
theorem dX4_read_113 : decode cX4_read 113 = .ok (.iconst 1, 1) := by decide +kernel
theorem dX4_read_114 : decode cX4_read 114 = .ok (.iadd, 1) := by decide +kernel
theorem dX4_read_115 : decode cX4_read 115 = .ok (.putfield 18, 3) := by decide +kernel
theorem dX4_read_118 : decode cX4_read 118 = .ok (.iinc 3 1, 3) := by decide +kernel
theorem dX4_read_121 : decode cX4_read 121 = .ok (.goto (-93), 3) := by decide +kernel
theorem dX4_read_124 : decode cX4_read 124 = .ok (.return_, 1) := by decide +kernel
theorem dX4_neverCharged_0 : decode cX4_neverCharged 0 = .ok (.iconst 1, 1) := by decide +kernel
theorem dX4_neverCharged_1 : decode cX4_neverCharged 1 = .ok (.aload_n 1, 1) := by decide +kernel
theorem dX4_neverCharged_2 : decode cX4_neverCharged 2 = .ok (.invokevirtual 43, 3) := by decide +kernel
theorem dX4_neverCharged_5 : decode cX4_neverCharged 5 = .ok (.ishl, 1) := by decide +kernel
theorem dX4_neverCharged_6 : decode cX4_neverCharged 6 = .ok (.iconst 1, 1) := by decide +kernel
theorem dX4_neverCharged_7 : decode cX4_neverCharged 7 = .ok (.isub, 1) := by decide +kernel
theorem dX4_neverCharged_8 : decode cX4_neverCharged 8 = .ok (.istore_n 2, 1) := by decide +kernel
theorem dX4_neverCharged_9 : decode cX4_neverCharged 9 = .ok (.iconst 0, 1) := by decide +kernel
theorem dX4_neverCharged_10 : decode cX4_neverCharged 10 = .ok (.istore_n 3, 1) := by decide +kernel
theorem dX4_neverCharged_11 : decode cX4_neverCharged 11 = .ok (.iload_n 3, 1) := by decide +kernel
theorem dX4_neverCharged_12 : decode cX4_neverCharged 12 = .ok (.bipush 7, 2) := by decide +kernel
theorem dX4_neverCharged_14 : decode cX4_neverCharged 14 = .ok (.if_icmp .ge 20, 3) := by decide +kernel
theorem dX4_neverCharged_17 : decode cX4_neverCharged 17 = .ok (.iload_n 2, 1) := by decide +kernel
theorem dX4_neverCharged_18 : decode cX4_neverCharged 18 = .ok (.aload_n 0, 1) := by decide +kernel
theorem dX4_neverCharged_19 : decode cX4_neverCharged 19 = .ok (.getfield 22, 3) := by decide +kernel
theorem dX4_neverCharged_22 : decode cX4_neverCharged 22 = .ok (.iload_n 3, 1) := by decide +kernel
theorem dX4_neverCharged_23 : decode cX4_neverCharged 23 = .ok (.iaload, 1) := by decide +kernel
theorem dX4_neverCharged_24 : decode cX4_neverCharged 24 = .ok (.iconst (-1), 1) := by decide +kernel
theorem dX4_neverCharged_25 : decode cX4_neverCharged 25 = .ok (.ixor, 1) := by decide +kernel
theorem dX4_neverCharged_26 : decode cX4_neverCharged 26 = .ok (.iand, 1) := by decide +kernel
theorem dX4_neverCharged_27 : decode cX4_neverCharged 27 = .ok (.istore_n 2, 1) := by decide +kernel
theorem dX4_neverCharged_28 : decode cX4_neverCharged 28 = .ok (.iinc 3 1, 3) := by decide +kernel
theorem dX4_neverCharged_31 : decode cX4_neverCharged 31 = .ok (.goto (-20), 3) := by decide +kernel
theorem dX4_neverCharged_34 : decode cX4_neverCharged 34 = .ok (.iload_n 2, 1) := by decide +kernel
theorem dX4_neverCharged_35 : decode cX4_neverCharged 35 = .ok (.ireturn, 1) := by decide +kernel
theorem dX4_threes_0 : decode cX4_threes 0 = .ok (.iconst 0, 1) := by decide +kernel
theorem dX4_threes_1 : decode cX4_threes 1 = .ok (.istore_n 1, 1) := by decide +kernel
theorem dX4_threes_2 : decode cX4_threes 2 = .ok (.iconst 0, 1) := by decide +kernel
theorem dX4_threes_3 : decode cX4_threes 3 = .ok (.istore_n 2, 1) := by decide +kernel
theorem dX4_threes_4 : decode cX4_threes 4 = .ok (.iload_n 2, 1) := by decide +kernel
theorem dX4_threes_5 : decode cX4_threes 5 = .ok (.bipush 7, 2) := by decide +kernel
theorem dX4_threes_7 : decode cX4_threes 7 = .ok (.if_icmp .ge 75, 3) := by decide +kernel
theorem dX4_threes_10 : decode cX4_threes 10 = .ok (.iload_n 2, 1) := by decide +kernel
theorem dX4_threes_11 : decode cX4_threes 11 = .ok (.iconst 1, 1) := by decide +kernel
theorem dX4_threes_12 : decode cX4_threes 12 = .ok (.iadd, 1) := by decide +kernel
theorem dX4_threes_13 : decode cX4_threes 13 = .ok (.istore_n 3, 1) := by decide +kernel
theorem dX4_threes_14 : decode cX4_threes 14 = .ok (.iload_n 3, 1) := by decide +kernel
theorem dX4_threes_15 : decode cX4_threes 15 = .ok (.bipush 7, 2) := by decide +kernel
theorem dX4_threes_17 : decode cX4_threes 17 = .ok (.if_icmp .ge 59, 3) := by decide +kernel
theorem dX4_threes_20 : decode cX4_threes 20 = .ok (.iload_n 2, 1) := by decide +kernel
theorem dX4_threes_21 : decode cX4_threes 21 = .ok (.iconst 1, 1) := by decide +kernel
theorem dX4_threes_22 : decode cX4_threes 22 = .ok (.iadd, 1) := by decide +kernel
theorem dX4_threes_23 : decode cX4_threes 23 = .ok (.istore 4, 2) := by decide +kernel
theorem dX4_threes_25 : decode cX4_threes 25 = .ok (.iload 4, 2) := by decide +kernel
theorem dX4_threes_27 : decode cX4_threes 27 = .ok (.bipush 7, 2) := by decide +kernel
theorem dX4_threes_29 : decode cX4_threes 29 = .ok (.if_icmp .ge 41, 3) := by decide +kernel
theorem dX4_threes_32 : decode cX4_threes 32 = .ok (.aload_n 0, 1) := by decide +kernel
theorem dX4_threes_33 : decode cX4_threes 33 = .ok (.iload_n 2, 1) := by decide +kernel
theorem dX4_threes_34 : decode cX4_threes 34 = .ok (.iload_n 3, 1) := by decide +kernel
theorem dX4_threes_35 : decode cX4_threes 35 = .ok (.invokevirtual 44, 3) := by decide +kernel
theorem dX4_threes_38 : decode cX4_threes 38 = .ok (.ifCond .eq 26, 3) := by decide +kernel
theorem dX4_threes_41 : decode cX4_threes 41 = .ok (.aload_n 0, 1) := by decide +kernel
theorem dX4_threes_42 : decode cX4_threes 42 = .ok (.iload_n 3, 1) := by decide +kernel
theorem dX4_threes_43 : decode cX4_threes 43 = .ok (.iload 4, 2) := by decide +kernel
theorem dX4_threes_45 : decode cX4_threes 45 = .ok (.invokevirtual 44, 3) := by decide +kernel
theorem dX4_threes_48 : decode cX4_threes 48 = .ok (.ifCond .eq 16, 3) := by decide +kernel
theorem dX4_threes_51 : decode cX4_threes 51 = .ok (.aload_n 0, 1) := by decide +kernel
theorem dX4_threes_52 : decode cX4_threes 52 = .ok (.iload 4, 2) := by decide +kernel
theorem dX4_threes_54 : decode cX4_threes 54 = .ok (.iload_n 2, 1) := by decide +kernel
theorem dX4_threes_55 : decode cX4_threes 55 = .ok (.invokevirtual 44, 3) := by decide +kernel
theorem dX4_threes_58 : decode cX4_threes 58 = .ok (.ifCond .eq 6, 3) := by decide +kernel
theorem dX4_threes_61 : decode cX4_threes 61 = .ok (.iinc 1 1, 3) := by decide +kernel
theorem dX4_threes_64 : decode cX4_threes 64 = .ok (.iinc 4 1, 3) := by decide +kernel
theorem dX4_threes_67 : decode cX4_threes 67 = .ok (.goto (-42), 3) := by decide +kernel
theorem dX4_threes_70 : decode cX4_threes 70 = .ok (.iinc 3 1, 3) := by decide +kernel
theorem dX4_threes_73 : decode cX4_threes 73 = .ok (.goto (-59), 3) := by decide +kernel
theorem dX4_threes_76 : decode cX4_threes 76 = .ok (.iinc 2 1, 3) := by decide +kernel
theorem dX4_threes_79 : decode cX4_threes 79 = .ok (.goto (-75), 3) := by decide +kernel
theorem dX4_threes_82 : decode cX4_threes 82 = .ok (.iload_n 1, 1) := by decide +kernel
theorem dX4_threes_83 : decode cX4_threes 83 = .ok (.ireturn, 1) := by decide +kernel
theorem dX4_hasCharge_0 : decode cX4_hasCharge 0 = .ok (.aload_n 0, 1) := by decide +kernel
theorem dX4_hasCharge_1 : decode cX4_hasCharge 1 = .ok (.getfield 22, 3) := by decide +kernel
theorem dX4_hasCharge_4 : decode cX4_hasCharge 4 = .ok (.iload_n 1, 1) := by decide +kernel
theorem dX4_hasCharge_5 : decode cX4_hasCharge 5 = .ok (.iaload, 1) := by decide +kernel
theorem dX4_hasCharge_6 : decode cX4_hasCharge 6 = .ok (.iload_n 2, 1) := by decide +kernel
theorem dX4_hasCharge_7 : decode cX4_hasCharge 7 = .ok (.ishr, 1) := by decide +kernel
theorem dX4_hasCharge_8 : decode cX4_hasCharge 8 = .ok (.iconst 1, 1) := by decide +kernel
theorem dX4_hasCharge_9 : decode cX4_hasCharge 9 = .ok (.iand, 1) := by decide +kernel
theorem dX4_hasCharge_10 : decode cX4_hasCharge 10 = .ok (.iconst 1, 1) := by decide +kernel
theorem dX4_hasCharge_11 : decode cX4_hasCharge 11 = .ok (.if_icmp .ne 7, 3) := by decide +kernel
theorem dX4_hasCharge_14 : decode cX4_hasCharge 14 = .ok (.iconst 1, 1) := by decide +kernel
theorem dX4_hasCharge_15 : decode cX4_hasCharge 15 = .ok (.goto 4, 3) := by decide +kernel
theorem dX4_hasCharge_18 : decode cX4_hasCharge 18 = .ok (.iconst 0, 1) := by decide +kernel
theorem dX4_hasCharge_19 : decode cX4_hasCharge 19 = .ok (.ireturn, 1) := by decide +kernel
theorem dX4_dealDays_0 : decode cX4_dealDays 0 = .ok (.iconst 0, 1) := by decide +kernel
theorem dX4_dealDays_1 : decode cX4_dealDays 1 = .ok (.istore_n 1, 1) := by decide +kernel
theorem dX4_dealDays_2 : decode cX4_dealDays 2 = .ok (.iload_n 1, 1) := by decide +kernel
theorem dX4_dealDays_3 : decode cX4_dealDays 3 = .ok (.bipush 6, 2) := by decide +kernel
theorem dX4_dealDays_5 : decode cX4_dealDays 5 = .ok (.if_icmp .gt 20, 3) := by decide +kernel
theorem dX4_dealDays_8 : decode cX4_dealDays 8 = .ok (.aload_n 0, 1) := by decide +kernel
theorem dX4_dealDays_9 : decode cX4_dealDays 9 = .ok (.iconst 0, 1) := by decide +kernel
theorem dX4_dealDays_10 : decode cX4_dealDays 10 = .ok (.iload_n 1, 1) := by decide +kernel
theorem dX4_dealDays_11 : decode cX4_dealDays 11 = .ok (.invokevirtual 47, 3) := by decide +kernel
theorem dX4_dealDays_14 : decode cX4_dealDays 14 = .ok (.ifCond .eq 5, 3) := by decide +kernel
theorem dX4_dealDays_17 : decode cX4_dealDays 17 = .ok (.iload_n 1, 1) := by decide +kernel
theorem dX4_dealDays_18 : decode cX4_dealDays 18 = .ok (.ireturn, 1) := by decide +kernel
theorem dX4_dealDays_19 : decode cX4_dealDays 19 = .ok (.iinc 1 1, 3) := by decide +kernel
theorem dX4_dealDays_22 : decode cX4_dealDays 22 = .ok (.goto (-20), 3) := by decide +kernel
theorem dX4_dealDays_25 : decode cX4_dealDays 25 = .ok (.bipush (-2), 2) := by decide +kernel
theorem dX4_dealDays_27 : decode cX4_dealDays 27 = .ok (.ireturn, 1) := by decide +kernel
theorem dX4_dayOf_0 : decode cX4_dayOf 0 = .ok (.iload_n 1, 1) := by decide +kernel
theorem dX4_dayOf_1 : decode cX4_dayOf 1 = .ok (.ifCond .lt 26, 3) := by decide +kernel
theorem dX4_dayOf_4 : decode cX4_dayOf 4 = .ok (.iload_n 1, 1) := by decide +kernel
theorem dX4_dayOf_5 : decode cX4_dayOf 5 = .ok (.aload_n 0, 1) := by decide +kernel
theorem dX4_dayOf_6 : decode cX4_dayOf 6 = .ok (.getfield 18, 3) := by decide +kernel
theorem dX4_dayOf_9 : decode cX4_dayOf 9 = .ok (.if_icmp .ge 18, 3) := by decide +kernel
theorem dX4_dayOf_12 : decode cX4_dayOf 12 = .ok (.iload_n 1, 1) := by decide +kernel
theorem dX4_dayOf_13 : decode cX4_dayOf 13 = .ok (.bipush 6, 2) := by decide +kernel
theorem dX4_dayOf_15 : decode cX4_dayOf 15 = .ok (.if_icmp .ge 12, 3) := by decide +kernel
theorem dX4_dayOf_18 : decode cX4_dayOf 18 = .ok (.aload_n 0, 1) := by decide +kernel
theorem dX4_dayOf_19 : decode cX4_dayOf 19 = .ok (.getfield 25, 3) := by decide +kernel
theorem dX4_dayOf_22 : decode cX4_dayOf 22 = .ok (.iload_n 1, 1) := by decide +kernel
theorem dX4_dayOf_23 : decode cX4_dayOf 23 = .ok (.iaload, 1) := by decide +kernel
theorem dX4_dayOf_24 : decode cX4_dayOf 24 = .ok (.goto 5, 3) := by decide +kernel
theorem dX4_dayOf_27 : decode cX4_dayOf 27 = .ok (.bipush (-2), 2) := by decide +kernel
theorem dX4_dayOf_29 : decode cX4_dayOf 29 = .ok (.ireturn, 1) := by decide +kernel
theorem dX4_dealFrom_0 : decode cX4_dealFrom 0 = .ok (.iload_n 1, 1) := by decide +kernel
theorem dX4_dealFrom_1 : decode cX4_dealFrom 1 = .ok (.aload_n 0, 1) := by decide +kernel
theorem dX4_dealFrom_2 : decode cX4_dealFrom 2 = .ok (.getfield 18, 3) := by decide +kernel
theorem dX4_dealFrom_5 : decode cX4_dealFrom 5 = .ok (.if_icmp .ge 9, 3) := by decide +kernel
theorem dX4_dealFrom_8 : decode cX4_dealFrom 8 = .ok (.iload_n 1, 1) := by decide +kernel
theorem dX4_dealFrom_9 : decode cX4_dealFrom 9 = .ok (.bipush 6, 2) := by decide +kernel
theorem dX4_dealFrom_11 : decode cX4_dealFrom 11 = .ok (.if_icmp .lt 5, 3) := by decide +kernel
theorem dX4_dealFrom_14 : decode cX4_dealFrom 14 = .ok (.iconst 1, 1) := by decide +kernel
theorem dX4_dealFrom_15 : decode cX4_dealFrom 15 = .ok (.ireturn, 1) := by decide +kernel
theorem dX4_dealFrom_16 : decode cX4_dealFrom 16 = .ok (.iconst 0, 1) := by decide +kernel
theorem dX4_dealFrom_17 : decode cX4_dealFrom 17 = .ok (.istore_n 3, 1) := by decide +kernel
theorem dX4_dealFrom_18 : decode cX4_dealFrom 18 = .ok (.iload_n 3, 1) := by decide +kernel
theorem dX4_dealFrom_19 : decode cX4_dealFrom 19 = .ok (.iload_n 2, 1) := by decide +kernel
theorem dX4_dealFrom_20 : decode cX4_dealFrom 20 = .ok (.if_icmp .ge 38, 3) := by decide +kernel
theorem dX4_dealFrom_23 : decode cX4_dealFrom 23 = .ok (.aload_n 0, 1) := by decide +kernel
theorem dX4_dealFrom_24 : decode cX4_dealFrom 24 = .ok (.iload_n 1, 1) := by decide +kernel
theorem dX4_dealFrom_25 : decode cX4_dealFrom 25 = .ok (.iload_n 3, 1) := by decide +kernel
theorem dX4_dealFrom_26 : decode cX4_dealFrom 26 = .ok (.invokevirtual 50, 3) := by decide +kernel
theorem dX4_dealFrom_29 : decode cX4_dealFrom 29 = .ok (.ifCond .eq 23, 3) := by decide +kernel
theorem dX4_dealFrom_32 : decode cX4_dealFrom 32 = .ok (.aload_n 0, 1) := by decide +kernel
theorem dX4_dealFrom_33 : decode cX4_dealFrom 33 = .ok (.getfield 25, 3) := by decide +kernel
theorem dX4_dealFrom_36 : decode cX4_dealFrom 36 = .ok (.iload_n 1, 1) := by decide +kernel
theorem dX4_dealFrom_37 : decode cX4_dealFrom 37 = .ok (.iload_n 3, 1) := by decide +kernel
theorem dX4_dealFrom_38 : decode cX4_dealFrom 38 = .ok (.iastore, 1) := by decide +kernel
theorem dX4_dealFrom_39 : decode cX4_dealFrom 39 = .ok (.aload_n 0, 1) := by decide +kernel
theorem dX4_dealFrom_40 : decode cX4_dealFrom 40 = .ok (.iload_n 1, 1) := by decide +kernel
theorem dX4_dealFrom_41 : decode cX4_dealFrom 41 = .ok (.iconst 1, 1) := by decide +kernel
theorem dX4_dealFrom_42 : decode cX4_dealFrom 42 = .ok (.iadd, 1) := by decide +kernel
theorem dX4_dealFrom_43 : decode cX4_dealFrom 43 = .ok (.iload_n 2, 1) := by decide +kernel
theorem dX4_dealFrom_44 : decode cX4_dealFrom 44 = .ok (.invokevirtual 47, 3) := by decide +kernel
theorem dX4_dealFrom_47 : decode cX4_dealFrom 47 = .ok (.ifCond .eq 5, 3) := by decide +kernel
theorem dX4_dealFrom_50 : decode cX4_dealFrom 50 = .ok (.iconst 1, 1) := by decide +kernel
theorem dX4_dealFrom_51 : decode cX4_dealFrom 51 = .ok (.ireturn, 1) := by decide +kernel
theorem dX4_dealFrom_52 : decode cX4_dealFrom 52 = .ok (.iinc 3 1, 3) := by decide +kernel
theorem dX4_dealFrom_55 : decode cX4_dealFrom 55 = .ok (.goto (-37), 3) := by decide +kernel
theorem dX4_dealFrom_58 : decode cX4_dealFrom 58 = .ok (.iconst 0, 1) := by decide +kernel
theorem dX4_dealFrom_59 : decode cX4_dealFrom 59 = .ok (.ireturn, 1) := by decide +kernel
theorem dX4_fits_0 : decode cX4_fits 0 = .ok (.iconst 0, 1) := by decide +kernel
theorem dX4_fits_1 : decode cX4_fits 1 = .ok (.istore_n 3, 1) := by decide +kernel
theorem dX4_fits_2 : decode cX4_fits 2 = .ok (.iload_n 3, 1) := by decide +kernel
theorem dX4_fits_3 : decode cX4_fits 3 = .ok (.iload_n 1, 1) := by decide +kernel
theorem dX4_fits_4 : decode cX4_fits 4 = .ok (.if_icmp .ge 63, 3) := by decide +kernel
theorem dX4_fits_7 : decode cX4_fits 7 = .ok (.aload_n 0, 1) := by decide +kernel
theorem dX4_fits_8 : decode cX4_fits 8 = .ok (.getfield 11, 3) := by decide +kernel
theorem dX4_fits_11 : decode cX4_fits 11 = .ok (.iload_n 3, 1) := by decide +kernel
theorem dX4_fits_12 : decode cX4_fits 12 = .ok (.iaload, 1) := by decide +kernel
theorem dX4_fits_13 : decode cX4_fits 13 = .ok (.aload_n 0, 1) := by decide +kernel
theorem dX4_fits_14 : decode cX4_fits 14 = .ok (.getfield 15, 3) := by decide +kernel
theorem dX4_fits_17 : decode cX4_fits 17 = .ok (.iload_n 1, 1) := by decide +kernel
theorem dX4_fits_18 : decode cX4_fits 18 = .ok (.iaload, 1) := by decide +kernel
theorem dX4_fits_19 : decode cX4_fits 19 = .ok (.if_icmp .eq 18, 3) := by decide +kernel
theorem dX4_fits_22 : decode cX4_fits 22 = .ok (.aload_n 0, 1) := by decide +kernel
theorem dX4_fits_23 : decode cX4_fits 23 = .ok (.getfield 15, 3) := by decide +kernel
theorem dX4_fits_26 : decode cX4_fits 26 = .ok (.iload_n 3, 1) := by decide +kernel
theorem dX4_fits_27 : decode cX4_fits 27 = .ok (.iaload, 1) := by decide +kernel
theorem dX4_fits_28 : decode cX4_fits 28 = .ok (.aload_n 0, 1) := by decide +kernel
theorem dX4_fits_29 : decode cX4_fits 29 = .ok (.getfield 11, 3) := by decide +kernel
theorem dX4_fits_32 : decode cX4_fits 32 = .ok (.iload_n 1, 1) := by decide +kernel
theorem dX4_fits_33 : decode cX4_fits 33 = .ok (.iaload, 1) := by decide +kernel
theorem dX4_fits_34 : decode cX4_fits 34 = .ok (.if_icmp .ne 7, 3) := by decide +kernel
theorem dX4_fits_37 : decode cX4_fits 37 = .ok (.iconst 1, 1) := by decide +kernel
theorem dX4_fits_38 : decode cX4_fits 38 = .ok (.goto 4, 3) := by decide +kernel
theorem dX4_fits_41 : decode cX4_fits 41 = .ok (.iconst 0, 1) := by decide +kernel
theorem dX4_fits_42 : decode cX4_fits 42 = .ok (.istore 4, 2) := by decide +kernel
theorem dX4_fits_44 : decode cX4_fits 44 = .ok (.aload_n 0, 1) := by decide +kernel
theorem dX4_fits_45 : decode cX4_fits 45 = .ok (.getfield 25, 3) := by decide +kernel
theorem dX4_fits_48 : decode cX4_fits 48 = .ok (.iload_n 3, 1) := by decide +kernel
theorem dX4_fits_49 : decode cX4_fits 49 = .ok (.iaload, 1) := by decide +kernel
theorem dX4_fits_50 : decode cX4_fits 50 = .ok (.iload_n 2, 1) := by decide +kernel
theorem dX4_fits_51 : decode cX4_fits 51 = .ok (.if_icmp .ne 10, 3) := by decide +kernel
theorem dX4_fits_54 : decode cX4_fits 54 = .ok (.iload 4, 2) := by decide +kernel
theorem dX4_fits_56 : decode cX4_fits 56 = .ok (.ifCond .eq 5, 3) := by decide +kernel
theorem dX4_fits_59 : decode cX4_fits 59 = .ok (.iconst 0, 1) := by decide +kernel
theorem dX4_fits_60 : decode cX4_fits 60 = .ok (.ireturn, 1) := by decide +kernel
theorem dX4_fits_61 : decode cX4_fits 61 = .ok (.iinc 3 1, 3) := by decide +kernel
theorem dX4_fits_64 : decode cX4_fits 64 = .ok (.goto (-62), 3) := by decide +kernel
theorem dX4_fits_67 : decode cX4_fits 67 = .ok (.iconst 1, 1) := by decide +kernel
theorem dX4_fits_68 : decode cX4_fits 68 = .ok (.ireturn, 1) := by decide +kernel
theorem dX5_init_0 : decode cX5_init 0 = .ok (.aload_n 0, 1) := by decide +kernel
theorem dX5_init_1 : decode cX5_init 1 = .ok (.invokespecial 3, 3) := by decide +kernel
theorem dX5_init_4 : decode cX5_init 4 = .ok (.aload_n 0, 1) := by decide +kernel
theorem dX5_init_5 : decode cX5_init 5 = .ok (.new 9, 3) := by decide +kernel
theorem dX5_init_8 : decode cX5_init 8 = .ok (.dup, 1) := by decide +kernel
theorem dX5_init_9 : decode cX5_init 9 = .ok (.invokespecial 11, 3) := by decide +kernel
theorem dX5_init_12 : decode cX5_init 12 = .ok (.putfield 12, 3) := by decide +kernel
theorem dX5_init_15 : decode cX5_init 15 = .ok (.aload_n 0, 1) := by decide +kernel
theorem dX5_init_16 : decode cX5_init 16 = .ok (.iconst 0, 1) := by decide +kernel
theorem dX5_init_17 : decode cX5_init 17 = .ok (.putfield 18, 3) := by decide +kernel
theorem dX5_init_20 : decode cX5_init 20 = .ok (.aload_n 0, 1) := by decide +kernel
theorem dX5_init_21 : decode cX5_init 21 = .ok (.iconst 0, 1) := by decide +kernel
theorem dX5_init_22 : decode cX5_init 22 = .ok (.putfield 22, 3) := by decide +kernel
theorem dX5_init_25 : decode cX5_init 25 = .ok (.aload_n 0, 1) := by decide +kernel
theorem dX5_init_26 : decode cX5_init 26 = .ok (.iconst 0, 1) := by decide +kernel
theorem dX5_init_27 : decode cX5_init 27 = .ok (.putfield 25, 3) := by decide +kernel
theorem dX5_init_30 : decode cX5_init 30 = .ok (.aload_n 0, 1) := by decide +kernel
theorem dX5_init_31 : decode cX5_init 31 = .ok (.aload_n 1, 1) := by decide +kernel
theorem dX5_init_32 : decode cX5_init 32 = .ok (.putfield 28, 3) := by decide +kernel
theorem dX5_init_35 : decode cX5_init 35 = .ok (.return_, 1) := by decide +kernel
theorem dX5_pass_0 : decode cX5_pass 0 = .ok (.aload_n 0, 1) := by decide +kernel
theorem dX5_pass_1 : decode cX5_pass 1 = .ok (.iconst 0, 1) := by decide +kernel
theorem dX5_pass_2 : decode cX5_pass 2 = .ok (.putfield 18, 3) := by decide +kernel
theorem dX5_pass_5 : decode cX5_pass 5 = .ok (.aload_n 0, 1) := by decide +kernel
theorem dX5_pass_6 : decode cX5_pass 6 = .ok (.iconst 0, 1) := by decide +kernel
theorem dX5_pass_7 : decode cX5_pass 7 = .ok (.putfield 22, 3) := by decide +kernel
theorem dX5_pass_10 : decode cX5_pass 10 = .ok (.aload_n 0, 1) := by decide +kernel
theorem dX5_pass_11 : decode cX5_pass 11 = .ok (.iconst 0, 1) := by decide +kernel
theorem dX5_pass_12 : decode cX5_pass 12 = .ok (.putfield 25, 3) := by decide +kernel
theorem dX5_pass_15 : decode cX5_pass 15 = .ok (.aload_n 0, 1) := by decide +kernel
theorem dX5_pass_16 : decode cX5_pass 16 = .ok (.getfield 28, 3) := by decide +kernel
theorem dX5_pass_19 : decode cX5_pass 19 = .ok (.invokevirtual 32, 3) := by decide +kernel
theorem dX5_pass_22 : decode cX5_pass 22 = .ok (.invokevirtual 38, 3) := by decide +kernel
theorem dX5_pass_25 : decode cX5_pass 25 = .ok (.iconst 2, 1) := by decide +kernel
theorem dX5_pass_26 : decode cX5_pass 26 = .ok (.if_icmp .ge 4, 3) := by decide +kernel
theorem dX5_pass_29 : decode cX5_pass 29 = .ok (.return_, 1) := by decide +kernel
theorem dX5_pass_30 : decode cX5_pass 30 = .ok (.iload_n 2, 1) := by decide +kernel
theorem dX5_pass_31 : decode cX5_pass 31 = .ok (.istore 6, 2) := by decide +kernel
theorem dX5_pass_33 : decode cX5_pass 33 = .ok (.iconst 0, 1) := by decide +kernel
theorem dX5_pass_34 : decode cX5_pass 34 = .ok (.istore 7, 2) := by decide +kernel
theorem dX5_pass_36 : decode cX5_pass 36 = .ok (.iload 7, 2) := by decide +kernel
theorem dX5_pass_38 : decode cX5_pass 38 = .ok (.iload_n 3, 1) := by decide +kernel
theorem dX5_pass_39 : decode cX5_pass 39 = .ok (.if_icmp .ge 68, 3) := by decide +kernel
theorem dX5_pass_42 : decode cX5_pass 42 = .ok (.aload_n 0, 1) := by decide +kernel
theorem dX5_pass_43 : decode cX5_pass 43 = .ok (.getfield 12, 3) := by decide +kernel
theorem dX5_pass_46 : decode cX5_pass 46 = .ok (.aload_n 1, 1) := by decide +kernel
theorem dX5_pass_47 : decode cX5_pass 47 = .ok (.invokevirtual 44, 3) := by decide +kernel
theorem dX5_pass_50 : decode cX5_pass 50 = .ok (.iconst 0, 1) := by decide +kernel
theorem dX5_pass_51 : decode cX5_pass 51 = .ok (.istore 8, 2) := by decide +kernel
theorem dX5_pass_53 : decode cX5_pass 53 = .ok (.iload 8, 2) := by decide +kernel
theorem dX5_pass_55 : decode cX5_pass 55 = .ok (.iload 4, 2) := by decide +kernel
theorem dX5_pass_57 : decode cX5_pass 57 = .ok (.if_icmp .ge 28, 3) := by decide +kernel
theorem dX5_pass_60 : decode cX5_pass 60 = .ok (.iload 6, 2) := by decide +kernel
theorem dX5_pass_62 : decode cX5_pass 62 = .ok (.ldc 48, 2) := by decide +kernel
theorem dX5_pass_64 : decode cX5_pass 64 = .ok (.imul, 1) := by decide +kernel
theorem dX5_pass_65 : decode cX5_pass 65 = .ok (.sipush 12345, 3) := by decide +kernel
theorem dX5_pass_68 : decode cX5_pass 68 = .ok (.iadd, 1) := by decide +kernel
theorem dX5_pass_69 : decode cX5_pass 69 = .ok (.istore 6, 2) := by decide +kernel
theorem dX5_pass_71 : decode cX5_pass 71 = .ok (.aload_n 0, 1) := by decide +kernel
theorem dX5_pass_72 : decode cX5_pass 72 = .ok (.iload 6, 2) := by decide +kernel
theorem dX5_pass_74 : decode cX5_pass 74 = .ok (.iload 5, 2) := by decide +kernel
theorem dX5_pass_76 : decode cX5_pass 76 = .ok (.invokevirtual 49, 3) := by decide +kernel
theorem dX5_pass_79 : decode cX5_pass 79 = .ok (.iinc 8 1, 3) := by decide +kernel
theorem dX5_pass_82 : decode cX5_pass 82 = .ok (.goto (-29), 3) := by decide +kernel
theorem dX5_pass_85 : decode cX5_pass 85 = .ok (.aload_n 0, 1) := by decide +kernel
theorem dX5_pass_86 : decode cX5_pass 86 = .ok (.dup, 1) := by decide +kernel
theorem dX5_pass_87 : decode cX5_pass 87 = .ok (.getfield 25, 3) := by decide +kernel
theorem dX5_pass_90 : decode cX5_pass 90 = .ok (.aload_n 0, 1) := by decide +kernel
theorem dX5_pass_91 : decode cX5_pass 91 = .ok (.getfield 12, 3) := by decide +kernel
theorem dX5_pass_94 : decode cX5_pass 94 = .ok (.invokevirtual 53, 3) := by decide +kernel
theorem dX5_pass_97 : decode cX5_pass 97 = .ok (.iadd, 1) := by decide +kernel
theorem dX5_pass_98 : decode cX5_pass 98 = .ok (.putfield 25, 3) := by decide +kernel
theorem dX5_pass_101 : decode cX5_pass 101 = .ok (.iinc 7 1, 3) := by decide +kernel
theorem dX5_pass_104 : decode cX5_pass 104 = .ok (.goto (-68), 3) := by decide +kernel
theorem dX5_pass_107 : decode cX5_pass 107 = .ok (.return_, 1) := by decide +kernel
theorem dX5_drawCase_0 : decode cX5_drawCase 0 = .ok (.aload_n 0, 1) := by decide +kernel
theorem dX5_drawCase_1 : decode cX5_drawCase 1 = .ok (.getfield 28, 3) := by decide +kernel
theorem dX5_drawCase_4 : decode cX5_drawCase 4 = .ok (.invokevirtual 32, 3) := by decide +kernel
theorem dX5_drawCase_7 : decode cX5_drawCase 7 = .ok (.invokevirtual 38, 3) := by decide +kernel
theorem dX5_drawCase_10 : decode cX5_drawCase 10 = .ok (.istore_n 3, 1) := by decide +kernel
theorem dX5_drawCase_11 : decode cX5_drawCase 11 = .ok (.iload_n 3, 1) := by decide +kernel
theorem dX5_drawCase_12 : decode cX5_drawCase 12 = .ok (.iconst 2, 1) := by decide +kernel
theorem dX5_drawCase_13 : decode cX5_drawCase 13 = .ok (.if_icmp .ge 4, 3) := by decide +kernel
theorem dX5_drawCase_16 : decode cX5_drawCase 16 = .ok (.return_, 1) := by decide +kernel
theorem dX5_drawCase_17 : decode cX5_drawCase 17 = .ok (.iload_n 1, 1) := by decide +kernel
theorem dX5_drawCase_18 : decode cX5_drawCase 18 = .ok (.iconst 4, 1) := by decide +kernel
theorem dX5_drawCase_19 : decode cX5_drawCase 19 = .ok (.iushr, 1) := by decide +kernel
theorem dX5_drawCase_20 : decode cX5_drawCase 20 = .ok (.iload_n 3, 1) := by decide +kernel
theorem dX5_drawCase_21 : decode cX5_drawCase 21 = .ok (.irem, 1) := by decide +kernel
theorem dX5_drawCase_22 : decode cX5_drawCase 22 = .ok (.istore 4, 2) := by decide +kernel
theorem dX5_drawCase_24 : decode cX5_drawCase 24 = .ok (.iload_n 1, 1) := by decide +kernel
theorem dX5_drawCase_25 : decode cX5_drawCase 25 = .ok (.bipush 12, 2) := by decide +kernel
theorem dX5_drawCase_27 : decode cX5_drawCase 27 = .ok (.iushr, 1) := by decide +kernel
theorem dX5_drawCase_28 : decode cX5_drawCase 28 = .ok (.iload_n 3, 1) := by decide +kernel
theorem dX5_drawCase_29 : decode cX5_drawCase 29 = .ok (.iconst 1, 1) := by decide +kernel
theorem dX5_drawCase_30 : decode cX5_drawCase 30 = .ok (.isub, 1) := by decide +kernel
theorem dX5_drawCase_31 : decode cX5_drawCase 31 = .ok (.irem, 1) := by decide +kernel
theorem dX5_drawCase_32 : decode cX5_drawCase 32 = .ok (.istore 5, 2) := by decide +kernel
theorem dX5_drawCase_34 : decode cX5_drawCase 34 = .ok (.iload 5, 2) := by decide +kernel
theorem dX5_drawCase_36 : decode cX5_drawCase 36 = .ok (.iload 4, 2) := by decide +kernel
theorem dX5_drawCase_38 : decode cX5_drawCase 38 = .ok (.if_icmp .lt 6, 3) := by decide +kernel
theorem dX5_drawCase_41 : decode cX5_drawCase 41 = .ok (.iinc 5 1, 3) := by decide +kernel
theorem dX5_drawCase_44 : decode cX5_drawCase 44 = .ok (.aload_n 0, 1) := by decide +kernel
theorem dX5_drawCase_45 : decode cX5_drawCase 45 = .ok (.getfield 12, 3) := by decide +kernel
theorem dX5_drawCase_48 : decode cX5_drawCase 48 = .ok (.iload 4, 2) := by decide +kernel
theorem dX5_drawCase_50 : decode cX5_drawCase 50 = .ok (.invokevirtual 56, 3) := by decide +kernel
theorem dX5_drawCase_53 : decode cX5_drawCase 53 = .ok (.ifCond .ne 4, 3) := by decide +kernel
theorem dX5_drawCase_56 : decode cX5_drawCase 56 = .ok (.return_, 1) := by decide +kernel
theorem dX5_drawCase_57 : decode cX5_drawCase 57 = .ok (.iload_n 1, 1) := by decide +kernel
theorem dX5_drawCase_58 : decode cX5_drawCase 58 = .ok (.bipush 20, 2) := by decide +kernel
theorem dX5_drawCase_60 : decode cX5_drawCase 60 = .ok (.iushr, 1) := by decide +kernel
theorem dX5_drawCase_61 : decode cX5_drawCase 61 = .ok (.bipush 12, 2) := by decide +kernel
theorem dX5_drawCase_63 : decode cX5_drawCase 63 = .ok (.irem, 1) := by decide +kernel
theorem dX5_drawCase_64 : decode cX5_drawCase 64 = .ok (.aload_n 0, 1) := by decide +kernel
theorem dX5_drawCase_65 : decode cX5_drawCase 65 = .ok (.getfield 28, 3) := by decide +kernel
theorem dX5_drawCase_68 : decode cX5_drawCase 68 = .ok (.aload_n 0, 1) := by decide +kernel
theorem dX5_drawCase_69 : decode cX5_drawCase 69 = .ok (.getfield 12, 3) := by decide +kernel
theorem dX5_drawCase_72 : decode cX5_drawCase 72 = .ok (.iload 4, 2) := by decide +kernel
theorem dX5_drawCase_74 : decode cX5_drawCase 74 = .ok (.iload 5, 2) := by decide +kernel
theorem dX5_drawCase_76 : decode cX5_drawCase 76 = .ok (.invokevirtual 60, 3) := by decide +kernel
theorem dX5_drawCase_79 : decode cX5_drawCase 79 = .ok (.if_icmp .ge 7, 3) := by decide +kernel
theorem dX5_drawCase_82 : decode cX5_drawCase 82 = .ok (.iconst 1, 1) := by decide +kernel
theorem dX5_drawCase_83 : decode cX5_drawCase 83 = .ok (.goto 4, 3) := by decide +kernel
theorem dX5_drawCase_86 : decode cX5_drawCase 86 = .ok (.iconst 0, 1) := by decide +kernel
theorem dX5_drawCase_87 : decode cX5_drawCase 87 = .ok (.istore 6, 2) := by decide +kernel
theorem dX5_drawCase_89 : decode cX5_drawCase 89 = .ok (.aload_n 0, 1) := by decide +kernel
theorem dX5_drawCase_90 : decode cX5_drawCase 90 = .ok (.getfield 12, 3) := by decide +kernel
theorem dX5_drawCase_93 : decode cX5_drawCase 93 = .ok (.iload 4, 2) := by decide +kernel
theorem dX5_drawCase_95 : decode cX5_drawCase 95 = .ok (.iload 5, 2) := by decide +kernel
theorem dX5_drawCase_97 : decode cX5_drawCase 97 = .ok (.iload 6, 2) := by decide +kernel
theorem dX5_drawCase_99 : decode cX5_drawCase 99 = .ok (.invokevirtual 64, 3) := by decide +kernel
theorem dX5_drawCase_102 : decode cX5_drawCase 102 = .ok (.aload_n 0, 1) := by decide +kernel
theorem dX5_drawCase_103 : decode cX5_drawCase 103 = .ok (.dup, 1) := by decide +kernel
theorem dX5_drawCase_104 : decode cX5_drawCase 104 = .ok (.getfield 18, 3) := by decide +kernel
theorem dX5_drawCase_107 : decode cX5_drawCase 107 = .ok (.iconst 1, 1) := by decide +kernel
theorem dX5_drawCase_108 : decode cX5_drawCase 108 = .ok (.iadd, 1) := by decide +kernel
theorem dX5_drawCase_109 : decode cX5_drawCase 109 = .ok (.putfield 18, 3) := by decide +kernel
theorem dX5_drawCase_112 : decode cX5_drawCase 112 = .ok (.iload 6, 2) := by decide +kernel
theorem dX5_drawCase_114 : decode cX5_drawCase 114 = .ok (.ifCond .eq 19, 3) := by decide +kernel
theorem dX5_drawCase_117 : decode cX5_drawCase 117 = .ok (.iload 4, 2) := by decide +kernel
theorem dX5_drawCase_119 : decode cX5_drawCase 119 = .ok (.iload_n 2, 1) := by decide +kernel
theorem dX5_drawCase_120 : decode cX5_drawCase 120 = .ok (.if_icmp .ne 13, 3) := by decide +kernel
theorem dX5_drawCase_123 : decode cX5_drawCase 123 = .ok (.aload_n 0, 1) := by decide +kernel
theorem dX5_drawCase_124 : decode cX5_drawCase 124 = .ok (.dup, 1) := by decide +kernel
theorem dX5_drawCase_125 : decode cX5_drawCase 125 = .ok (.getfield 22, 3) := by decide +kernel
theorem dX5_drawCase_128 : decode cX5_drawCase 128 = .ok (.iconst 1, 1) := by decide +kernel
theorem dX5_drawCase_129 : decode cX5_drawCase 129 = .ok (.iadd, 1) := by decide +kernel
theorem dX5_drawCase_130 : decode cX5_drawCase 130 = .ok (.putfield 22, 3) := by decide +kernel
theorem dX5_drawCase_133 : decode cX5_drawCase 133 = .ok (.return_, 1) := by decide +kernel
theorem dX5_heard_0 : decode cX5_heard 0 = .ok (.aload_n 0, 1) := by decide +kernel
theorem dX5_heard_1 : decode cX5_heard 1 = .ok (.getfield 18, 3) := by decide +kernel
theorem dX5_heard_4 : decode cX5_heard 4 = .ok (.ireturn, 1) := by decide +kernel
theorem dX5_wonByOne_0 : decode cX5_wonByOne 0 = .ok (.aload_n 0, 1) := by decide +kernel
theorem dX5_wonByOne_1 : decode cX5_wonByOne 1 = .ok (.getfield 22, 3) := by decide +kernel
theorem dX5_wonByOne_4 : decode cX5_wonByOne 4 = .ok (.ireturn, 1) := by decide +kernel
theorem dX5_boundAtEnds_0 : decode cX5_boundAtEnds 0 = .ok (.aload_n 0, 1) := by decide +kernel
theorem dX5_boundAtEnds_1 : decode cX5_boundAtEnds 1 = .ok (.getfield 25, 3) := by decide +kernel
theorem dX5_boundAtEnds_4 : decode cX5_boundAtEnds 4 = .ok (.ireturn, 1) := by decide +kernel
