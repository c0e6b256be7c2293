theorem dX6_init_0 : decode cX6_init 0 = .ok (.aload_n 0, 1) := by decide +kernel
theorem dX6_init_1 : decode cX6_init 1 = .ok (.invokespecial 3, 3) := by decide +kernel
theorem dX6_init_4 : decode cX6_init 4 = .ok (.aload_n 0, 1) := by decide +kernel
theorem dX6_init_5 : decode cX6_init 5 = .ok (.bipush 28, 2) := by decide +kernel
theorem dX6_init_7 : decode cX6_init 7 = .ok (.newarray .int, 2) := by decide +kernel
theorem dX6_init_9 : decode cX6_init 9 = .ok (.putfield 11, 3) := by decide +kernel
theorem dX6_init_12 : decode cX6_init 12 = .ok (.aload_n 0, 1) := by decide +kernel
theorem dX6_init_13 : decode cX6_init 13 = .ok (.iconst 0, 1) := by decide +kernel
theorem dX6_init_14 : decode cX6_init 14 = .ok (.putfield 15, 3) := by decide +kernel
theorem dX6_init_17 : decode cX6_init 17 = .ok (.aload_n 0, 1) := by decide +kernel
theorem dX6_init_18 : decode cX6_init 18 = .ok (.bipush 40, 2) := by decide +kernel
theorem dX6_init_20 : decode cX6_init 20 = .ok (.newarray .int, 2) := by decide +kernel
theorem dX6_init_22 : decode cX6_init 22 = .ok (.putfield 19, 3) := by decide +kernel
theorem dX6_init_25 : decode cX6_init 25 = .ok (.aload_n 0, 1) := by decide +kernel
theorem dX6_init_26 : decode cX6_init 26 = .ok (.bipush 40, 2) := by decide +kernel
theorem dX6_init_28 : decode cX6_init 28 = .ok (.newarray .int, 2) := by decide +kernel
theorem dX6_init_30 : decode cX6_init 30 = .ok (.putfield 22, 3) := by decide +kernel
theorem dX6_init_33 : decode cX6_init 33 = .ok (.aload_n 0, 1) := by decide +kernel
theorem dX6_init_34 : decode cX6_init 34 = .ok (.bipush 40, 2) := by decide +kernel
theorem dX6_init_36 : decode cX6_init 36 = .ok (.newarray .int, 2) := by decide +kernel
theorem dX6_init_38 : decode cX6_init 38 = .ok (.putfield 25, 3) := by decide +kernel
theorem dX6_init_41 : decode cX6_init 41 = .ok (.aload_n 0, 1) := by decide +kernel
theorem dX6_init_42 : decode cX6_init 42 = .ok (.iconst 0, 1) := by decide +kernel
theorem dX6_init_43 : decode cX6_init 43 = .ok (.putfield 28, 3) := by decide +kernel
theorem dX6_init_46 : decode cX6_init 46 = .ok (.aload_n 0, 1) := by decide +kernel
theorem dX6_init_47 : decode cX6_init 47 = .ok (.iconst 0, 1) := by decide +kernel
theorem dX6_init_48 : decode cX6_init 48 = .ok (.putfield 31, 3) := by decide +kernel
theorem dX6_init_51 : decode cX6_init 51 = .ok (.return_, 1) := by decide +kernel
theorem dX6_allows_0 : decode cX6_allows 0 = .ok (.iload_n 0, 1) := by decide +kernel
theorem dX6_allows_1 : decode cX6_allows 1 = .ok (.ifCond .lt 25, 3) := by decide +kernel
theorem dX6_allows_4 : decode cX6_allows 4 = .ok (.iload_n 0, 1) := by decide +kernel
theorem dX6_allows_5 : decode cX6_allows 5 = .ok (.iconst 4, 1) := by decide +kernel
theorem dX6_allows_6 : decode cX6_allows 6 = .ok (.if_icmp .ge 20, 3) := by decide +kernel
theorem dX6_allows_9 : decode cX6_allows 9 = .ok (.iload_n 1, 1) := by decide +kernel
theorem dX6_allows_10 : decode cX6_allows 10 = .ok (.ifCond .lt 16, 3) := by decide +kernel
theorem dX6_allows_13 : decode cX6_allows 13 = .ok (.iload_n 1, 1) := by decide +kernel
theorem dX6_allows_14 : decode cX6_allows 14 = .ok (.getstatic 34, 3) := by decide +kernel
theorem dX6_allows_17 : decode cX6_allows 17 = .ok (.iload_n 0, 1) := by decide +kernel
theorem dX6_allows_18 : decode cX6_allows 18 = .ok (.iaload, 1) := by decide +kernel
theorem dX6_allows_19 : decode cX6_allows 19 = .ok (.if_icmp .gt 7, 3) := by decide +kernel
theorem dX6_allows_22 : decode cX6_allows 22 = .ok (.iconst 1, 1) := by decide +kernel
theorem dX6_allows_23 : decode cX6_allows 23 = .ok (.goto 4, 3) := by decide +kernel
theorem dX6_allows_26 : decode cX6_allows 26 = .ok (.iconst 0, 1) := by decide +kernel
theorem dX6_allows_27 : decode cX6_allows 27 = .ok (.ireturn, 1) := by decide +kernel
theorem dX6_size_0 : decode cX6_size 0 = .ok (.aload_n 0, 1) := by decide +kernel
theorem dX6_size_1 : decode cX6_size 1 = .ok (.getfield 15, 3) := by decide +kernel
theorem dX6_size_4 : decode cX6_size 4 = .ok (.ireturn, 1) := by decide +kernel
theorem dX6_has_0 : decode cX6_has 0 = .ok (.iload_n 1, 1) := by decide +kernel
theorem dX6_has_1 : decode cX6_has 1 = .ok (.ifCond .lt 15, 3) := by decide +kernel
theorem dX6_has_4 : decode cX6_has 4 = .ok (.iload_n 1, 1) := by decide +kernel
theorem dX6_has_5 : decode cX6_has 5 = .ok (.aload_n 0, 1) := by decide +kernel
theorem dX6_has_6 : decode cX6_has 6 = .ok (.getfield 15, 3) := by decide +kernel
theorem dX6_has_9 : decode cX6_has 9 = .ok (.if_icmp .ge 7, 3) := by decide +kernel
theorem dX6_has_12 : decode cX6_has 12 = .ok (.iconst 1, 1) := by decide +kernel
theorem dX6_has_13 : decode cX6_has 13 = .ok (.goto 4, 3) := by decide +kernel
theorem dX6_has_16 : decode cX6_has 16 = .ok (.iconst 0, 1) := by decide +kernel
theorem dX6_has_17 : decode cX6_has 17 = .ok (.ireturn, 1) := by decide +kernel
theorem dX6_areUnlike_0 : decode cX6_areUnlike 0 = .ok (.aload_n 0, 1) := by decide +kernel
theorem dX6_areUnlike_1 : decode cX6_areUnlike 1 = .ok (.iload_n 1, 1) := by decide +kernel
theorem dX6_areUnlike_2 : decode cX6_areUnlike 2 = .ok (.invokevirtual 37, 3) := by decide +kernel
theorem dX6_areUnlike_5 : decode cX6_areUnlike 5 = .ok (.ifCond .eq 20, 3) := by decide +kernel
theorem dX6_areUnlike_8 : decode cX6_areUnlike 8 = .ok (.aload_n 0, 1) := by decide +kernel
theorem dX6_areUnlike_9 : decode cX6_areUnlike 9 = .ok (.iload_n 2, 1) := by decide +kernel
theorem dX6_areUnlike_10 : decode cX6_areUnlike 10 = .ok (.invokevirtual 37, 3) := by decide +kernel
theorem dX6_areUnlike_13 : decode cX6_areUnlike 13 = .ok (.ifCond .eq 12, 3) := by decide +kernel
theorem dX6_areUnlike_16 : decode cX6_areUnlike 16 = .ok (.iload_n 1, 1) := by decide +kernel
theorem dX6_areUnlike_17 : decode cX6_areUnlike 17 = .ok (.iload_n 2, 1) := by decide +kernel
theorem dX6_areUnlike_18 : decode cX6_areUnlike 18 = .ok (.if_icmp .eq 7, 3) := by decide +kernel
theorem dX6_areUnlike_21 : decode cX6_areUnlike 21 = .ok (.iconst 1, 1) := by decide +kernel
theorem dX6_areUnlike_22 : decode cX6_areUnlike 22 = .ok (.goto 4, 3) := by decide +kernel
theorem dX6_areUnlike_25 : decode cX6_areUnlike 25 = .ok (.iconst 0, 1) := by decide +kernel
theorem dX6_areUnlike_26 : decode cX6_areUnlike 26 = .ok (.ireturn, 1) := by decide +kernel
theorem dX6_isFull_0 : decode cX6_isFull 0 = .ok (.aload_n 0, 1) := by decide +kernel
theorem dX6_isFull_1 : decode cX6_isFull 1 = .ok (.getfield 15, 3) := by decide +kernel
theorem dX6_isFull_4 : decode cX6_isFull 4 = .ok (.bipush 7, 2) := by decide +kernel
theorem dX6_isFull_6 : decode cX6_isFull 6 = .ok (.if_icmp .lt 7, 3) := by decide +kernel
theorem dX6_isFull_9 : decode cX6_isFull 9 = .ok (.iconst 1, 1) := by decide +kernel
theorem dX6_isFull_10 : decode cX6_isFull 10 = .ok (.goto 4, 3) := by decide +kernel
theorem dX6_isFull_13 : decode cX6_isFull 13 = .ok (.iconst 0, 1) := by decide +kernel
theorem dX6_isFull_14 : decode cX6_isFull 14 = .ok (.ireturn, 1) := by decide +kernel
theorem dX6_numberOf_0 : decode cX6_numberOf 0 = .ok (.iload_n 1, 1) := by decide +kernel
theorem dX6_numberOf_1 : decode cX6_numberOf 1 = .ok (.ifCond .lt 24, 3) := by decide +kernel
theorem dX6_numberOf_4 : decode cX6_numberOf 4 = .ok (.iload_n 1, 1) := by decide +kernel
theorem dX6_numberOf_5 : decode cX6_numberOf 5 = .ok (.aload_n 0, 1) := by decide +kernel
theorem dX6_numberOf_6 : decode cX6_numberOf 6 = .ok (.getfield 15, 3) := by decide +kernel
theorem dX6_numberOf_9 : decode cX6_numberOf 9 = .ok (.if_icmp .ge 16, 3) := by decide +kernel
theorem dX6_numberOf_12 : decode cX6_numberOf 12 = .ok (.iload_n 2, 1) := by decide +kernel
theorem dX6_numberOf_13 : decode cX6_numberOf 13 = .ok (.ifCond .lt 12, 3) := by decide +kernel
theorem dX6_numberOf_16 : decode cX6_numberOf 16 = .ok (.iload_n 2, 1) := by decide +kernel
theorem dX6_numberOf_17 : decode cX6_numberOf 17 = .ok (.iconst 4, 1) := by decide +kernel
theorem dX6_numberOf_18 : decode cX6_numberOf 18 = .ok (.if_icmp .ge 7, 3) := by decide +kernel
theorem dX6_numberOf_21 : decode cX6_numberOf 21 = .ok (.iconst 1, 1) := by decide +kernel
theorem dX6_numberOf_22 : decode cX6_numberOf 22 = .ok (.goto 4, 3) := by decide +kernel
theorem dX6_numberOf_25 : decode cX6_numberOf 25 = .ok (.iconst 0, 1) := by decide +kernel
theorem dX6_numberOf_26 : decode cX6_numberOf 26 = .ok (.istore_n 3, 1) := by decide +kernel
theorem dX6_numberOf_27 : decode cX6_numberOf 27 = .ok (.iload_n 3, 1) := by decide +kernel
theorem dX6_numberOf_28 : decode cX6_numberOf 28 = .ok (.ifCond .eq 16, 3) := by decide +kernel
theorem dX6_numberOf_31 : decode cX6_numberOf 31 = .ok (.aload_n 0, 1) := by decide +kernel
theorem dX6_numberOf_32 : decode cX6_numberOf 32 = .ok (.getfield 11, 3) := by decide +kernel
theorem dX6_numberOf_35 : decode cX6_numberOf 35 = .ok (.iconst 4, 1) := by decide +kernel
theorem dX6_numberOf_36 : decode cX6_numberOf 36 = .ok (.iload_n 1, 1) := by decide +kernel
theorem dX6_numberOf_37 : decode cX6_numberOf 37 = .ok (.imul, 1) := by decide +kernel
theorem dX6_numberOf_38 : decode cX6_numberOf 38 = .ok (.iload_n 2, 1) := by decide +kernel
theorem dX6_numberOf_39 : decode cX6_numberOf 39 = .ok (.iadd, 1) := by decide +kernel
theorem dX6_numberOf_40 : decode cX6_numberOf 40 = .ok (.iaload, 1) := by decide +kernel
theorem dX6_numberOf_41 : decode cX6_numberOf 41 = .ok (.goto 4, 3) := by decide +kernel
theorem dX6_numberOf_44 : decode cX6_numberOf 44 = .ok (.iconst 0, 1) := by decide +kernel
theorem dX6_numberOf_45 : decode cX6_numberOf 45 = .ok (.ireturn, 1) := by decide +kernel
theorem dX6_welcome_0 : decode cX6_welcome 0 = .ok (.aload_n 0, 1) := by decide +kernel
theorem dX6_welcome_1 : decode cX6_welcome 1 = .ok (.invokevirtual 41, 3) := by decide +kernel
theorem dX6_welcome_4 : decode cX6_welcome 4 = .ok (.ifCond .eq 8, 3) := by decide +kernel
theorem dX6_welcome_7 : decode cX6_welcome 7 = .ok (.bipush (-3), 2) := by decide +kernel
theorem dX6_welcome_9 : decode cX6_welcome 9 = .ok (.goto 13, 3) := by decide +kernel
theorem dX6_welcome_12 : decode cX6_welcome 12 = .ok (.aload_n 0, 1) := by decide +kernel
theorem dX6_welcome_13 : decode cX6_welcome 13 = .ok (.iload_n 1, 1) := by decide +kernel
theorem dX6_welcome_14 : decode cX6_welcome 14 = .ok (.iload_n 2, 1) := by decide +kernel
theorem dX6_welcome_15 : decode cX6_welcome 15 = .ok (.aload_n 0, 1) := by decide +kernel
theorem dX6_welcome_16 : decode cX6_welcome 16 = .ok (.getfield 15, 3) := by decide +kernel
theorem dX6_welcome_19 : decode cX6_welcome 19 = .ok (.invokevirtual 45, 3) := by decide +kernel
theorem dX6_welcome_22 : decode cX6_welcome 22 = .ok (.ireturn, 1) := by decide +kernel
theorem dX6_welcomeFrom_0 : decode cX6_welcomeFrom 0 = .ok (.aload_n 0, 1) := by decide +kernel
theorem dX6_welcomeFrom_1 : decode cX6_welcomeFrom 1 = .ok (.invokevirtual 41, 3) := by decide +kernel
theorem dX6_welcomeFrom_4 : decode cX6_welcomeFrom 4 = .ok (.ifCond .ne 23, 3) := by decide +kernel
theorem dX6_welcomeFrom_7 : decode cX6_welcomeFrom 7 = .ok (.lload_n 2, 1) := by decide +kernel
theorem dX6_welcomeFrom_8 : decode cX6_welcomeFrom 8 = .ok (.lconst 0, 1) := by decide +kernel
theorem dX6_welcomeFrom_9 : decode cX6_welcomeFrom 9 = .ok (.lcmp, 1) := by decide +kernel
theorem dX6_welcomeFrom_10 : decode cX6_welcomeFrom 10 = .ok (.ifCond .lt 17, 3) := by decide +kernel
theorem dX6_welcomeFrom_13 : decode cX6_welcomeFrom 13 = .ok (.lload_n 2, 1) := by decide +kernel
theorem dX6_welcomeFrom_14 : decode cX6_welcomeFrom 14 = .ok (.ldc2_w 49, 3) := by decide +kernel
theorem dX6_welcomeFrom_17 : decode cX6_welcomeFrom 17 = .ok (.ladd, 1) := by decide +kernel
theorem dX6_welcomeFrom_18 : decode cX6_welcomeFrom 18 = .ok (.aload_n 1, 1) := by decide +kernel
theorem dX6_welcomeFrom_19 : decode cX6_welcomeFrom 19 = .ok (.invokevirtual 51, 3) := by decide +kernel
theorem dX6_welcomeFrom_22 : decode cX6_welcomeFrom 22 = .ok (.i2l, 1) := by decide +kernel
theorem dX6_welcomeFrom_23 : decode cX6_welcomeFrom 23 = .ok (.lcmp, 1) := by decide +kernel
theorem dX6_welcomeFrom_24 : decode cX6_welcomeFrom 24 = .ok (.ifCond .le 5, 3) := by decide +kernel
theorem dX6_welcomeFrom_27 : decode cX6_welcomeFrom 27 = .ok (.iconst 0, 1) := by decide +kernel
theorem dX6_welcomeFrom_28 : decode cX6_welcomeFrom 28 = .ok (.ireturn, 1) := by decide +kernel
theorem dX6_welcomeFrom_29 : decode cX6_welcomeFrom 29 = .ok (.lload_n 2, 1) := by decide +kernel
theorem dX6_welcomeFrom_30 : decode cX6_welcomeFrom 30 = .ok (.l2i, 1) := by decide +kernel
theorem dX6_welcomeFrom_31 : decode cX6_welcomeFrom 31 = .ok (.istore 4, 2) := by decide +kernel
theorem dX6_welcomeFrom_33 : decode cX6_welcomeFrom 33 = .ok (.aload_n 1, 1) := by decide +kernel
theorem dX6_welcomeFrom_34 : decode cX6_welcomeFrom 34 = .ok (.iload 4, 2) := by decide +kernel
theorem dX6_welcomeFrom_36 : decode cX6_welcomeFrom 36 = .ok (.invokevirtual 56, 3) := by decide +kernel
theorem dX6_welcomeFrom_39 : decode cX6_welcomeFrom 39 = .ok (.istore 5, 2) := by decide +kernel
theorem dX6_welcomeFrom_41 : decode cX6_welcomeFrom 41 = .ok (.aload_n 1, 1) := by decide +kernel
theorem dX6_welcomeFrom_42 : decode cX6_welcomeFrom 42 = .ok (.iload 4, 2) := by decide +kernel
theorem dX6_welcomeFrom_44 : decode cX6_welcomeFrom 44 = .ok (.iconst 1, 1) := by decide +kernel
theorem dX6_welcomeFrom_45 : decode cX6_welcomeFrom 45 = .ok (.iadd, 1) := by decide +kernel
theorem dX6_welcomeFrom_46 : decode cX6_welcomeFrom 46 = .ok (.invokevirtual 56, 3) := by decide +kernel
theorem dX6_welcomeFrom_49 : decode cX6_welcomeFrom 49 = .ok (.istore 6, 2) := by decide +kernel
theorem dX6_welcomeFrom_51 : decode cX6_welcomeFrom 51 = .ok (.aload_n 1, 1) := by decide +kernel
theorem dX6_welcomeFrom_52 : decode cX6_welcomeFrom 52 = .ok (.iload 4, 2) := by decide +kernel
theorem dX6_welcomeFrom_54 : decode cX6_welcomeFrom 54 = .ok (.iconst 2, 1) := by decide +kernel
theorem dX6_welcomeFrom_55 : decode cX6_welcomeFrom 55 = .ok (.iadd, 1) := by decide +kernel
theorem dX6_welcomeFrom_56 : decode cX6_welcomeFrom 56 = .ok (.invokevirtual 56, 3) := by decide +kernel
theorem dX6_welcomeFrom_59 : decode cX6_welcomeFrom 59 = .ok (.istore 7, 2) := by decide +kernel
theorem dX6_welcomeFrom_61 : decode cX6_welcomeFrom 61 = .ok (.iconst 0, 1) := by decide +kernel
theorem dX6_welcomeFrom_62 : decode cX6_welcomeFrom 62 = .ok (.iload 5, 2) := by decide +kernel
theorem dX6_welcomeFrom_64 : decode cX6_welcomeFrom 64 = .ok (.invokestatic 60, 3) := by decide +kernel
theorem dX6_welcomeFrom_67 : decode cX6_welcomeFrom 67 = .ok (.ifCond .eq 21, 3) := by decide +kernel
theorem dX6_welcomeFrom_70 : decode cX6_welcomeFrom 70 = .ok (.iconst 1, 1) := by decide +kernel
theorem dX6_welcomeFrom_71 : decode cX6_welcomeFrom 71 = .ok (.iload 6, 2) := by decide +kernel
theorem dX6_welcomeFrom_73 : decode cX6_welcomeFrom 73 = .ok (.invokestatic 60, 3) := by decide +kernel
theorem dX6_welcomeFrom_76 : decode cX6_welcomeFrom 76 = .ok (.ifCond .eq 12, 3) := by decide +kernel
theorem dX6_welcomeFrom_79 : decode cX6_welcomeFrom 79 = .ok (.iconst 2, 1) := by decide +kernel
theorem dX6_welcomeFrom_80 : decode cX6_welcomeFrom 80 = .ok (.iload 7, 2) := by decide +kernel
theorem dX6_welcomeFrom_82 : decode cX6_welcomeFrom 82 = .ok (.invokestatic 60, 3) := by decide +kernel
theorem dX6_welcomeFrom_85 : decode cX6_welcomeFrom 85 = .ok (.ifCond .ne 5, 3) := by decide +kernel
theorem dX6_welcomeFrom_88 : decode cX6_welcomeFrom 88 = .ok (.iconst 0, 1) := by decide +kernel
theorem dX6_welcomeFrom_89 : decode cX6_welcomeFrom 89 = .ok (.ireturn, 1) := by decide +kernel
theorem dX6_welcomeFrom_90 : decode cX6_welcomeFrom 90 = .ok (.aload_n 0, 1) := by decide +kernel
theorem dX6_welcomeFrom_91 : decode cX6_welcomeFrom 91 = .ok (.iload 5, 2) := by decide +kernel
theorem dX6_welcomeFrom_93 : decode cX6_welcomeFrom 93 = .ok (.iload 6, 2) := by decide +kernel
theorem dX6_welcomeFrom_95 : decode cX6_welcomeFrom 95 = .ok (.iload 7, 2) := by decide +kernel
theorem dX6_welcomeFrom_97 : decode cX6_welcomeFrom 97 = .ok (.invokevirtual 45, 3) := by decide +kernel
theorem dX6_welcomeFrom_100 : decode cX6_welcomeFrom 100 = .ok (.pop, 1) := by decide +kernel
theorem dX6_welcomeFrom_101 : decode cX6_welcomeFrom 101 = .ok (.iconst 1, 1) := by decide +kernel
theorem dX6_welcomeFrom_102 : decode cX6_welcomeFrom 102 = .ok (.ireturn, 1) := by decide +kernel
theorem dX6_add_0 : decode cX6_add 0 = .ok (.iconst 4, 1) := by decide +kernel
theorem dX6_add_1 : decode cX6_add 1 = .ok (.aload_n 0, 1) := by decide +kernel
theorem dX6_add_2 : decode cX6_add 2 = .ok (.getfield 15, 3) := by decide +kernel
theorem dX6_add_5 : decode cX6_add 5 = .ok (.imul, 1) := by decide +kernel
theorem dX6_add_6 : decode cX6_add 6 = .ok (.istore 4, 2) := by decide +kernel
theorem dX6_add_8 : decode cX6_add 8 = .ok (.aload_n 0, 1) := by decide +kernel
theorem dX6_add_9 : decode cX6_add 9 = .ok (.getfield 11, 3) := by decide +kernel
theorem dX6_add_12 : decode cX6_add 12 = .ok (.iload 4, 2) := by decide +kernel
theorem dX6_add_14 : decode cX6_add 14 = .ok (.iconst 0, 1) := by decide +kernel
theorem dX6_add_15 : decode cX6_add 15 = .ok (.iadd, 1) := by decide +kernel
theorem dX6_add_16 : decode cX6_add 16 = .ok (.iload_n 1, 1) := by decide +kernel
theorem dX6_add_17 : decode cX6_add 17 = .ok (.iastore, 1) := by decide +kernel
theorem dX6_add_18 : decode cX6_add 18 = .ok (.aload_n 0, 1) := by decide +kernel
theorem dX6_add_19 : decode cX6_add 19 = .ok (.getfield 11, 3) := by decide +kernel
theorem dX6_add_22 : decode cX6_add 22 = .ok (.iload 4, 2) := by decide +kernel
theorem dX6_add_24 : decode cX6_add 24 = .ok (.iconst 1, 1) := by decide +kernel
theorem dX6_add_25 : decode cX6_add 25 = .ok (.iadd, 1) := by decide +kernel
theorem dX6_add_26 : decode cX6_add 26 = .ok (.iload_n 2, 1) := by decide +kernel
theorem dX6_add_27 : decode cX6_add 27 = .ok (.iastore, 1) := by decide +kernel
theorem dX6_add_28 : decode cX6_add 28 = .ok (.aload_n 0, 1) := by decide +kernel
theorem dX6_add_29 : decode cX6_add 29 = .ok (.getfield 11, 3) := by decide +kernel
theorem dX6_add_32 : decode cX6_add 32 = .ok (.iload 4, 2) := by decide +kernel
theorem dX6_add_34 : decode cX6_add 34 = .ok (.iconst 2, 1) := by decide +kernel
theorem dX6_add_35 : decode cX6_add 35 = .ok (.iadd, 1) := by decide +kernel
theorem dX6_add_36 : decode cX6_add 36 = .ok (.iload_n 3, 1) := by decide +kernel
theorem dX6_add_37 : decode cX6_add 37 = .ok (.iastore, 1) := by decide +kernel
theorem dX6_add_38 : decode cX6_add 38 = .ok (.aload_n 0, 1) := by decide +kernel
theorem dX6_add_39 : decode cX6_add 39 = .ok (.getfield 11, 3) := by decide +kernel
theorem dX6_add_42 : decode cX6_add 42 = .ok (.iload 4, 2) := by decide +kernel
theorem dX6_add_44 : decode cX6_add 44 = .ok (.iconst 3, 1) := by decide +kernel
theorem dX6_add_45 : decode cX6_add 45 = .ok (.iadd, 1) := by decide +kernel
theorem dX6_add_46 : decode cX6_add 46 = .ok (.iconst 5, 1) := by decide +kernel
theorem dX6_add_47 : decode cX6_add 47 = .ok (.iastore, 1) := by decide +kernel
theorem dX6_add_48 : decode cX6_add 48 = .ok (.aload_n 0, 1) := by decide +kernel
theorem dX6_add_49 : decode cX6_add 49 = .ok (.dup, 1) := by decide +kernel
theorem dX6_add_50 : decode cX6_add 50 = .ok (.getfield 15, 3) := by decide +kernel
theorem dX6_add_53 : decode cX6_add 53 = .ok (.iconst 1, 1) := by decide +kernel
theorem dX6_add_54 : decode cX6_add 54 = .ok (.iadd, 1) := by decide +kernel
theorem dX6_add_55 : decode cX6_add 55 = .ok (.putfield 15, 3) := by decide +kernel
theorem dX6_add_58 : decode cX6_add 58 = .ok (.aload_n 0, 1) := by decide +kernel
theorem dX6_add_59 : decode cX6_add 59 = .ok (.getfield 15, 3) := by decide +kernel
theorem dX6_add_62 : decode cX6_add 62 = .ok (.iconst 1, 1) := by decide +kernel
theorem dX6_add_63 : decode cX6_add 63 = .ok (.isub, 1) := by decide +kernel
theorem dX6_add_64 : decode cX6_add 64 = .ok (.ireturn, 1) := by decide +kernel
theorem dX6_change_0 : decode cX6_change 0 = .ok (.aload_n 0, 1) := by decide +kernel
theorem dX6_change_1 : decode cX6_change 1 = .ok (.iload_n 1, 1) := by decide +kernel
theorem dX6_change_2 : decode cX6_change 2 = .ok (.iload_n 2, 1) := by decide +kernel
theorem dX6_change_3 : decode cX6_change 3 = .ok (.invokevirtual 64, 3) := by decide +kernel
theorem dX6_change_6 : decode cX6_change 6 = .ok (.istore 4, 2) := by decide +kernel
theorem dX6_change_8 : decode cX6_change 8 = .ok (.aload_n 0, 1) := by decide +kernel
theorem dX6_change_9 : decode cX6_change 9 = .ok (.iload_n 1, 1) := by decide +kernel
theorem dX6_change_10 : decode cX6_change 10 = .ok (.invokevirtual 37, 3) := by decide +kernel
theorem dX6_change_13 : decode cX6_change 13 = .ok (.ifCond .eq 40, 3) := by decide +kernel
theorem dX6_change_16 : decode cX6_change 16 = .ok (.iload_n 2, 1) := by decide +kernel
theorem dX6_change_17 : decode cX6_change 17 = .ok (.iload_n 3, 1) := by decide +kernel
theorem dX6_change_18 : decode cX6_change 18 = .ok (.invokestatic 60, 3) := by decide +kernel
theorem dX6_change_21 : decode cX6_change 21 = .ok (.ifCond .eq 32, 3) := by decide +kernel
theorem dX6_change_24 : decode cX6_change 24 = .ok (.iload_n 3, 1) := by decide +kernel
theorem dX6_change_25 : decode cX6_change 25 = .ok (.iload 4, 2) := by decide +kernel
theorem dX6_change_27 : decode cX6_change 27 = .ok (.if_icmp .eq 26, 3) := by decide +kernel
theorem dX6_change_30 : decode cX6_change 30 = .ok (.aload_n 0, 1) := by decide +kernel
theorem dX6_change_31 : decode cX6_change 31 = .ok (.iconst 4, 1) := by decide +kernel
theorem dX6_change_32 : decode cX6_change 32 = .ok (.iload_n 1, 1) := by decide +kernel
theorem dX6_change_33 : decode cX6_change 33 = .ok (.imul, 1) := by decide +kernel
theorem dX6_change_34 : decode cX6_change 34 = .ok (.iload_n 2, 1) := by decide +kernel
theorem dX6_change_35 : decode cX6_change 35 = .ok (.iadd, 1) := by decide +kernel
theorem dX6_change_36 : decode cX6_change 36 = .ok (.iload 4, 2) := by decide +kernel
theorem dX6_change_38 : decode cX6_change 38 = .ok (.iload_n 3, 1) := by decide +kernel
theorem dX6_change_39 : decode cX6_change 39 = .ok (.invokevirtual 68, 3) := by decide +kernel
theorem dX6_change_42 : decode cX6_change 42 = .ok (.aload_n 0, 1) := by decide +kernel
theorem dX6_change_43 : decode cX6_change 43 = .ok (.getfield 11, 3) := by decide +kernel
theorem dX6_change_46 : decode cX6_change 46 = .ok (.iconst 4, 1) := by decide +kernel
theorem dX6_change_47 : decode cX6_change 47 = .ok (.iload_n 1, 1) := by decide +kernel
theorem dX6_change_48 : decode cX6_change 48 = .ok (.imul, 1) := by decide +kernel
theorem dX6_change_49 : decode cX6_change 49 = .ok (.iload_n 2, 1) := by decide +kernel
theorem dX6_change_50 : decode cX6_change 50 = .ok (.iadd, 1) := by decide +kernel
theorem dX6_change_51 : decode cX6_change 51 = .ok (.iload_n 3, 1) := by decide +kernel
theorem dX6_change_52 : decode cX6_change 52 = .ok (.iastore, 1) := by decide +kernel
theorem dX6_change_53 : decode cX6_change 53 = .ok (.iload 4, 2) := by decide +kernel
theorem dX6_change_55 : decode cX6_change 55 = .ok (.ireturn, 1) := by decide +kernel
theorem dX6_noteChange_0 : decode cX6_noteChange 0 = .ok (.aload_n 0, 1) := by decide +kernel
theorem dX6_noteChange_1 : decode cX6_noteChange 1 = .ok (.getfield 28, 3) := by decide +kernel
theorem dX6_noteChange_4 : decode cX6_noteChange 4 = .ok (.bipush 40, 2) := by decide +kernel
theorem dX6_noteChange_6 : decode cX6_noteChange 6 = .ok (.if_icmp .lt 30, 3) := by decide +kernel
theorem dX6_noteChange_9 : decode cX6_noteChange 9 = .ok (.aload_n 0, 1) := by decide +kernel
theorem dX6_noteChange_10 : decode cX6_noteChange 10 = .ok (.getfield 19, 3) := by decide +kernel
theorem dX6_noteChange_13 : decode cX6_noteChange 13 = .ok (.invokestatic 72, 3) := by decide +kernel
theorem dX6_noteChange_16 : decode cX6_noteChange 16 = .ok (.aload_n 0, 1) := by decide +kernel
theorem dX6_noteChange_17 : decode cX6_noteChange 17 = .ok (.getfield 22, 3) := by decide +kernel
theorem dX6_noteChange_20 : decode cX6_noteChange 20 = .ok (.invokestatic 72, 3) := by decide +kernel
theorem dX6_noteChange_23 : decode cX6_noteChange 23 = .ok (.aload_n 0, 1) := by decide +kernel
theorem dX6_noteChange_24 : decode cX6_noteChange 24 = .ok (.getfield 25, 3) := by decide +kernel
theorem dX6_noteChange_27 : decode cX6_noteChange 27 = .ok (.invokestatic 72, 3) := by decide +kernel
theorem dX6_noteChange_30 : decode cX6_noteChange 30 = .ok (.aload_n 0, 1) := by decide +kernel
theorem dX6_noteChange_31 : decode cX6_noteChange 31 = .ok (.bipush 39, 2) := by decide +kernel
theorem dX6_noteChange_33 : decode cX6_noteChange 33 = .ok (.putfield 28, 3) := by decide +kernel
theorem dX6_noteChange_36 : decode cX6_noteChange 36 = .ok (.aload_n 0, 1) := by decide +kernel
theorem dX6_noteChange_37 : decode cX6_noteChange 37 = .ok (.getfield 19, 3) := by decide +kernel
theorem dX6_noteChange_40 : decode cX6_noteChange 40 = .ok (.aload_n 0, 1) := by decide +kernel
theorem dX6_noteChange_41 : decode cX6_noteChange 41 = .ok (.getfield 28, 3) := by decide +kernel
theorem dX6_noteChange_44 : decode cX6_noteChange 44 = .ok (.iload_n 1, 1) := by decide +kernel
theorem dX6_noteChange_45 : decode cX6_noteChange 45 = .ok (.iastore, 1) := by decide +kernel
theorem dX6_noteChange_46 : decode cX6_noteChange 46 = .ok (.aload_n 0, 1) := by decide +kernel
theorem dX6_noteChange_47 : decode cX6_noteChange 47 = .ok (.getfield 22, 3) := by decide +kernel
theorem dX6_noteChange_50 : decode cX6_noteChange 50 = .ok (.aload_n 0, 1) := by decide +kernel
theorem dX6_noteChange_51 : decode cX6_noteChange 51 = .ok (.getfield 28, 3) := by decide +kernel
theorem dX6_noteChange_54 : decode cX6_noteChange 54 = .ok (.iload_n 2, 1) := by decide +kernel
theorem dX6_noteChange_55 : decode cX6_noteChange 55 = .ok (.iastore, 1) := by decide +kernel
theorem dX6_noteChange_56 : decode cX6_noteChange 56 = .ok (.aload_n 0, 1) := by decide +kernel
theorem dX6_noteChange_57 : decode cX6_noteChange 57 = .ok (.getfield 25, 3) := by decide +kernel
theorem dX6_noteChange_60 : decode cX6_noteChange 60 = .ok (.aload_n 0, 1) := by decide +kernel
theorem dX6_noteChange_61 : decode cX6_noteChange 61 = .ok (.getfield 28, 3) := by decide +kernel
theorem dX6_noteChange_64 : decode cX6_noteChange 64 = .ok (.iload_n 3, 1) := by decide +kernel
theorem dX6_noteChange_65 : decode cX6_noteChange 65 = .ok (.iastore, 1) := by decide +kernel
theorem dX6_noteChange_66 : decode cX6_noteChange 66 = .ok (.aload_n 0, 1) := by decide +kernel
theorem dX6_noteChange_67 : decode cX6_noteChange 67 = .ok (.dup, 1) := by decide +kernel
theorem dX6_noteChange_68 : decode cX6_noteChange 68 = .ok (.getfield 28, 3) := by decide +kernel
theorem dX6_noteChange_71 : decode cX6_noteChange 71 = .ok (.iconst 1, 1) := by decide +kernel
theorem dX6_noteChange_72 : decode cX6_noteChange 72 = .ok (.iadd, 1) := by decide +kernel
theorem dX6_noteChange_73 : decode cX6_noteChange 73 = .ok (.putfield 28, 3) := by decide +kernel
theorem dX6_noteChange_76 : decode cX6_noteChange 76 = .ok (.aload_n 0, 1) := by decide +kernel
theorem dX6_noteChange_77 : decode cX6_noteChange 77 = .ok (.iconst 0, 1) := by decide +kernel
theorem dX6_noteChange_78 : decode cX6_noteChange 78 = .ok (.putfield 31, 3) := by decide +kernel
theorem dX6_noteChange_81 : decode cX6_noteChange 81 = .ok (.return_, 1) := by decide +kernel
theorem dX6_dropOldest_0 : decode cX6_dropOldest 0 = .ok (.aload_n 0, 1) := by decide +kernel
theorem dX6_dropOldest_1 : decode cX6_dropOldest 1 = .ok (.iconst 1, 1) := by decide +kernel
theorem dX6_dropOldest_2 : decode cX6_dropOldest 2 = .ok (.aload_n 0, 1) := by decide +kernel
theorem dX6_dropOldest_3 : decode cX6_dropOldest 3 = .ok (.iconst 0, 1) := by decide +kernel
theorem dX6_dropOldest_4 : decode cX6_dropOldest 4 = .ok (.bipush 39, 2) := by decide +kernel
theorem dX6_dropOldest_6 : decode cX6_dropOldest 6 = .ok (.invokestatic 76, 3) := by decide +kernel
theorem dX6_dropOldest_9 : decode cX6_dropOldest 9 = .ok (.return_, 1) := by decide +kernel
theorem dX6_undoable_0 : decode cX6_undoable 0 = .ok (.aload_n 0, 1) := by decide +kernel
theorem dX6_undoable_1 : decode cX6_undoable 1 = .ok (.getfield 28, 3) := by decide +kernel
theorem dX6_undoable_4 : decode cX6_undoable 4 = .ok (.ireturn, 1) := by decide +kernel
theorem dX6_redoable_0 : decode cX6_redoable 0 = .ok (.aload_n 0, 1) := by decide +kernel
theorem dX6_redoable_1 : decode cX6_redoable 1 = .ok (.getfield 31, 3) := by decide +kernel
theorem dX6_redoable_4 : decode cX6_redoable 4 = .ok (.ireturn, 1) := by decide +kernel
theorem dX6_stepBack_0 : decode cX6_stepBack 0 = .ok (.aload_n 0, 1) := by decide +kernel
theorem dX6_stepBack_1 : decode cX6_stepBack 1 = .ok (.getfield 28, 3) := by decide +kernel
theorem dX6_stepBack_4 : decode cX6_stepBack 4 = .ok (.ifCond .le 46, 3) := by decide +kernel
theorem dX6_stepBack_7 : decode cX6_stepBack 7 = .ok (.aload_n 0, 1) := by decide +kernel
theorem dX6_stepBack_8 : decode cX6_stepBack 8 = .ok (.dup, 1) := by decide +kernel
theorem dX6_stepBack_9 : decode cX6_stepBack 9 = .ok (.getfield 28, 3) := by decide +kernel
theorem dX6_stepBack_12 : decode cX6_stepBack 12 = .ok (.iconst 1, 1) := by decide +kernel
theorem dX6_stepBack_13 : decode cX6_stepBack 13 = .ok (.isub, 1) := by decide +kernel
theorem dX6_stepBack_14 : decode cX6_stepBack 14 = .ok (.putfield 28, 3) := by decide +kernel
theorem dX6_stepBack_17 : decode cX6_stepBack 17 = .ok (.aload_n 0, 1) := by decide +kernel
theorem dX6_stepBack_18 : decode cX6_stepBack 18 = .ok (.dup, 1) := by decide +kernel
theorem dX6_stepBack_19 : decode cX6_stepBack 19 = .ok (.getfield 31, 3) := by decide +kernel
theorem dX6_stepBack_22 : decode cX6_stepBack 22 = .ok (.iconst 1, 1) := by decide +kernel
theorem dX6_stepBack_23 : decode cX6_stepBack 23 = .ok (.iadd, 1) := by decide +kernel
theorem dX6_stepBack_24 : decode cX6_stepBack 24 = .ok (.putfield 31, 3) := by decide +kernel
theorem dX6_stepBack_27 : decode cX6_stepBack 27 = .ok (.aload_n 0, 1) := by decide +kernel
theorem dX6_stepBack_28 : decode cX6_stepBack 28 = .ok (.getfield 11, 3) := by decide +kernel
theorem dX6_stepBack_31 : decode cX6_stepBack 31 = .ok (.aload_n 0, 1) := by decide +kernel
theorem dX6_stepBack_32 : decode cX6_stepBack 32 = .ok (.getfield 19, 3) := by decide +kernel
theorem dX6_stepBack_35 : decode cX6_stepBack 35 = .ok (.aload_n 0, 1) := by decide +kernel
theorem dX6_stepBack_36 : decode cX6_stepBack 36 = .ok (.getfield 28, 3) := by decide +kernel
theorem dX6_stepBack_39 : decode cX6_stepBack 39 = .ok (.iaload, 1) := by decide +kernel
theorem dX6_stepBack_40 : decode cX6_stepBack 40 = .ok (.aload_n 0, 1) := by decide +kernel
theorem dX6_stepBack_41 : decode cX6_stepBack 41 = .ok (.getfield 22, 3) := by decide +kernel
theorem dX6_stepBack_44 : decode cX6_stepBack 44 = .ok (.aload_n 0, 1) := by decide +kernel
theorem dX6_stepBack_45 : decode cX6_stepBack 45 = .ok (.getfield 28, 3) := by decide +kernel
theorem dX6_stepBack_48 : decode cX6_stepBack 48 = .ok (.iaload, 1) := by decide +kernel
theorem dX6_stepBack_49 : decode cX6_stepBack 49 = .ok (.iastore, 1) := by decide +kernel
theorem dX6_stepBack_50 : decode cX6_stepBack 50 = .ok (.aload_n 0, 1) := by decide +kernel
theorem dX6_stepBack_51 : decode cX6_stepBack 51 = .ok (.getfield 28, 3) := by decide +kernel
theorem dX6_stepBack_54 : decode cX6_stepBack 54 = .ok (.ireturn, 1) := by decide +kernel
theorem dX6_stepAgain_0 : decode cX6_stepAgain 0 = .ok (.aload_n 0, 1) := by decide +kernel
theorem dX6_stepAgain_1 : decode cX6_stepAgain 1 = .ok (.getfield 31, 3) := by decide +kernel
theorem dX6_stepAgain_4 : decode cX6_stepAgain 4 = .ok (.ifCond .le 55, 3) := by decide +kernel
theorem dX6_stepAgain_7 : decode cX6_stepAgain 7 = .ok (.aload_n 0, 1) := by decide +kernel
theorem dX6_stepAgain_8 : decode cX6_stepAgain 8 = .ok (.getfield 28, 3) := by decide +kernel
theorem dX6_stepAgain_11 : decode cX6_stepAgain 11 = .ok (.bipush 40, 2) := by decide +kernel
theorem dX6_stepAgain_13 : decode cX6_stepAgain 13 = .ok (.if_icmp .ge 46, 3) := by decide +kernel
theorem dX6_stepAgain_16 : decode cX6_stepAgain 16 = .ok (.aload_n 0, 1) := by decide +kernel
theorem dX6_stepAgain_17 : decode cX6_stepAgain 17 = .ok (.getfield 11, 3) := by decide +kernel
theorem dX6_stepAgain_20 : decode cX6_stepAgain 20 = .ok (.aload_n 0, 1) := by decide +kernel
theorem dX6_stepAgain_21 : decode cX6_stepAgain 21 = .ok (.getfield 19, 3) := by decide +kernel
theorem dX6_stepAgain_24 : decode cX6_stepAgain 24 = .ok (.aload_n 0, 1) := by decide +kernel
theorem dX6_stepAgain_25 : decode cX6_stepAgain 25 = .ok (.getfield 28, 3) := by decide +kernel
theorem dX6_stepAgain_28 : decode cX6_stepAgain 28 = .ok (.iaload, 1) := by decide +kernel
theorem dX6_stepAgain_29 : decode cX6_stepAgain 29 = .ok (.aload_n 0, 1) := by decide +kernel
theorem dX6_stepAgain_30 : decode cX6_stepAgain 30 = .ok (.getfield 25, 3) := by decide +kernel
theorem dX6_stepAgain_33 : decode cX6_stepAgain 33 = .ok (.aload_n 0, 1) := by decide +kernel
theorem dX6_stepAgain_34 : decode cX6_stepAgain 34 = .ok (.getfield 28, 3) := by decide +kernel
theorem dX6_stepAgain_37 : decode cX6_stepAgain 37 = .ok (.iaload, 1) := by decide +kernel
theorem dX6_stepAgain_38 : decode cX6_stepAgain 38 = .ok (.iastore, 1) := by decide +kernel
theorem dX6_stepAgain_39 : decode cX6_stepAgain 39 = .ok (.aload_n 0, 1) := by decide +kernel
theorem dX6_stepAgain_40 : decode cX6_stepAgain 40 = .ok (.dup, 1) := by decide +kernel
theorem dX6_stepAgain_41 : decode cX6_stepAgain 41 = .ok (.getfield 28, 3) := by decide +kernel
theorem dX6_stepAgain_44 : decode cX6_stepAgain 44 = .ok (.iconst 1, 1) := by decide +kernel
theorem dX6_stepAgain_45 : decode cX6_stepAgain 45 = .ok (.iadd, 1) := by decide +kernel
theorem dX6_stepAgain_46 : decode cX6_stepAgain 46 = .ok (.putfield 28, 3) := by decide +kernel
theorem dX6_stepAgain_49 : decode cX6_stepAgain 49 = .ok (.aload_n 0, 1) := by decide +kernel
theorem dX6_stepAgain_50 : decode cX6_stepAgain 50 = .ok (.dup, 1) := by decide +kernel
theorem dX6_stepAgain_51 : decode cX6_stepAgain 51 = .ok (.getfield 31, 3) := by decide +kernel
theorem dX6_stepAgain_54 : decode cX6_stepAgain 54 = .ok (.iconst 1, 1) := by decide +kernel
theorem dX6_stepAgain_55 : decode cX6_stepAgain 55 = .ok (.isub, 1) := by decide +kernel
theorem dX6_stepAgain_56 : decode cX6_stepAgain 56 = .ok (.putfield 31, 3) := by decide +kernel
theorem dX6_stepAgain_59 : decode cX6_stepAgain 59 = .ok (.aload_n 0, 1) := by decide +kernel
theorem dX6_stepAgain_60 : decode cX6_stepAgain 60 = .ok (.getfield 31, 3) := by decide +kernel
theorem dX6_stepAgain_63 : decode cX6_stepAgain 63 = .ok (.ireturn, 1) := by decide +kernel
theorem dX7_init_0 : decode cX7_init 0 = .ok (.aload_n 0, 1) := by decide +kernel
theorem dX7_init_1 : decode cX7_init 1 = .ok (.invokespecial 3, 3) := by decide +kernel
theorem dX7_init_4 : decode cX7_init 4 = .ok (.aload_n 0, 1) := by decide +kernel
theorem dX7_init_5 : decode cX7_init 5 = .ok (.sipush 242, 3) := by decide +kernel
theorem dX7_init_8 : decode cX7_init 8 = .ok (.newarray .char, 2) := by decide +kernel
theorem dX7_init_10 : decode cX7_init 10 = .ok (.putfield 11, 3) := by decide +kernel
theorem dX7_init_13 : decode cX7_init 13 = .ok (.aload_n 0, 1) := by decide +kernel
theorem dX7_init_14 : decode cX7_init 14 = .ok (.sipush 242, 3) := by decide +kernel
theorem dX7_init_17 : decode cX7_init 17 = .ok (.newarray .int, 2) := by decide +kernel
theorem dX7_init_19 : decode cX7_init 19 = .ok (.putfield 15, 3) := by decide +kernel
theorem dX7_init_22 : decode cX7_init 22 = .ok (.aload_n 0, 1) := by decide +kernel
theorem dX7_init_23 : decode cX7_init 23 = .ok (.sipush 242, 3) := by decide +kernel
theorem dX7_init_26 : decode cX7_init 26 = .ok (.newarray .int, 2) := by decide +kernel
theorem dX7_init_28 : decode cX7_init 28 = .ok (.putfield 19, 3) := by decide +kernel
theorem dX7_init_31 : decode cX7_init 31 = .ok (.aload_n 0, 1) := by decide +kernel
theorem dX7_init_32 : decode cX7_init 32 = .ok (.sipush 242, 3) := by decide +kernel
theorem dX7_init_35 : decode cX7_init 35 = .ok (.newarray .int, 2) := by decide +kernel
theorem dX7_init_37 : decode cX7_init 37 = .ok (.putfield 22, 3) := by decide +kernel
theorem dX7_init_40 : decode cX7_init 40 = .ok (.aload_n 0, 1) := by decide +kernel
theorem dX7_init_41 : decode cX7_init 41 = .ok (.iconst 0, 1) := by decide +kernel
theorem dX7_init_42 : decode cX7_init 42 = .ok (.putfield 25, 3) := by decide +kernel
theorem dX7_init_45 : decode cX7_init 45 = .ok (.return_, 1) := by decide +kernel
theorem dX7_clear_0 : decode cX7_clear 0 = .ok (.aload_n 0, 1) := by decide +kernel
theorem dX7_clear_1 : decode cX7_clear 1 = .ok (.iconst 0, 1) := by decide +kernel
theorem dX7_clear_2 : decode cX7_clear 2 = .ok (.putfield 25, 3) := by decide +kernel
theorem dX7_clear_5 : decode cX7_clear 5 = .ok (.return_, 1) := by decide +kernel
theorem dX7_isTold_0 : decode cX7_isTold 0 = .ok (.aload_n 0, 1) := by decide +kernel
theorem dX7_isTold_1 : decode cX7_isTold 1 = .ok (.getfield 25, 3) := by decide +kernel
theorem dX7_isTold_4 : decode cX7_isTold 4 = .ok (.ifCond .le 7, 3) := by decide +kernel
theorem dX7_isTold_7 : decode cX7_isTold 7 = .ok (.iconst 1, 1) := by decide +kernel
theorem dX7_isTold_8 : decode cX7_isTold 8 = .ok (.goto 4, 3) := by decide +kernel
theorem dX7_isTold_11 : decode cX7_isTold 11 = .ok (.iconst 0, 1) := by decide +kernel
theorem dX7_isTold_12 : decode cX7_isTold 12 = .ok (.ireturn, 1) := by decide +kernel
theorem dX7_add_0 : decode cX7_add 0 = .ok (.iload_n 2, 1) := by decide +kernel
theorem dX7_add_1 : decode cX7_add 1 = .ok (.ifCond .lt 23, 3) := by decide +kernel
theorem dX7_add_4 : decode cX7_add 4 = .ok (.iload_n 2, 1) := by decide +kernel
theorem dX7_add_5 : decode cX7_add 5 = .ok (.aload_n 0, 1) := by decide +kernel
theorem dX7_add_6 : decode cX7_add 6 = .ok (.getfield 25, 3) := by decide +kernel
theorem dX7_add_9 : decode cX7_add 9 = .ok (.if_icmp .ge 15, 3) := by decide +kernel
theorem dX7_add_12 : decode cX7_add 12 = .ok (.iload_n 3, 1) := by decide +kernel
theorem dX7_add_13 : decode cX7_add 13 = .ok (.ifCond .lt 11, 3) := by decide +kernel
theorem dX7_add_16 : decode cX7_add 16 = .ok (.iload_n 3, 1) := by decide +kernel
theorem dX7_add_17 : decode cX7_add 17 = .ok (.aload_n 0, 1) := by decide +kernel
theorem dX7_add_18 : decode cX7_add 18 = .ok (.getfield 25, 3) := by decide +kernel
theorem dX7_add_21 : decode cX7_add 21 = .ok (.if_icmp .lt 5, 3) := by decide +kernel
theorem dX7_add_24 : decode cX7_add 24 = .ok (.iconst (-1), 1) := by decide +kernel
theorem dX7_add_25 : decode cX7_add 25 = .ok (.ireturn, 1) := by decide +kernel
theorem dX7_add_26 : decode cX7_add 26 = .ok (.aload_n 0, 1) := by decide +kernel
theorem dX7_add_27 : decode cX7_add 27 = .ok (.iload_n 1, 1) := by decide +kernel
theorem dX7_add_28 : decode cX7_add 28 = .ok (.iload_n 2, 1) := by decide +kernel
theorem dX7_add_29 : decode cX7_add 29 = .ok (.iload_n 3, 1) := by decide +kernel
theorem dX7_add_30 : decode cX7_add 30 = .ok (.iconst 0, 1) := by decide +kernel
theorem dX7_add_31 : decode cX7_add 31 = .ok (.invokevirtual 29, 3) := by decide +kernel
theorem dX7_add_34 : decode cX7_add 34 = .ok (.ireturn, 1) := by decide +kernel
theorem dX7_addNumber_0 : decode cX7_addNumber 0 = .ok (.aload_n 0, 1) := by decide +kernel
theorem dX7_addNumber_1 : decode cX7_addNumber 1 = .ok (.bipush 48, 2) := by decide +kernel
theorem dX7_addNumber_3 : decode cX7_addNumber 3 = .ok (.iconst 0, 1) := by decide +kernel
theorem dX7_addNumber_4 : decode cX7_addNumber 4 = .ok (.iconst 0, 1) := by decide +kernel
theorem dX7_addNumber_5 : decode cX7_addNumber 5 = .ok (.iload_n 1, 1) := by decide +kernel
theorem dX7_addNumber_6 : decode cX7_addNumber 6 = .ok (.invokevirtual 29, 3) := by decide +kernel
theorem dX7_addNumber_9 : decode cX7_addNumber 9 = .ok (.ireturn, 1) := by decide +kernel
theorem dX7_addName_0 : decode cX7_addName 0 = .ok (.iload_n 1, 1) := by decide +kernel
theorem dX7_addName_1 : decode cX7_addName 1 = .ok (.ifCond .lt 10, 3) := by decide +kernel
theorem dX7_addName_4 : decode cX7_addName 4 = .ok (.iload_n 1, 1) := by decide +kernel
theorem dX7_addName_5 : decode cX7_addName 5 = .ok (.sipush 242, 3) := by decide +kernel
theorem dX7_addName_8 : decode cX7_addName 8 = .ok (.if_icmp .lt 7, 3) := by decide +kernel
theorem dX7_addName_11 : decode cX7_addName 11 = .ok (.iconst (-1), 1) := by decide +kernel
theorem dX7_addName_12 : decode cX7_addName 12 = .ok (.goto 12, 3) := by decide +kernel
theorem dX7_addName_15 : decode cX7_addName 15 = .ok (.aload_n 0, 1) := by decide +kernel
theorem dX7_addName_16 : decode cX7_addName 16 = .ok (.bipush 97, 2) := by decide +kernel
theorem dX7_addName_18 : decode cX7_addName 18 = .ok (.iload_n 1, 1) := by decide +kernel
theorem dX7_addName_19 : decode cX7_addName 19 = .ok (.iconst 0, 1) := by decide +kernel
theorem dX7_addName_20 : decode cX7_addName 20 = .ok (.iconst 0, 1) := by decide +kernel
theorem dX7_addName_21 : decode cX7_addName 21 = .ok (.invokevirtual 29, 3) := by decide +kernel
theorem dX7_addName_24 : decode cX7_addName 24 = .ok (.ireturn, 1) := by decide +kernel
theorem dX7_append_0 : decode cX7_append 0 = .ok (.aload_n 0, 1) := by decide +kernel
theorem dX7_append_1 : decode cX7_append 1 = .ok (.getfield 25, 3) := by decide +kernel
theorem dX7_append_4 : decode cX7_append 4 = .ok (.sipush 242, 3) := by decide +kernel
theorem dX7_append_7 : decode cX7_append 7 = .ok (.if_icmp .lt 5, 3) := by decide +kernel
theorem dX7_append_10 : decode cX7_append 10 = .ok (.iconst (-1), 1) := by decide +kernel
theorem dX7_append_11 : decode cX7_append 11 = .ok (.ireturn, 1) := by decide +kernel
theorem dX7_append_12 : decode cX7_append 12 = .ok (.aload_n 0, 1) := by decide +kernel
theorem dX7_append_13 : decode cX7_append 13 = .ok (.getfield 11, 3) := by decide +kernel
theorem dX7_append_16 : decode cX7_append 16 = .ok (.aload_n 0, 1) := by decide +kernel
theorem dX7_append_17 : decode cX7_append 17 = .ok (.getfield 25, 3) := by decide +kernel
theorem dX7_append_20 : decode cX7_append 20 = .ok (.iload_n 1, 1) := by decide +kernel
theorem dX7_append_21 : decode cX7_append 21 = .ok (.castore, 1) := by decide +kernel
theorem dX7_append_22 : decode cX7_append 22 = .ok (.aload_n 0, 1) := by decide +kernel
theorem dX7_append_23 : decode cX7_append 23 = .ok (.getfield 15, 3) := by decide +kernel
theorem dX7_append_26 : decode cX7_append 26 = .ok (.aload_n 0, 1) := by decide +kernel
theorem dX7_append_27 : decode cX7_append 27 = .ok (.getfield 25, 3) := by decide +kernel
theorem dX7_append_30 : decode cX7_append 30 = .ok (.iload_n 2, 1) := by decide +kernel
theorem dX7_append_31 : decode cX7_append 31 = .ok (.iastore, 1) := by decide +kernel
theorem dX7_append_32 : decode cX7_append 32 = .ok (.aload_n 0, 1) := by decide +kernel
theorem dX7_append_33 : decode cX7_append 33 = .ok (.getfield 19, 3) := by decide +kernel
theorem dX7_append_36 : decode cX7_append 36 = .ok (.aload_n 0, 1) := by decide +kernel
theorem dX7_append_37 : decode cX7_append 37 = .ok (.getfield 25, 3) := by decide +kernel
theorem dX7_append_40 : decode cX7_append 40 = .ok (.iload_n 3, 1) := by decide +kernel
theorem dX7_append_41 : decode cX7_append 41 = .ok (.iastore, 1) := by decide +kernel
theorem dX7_append_42 : decode cX7_append 42 = .ok (.aload_n 0, 1) := by decide +kernel
theorem dX7_append_43 : decode cX7_append 43 = .ok (.getfield 22, 3) := by decide +kernel
theorem dX7_append_46 : decode cX7_append 46 = .ok (.aload_n 0, 1) := by decide +kernel
theorem dX7_append_47 : decode cX7_append 47 = .ok (.getfield 25, 3) := by decide +kernel
theorem dX7_append_50 : decode cX7_append 50 = .ok (.iload 4, 2) := by decide +kernel
theorem dX7_append_52 : decode cX7_append 52 = .ok (.iastore, 1) := by decide +kernel
theorem dX7_append_53 : decode cX7_append 53 = .ok (.aload_n 0, 1) := by decide +kernel
theorem dX7_append_54 : decode cX7_append 54 = .ok (.dup, 1) := by decide +kernel
theorem dX7_append_55 : decode cX7_append 55 = .ok (.getfield 25, 3) := by decide +kernel
theorem dX7_append_58 : decode cX7_append 58 = .ok (.iconst 1, 1) := by decide +kernel
theorem dX7_append_59 : decode cX7_append 59 = .ok (.iadd, 1) := by decide +kernel
theorem dX7_append_60 : decode cX7_append 60 = .ok (.putfield 25, 3) := by decide +kernel
theorem dX7_append_63 : decode cX7_append 63 = .ok (.aload_n 0, 1) := by decide +kernel
theorem dX7_append_64 : decode cX7_append 64 = .ok (.getfield 25, 3) := by decide +kernel
theorem dX7_append_67 : decode cX7_append 67 = .ok (.iconst 1, 1) := by decide +kernel
theorem dX7_append_68 : decode cX7_append 68 = .ok (.isub, 1) := by decide +kernel
theorem dX7_append_69 : decode cX7_append 69 = .ok (.ireturn, 1) := by decide +kernel
theorem dX7_aimHere_0 : decode cX7_aimHere 0 = .ok (.iload_n 1, 1) := by decide +kernel
theorem dX7_aimHere_1 : decode cX7_aimHere 1 = .ok (.ifCond .lt 31, 3) := by decide +kernel
theorem dX7_aimHere_4 : decode cX7_aimHere 4 = .ok (.iload_n 1, 1) := by decide +kernel
theorem dX7_aimHere_5 : decode cX7_aimHere 5 = .ok (.aload_n 0, 1) := by decide +kernel
theorem dX7_aimHere_6 : decode cX7_aimHere 6 = .ok (.getfield 25, 3) := by decide +kernel
theorem dX7_aimHere_9 : decode cX7_aimHere 9 = .ok (.if_icmp .ge 23, 3) := by decide +kernel
theorem dX7_aimHere_12 : decode cX7_aimHere 12 = .ok (.aload_n 0, 1) := by decide +kernel
theorem dX7_aimHere_13 : decode cX7_aimHere 13 = .ok (.getfield 25, 3) := by decide +kernel
theorem dX7_aimHere_16 : decode cX7_aimHere 16 = .ok (.sipush 242, 3) := by decide +kernel
theorem dX7_aimHere_19 : decode cX7_aimHere 19 = .ok (.if_icmp .ge 13, 3) := by decide +kernel
theorem dX7_aimHere_22 : decode cX7_aimHere 22 = .ok (.aload_n 0, 1) := by decide +kernel
theorem dX7_aimHere_23 : decode cX7_aimHere 23 = .ok (.getfield 19, 3) := by decide +kernel
theorem dX7_aimHere_26 : decode cX7_aimHere 26 = .ok (.iload_n 1, 1) := by decide +kernel
theorem dX7_aimHere_27 : decode cX7_aimHere 27 = .ok (.aload_n 0, 1) := by decide +kernel
theorem dX7_aimHere_28 : decode cX7_aimHere 28 = .ok (.getfield 25, 3) := by decide +kernel
theorem dX7_aimHere_31 : decode cX7_aimHere 31 = .ok (.iastore, 1) := by decide +kernel
theorem dX7_aimHere_32 : decode cX7_aimHere 32 = .ok (.return_, 1) := by decide +kernel
theorem dX7_copyFrom_0 : decode cX7_copyFrom 0 = .ok (.aload_n 1, 1) := by decide +kernel
theorem dX7_copyFrom_1 : decode cX7_copyFrom 1 = .ok (.getfield 11, 3) := by decide +kernel
theorem dX7_copyFrom_4 : decode cX7_copyFrom 4 = .ok (.iconst 0, 1) := by decide +kernel
theorem dX7_copyFrom_5 : decode cX7_copyFrom 5 = .ok (.aload_n 0, 1) := by decide +kernel
theorem dX7_copyFrom_6 : decode cX7_copyFrom 6 = .ok (.getfield 11, 3) := by decide +kernel
theorem dX7_copyFrom_9 : decode cX7_copyFrom 9 = .ok (.iconst 0, 1) := by decide +kernel
theorem dX7_copyFrom_10 : decode cX7_copyFrom 10 = .ok (.sipush 242, 3) := by decide +kernel
theorem dX7_copyFrom_13 : decode cX7_copyFrom 13 = .ok (.invokestatic 33, 3) := by decide +kernel
theorem dX7_copyFrom_16 : decode cX7_copyFrom 16 = .ok (.aload_n 1, 1) := by decide +kernel
theorem dX7_copyFrom_17 : decode cX7_copyFrom 17 = .ok (.getfield 15, 3) := by decide +kernel
theorem dX7_copyFrom_20 : decode cX7_copyFrom 20 = .ok (.iconst 0, 1) := by decide +kernel
theorem dX7_copyFrom_21 : decode cX7_copyFrom 21 = .ok (.aload_n 0, 1) := by decide +kernel
theorem dX7_copyFrom_22 : decode cX7_copyFrom 22 = .ok (.getfield 15, 3) := by decide +kernel
theorem dX7_copyFrom_25 : decode cX7_copyFrom 25 = .ok (.iconst 0, 1) := by decide +kernel
theorem dX7_copyFrom_26 : decode cX7_copyFrom 26 = .ok (.sipush 242, 3) := by decide +kernel
theorem dX7_copyFrom_29 : decode cX7_copyFrom 29 = .ok (.invokestatic 33, 3) := by decide +kernel
theorem dX7_copyFrom_32 : decode cX7_copyFrom 32 = .ok (.aload_n 1, 1) := by decide +kernel
theorem dX7_copyFrom_33 : decode cX7_copyFrom 33 = .ok (.getfield 19, 3) := by decide +kernel
theorem dX7_copyFrom_36 : decode cX7_copyFrom 36 = .ok (.iconst 0, 1) := by decide +kernel
theorem dX7_copyFrom_37 : decode cX7_copyFrom 37 = .ok (.aload_n 0, 1) := by decide +kernel
theorem dX7_copyFrom_38 : decode cX7_copyFrom 38 = .ok (.getfield 19, 3) := by decide +kernel
theorem dX7_copyFrom_41 : decode cX7_copyFrom 41 = .ok (.iconst 0, 1) := by decide +kernel
theorem dX7_copyFrom_42 : decode cX7_copyFrom 42 = .ok (.sipush 242, 3) := by decide +kernel
theorem dX7_copyFrom_45 : decode cX7_copyFrom 45 = .ok (.invokestatic 33, 3) := by decide +kernel
theorem dX7_copyFrom_48 : decode cX7_copyFrom 48 = .ok (.aload_n 1, 1) := by decide +kernel
theorem dX7_copyFrom_49 : decode cX7_copyFrom 49 = .ok (.getfield 22, 3) := by decide +kernel
theorem dX7_copyFrom_52 : decode cX7_copyFrom 52 = .ok (.iconst 0, 1) := by decide +kernel
theorem dX7_copyFrom_53 : decode cX7_copyFrom 53 = .ok (.aload_n 0, 1) := by decide +kernel
theorem dX7_copyFrom_54 : decode cX7_copyFrom 54 = .ok (.getfield 22, 3) := by decide +kernel
theorem dX7_copyFrom_57 : decode cX7_copyFrom 57 = .ok (.iconst 0, 1) := by decide +kernel
theorem dX7_copyFrom_58 : decode cX7_copyFrom 58 = .ok (.sipush 242, 3) := by decide +kernel
theorem dX7_copyFrom_61 : decode cX7_copyFrom 61 = .ok (.invokestatic 33, 3) := by decide +kernel
theorem dX7_copyFrom_64 : decode cX7_copyFrom 64 = .ok (.aload_n 0, 1) := by decide +kernel
theorem dX7_copyFrom_65 : decode cX7_copyFrom 65 = .ok (.aload_n 1, 1) := by decide +kernel
theorem dX7_copyFrom_66 : decode cX7_copyFrom 66 = .ok (.getfield 25, 3) := by decide +kernel
theorem dX7_copyFrom_69 : decode cX7_copyFrom 69 = .ok (.putfield 25, 3) := by decide +kernel
theorem dX7_copyFrom_72 : decode cX7_copyFrom 72 = .ok (.return_, 1) := by decide +kernel
theorem dX7_worth_0 : decode cX7_worth 0 = .ok (.iconst 0, 1) := by decide +kernel
theorem dX7_worth_1 : decode cX7_worth 1 = .ok (.istore_n 2, 1) := by decide +kernel
theorem dX7_worth_2 : decode cX7_worth 2 = .ok (.iconst 0, 1) := by decide +kernel
theorem dX7_worth_3 : decode cX7_worth 3 = .ok (.istore_n 3, 1) := by decide +kernel
theorem dX7_worth_4 : decode cX7_worth 4 = .ok (.iload_n 3, 1) := by decide +kernel
theorem dX7_worth_5 : decode cX7_worth 5 = .ok (.aload_n 0, 1) := by decide +kernel
theorem dX7_worth_6 : decode cX7_worth 6 = .ok (.getfield 25, 3) := by decide +kernel
theorem dX7_worth_9 : decode cX7_worth 9 = .ok (.if_icmp .ge 473, 3) := by decide +kernel
theorem dX7_worth_12 : decode cX7_worth 12 = .ok (.iload_n 3, 1) := by decide +kernel
theorem dX7_worth_13 : decode cX7_worth 13 = .ok (.iload_n 2, 1) := by decide +kernel
theorem dX7_worth_14 : decode cX7_worth 14 = .ok (.if_icmp .lt 462, 3) := by decide +kernel
theorem dX7_worth_17 : decode cX7_worth 17 = .ok (.aload_n 0, 1) := by decide +kernel
theorem dX7_worth_18 : decode cX7_worth 18 = .ok (.getfield 11, 3) := by decide +kernel
theorem dX7_worth_21 : decode cX7_worth 21 = .ok (.iload_n 3, 1) := by decide +kernel
theorem dX7_worth_22 : decode cX7_worth 22 = .ok (.caload, 1) := by decide +kernel
theorem dX7_worth_23 : decode cX7_worth 23 = .ok (.bipush 48, 2) := by decide +kernel
theorem dX7_worth_25 : decode cX7_worth 25 = .ok (.if_icmp .ne 6, 3) := by decide +kernel
theorem dX7_worth_28 : decode cX7_worth 28 = .ok (.goto 448, 3) := by decide +kernel
theorem dX7_worth_31 : decode cX7_worth 31 = .ok (.aload_n 0, 1) := by decide +kernel
theorem dX7_worth_32 : decode cX7_worth 32 = .ok (.getfield 22, 3) := by decide +kernel
theorem dX7_worth_35 : decode cX7_worth 35 = .ok (.aload_n 0, 1) := by decide +kernel
theorem dX7_worth_36 : decode cX7_worth 36 = .ok (.getfield 15, 3) := by decide +kernel
theorem dX7_worth_39 : decode cX7_worth 39 = .ok (.iload_n 3, 1) := by decide +kernel
theorem dX7_worth_40 : decode cX7_worth 40 = .ok (.iaload, 1) := by decide +kernel
theorem dX7_worth_41 : decode cX7_worth 41 = .ok (.iaload, 1) := by decide +kernel
theorem dX7_worth_42 : decode cX7_worth 42 = .ok (.istore 4, 2) := by decide +kernel
theorem dX7_worth_44 : decode cX7_worth 44 = .ok (.aload_n 0, 1) := by decide +kernel
theorem dX7_worth_45 : decode cX7_worth 45 = .ok (.getfield 22, 3) := by decide +kernel
theorem dX7_worth_48 : decode cX7_worth 48 = .ok (.aload_n 0, 1) := by decide +kernel
theorem dX7_worth_49 : decode cX7_worth 49 = .ok (.getfield 19, 3) := by decide +kernel
theorem dX7_worth_52 : decode cX7_worth 52 = .ok (.iload_n 3, 1) := by decide +kernel
theorem dX7_worth_53 : decode cX7_worth 53 = .ok (.iaload, 1) := by decide +kernel
theorem dX7_worth_54 : decode cX7_worth 54 = .ok (.iaload, 1) := by decide +kernel
theorem dX7_worth_55 : decode cX7_worth 55 = .ok (.istore 5, 2) := by decide +kernel
theorem dX7_worth_57 : decode cX7_worth 57 = .ok (.aload_n 0, 1) := by decide +kernel
theorem dX7_worth_58 : decode cX7_worth 58 = .ok (.getfield 11, 3) := by decide +kernel
theorem dX7_worth_61 : decode cX7_worth 61 = .ok (.iload_n 3, 1) := by decide +kernel
theorem dX7_worth_62 : decode cX7_worth 62 = .ok (.caload, 1) := by decide +kernel
theorem dX7_worth_63 : decode cX7_worth 63 = .ok (.lookupswitch 413 #[(33, 195), (37, 390), (38, 238), (42, 353), (43, 325), (45, 339), (47, 367), (59, 129), (60, 262), (61, 283), (62, 304), (63, 132), (95, 183), (97, 151), (124, 214)], 129) := by decide +kernel
theorem dX7_worth_192 : decode cX7_worth 192 = .ok (.iload 4, 2) := by decide +kernel
theorem dX7_worth_194 : decode cX7_worth 194 = .ok (.ireturn, 1) := by decide +kernel
theorem dX7_worth_195 : decode cX7_worth 195 = .ok (.iload 4, 2) := by decide +kernel
theorem dX7_worth_197 : decode cX7_worth 197 = .ok (.ifCond .ne 12, 3) := by decide +kernel
theorem dX7_worth_200 : decode cX7_worth 200 = .ok (.aload_n 0, 1) := by decide +kernel
theorem dX7_worth_201 : decode cX7_worth 201 = .ok (.getfield 19, 3) := by decide +kernel
theorem dX7_worth_204 : decode cX7_worth 204 = .ok (.iload_n 3, 1) := by decide +kernel
theorem dX7_worth_205 : decode cX7_worth 205 = .ok (.iaload, 1) := by decide +kernel
theorem dX7_worth_206 : decode cX7_worth 206 = .ok (.goto 4, 3) := by decide +kernel
theorem dX7_worth_209 : decode cX7_worth 209 = .ok (.iload_n 3, 1) := by decide +kernel
theorem dX7_worth_210 : decode cX7_worth 210 = .ok (.istore_n 2, 1) := by decide +kernel
theorem dX7_worth_211 : decode cX7_worth 211 = .ok (.goto 265, 3) := by decide +kernel
theorem dX7_worth_214 : decode cX7_worth 214 = .ok (.aload_n 0, 1) := by decide +kernel
theorem dX7_worth_215 : decode cX7_worth 215 = .ok (.getfield 22, 3) := by decide +kernel
theorem dX7_worth_218 : decode cX7_worth 218 = .ok (.iload_n 3, 1) := by decide +kernel
theorem dX7_worth_219 : decode cX7_worth 219 = .ok (.aload_n 0, 1) := by decide +kernel
theorem dX7_worth_220 : decode cX7_worth 220 = .ok (.getfield 15, 3) := by decide +kernel
theorem dX7_worth_223 : decode cX7_worth 223 = .ok (.iload_n 3, 1) := by decide +kernel
theorem dX7_worth_224 : decode cX7_worth 224 = .ok (.iaload, 1) := by decide +kernel
theorem dX7_worth_225 : decode cX7_worth 225 = .ok (.aload_n 1, 1) := by decide +kernel
theorem dX7_worth_226 : decode cX7_worth 226 = .ok (.arraylength, 1) := by decide +kernel
theorem dX7_worth_227 : decode cX7_worth 227 = .ok (.if_icmp .ge 14, 3) := by decide +kernel
theorem dX7_worth_230 : decode cX7_worth 230 = .ok (.aload_n 1, 1) := by decide +kernel
theorem dX7_worth_231 : decode cX7_worth 231 = .ok (.aload_n 0, 1) := by decide +kernel
theorem dX7_worth_232 : decode cX7_worth 232 = .ok (.getfield 15, 3) := by decide +kernel
theorem dX7_worth_235 : decode cX7_worth 235 = .ok (.iload_n 3, 1) := by decide +kernel
theorem dX7_worth_236 : decode cX7_worth 236 = .ok (.iaload, 1) := by decide +kernel
theorem dX7_worth_237 : decode cX7_worth 237 = .ok (.iaload, 1) := by decide +kernel
theorem dX7_worth_238 : decode cX7_worth 238 = .ok (.goto 4, 3) := by decide +kernel
theorem dX7_worth_241 : decode cX7_worth 241 = .ok (.iconst 0, 1) := by decide +kernel
theorem dX7_worth_242 : decode cX7_worth 242 = .ok (.iastore, 1) := by decide +kernel
theorem dX7_worth_243 : decode cX7_worth 243 = .ok (.goto 233, 3) := by decide +kernel
theorem dX7_worth_246 : decode cX7_worth 246 = .ok (.aload_n 0, 1) := by decide +kernel
theorem dX7_worth_247 : decode cX7_worth 247 = .ok (.getfield 22, 3) := by decide +kernel
theorem dX7_worth_250 : decode cX7_worth 250 = .ok (.iload_n 3, 1) := by decide +kernel
theorem dX7_worth_251 : decode cX7_worth 251 = .ok (.iload 4, 2) := by decide +kernel
theorem dX7_worth_253 : decode cX7_worth 253 = .ok (.ineg, 1) := by decide +kernel
theorem dX7_worth_254 : decode cX7_worth 254 = .ok (.iastore, 1) := by decide +kernel
theorem dX7_worth_255 : decode cX7_worth 255 = .ok (.goto 221, 3) := by decide +kernel
theorem dX7_worth_258 : decode cX7_worth 258 = .ok (.aload_n 0, 1) := by decide +kernel
theorem dX7_worth_259 : decode cX7_worth 259 = .ok (.getfield 22, 3) := by decide +kernel
theorem dX7_worth_262 : decode cX7_worth 262 = .ok (.iload_n 3, 1) := by decide +kernel
theorem dX7_worth_263 : decode cX7_worth 263 = .ok (.iload 4, 2) := by decide +kernel
theorem dX7_worth_265 : decode cX7_worth 265 = .ok (.ifCond .ne 7, 3) := by decide +kernel
theorem dX7_worth_268 : decode cX7_worth 268 = .ok (.iconst 1, 1) := by decide +kernel
theorem dX7_worth_269 : decode cX7_worth 269 = .ok (.goto 4, 3) := by decide +kernel
theorem dX7_worth_272 : decode cX7_worth 272 = .ok (.iconst 0, 1) := by decide +kernel
theorem dX7_worth_273 : decode cX7_worth 273 = .ok (.iastore, 1) := by decide +kernel
theorem dX7_worth_274 : decode cX7_worth 274 = .ok (.goto 202, 3) := by decide +kernel
theorem dX7_worth_277 : decode cX7_worth 277 = .ok (.aload_n 0, 1) := by decide +kernel
theorem dX7_worth_278 : decode cX7_worth 278 = .ok (.getfield 22, 3) := by decide +kernel
theorem dX7_worth_281 : decode cX7_worth 281 = .ok (.iload_n 3, 1) := by decide +kernel
theorem dX7_worth_282 : decode cX7_worth 282 = .ok (.iload 4, 2) := by decide +kernel
theorem dX7_worth_284 : decode cX7_worth 284 = .ok (.ifCond .ne 8, 3) := by decide +kernel
theorem dX7_worth_287 : decode cX7_worth 287 = .ok (.iload 5, 2) := by decide +kernel
theorem dX7_worth_289 : decode cX7_worth 289 = .ok (.ifCond .eq 7, 3) := by decide +kernel
theorem dX7_worth_292 : decode cX7_worth 292 = .ok (.iconst 1, 1) := by decide +kernel
theorem dX7_worth_293 : decode cX7_worth 293 = .ok (.goto 4, 3) := by decide +kernel
theorem dX7_worth_296 : decode cX7_worth 296 = .ok (.iconst 0, 1) := by decide +kernel
theorem dX7_worth_297 : decode cX7_worth 297 = .ok (.iastore, 1) := by decide +kernel
theorem dX7_worth_298 : decode cX7_worth 298 = .ok (.goto 178, 3) := by decide +kernel
theorem dX7_worth_301 : decode cX7_worth 301 = .ok (.aload_n 0, 1) := by decide +kernel
theorem dX7_worth_302 : decode cX7_worth 302 = .ok (.getfield 22, 3) := by decide +kernel
theorem dX7_worth_305 : decode cX7_worth 305 = .ok (.iload_n 3, 1) := by decide +kernel
theorem dX7_worth_306 : decode cX7_worth 306 = .ok (.iload 4, 2) := by decide +kernel
theorem dX7_worth_308 : decode cX7_worth 308 = .ok (.ifCond .eq 12, 3) := by decide +kernel
theorem dX7_worth_311 : decode cX7_worth 311 = .ok (.iload 5, 2) := by decide +kernel
theorem dX7_worth_313 : decode cX7_worth 313 = .ok (.ifCond .eq 7, 3) := by decide +kernel
theorem dX7_worth_316 : decode cX7_worth 316 = .ok (.iconst 1, 1) := by decide +kernel
theorem dX7_worth_317 : decode cX7_worth 317 = .ok (.goto 4, 3) := by decide +kernel
theorem dX7_worth_320 : decode cX7_worth 320 = .ok (.iconst 0, 1) := by decide +kernel
theorem dX7_worth_321 : decode cX7_worth 321 = .ok (.iastore, 1) := by decide +kernel
theorem dX7_worth_322 : decode cX7_worth 322 = .ok (.goto 154, 3) := by decide +kernel
theorem dX7_worth_325 : decode cX7_worth 325 = .ok (.aload_n 0, 1) := by decide +kernel
theorem dX7_worth_326 : decode cX7_worth 326 = .ok (.getfield 22, 3) := by decide +kernel
theorem dX7_worth_329 : decode cX7_worth 329 = .ok (.iload_n 3, 1) := by decide +kernel
theorem dX7_worth_330 : decode cX7_worth 330 = .ok (.iload 4, 2) := by decide +kernel
theorem dX7_worth_332 : decode cX7_worth 332 = .ok (.iload 5, 2) := by decide +kernel
theorem dX7_worth_334 : decode cX7_worth 334 = .ok (.if_icmp .ge 7, 3) := by decide +kernel
theorem dX7_worth_337 : decode cX7_worth 337 = .ok (.iconst 1, 1) := by decide +kernel
theorem dX7_worth_338 : decode cX7_worth 338 = .ok (.goto 4, 3) := by decide +kernel
theorem dX7_worth_341 : decode cX7_worth 341 = .ok (.iconst 0, 1) := by decide +kernel
theorem dX7_worth_342 : decode cX7_worth 342 = .ok (.iastore, 1) := by decide +kernel
theorem dX7_worth_343 : decode cX7_worth 343 = .ok (.goto 133, 3) := by decide +kernel
theorem dX7_worth_346 : decode cX7_worth 346 = .ok (.aload_n 0, 1) := by decide +kernel
theorem dX7_worth_347 : decode cX7_worth 347 = .ok (.getfield 22, 3) := by decide +kernel
theorem dX7_worth_350 : decode cX7_worth 350 = .ok (.iload_n 3, 1) := by decide +kernel
theorem dX7_worth_351 : decode cX7_worth 351 = .ok (.iload 4, 2) := by decide +kernel
theorem dX7_worth_353 : decode cX7_worth 353 = .ok (.iload 5, 2) := by decide +kernel
theorem dX7_worth_355 : decode cX7_worth 355 = .ok (.if_icmp .ne 7, 3) := by decide +kernel
theorem dX7_worth_358 : decode cX7_worth 358 = .ok (.iconst 1, 1) := by decide +kernel
theorem dX7_worth_359 : decode cX7_worth 359 = .ok (.goto 4, 3) := by decide +kernel
theorem dX7_worth_362 : decode cX7_worth 362 = .ok (.iconst 0, 1) := by decide +kernel
theorem dX7_worth_363 : decode cX7_worth 363 = .ok (.iastore, 1) := by decide +kernel
theorem dX7_worth_364 : decode cX7_worth 364 = .ok (.goto 112, 3) := by decide +kernel
theorem dX7_worth_367 : decode cX7_worth 367 = .ok (.aload_n 0, 1) := by decide +kernel
theorem dX7_worth_368 : decode cX7_worth 368 = .ok (.getfield 22, 3) := by decide +kernel
theorem dX7_worth_371 : decode cX7_worth 371 = .ok (.iload_n 3, 1) := by decide +kernel
theorem dX7_worth_372 : decode cX7_worth 372 = .ok (.iload 4, 2) := by decide +kernel
theorem dX7_worth_374 : decode cX7_worth 374 = .ok (.iload 5, 2) := by decide +kernel
theorem dX7_worth_376 : decode cX7_worth 376 = .ok (.if_icmp .le 7, 3) := by decide +kernel
theorem dX7_worth_379 : decode cX7_worth 379 = .ok (.iconst 1, 1) := by decide +kernel
theorem dX7_worth_380 : decode cX7_worth 380 = .ok (.goto 4, 3) := by decide +kernel
theorem dX7_worth_383 : decode cX7_worth 383 = .ok (.iconst 0, 1) := by decide +kernel
theorem dX7_worth_384 : decode cX7_worth 384 = .ok (.iastore, 1) := by decide +kernel
theorem dX7_worth_385 : decode cX7_worth 385 = .ok (.goto 91, 3) := by decide +kernel
theorem dX7_worth_388 : decode cX7_worth 388 = .ok (.aload_n 0, 1) := by decide +kernel
theorem dX7_worth_389 : decode cX7_worth 389 = .ok (.getfield 22, 3) := by decide +kernel
theorem dX7_worth_392 : decode cX7_worth 392 = .ok (.iload_n 3, 1) := by decide +kernel
theorem dX7_worth_393 : decode cX7_worth 393 = .ok (.iload 4, 2) := by decide +kernel
theorem dX7_worth_395 : decode cX7_worth 395 = .ok (.iload 5, 2) := by decide +kernel
theorem dX7_worth_397 : decode cX7_worth 397 = .ok (.iadd, 1) := by decide +kernel
theorem dX7_worth_398 : decode cX7_worth 398 = .ok (.iastore, 1) := by decide +kernel
theorem dX7_worth_399 : decode cX7_worth 399 = .ok (.goto 77, 3) := by decide +kernel
theorem dX7_worth_402 : decode cX7_worth 402 = .ok (.aload_n 0, 1) := by decide +kernel
theorem dX7_worth_403 : decode cX7_worth 403 = .ok (.getfield 22, 3) := by decide +kernel
theorem dX7_worth_406 : decode cX7_worth 406 = .ok (.iload_n 3, 1) := by decide +kernel
theorem dX7_worth_407 : decode cX7_worth 407 = .ok (.iload 4, 2) := by decide +kernel
theorem dX7_worth_409 : decode cX7_worth 409 = .ok (.iload 5, 2) := by decide +kernel
theorem dX7_worth_411 : decode cX7_worth 411 = .ok (.isub, 1) := by decide +kernel
theorem dX7_worth_412 : decode cX7_worth 412 = .ok (.iastore, 1) := by decide +kernel
theorem dX7_worth_413 : decode cX7_worth 413 = .ok (.goto 63, 3) := by decide +kernel
theorem dX7_worth_416 : decode cX7_worth 416 = .ok (.aload_n 0, 1) := by decide +kernel
theorem dX7_worth_417 : decode cX7_worth 417 = .ok (.getfield 22, 3) := by decide +kernel
theorem dX7_worth_420 : decode cX7_worth 420 = .ok (.iload_n 3, 1) := by decide +kernel
theorem dX7_worth_421 : decode cX7_worth 421 = .ok (.iload 4, 2) := by decide +kernel
theorem dX7_worth_423 : decode cX7_worth 423 = .ok (.iload 5, 2) := by decide +kernel
theorem dX7_worth_425 : decode cX7_worth 425 = .ok (.imul, 1) := by decide +kernel
theorem dX7_worth_426 : decode cX7_worth 426 = .ok (.iastore, 1) := by decide +kernel
theorem dX7_worth_427 : decode cX7_worth 427 = .ok (.goto 49, 3) := by decide +kernel
theorem dX7_worth_430 : decode cX7_worth 430 = .ok (.aload_n 0, 1) := by decide +kernel
theorem dX7_worth_431 : decode cX7_worth 431 = .ok (.getfield 22, 3) := by decide +kernel
theorem dX7_worth_434 : decode cX7_worth 434 = .ok (.iload_n 3, 1) := by decide +kernel
theorem dX7_worth_435 : decode cX7_worth 435 = .ok (.iload 5, 2) := by decide +kernel
theorem dX7_worth_437 : decode cX7_worth 437 = .ok (.ifCond .ne 7, 3) := by decide +kernel
theorem dX7_worth_440 : decode cX7_worth 440 = .ok (.iconst 0, 1) := by decide +kernel
theorem dX7_worth_441 : decode cX7_worth 441 = .ok (.goto 8, 3) := by decide +kernel
theorem dX7_worth_444 : decode cX7_worth 444 = .ok (.iload 4, 2) := by decide +kernel
theorem dX7_worth_446 : decode cX7_worth 446 = .ok (.iload 5, 2) := by decide +kernel
theorem dX7_worth_448 : decode cX7_worth 448 = .ok (.idiv, 1) := by decide +kernel
theorem dX7_worth_449 : decode cX7_worth 449 = .ok (.iastore, 1) := by decide +kernel
theorem dX7_worth_450 : decode cX7_worth 450 = .ok (.goto 26, 3) := by decide +kernel
theorem dX7_worth_453 : decode cX7_worth 453 = .ok (.aload_n 0, 1) := by decide +kernel
theorem dX7_worth_454 : decode cX7_worth 454 = .ok (.getfield 22, 3) := by decide +kernel
theorem dX7_worth_457 : decode cX7_worth 457 = .ok (.iload_n 3, 1) := by decide +kernel
theorem dX7_worth_458 : decode cX7_worth 458 = .ok (.iload 5, 2) := by decide +kernel
theorem dX7_worth_460 : decode cX7_worth 460 = .ok (.ifCond .ne 7, 3) := by decide +kernel
theorem dX7_worth_463 : decode cX7_worth 463 = .ok (.iconst 0, 1) := by decide +kernel
theorem dX7_worth_464 : decode cX7_worth 464 = .ok (.goto 8, 3) := by decide +kernel
theorem dX7_worth_467 : decode cX7_worth 467 = .ok (.iload 4, 2) := by decide +kernel
theorem dX7_worth_469 : decode cX7_worth 469 = .ok (.iload 5, 2) := by decide +kernel
theorem dX7_worth_471 : decode cX7_worth 471 = .ok (.irem, 1) := by decide +kernel
theorem dX7_worth_472 : decode cX7_worth 472 = .ok (.iastore, 1) := by decide +kernel
theorem dX7_worth_473 : decode cX7_worth 473 = .ok (.goto 3, 3) := by decide +kernel
theorem dX7_worth_476 : decode cX7_worth 476 = .ok (.iinc 3 1, 3) := by decide +kernel
theorem dX7_worth_479 : decode cX7_worth 479 = .ok (.goto (-475), 3) := by decide +kernel
theorem dX7_worth_482 : decode cX7_worth 482 = .ok (.iconst 0, 1) := by decide +kernel
theorem dX7_worth_483 : decode cX7_worth 483 = .ok (.ireturn, 1) := by decide +kernel
theorem dX8_init_0 : decode cX8_init 0 = .ok (.aload_n 0, 1) := by decide +kernel
theorem dX8_init_1 : decode cX8_init 1 = .ok (.invokespecial 5, 3) := by decide +kernel
theorem dX8_init_4 : decode cX8_init 4 = .ok (.aload_n 0, 1) := by decide +kernel
theorem dX8_init_5 : decode cX8_init 5 = .ok (.bipush 120, 2) := by decide +kernel
theorem dX8_init_7 : decode cX8_init 7 = .ok (.newarray .char, 2) := by decide +kernel
theorem dX8_init_9 : decode cX8_init 9 = .ok (.putfield 11, 3) := by decide +kernel
theorem dX8_init_12 : decode cX8_init 12 = .ok (.aload_n 0, 1) := by decide +kernel
theorem dX8_init_13 : decode cX8_init 13 = .ok (.iconst 0, 1) := by decide +kernel
theorem dX8_init_14 : decode cX8_init 14 = .ok (.putfield 17, 3) := by decide +kernel
theorem dX8_init_17 : decode cX8_init 17 = .ok (.aload_n 0, 1) := by decide +kernel
theorem dX8_init_18 : decode cX8_init 18 = .ok (.iconst 0, 1) := by decide +kernel
theorem dX8_init_19 : decode cX8_init 19 = .ok (.putfield 21, 3) := by decide +kernel
theorem dX8_init_22 : decode cX8_init 22 = .ok (.aload_n 0, 1) := by decide +kernel
theorem dX8_init_23 : decode cX8_init 23 = .ok (.new 1, 3) := by decide +kernel
theorem dX8_init_26 : decode cX8_init 26 = .ok (.dup, 1) := by decide +kernel
theorem dX8_init_27 : decode cX8_init 27 = .ok (.invokespecial 24, 3) := by decide +kernel
theorem dX8_init_30 : decode cX8_init 30 = .ok (.putfield 25, 3) := by decide +kernel
theorem dX8_init_33 : decode cX8_init 33 = .ok (.return_, 1) := by decide +kernel
theorem dX8_isFull_0 : decode cX8_isFull 0 = .ok (.aload_n 0, 1) := by decide +kernel
theorem dX8_isFull_1 : decode cX8_isFull 1 = .ok (.getfield 17, 3) := by decide +kernel
theorem dX8_isFull_4 : decode cX8_isFull 4 = .ok (.bipush 120, 2) := by decide +kernel
theorem dX8_isFull_6 : decode cX8_isFull 6 = .ok (.if_icmp .lt 7, 3) := by decide +kernel
theorem dX8_isFull_9 : decode cX8_isFull 9 = .ok (.iconst 1, 1) := by decide +kernel
theorem dX8_isFull_10 : decode cX8_isFull 10 = .ok (.goto 4, 3) := by decide +kernel
theorem dX8_isFull_13 : decode cX8_isFull 13 = .ok (.iconst 0, 1) := by decide +kernel
theorem dX8_isFull_14 : decode cX8_isFull 14 = .ok (.ireturn, 1) := by decide +kernel
theorem dX8_letters_0 : decode cX8_letters 0 = .ok (.aload_n 0, 1) := by decide +kernel
theorem dX8_letters_1 : decode cX8_letters 1 = .ok (.getfield 17, 3) := by decide +kernel
theorem dX8_letters_4 : decode cX8_letters 4 = .ok (.ireturn, 1) := by decide +kernel
theorem dX8_take_0 : decode cX8_take 0 = .ok (.aload_n 0, 1) := by decide +kernel
theorem dX8_take_1 : decode cX8_take 1 = .ok (.invokevirtual 29, 3) := by decide +kernel
theorem dX8_take_4 : decode cX8_take 4 = .ok (.ifCond .ne 24, 3) := by decide +kernel
theorem dX8_take_7 : decode cX8_take 7 = .ok (.aload_n 0, 1) := by decide +kernel
theorem dX8_take_8 : decode cX8_take 8 = .ok (.getfield 11, 3) := by decide +kernel
theorem dX8_take_11 : decode cX8_take 11 = .ok (.aload_n 0, 1) := by decide +kernel
theorem dX8_take_12 : decode cX8_take 12 = .ok (.getfield 17, 3) := by decide +kernel
theorem dX8_take_15 : decode cX8_take 15 = .ok (.iload_n 1, 1) := by decide +kernel
theorem dX8_take_16 : decode cX8_take 16 = .ok (.i2c, 1) := by decide +kernel
theorem dX8_take_17 : decode cX8_take 17 = .ok (.castore, 1) := by decide +kernel
theorem dX8_take_18 : decode cX8_take 18 = .ok (.aload_n 0, 1) := by decide +kernel
theorem dX8_take_19 : decode cX8_take 19 = .ok (.dup, 1) := by decide +kernel
theorem dX8_take_20 : decode cX8_take 20 = .ok (.getfield 17, 3) := by decide +kernel
theorem dX8_take_23 : decode cX8_take 23 = .ok (.iconst 1, 1) := by decide +kernel
theorem dX8_take_24 : decode cX8_take 24 = .ok (.iadd, 1) := by decide +kernel
theorem dX8_take_25 : decode cX8_take 25 = .ok (.putfield 17, 3) := by decide +kernel
theorem dX8_take_28 : decode cX8_take 28 = .ok (.aload_n 0, 1) := by decide +kernel
theorem dX8_take_29 : decode cX8_take 29 = .ok (.getfield 17, 3) := by decide +kernel
theorem dX8_take_32 : decode cX8_take 32 = .ok (.ireturn, 1) := by decide +kernel
theorem dX8_readInto_0 : decode cX8_readInto 0 = .ok (.aload_n 0, 1) := by decide +kernel
theorem dX8_readInto_1 : decode cX8_readInto 1 = .ok (.iconst 0, 1) := by decide +kernel
theorem dX8_readInto_2 : decode cX8_readInto 2 = .ok (.putfield 21, 3) := by decide +kernel
theorem dX8_readInto_5 : decode cX8_readInto 5 = .ok (.aload_n 0, 1) := by decide +kernel
theorem dX8_readInto_6 : decode cX8_readInto 6 = .ok (.getfield 25, 3) := by decide +kernel
theorem dX8_readInto_9 : decode cX8_readInto 9 = .ok (.invokevirtual 33, 3) := by decide +kernel
theorem dX8_readInto_12 : decode cX8_readInto 12 = .ok (.aload_n 0, 1) := by decide +kernel
theorem dX8_readInto_13 : decode cX8_readInto 13 = .ok (.invokevirtual 36, 3) := by decide +kernel
theorem dX8_readInto_16 : decode cX8_readInto 16 = .ok (.istore_n 2, 1) := by decide +kernel
theorem dX8_readInto_17 : decode cX8_readInto 17 = .ok (.aload_n 0, 1) := by decide +kernel
theorem dX8_readInto_18 : decode cX8_readInto 18 = .ok (.iconst 0, 1) := by decide +kernel
theorem dX8_readInto_19 : decode cX8_readInto 19 = .ok (.putfield 17, 3) := by decide +kernel
theorem dX8_readInto_22 : decode cX8_readInto 22 = .ok (.iload_n 2, 1) := by decide +kernel
theorem dX8_readInto_23 : decode cX8_readInto 23 = .ok (.ifCond .ne 8, 3) := by decide +kernel
theorem dX8_readInto_26 : decode cX8_readInto 26 = .ok (.aload_n 0, 1) := by decide +kernel
theorem dX8_readInto_27 : decode cX8_readInto 27 = .ok (.getfield 21, 3) := by decide +kernel
theorem dX8_readInto_30 : decode cX8_readInto 30 = .ok (.ireturn, 1) := by decide +kernel
theorem dX8_readInto_31 : decode cX8_readInto 31 = .ok (.aload_n 1, 1) := by decide +kernel
theorem dX8_readInto_32 : decode cX8_readInto 32 = .ok (.aload_n 0, 1) := by decide +kernel
theorem dX8_readInto_33 : decode cX8_readInto 33 = .ok (.getfield 25, 3) := by decide +kernel
theorem dX8_readInto_36 : decode cX8_readInto 36 = .ok (.invokevirtual 39, 3) := by decide +kernel
theorem dX8_readInto_39 : decode cX8_readInto 39 = .ok (.iconst (-1), 1) := by decide +kernel
theorem dX8_readInto_40 : decode cX8_readInto 40 = .ok (.ireturn, 1) := by decide +kernel
theorem dX8_takes_0 : decode cX8_takes 0 = .ok (.aload_n 0, 1) := by decide +kernel
theorem dX8_takes_1 : decode cX8_takes 1 = .ok (.getfield 21, 3) := by decide +kernel
theorem dX8_takes_4 : decode cX8_takes 4 = .ok (.aload_n 0, 1) := by decide +kernel
theorem dX8_takes_5 : decode cX8_takes 5 = .ok (.getfield 17, 3) := by decide +kernel
theorem dX8_takes_8 : decode cX8_takes 8 = .ok (.if_icmp .ge 16, 3) := by decide +kernel
theorem dX8_takes_11 : decode cX8_takes 11 = .ok (.aload_n 0, 1) := by decide +kernel
theorem dX8_takes_12 : decode cX8_takes 12 = .ok (.getfield 11, 3) := by decide +kernel
theorem dX8_takes_15 : decode cX8_takes 15 = .ok (.aload_n 0, 1) := by decide +kernel
theorem dX8_takes_16 : decode cX8_takes 16 = .ok (.getfield 21, 3) := by decide +kernel
theorem dX8_takes_19 : decode cX8_takes 19 = .ok (.caload, 1) := by decide +kernel
theorem dX8_takes_20 : decode cX8_takes 20 = .ok (.iload_n 1, 1) := by decide +kernel
theorem dX8_takes_21 : decode cX8_takes 21 = .ok (.if_icmp .eq 5, 3) := by decide +kernel
theorem dX8_takes_24 : decode cX8_takes 24 = .ok (.iconst 0, 1) := by decide +kernel
theorem dX8_takes_25 : decode cX8_takes 25 = .ok (.ireturn, 1) := by decide +kernel
theorem dX8_takes_26 : decode cX8_takes 26 = .ok (.aload_n 0, 1) := by decide +kernel
theorem dX8_takes_27 : decode cX8_takes 27 = .ok (.dup, 1) := by decide +kernel
theorem dX8_takes_28 : decode cX8_takes 28 = .ok (.getfield 21, 3) := by decide +kernel
theorem dX8_takes_31 : decode cX8_takes 31 = .ok (.iconst 1, 1) := by decide +kernel
theorem dX8_takes_32 : decode cX8_takes 32 = .ok (.iadd, 1) := by decide +kernel
theorem dX8_takes_33 : decode cX8_takes 33 = .ok (.putfield 21, 3) := by decide +kernel
theorem dX8_takes_36 : decode cX8_takes 36 = .ok (.iconst 1, 1) := by decide +kernel
theorem dX8_takes_37 : decode cX8_takes 37 = .ok (.ireturn, 1) := by decide +kernel
theorem dX8_readText_0 : decode cX8_readText 0 = .ok (.iconst 0, 1) := by decide +kernel
theorem dX8_readText_1 : decode cX8_readText 1 = .ok (.istore_n 1, 1) := by decide +kernel
theorem dX8_readText_2 : decode cX8_readText 2 = .ok (.iload_n 1, 1) := by decide +kernel
theorem dX8_readText_3 : decode cX8_readText 3 = .ok (.bipush 120, 2) := by decide +kernel
theorem dX8_readText_5 : decode cX8_readText 5 = .ok (.if_icmp .gt 42, 3) := by decide +kernel
theorem dX8_readText_8 : decode cX8_readText 8 = .ok (.aload_n 0, 1) := by decide +kernel
theorem dX8_readText_9 : decode cX8_readText 9 = .ok (.invokevirtual 43, 3) := by decide +kernel
theorem dX8_readText_12 : decode cX8_readText 12 = .ok (.ifCond .ne 5, 3) := by decide +kernel
theorem dX8_readText_15 : decode cX8_readText 15 = .ok (.iconst 0, 1) := by decide +kernel
theorem dX8_readText_16 : decode cX8_readText 16 = .ok (.ireturn, 1) := by decide +kernel
theorem dX8_readText_17 : decode cX8_readText 17 = .ok (.aload_n 0, 1) := by decide +kernel
theorem dX8_readText_18 : decode cX8_readText 18 = .ok (.getfield 21, 3) := by decide +kernel
theorem dX8_readText_21 : decode cX8_readText 21 = .ok (.aload_n 0, 1) := by decide +kernel
theorem dX8_readText_22 : decode cX8_readText 22 = .ok (.getfield 17, 3) := by decide +kernel
theorem dX8_readText_25 : decode cX8_readText 25 = .ok (.if_icmp .lt 5, 3) := by decide +kernel
theorem dX8_readText_28 : decode cX8_readText 28 = .ok (.iconst 1, 1) := by decide +kernel
theorem dX8_readText_29 : decode cX8_readText 29 = .ok (.ireturn, 1) := by decide +kernel
theorem dX8_readText_30 : decode cX8_readText 30 = .ok (.aload_n 0, 1) := by decide +kernel
theorem dX8_readText_31 : decode cX8_readText 31 = .ok (.bipush 59, 2) := by decide +kernel
theorem dX8_readText_33 : decode cX8_readText 33 = .ok (.invokevirtual 46, 3) := by decide +kernel
theorem dX8_readText_36 : decode cX8_readText 36 = .ok (.ifCond .ne 5, 3) := by decide +kernel
theorem dX8_readText_39 : decode cX8_readText 39 = .ok (.iconst 0, 1) := by decide +kernel
theorem dX8_readText_40 : decode cX8_readText 40 = .ok (.ireturn, 1) := by decide +kernel
theorem dX8_readText_41 : decode cX8_readText 41 = .ok (.iinc 1 1, 3) := by decide +kernel
theorem dX8_readText_44 : decode cX8_readText 44 = .ok (.goto (-42), 3) := by decide +kernel
theorem dX8_readText_47 : decode cX8_readText 47 = .ok (.iconst 0, 1) := by decide +kernel
theorem dX8_readText_48 : decode cX8_readText 48 = .ok (.ireturn, 1) := by decide +kernel
theorem dX8_readLine_0 : decode cX8_readLine 0 = .ok (.aload_n 0, 1) := by decide +kernel
theorem dX8_readLine_1 : decode cX8_readLine 1 = .ok (.iconst 0, 1) := by decide +kernel
theorem dX8_readLine_2 : decode cX8_readLine 2 = .ok (.iconst 0, 1) := by decide +kernel
theorem dX8_readLine_3 : decode cX8_readLine 3 = .ok (.invokevirtual 50, 3) := by decide +kernel
theorem dX8_readLine_6 : decode cX8_readLine 6 = .ok (.istore_n 1, 1) := by decide +kernel
theorem dX8_readLine_7 : decode cX8_readLine 7 = .ok (.iconst (-1), 1) := by decide +kernel
theorem dX8_readLine_8 : decode cX8_readLine 8 = .ok (.istore_n 2, 1) := by decide +kernel
theorem dX8_readLine_9 : decode cX8_readLine 9 = .ok (.iload_n 1, 1) := by decide +kernel
theorem dX8_readLine_10 : decode cX8_readLine 10 = .ok (.iconst (-1), 1) := by decide +kernel
theorem dX8_readLine_11 : decode cX8_readLine 11 = .ok (.if_icmp .eq 31, 3) := by decide +kernel
theorem dX8_readLine_14 : decode cX8_readLine 14 = .ok (.aload_n 0, 1) := by decide +kernel
theorem dX8_readLine_15 : decode cX8_readLine 15 = .ok (.bipush 63, 2) := by decide +kernel
theorem dX8_readLine_17 : decode cX8_readLine 17 = .ok (.invokevirtual 46, 3) := by decide +kernel
theorem dX8_readLine_20 : decode cX8_readLine 20 = .ok (.ifCond .eq 22, 3) := by decide +kernel
theorem dX8_readLine_23 : decode cX8_readLine 23 = .ok (.aload_n 0, 1) := by decide +kernel
theorem dX8_readLine_24 : decode cX8_readLine 24 = .ok (.getfield 25, 3) := by decide +kernel
theorem dX8_readLine_27 : decode cX8_readLine 27 = .ok (.bipush 63, 2) := by decide +kernel
theorem dX8_readLine_29 : decode cX8_readLine 29 = .ok (.iload_n 1, 1) := by decide +kernel
theorem dX8_readLine_30 : decode cX8_readLine 30 = .ok (.iconst 0, 1) := by decide +kernel
theorem dX8_readLine_31 : decode cX8_readLine 31 = .ok (.invokevirtual 54, 3) := by decide +kernel
theorem dX8_readLine_34 : decode cX8_readLine 34 = .ok (.istore_n 2, 1) := by decide +kernel
theorem dX8_readLine_35 : decode cX8_readLine 35 = .ok (.aload_n 0, 1) := by decide +kernel
theorem dX8_readLine_36 : decode cX8_readLine 36 = .ok (.iconst 0, 1) := by decide +kernel
theorem dX8_readLine_37 : decode cX8_readLine 37 = .ok (.iconst 0, 1) := by decide +kernel
theorem dX8_readLine_38 : decode cX8_readLine 38 = .ok (.invokevirtual 50, 3) := by decide +kernel
theorem dX8_readLine_41 : decode cX8_readLine 41 = .ok (.istore_n 1, 1) := by decide +kernel
theorem dX8_readLine_42 : decode cX8_readLine 42 = .ok (.iload_n 1, 1) := by decide +kernel
theorem dX8_readLine_43 : decode cX8_readLine 43 = .ok (.iconst (-1), 1) := by decide +kernel
theorem dX8_readLine_44 : decode cX8_readLine 44 = .ok (.if_icmp .ne 5, 3) := by decide +kernel
theorem dX8_readLine_47 : decode cX8_readLine 47 = .ok (.iconst 0, 1) := by decide +kernel
theorem dX8_readLine_48 : decode cX8_readLine 48 = .ok (.ireturn, 1) := by decide +kernel
theorem dX8_readLine_49 : decode cX8_readLine 49 = .ok (.aload_n 0, 1) := by decide +kernel
theorem dX8_readLine_50 : decode cX8_readLine 50 = .ok (.getfield 25, 3) := by decide +kernel
theorem dX8_readLine_53 : decode cX8_readLine 53 = .ok (.bipush 59, 2) := by decide +kernel
theorem dX8_readLine_55 : decode cX8_readLine 55 = .ok (.iload_n 1, 1) := by decide +kernel
theorem dX8_readLine_56 : decode cX8_readLine 56 = .ok (.iconst 0, 1) := by decide +kernel
theorem dX8_readLine_57 : decode cX8_readLine 57 = .ok (.invokevirtual 54, 3) := by decide +kernel
theorem dX8_readLine_60 : decode cX8_readLine 60 = .ok (.pop, 1) := by decide +kernel
theorem dX8_readLine_61 : decode cX8_readLine 61 = .ok (.aload_n 0, 1) := by decide +kernel
theorem dX8_readLine_62 : decode cX8_readLine 62 = .ok (.getfield 25, 3) := by decide +kernel
theorem dX8_readLine_65 : decode cX8_readLine 65 = .ok (.iload_n 2, 1) := by decide +kernel
theorem dX8_readLine_66 : decode cX8_readLine 66 = .ok (.invokevirtual 58, 3) := by decide +kernel
theorem dX8_readLine_69 : decode cX8_readLine 69 = .ok (.iconst 1, 1) := by decide +kernel
theorem dX8_readLine_70 : decode cX8_readLine 70 = .ok (.ireturn, 1) := by decide +kernel
theorem dX8_readJoined_0 : decode cX8_readJoined 0 = .ok (.iload_n 1, 1) := by decide +kernel
theorem dX8_readJoined_1 : decode cX8_readJoined 1 = .ok (.iconst 4, 1) := by decide +kernel
theorem dX8_readJoined_2 : decode cX8_readJoined 2 = .ok (.if_icmp .le 9, 3) := by decide +kernel
theorem dX8_readJoined_5 : decode cX8_readJoined 5 = .ok (.aload_n 0, 1) := by decide +kernel
theorem dX8_readJoined_6 : decode cX8_readJoined 6 = .ok (.iload_n 2, 1) := by decide +kernel
theorem dX8_readJoined_7 : decode cX8_readJoined 7 = .ok (.invokevirtual 62, 3) := by decide +kernel
theorem dX8_readJoined_10 : decode cX8_readJoined 10 = .ok (.ireturn, 1) := by decide +kernel
theorem dX8_readJoined_11 : decode cX8_readJoined 11 = .ok (.aload_n 0, 1) := by decide +kernel
theorem dX8_readJoined_12 : decode cX8_readJoined 12 = .ok (.iload_n 1, 1) := by decide +kernel
theorem dX8_readJoined_13 : decode cX8_readJoined 13 = .ok (.iconst 1, 1) := by decide +kernel
theorem dX8_readJoined_14 : decode cX8_readJoined 14 = .ok (.iadd, 1) := by decide +kernel
theorem dX8_readJoined_15 : decode cX8_readJoined 15 = .ok (.iload_n 2, 1) := by decide +kernel
theorem dX8_readJoined_16 : decode cX8_readJoined 16 = .ok (.invokevirtual 50, 3) := by decide +kernel
theorem dX8_readJoined_19 : decode cX8_readJoined 19 = .ok (.istore_n 3, 1) := by decide +kernel
theorem dX8_readJoined_20 : decode cX8_readJoined 20 = .ok (.iload_n 1, 1) := by decide +kernel
theorem dX8_readJoined_21 : decode cX8_readJoined 21 = .ok (.iconst 2, 1) := by decide +kernel
theorem dX8_readJoined_22 : decode cX8_readJoined 22 = .ok (.if_icmp .ne 7, 3) := by decide +kernel
theorem dX8_readJoined_25 : decode cX8_readJoined 25 = .ok (.iconst 1, 1) := by decide +kernel
theorem dX8_readJoined_26 : decode cX8_readJoined 26 = .ok (.goto 5, 3) := by decide +kernel
theorem dX8_readJoined_29 : decode cX8_readJoined 29 = .ok (.bipush 120, 2) := by decide +kernel
theorem dX8_readJoined_31 : decode cX8_readJoined 31 = .ok (.istore 4, 2) := by decide +kernel
theorem dX8_readJoined_33 : decode cX8_readJoined 33 = .ok (.iconst 0, 1) := by decide +kernel
theorem dX8_readJoined_34 : decode cX8_readJoined 34 = .ok (.istore 5, 2) := by decide +kernel
theorem dX8_readJoined_36 : decode cX8_readJoined 36 = .ok (.iload 5, 2) := by decide +kernel
theorem dX8_readJoined_38 : decode cX8_readJoined 38 = .ok (.iload 4, 2) := by decide +kernel
theorem dX8_readJoined_40 : decode cX8_readJoined 40 = .ok (.if_icmp .ge 76, 3) := by decide +kernel
theorem dX8_readJoined_43 : decode cX8_readJoined 43 = .ok (.iload_n 3, 1) := by decide +kernel
theorem dX8_readJoined_44 : decode cX8_readJoined 44 = .ok (.iconst (-1), 1) := by decide +kernel
theorem dX8_readJoined_45 : decode cX8_readJoined 45 = .ok (.if_icmp .eq 71, 3) := by decide +kernel
theorem dX8_readJoined_48 : decode cX8_readJoined 48 = .ok (.aload_n 0, 1) := by decide +kernel
theorem dX8_readJoined_49 : decode cX8_readJoined 49 = .ok (.iload_n 1, 1) := by decide +kernel
theorem dX8_readJoined_50 : decode cX8_readJoined 50 = .ok (.invokevirtual 66, 3) := by decide +kernel
theorem dX8_readJoined_53 : decode cX8_readJoined 53 = .ok (.ifCond .eq 63, 3) := by decide +kernel
theorem dX8_readJoined_56 : decode cX8_readJoined 56 = .ok (.aload_n 0, 1) := by decide +kernel
theorem dX8_readJoined_57 : decode cX8_readJoined 57 = .ok (.getfield 11, 3) := by decide +kernel
theorem dX8_readJoined_60 : decode cX8_readJoined 60 = .ok (.aload_n 0, 1) := by decide +kernel
theorem dX8_readJoined_61 : decode cX8_readJoined 61 = .ok (.getfield 21, 3) := by decide +kernel
theorem dX8_readJoined_64 : decode cX8_readJoined 64 = .ok (.caload, 1) := by decide +kernel
theorem dX8_readJoined_65 : decode cX8_readJoined 65 = .ok (.istore 6, 2) := by decide +kernel
theorem dX8_readJoined_67 : decode cX8_readJoined 67 = .ok (.aload_n 0, 1) := by decide +kernel
theorem dX8_readJoined_68 : decode cX8_readJoined 68 = .ok (.dup, 1) := by decide +kernel
theorem dX8_readJoined_69 : decode cX8_readJoined 69 = .ok (.getfield 21, 3) := by decide +kernel
theorem dX8_readJoined_72 : decode cX8_readJoined 72 = .ok (.iconst 1, 1) := by decide +kernel
theorem dX8_readJoined_73 : decode cX8_readJoined 73 = .ok (.iadd, 1) := by decide +kernel
theorem dX8_readJoined_74 : decode cX8_readJoined 74 = .ok (.putfield 21, 3) := by decide +kernel
theorem dX8_readJoined_77 : decode cX8_readJoined 77 = .ok (.aload_n 0, 1) := by decide +kernel
theorem dX8_readJoined_78 : decode cX8_readJoined 78 = .ok (.iload_n 1, 1) := by decide +kernel
theorem dX8_readJoined_79 : decode cX8_readJoined 79 = .ok (.iconst 1, 1) := by decide +kernel
theorem dX8_readJoined_80 : decode cX8_readJoined 80 = .ok (.iadd, 1) := by decide +kernel
theorem dX8_readJoined_81 : decode cX8_readJoined 81 = .ok (.iload_n 2, 1) := by decide +kernel
theorem dX8_readJoined_82 : decode cX8_readJoined 82 = .ok (.invokevirtual 50, 3) := by decide +kernel
theorem dX8_readJoined_85 : decode cX8_readJoined 85 = .ok (.istore 7, 2) := by decide +kernel
theorem dX8_readJoined_87 : decode cX8_readJoined 87 = .ok (.iload 7, 2) := by decide +kernel
theorem dX8_readJoined_89 : decode cX8_readJoined 89 = .ok (.iconst (-1), 1) := by decide +kernel
theorem dX8_readJoined_90 : decode cX8_readJoined 90 = .ok (.if_icmp .ne 7, 3) := by decide +kernel
theorem dX8_readJoined_93 : decode cX8_readJoined 93 = .ok (.iconst (-1), 1) := by decide +kernel
theorem dX8_readJoined_94 : decode cX8_readJoined 94 = .ok (.goto 15, 3) := by decide +kernel
theorem dX8_readJoined_97 : decode cX8_readJoined 97 = .ok (.aload_n 0, 1) := by decide +kernel
theorem dX8_readJoined_98 : decode cX8_readJoined 98 = .ok (.getfield 25, 3) := by decide +kernel
theorem dX8_readJoined_101 : decode cX8_readJoined 101 = .ok (.iload 6, 2) := by decide +kernel
theorem dX8_readJoined_103 : decode cX8_readJoined 103 = .ok (.iload_n 3, 1) := by decide +kernel
theorem dX8_readJoined_104 : decode cX8_readJoined 104 = .ok (.iload 7, 2) := by decide +kernel
theorem dX8_readJoined_106 : decode cX8_readJoined 106 = .ok (.invokevirtual 54, 3) := by decide +kernel
theorem dX8_readJoined_109 : decode cX8_readJoined 109 = .ok (.istore_n 3, 1) := by decide +kernel
theorem dX8_readJoined_110 : decode cX8_readJoined 110 = .ok (.iinc 5 1, 3) := by decide +kernel
theorem dX8_readJoined_113 : decode cX8_readJoined 113 = .ok (.goto (-77), 3) := by decide +kernel
theorem dX8_readJoined_116 : decode cX8_readJoined 116 = .ok (.iload_n 3, 1) := by decide +kernel
theorem dX8_readJoined_117 : decode cX8_readJoined 117 = .ok (.ireturn, 1) := by decide +kernel
theorem dX8_isAtSign_0 : decode cX8_isAtSign 0 = .ok (.aload_n 0, 1) := by decide +kernel
theorem dX8_isAtSign_1 : decode cX8_isAtSign 1 = .ok (.getfield 21, 3) := by decide +kernel
theorem dX8_isAtSign_4 : decode cX8_isAtSign 4 = .ok (.aload_n 0, 1) := by decide +kernel
theorem dX8_isAtSign_5 : decode cX8_isAtSign 5 = .ok (.getfield 17, 3) := by decide +kernel
theorem dX8_isAtSign_8 : decode cX8_isAtSign 8 = .ok (.if_icmp .ge 23, 3) := by decide +kernel
theorem dX8_isAtSign_11 : decode cX8_isAtSign 11 = .ok (.aload_n 0, 1) := by decide +kernel
theorem dX8_isAtSign_12 : decode cX8_isAtSign 12 = .ok (.getfield 11, 3) := by decide +kernel
theorem dX8_isAtSign_15 : decode cX8_isAtSign 15 = .ok (.aload_n 0, 1) := by decide +kernel
theorem dX8_isAtSign_16 : decode cX8_isAtSign 16 = .ok (.getfield 21, 3) := by decide +kernel
theorem dX8_isAtSign_19 : decode cX8_isAtSign 19 = .ok (.caload, 1) := by decide +kernel
theorem dX8_isAtSign_20 : decode cX8_isAtSign 20 = .ok (.invokestatic 70, 3) := by decide +kernel
theorem dX8_isAtSign_23 : decode cX8_isAtSign 23 = .ok (.iload_n 1, 1) := by decide +kernel
theorem dX8_isAtSign_24 : decode cX8_isAtSign 24 = .ok (.if_icmp .ne 7, 3) := by decide +kernel
theorem dX8_isAtSign_27 : decode cX8_isAtSign 27 = .ok (.iconst 1, 1) := by decide +kernel
theorem dX8_isAtSign_28 : decode cX8_isAtSign 28 = .ok (.goto 4, 3) := by decide +kernel
theorem dX8_isAtSign_31 : decode cX8_isAtSign 31 = .ok (.iconst 0, 1) := by decide +kernel
theorem dX8_isAtSign_32 : decode cX8_isAtSign 32 = .ok (.ireturn, 1) := by decide +kernel
theorem dX8_tightnessOf_0 : decode cX8_tightnessOf 0 = .ok (.iload_n 0, 1) := by decide +kernel
theorem dX8_tightnessOf_1 : decode cX8_tightnessOf 1 = .ok (.lookupswitch 101 #[(37, 99), (38, 93), (42, 99), (43, 97), (45, 97), (47, 99), (60, 95), (61, 95), (62, 95), (124, 91)], 91) := by decide +kernel
theorem dX8_tightnessOf_92 : decode cX8_tightnessOf 92 = .ok (.iconst 0, 1) := by decide +kernel
theorem dX8_tightnessOf_93 : decode cX8_tightnessOf 93 = .ok (.ireturn, 1) := by decide +kernel
theorem dX8_tightnessOf_94 : decode cX8_tightnessOf 94 = .ok (.iconst 1, 1) := by decide +kernel
theorem dX8_tightnessOf_95 : decode cX8_tightnessOf 95 = .ok (.ireturn, 1) := by decide +kernel
theorem dX8_tightnessOf_96 : decode cX8_tightnessOf 96 = .ok (.iconst 2, 1) := by decide +kernel
theorem dX8_tightnessOf_97 : decode cX8_tightnessOf 97 = .ok (.ireturn, 1) := by decide +kernel
theorem dX8_tightnessOf_98 : decode cX8_tightnessOf 98 = .ok (.iconst 3, 1) := by decide +kernel
theorem dX8_tightnessOf_99 : decode cX8_tightnessOf 99 = .ok (.ireturn, 1) := by decide +kernel
theorem dX8_tightnessOf_100 : decode cX8_tightnessOf 100 = .ok (.iconst 4, 1) := by decide +kernel
theorem dX8_tightnessOf_101 : decode cX8_tightnessOf 101 = .ok (.ireturn, 1) := by decide +kernel
theorem dX8_tightnessOf_102 : decode cX8_tightnessOf 102 = .ok (.iconst (-1), 1) := by decide +kernel
theorem dX8_tightnessOf_103 : decode cX8_tightnessOf 103 = .ok (.ireturn, 1) := by decide +kernel
theorem dX8_readOne_0 : decode cX8_readOne 0 = .ok (.aload_n 0, 1) := by decide +kernel
theorem dX8_readOne_1 : decode cX8_readOne 1 = .ok (.getfield 21, 3) := by decide +kernel
theorem dX8_readOne_4 : decode cX8_readOne 4 = .ok (.aload_n 0, 1) := by decide +kernel
theorem dX8_readOne_5 : decode cX8_readOne 5 = .ok (.getfield 17, 3) := by decide +kernel
theorem dX8_readOne_8 : decode cX8_readOne 8 = .ok (.if_icmp .lt 5, 3) := by decide +kernel
theorem dX8_readOne_11 : decode cX8_readOne 11 = .ok (.iconst (-1), 1) := by decide +kernel
theorem dX8_readOne_12 : decode cX8_readOne 12 = .ok (.ireturn, 1) := by decide +kernel
theorem dX8_readOne_13 : decode cX8_readOne 13 = .ok (.aload_n 0, 1) := by decide +kernel
theorem dX8_readOne_14 : decode cX8_readOne 14 = .ok (.getfield 11, 3) := by decide +kernel
theorem dX8_readOne_17 : decode cX8_readOne 17 = .ok (.aload_n 0, 1) := by decide +kernel
theorem dX8_readOne_18 : decode cX8_readOne 18 = .ok (.getfield 21, 3) := by decide +kernel
theorem dX8_readOne_21 : decode cX8_readOne 21 = .ok (.caload, 1) := by decide +kernel
theorem dX8_readOne_22 : decode cX8_readOne 22 = .ok (.istore_n 2, 1) := by decide +kernel
theorem dX8_readOne_23 : decode cX8_readOne 23 = .ok (.iload_n 2, 1) := by decide +kernel
theorem dX8_readOne_24 : decode cX8_readOne 24 = .ok (.invokestatic 74, 3) := by decide +kernel
theorem dX8_readOne_27 : decode cX8_readOne 27 = .ok (.ifCond .eq 15, 3) := by decide +kernel
theorem dX8_readOne_30 : decode cX8_readOne 30 = .ok (.aload_n 0, 1) := by decide +kernel
theorem dX8_readOne_31 : decode cX8_readOne 31 = .ok (.getfield 25, 3) := by decide +kernel
theorem dX8_readOne_34 : decode cX8_readOne 34 = .ok (.aload_n 0, 1) := by decide +kernel
theorem dX8_readOne_35 : decode cX8_readOne 35 = .ok (.invokevirtual 77, 3) := by decide +kernel
theorem dX8_readOne_38 : decode cX8_readOne 38 = .ok (.invokevirtual 81, 3) := by decide +kernel
theorem dX8_readOne_41 : decode cX8_readOne 41 = .ok (.ireturn, 1) := by decide +kernel
theorem dX8_readOne_42 : decode cX8_readOne 42 = .ok (.ldc 84, 2) := by decide +kernel
theorem dX8_readOne_44 : decode cX8_readOne 44 = .ok (.iload_n 2, 1) := by decide +kernel
theorem dX8_readOne_45 : decode cX8_readOne 45 = .ok (.invokevirtual 86, 3) := by decide +kernel
theorem dX8_readOne_48 : decode cX8_readOne 48 = .ok (.istore_n 3, 1) := by decide +kernel
theorem dX8_readOne_49 : decode cX8_readOne 49 = .ok (.iload_n 3, 1) := by decide +kernel
theorem dX8_readOne_50 : decode cX8_readOne 50 = .ok (.ifCond .lt 22, 3) := by decide +kernel
theorem dX8_readOne_53 : decode cX8_readOne 53 = .ok (.aload_n 0, 1) := by decide +kernel
theorem dX8_readOne_54 : decode cX8_readOne 54 = .ok (.dup, 1) := by decide +kernel
theorem dX8_readOne_55 : decode cX8_readOne 55 = .ok (.getfield 21, 3) := by decide +kernel
theorem dX8_readOne_58 : decode cX8_readOne 58 = .ok (.iconst 1, 1) := by decide +kernel
theorem dX8_readOne_59 : decode cX8_readOne 59 = .ok (.iadd, 1) := by decide +kernel
theorem dX8_readOne_60 : decode cX8_readOne 60 = .ok (.putfield 21, 3) := by decide +kernel
theorem dX8_readOne_63 : decode cX8_readOne 63 = .ok (.aload_n 0, 1) := by decide +kernel
theorem dX8_readOne_64 : decode cX8_readOne 64 = .ok (.getfield 25, 3) := by decide +kernel
theorem dX8_readOne_67 : decode cX8_readOne 67 = .ok (.iload_n 3, 1) := by decide +kernel
theorem dX8_readOne_68 : decode cX8_readOne 68 = .ok (.invokevirtual 91, 3) := by decide +kernel
theorem dX8_readOne_71 : decode cX8_readOne 71 = .ok (.ireturn, 1) := by decide +kernel
theorem dX8_readOne_72 : decode cX8_readOne 72 = .ok (.iload_n 1, 1) := by decide +kernel
theorem dX8_readOne_73 : decode cX8_readOne 73 = .ok (.bipush 6, 2) := by decide +kernel
theorem dX8_readOne_75 : decode cX8_readOne 75 = .ok (.if_icmp .lt 5, 3) := by decide +kernel
theorem dX8_readOne_78 : decode cX8_readOne 78 = .ok (.iconst (-1), 1) := by decide +kernel
theorem dX8_readOne_79 : decode cX8_readOne 79 = .ok (.ireturn, 1) := by decide +kernel
theorem dX8_readOne_80 : decode cX8_readOne 80 = .ok (.aload_n 0, 1) := by decide +kernel
theorem dX8_readOne_81 : decode cX8_readOne 81 = .ok (.bipush 40, 2) := by decide +kernel
theorem dX8_readOne_83 : decode cX8_readOne 83 = .ok (.invokevirtual 46, 3) := by decide +kernel
theorem dX8_readOne_86 : decode cX8_readOne 86 = .ok (.ifCond .eq 35, 3) := by decide +kernel
theorem dX8_readOne_89 : decode cX8_readOne 89 = .ok (.aload_n 0, 1) := by decide +kernel
theorem dX8_readOne_90 : decode cX8_readOne 90 = .ok (.iconst 0, 1) := by decide +kernel
theorem dX8_readOne_91 : decode cX8_readOne 91 = .ok (.iload_n 1, 1) := by decide +kernel
theorem dX8_readOne_92 : decode cX8_readOne 92 = .ok (.iconst 1, 1) := by decide +kernel
theorem dX8_readOne_93 : decode cX8_readOne 93 = .ok (.iadd, 1) := by decide +kernel
theorem dX8_readOne_94 : decode cX8_readOne 94 = .ok (.invokevirtual 50, 3) := by decide +kernel
theorem dX8_readOne_97 : decode cX8_readOne 97 = .ok (.istore 4, 2) := by decide +kernel
theorem dX8_readOne_99 : decode cX8_readOne 99 = .ok (.iload 4, 2) := by decide +kernel
theorem dX8_readOne_101 : decode cX8_readOne 101 = .ok (.iconst (-1), 1) := by decide +kernel
theorem dX8_readOne_102 : decode cX8_readOne 102 = .ok (.if_icmp .eq 17, 3) := by decide +kernel
theorem dX8_readOne_105 : decode cX8_readOne 105 = .ok (.aload_n 0, 1) := by decide +kernel
theorem dX8_readOne_106 : decode cX8_readOne 106 = .ok (.bipush 41, 2) := by decide +kernel
theorem dX8_readOne_108 : decode cX8_readOne 108 = .ok (.invokevirtual 46, 3) := by decide +kernel
theorem dX8_readOne_111 : decode cX8_readOne 111 = .ok (.ifCond .eq 8, 3) := by decide +kernel
theorem dX8_readOne_114 : decode cX8_readOne 114 = .ok (.iload 4, 2) := by decide +kernel
theorem dX8_readOne_116 : decode cX8_readOne 116 = .ok (.goto 4, 3) := by decide +kernel
theorem dX8_readOne_119 : decode cX8_readOne 119 = .ok (.iconst (-1), 1) := by decide +kernel
theorem dX8_readOne_120 : decode cX8_readOne 120 = .ok (.ireturn, 1) := by decide +kernel
theorem dX8_readOne_121 : decode cX8_readOne 121 = .ok (.aload_n 0, 1) := by decide +kernel
theorem dX8_readOne_122 : decode cX8_readOne 122 = .ok (.bipush 33, 2) := by decide +kernel
theorem dX8_readOne_124 : decode cX8_readOne 124 = .ok (.invokevirtual 46, 3) := by decide +kernel
theorem dX8_readOne_127 : decode cX8_readOne 127 = .ok (.ifCond .ne 14, 3) := by decide +kernel
theorem dX8_readOne_130 : decode cX8_readOne 130 = .ok (.aload_n 0, 1) := by decide +kernel
theorem dX8_readOne_131 : decode cX8_readOne 131 = .ok (.bipush 45, 2) := by decide +kernel
theorem dX8_readOne_133 : decode cX8_readOne 133 = .ok (.invokevirtual 46, 3) := by decide +kernel
theorem dX8_readOne_136 : decode cX8_readOne 136 = .ok (.ifCond .ne 5, 3) := by decide +kernel
theorem dX8_readOne_139 : decode cX8_readOne 139 = .ok (.iconst (-1), 1) := by decide +kernel
theorem dX8_readOne_140 : decode cX8_readOne 140 = .ok (.ireturn, 1) := by decide +kernel
theorem dX8_readOne_141 : decode cX8_readOne 141 = .ok (.aload_n 0, 1) := by decide +kernel
theorem dX8_readOne_142 : decode cX8_readOne 142 = .ok (.iload_n 1, 1) := by decide +kernel
theorem dX8_readOne_143 : decode cX8_readOne 143 = .ok (.iconst 1, 1) := by decide +kernel
theorem dX8_readOne_144 : decode cX8_readOne 144 = .ok (.iadd, 1) := by decide +kernel
theorem dX8_readOne_145 : decode cX8_readOne 145 = .ok (.invokevirtual 62, 3) := by decide +kernel
theorem dX8_readOne_148 : decode cX8_readOne 148 = .ok (.istore 4, 2) := by decide +kernel
theorem dX8_readOne_150 : decode cX8_readOne 150 = .ok (.iload 4, 2) := by decide +kernel
theorem dX8_readOne_152 : decode cX8_readOne 152 = .ok (.iconst (-1), 1) := by decide +kernel
theorem dX8_readOne_153 : decode cX8_readOne 153 = .ok (.if_icmp .ne 7, 3) := by decide +kernel
theorem dX8_readOne_156 : decode cX8_readOne 156 = .ok (.iconst (-1), 1) := by decide +kernel
theorem dX8_readOne_157 : decode cX8_readOne 157 = .ok (.goto 25, 3) := by decide +kernel
theorem dX8_readOne_160 : decode cX8_readOne 160 = .ok (.aload_n 0, 1) := by decide +kernel
theorem dX8_readOne_161 : decode cX8_readOne 161 = .ok (.getfield 25, 3) := by decide +kernel
theorem dX8_readOne_164 : decode cX8_readOne 164 = .ok (.iload_n 2, 1) := by decide +kernel
theorem dX8_readOne_165 : decode cX8_readOne 165 = .ok (.bipush 45, 2) := by decide +kernel
theorem dX8_readOne_167 : decode cX8_readOne 167 = .ok (.if_icmp .ne 8, 3) := by decide +kernel
theorem dX8_readOne_170 : decode cX8_readOne 170 = .ok (.bipush 95, 2) := by decide +kernel
theorem dX8_readOne_172 : decode cX8_readOne 172 = .ok (.goto 4, 3) := by decide +kernel
theorem dX8_readOne_175 : decode cX8_readOne 175 = .ok (.iload_n 2, 1) := by decide +kernel
theorem dX8_readOne_176 : decode cX8_readOne 176 = .ok (.iload 4, 2) := by decide +kernel
theorem dX8_readOne_178 : decode cX8_readOne 178 = .ok (.iconst 0, 1) := by decide +kernel
theorem dX8_readOne_179 : decode cX8_readOne 179 = .ok (.invokevirtual 54, 3) := by decide +kernel
theorem dX8_readOne_182 : decode cX8_readOne 182 = .ok (.ireturn, 1) := by decide +kernel
theorem dX8_readNumber_0 : decode cX8_readNumber 0 = .ok (.iconst 0, 1) := by decide +kernel
theorem dX8_readNumber_1 : decode cX8_readNumber 1 = .ok (.istore_n 1, 1) := by decide +kernel
theorem dX8_readNumber_2 : decode cX8_readNumber 2 = .ok (.iconst 0, 1) := by decide +kernel
theorem dX8_readNumber_3 : decode cX8_readNumber 3 = .ok (.istore_n 2, 1) := by decide +kernel
theorem dX8_readNumber_4 : decode cX8_readNumber 4 = .ok (.iload_n 2, 1) := by decide +kernel
theorem dX8_readNumber_5 : decode cX8_readNumber 5 = .ok (.iconst 4, 1) := by decide +kernel
theorem dX8_readNumber_6 : decode cX8_readNumber 6 = .ok (.if_icmp .ge 63, 3) := by decide +kernel
theorem dX8_readNumber_9 : decode cX8_readNumber 9 = .ok (.aload_n 0, 1) := by decide +kernel
theorem dX8_readNumber_10 : decode cX8_readNumber 10 = .ok (.getfield 21, 3) := by decide +kernel
theorem dX8_readNumber_13 : decode cX8_readNumber 13 = .ok (.aload_n 0, 1) := by decide +kernel
theorem dX8_readNumber_14 : decode cX8_readNumber 14 = .ok (.getfield 17, 3) := by decide +kernel
theorem dX8_readNumber_17 : decode cX8_readNumber 17 = .ok (.if_icmp .ge 52, 3) := by decide +kernel
theorem dX8_readNumber_20 : decode cX8_readNumber 20 = .ok (.aload_n 0, 1) := by decide +kernel
theorem dX8_readNumber_21 : decode cX8_readNumber 21 = .ok (.getfield 11, 3) := by decide +kernel
theorem dX8_readNumber_24 : decode cX8_readNumber 24 = .ok (.aload_n 0, 1) := by decide +kernel
theorem dX8_readNumber_25 : decode cX8_readNumber 25 = .ok (.getfield 21, 3) := by decide +kernel
theorem dX8_readNumber_28 : decode cX8_readNumber 28 = .ok (.caload, 1) := by decide +kernel
theorem dX8_readNumber_29 : decode cX8_readNumber 29 = .ok (.invokestatic 74, 3) := by decide +kernel
theorem dX8_readNumber_32 : decode cX8_readNumber 32 = .ok (.ifCond .eq 37, 3) := by decide +kernel
theorem dX8_readNumber_35 : decode cX8_readNumber 35 = .ok (.bipush 10, 2) := by decide +kernel
theorem dX8_readNumber_37 : decode cX8_readNumber 37 = .ok (.iload_n 1, 1) := by decide +kernel
theorem dX8_readNumber_38 : decode cX8_readNumber 38 = .ok (.imul, 1) := by decide +kernel
theorem dX8_readNumber_39 : decode cX8_readNumber 39 = .ok (.aload_n 0, 1) := by decide +kernel
theorem dX8_readNumber_40 : decode cX8_readNumber 40 = .ok (.getfield 11, 3) := by decide +kernel
theorem dX8_readNumber_43 : decode cX8_readNumber 43 = .ok (.aload_n 0, 1) := by decide +kernel
theorem dX8_readNumber_44 : decode cX8_readNumber 44 = .ok (.getfield 21, 3) := by decide +kernel
theorem dX8_readNumber_47 : decode cX8_readNumber 47 = .ok (.caload, 1) := by decide +kernel
theorem dX8_readNumber_48 : decode cX8_readNumber 48 = .ok (.iadd, 1) := by decide +kernel
theorem dX8_readNumber_49 : decode cX8_readNumber 49 = .ok (.bipush 48, 2) := by decide +kernel
theorem dX8_readNumber_51 : decode cX8_readNumber 51 = .ok (.isub, 1) := by decide +kernel
theorem dX8_readNumber_52 : decode cX8_readNumber 52 = .ok (.istore_n 1, 1) := by decide +kernel
theorem dX8_readNumber_53 : decode cX8_readNumber 53 = .ok (.aload_n 0, 1) := by decide +kernel
theorem dX8_readNumber_54 : decode cX8_readNumber 54 = .ok (.dup, 1) := by decide +kernel
theorem dX8_readNumber_55 : decode cX8_readNumber 55 = .ok (.getfield 21, 3) := by decide +kernel
theorem dX8_readNumber_58 : decode cX8_readNumber 58 = .ok (.iconst 1, 1) := by decide +kernel
theorem dX8_readNumber_59 : decode cX8_readNumber 59 = .ok (.iadd, 1) := by decide +kernel
theorem dX8_readNumber_60 : decode cX8_readNumber 60 = .ok (.putfield 21, 3) := by decide +kernel
theorem dX8_readNumber_63 : decode cX8_readNumber 63 = .ok (.iinc 2 1, 3) := by decide +kernel
theorem dX8_readNumber_66 : decode cX8_readNumber 66 = .ok (.goto (-62), 3) := by decide +kernel
theorem dX8_readNumber_69 : decode cX8_readNumber 69 = .ok (.iload_n 1, 1) := by decide +kernel
theorem dX8_readNumber_70 : decode cX8_readNumber 70 = .ok (.ireturn, 1) := by decide +kernel
theorem dX8_isDigit_0 : decode cX8_isDigit 0 = .ok (.iload_n 0, 1) := by decide +kernel
theorem dX8_isDigit_1 : decode cX8_isDigit 1 = .ok (.bipush 48, 2) := by decide +kernel
theorem dX8_isDigit_3 : decode cX8_isDigit 3 = .ok (.if_icmp .lt 13, 3) := by decide +kernel
theorem dX8_isDigit_6 : decode cX8_isDigit 6 = .ok (.iload_n 0, 1) := by decide +kernel
theorem dX8_isDigit_7 : decode cX8_isDigit 7 = .ok (.bipush 57, 2) := by decide +kernel
theorem dX8_isDigit_9 : decode cX8_isDigit 9 = .ok (.if_icmp .gt 7, 3) := by decide +kernel
theorem dX8_isDigit_12 : decode cX8_isDigit 12 = .ok (.iconst 1, 1) := by decide +kernel
theorem dX8_isDigit_13 : decode cX8_isDigit 13 = .ok (.goto 4, 3) := by decide +kernel
theorem dX8_isDigit_16 : decode cX8_isDigit 16 = .ok (.iconst 0, 1) := by decide +kernel
theorem dX8_isDigit_17 : decode cX8_isDigit 17 = .ok (.ireturn, 1) := by decide +kernel
theorem dX9_init_0 : decode cX9_init 0 = .ok (.aload_n 0, 1) := by decide +kernel
theorem dX9_init_1 : decode cX9_init 1 = .ok (.invokespecial 5, 3) := by decide +kernel
theorem dX9_init_4 : decode cX9_init 4 = .ok (.aload_n 0, 1) := by decide +kernel
theorem dX9_init_5 : decode cX9_init 5 = .ok (.sipush 625, 3) := by decide +kernel
theorem dX9_init_8 : decode cX9_init 8 = .ok (.newarray .int, 2) := by decide +kernel
theorem dX9_init_10 : decode cX9_init 10 = .ok (.putfield 11, 3) := by decide +kernel
theorem dX9_init_13 : decode cX9_init 13 = .ok (.aload_n 0, 1) := by decide +kernel
theorem dX9_init_14 : decode cX9_init 14 = .ok (.sipush 320, 3) := by decide +kernel
theorem dX9_init_17 : decode cX9_init 17 = .ok (.newarray .int, 2) := by decide +kernel
theorem dX9_init_19 : decode cX9_init 19 = .ok (.putfield 15, 3) := by decide +kernel
theorem dX9_init_22 : decode cX9_init 22 = .ok (.aload_n 0, 1) := by decide +kernel
theorem dX9_init_23 : decode cX9_init 23 = .ok (.new 18, 3) := by decide +kernel
theorem dX9_init_26 : decode cX9_init 26 = .ok (.dup, 1) := by decide +kernel
theorem dX9_init_27 : decode cX9_init 27 = .ok (.invokespecial 20, 3) := by decide +kernel
theorem dX9_init_30 : decode cX9_init 30 = .ok (.putfield 21, 3) := by decide +kernel
theorem dX9_init_33 : decode cX9_init 33 = .ok (.aload_n 0, 1) := by decide +kernel
theorem dX9_init_34 : decode cX9_init 34 = .ok (.new 18, 3) := by decide +kernel
theorem dX9_init_37 : decode cX9_init 37 = .ok (.dup, 1) := by decide +kernel
theorem dX9_init_38 : decode cX9_init 38 = .ok (.invokespecial 20, 3) := by decide +kernel
theorem dX9_init_41 : decode cX9_init 41 = .ok (.putfield 25, 3) := by decide +kernel
theorem dX9_init_44 : decode cX9_init 44 = .ok (.aload_n 0, 1) := by decide +kernel
theorem dX9_init_45 : decode cX9_init 45 = .ok (.bipush 7, 2) := by decide +kernel
theorem dX9_init_47 : decode cX9_init 47 = .ok (.anewarray 18, 3) := by decide +kernel
theorem dX9_init_50 : decode cX9_init 50 = .ok (.putfield 28, 3) := by decide +kernel
theorem dX9_init_53 : decode cX9_init 53 = .ok (.aload_n 0, 1) := by decide +kernel
theorem dX9_init_54 : decode cX9_init 54 = .ok (.aload_n 1, 1) := by decide +kernel
theorem dX9_init_55 : decode cX9_init 55 = .ok (.putfield 32, 3) := by decide +kernel
theorem dX9_init_58 : decode cX9_init 58 = .ok (.iconst 0, 1) := by decide +kernel
theorem dX9_init_59 : decode cX9_init 59 = .ok (.istore_n 2, 1) := by decide +kernel
theorem dX9_init_60 : decode cX9_init 60 = .ok (.iload_n 2, 1) := by decide +kernel
theorem dX9_init_61 : decode cX9_init 61 = .ok (.bipush 6, 2) := by decide +kernel
theorem dX9_init_63 : decode cX9_init 63 = .ok (.if_icmp .gt 22, 3) := by decide +kernel
theorem dX9_init_66 : decode cX9_init 66 = .ok (.aload_n 0, 1) := by decide +kernel
theorem dX9_init_67 : decode cX9_init 67 = .ok (.getfield 28, 3) := by decide +kernel
theorem dX9_init_70 : decode cX9_init 70 = .ok (.iload_n 2, 1) := by decide +kernel
theorem dX9_init_71 : decode cX9_init 71 = .ok (.new 18, 3) := by decide +kernel
theorem dX9_init_74 : decode cX9_init 74 = .ok (.dup, 1) := by decide +kernel
theorem dX9_init_75 : decode cX9_init 75 = .ok (.invokespecial 20, 3) := by decide +kernel
theorem dX9_init_78 : decode cX9_init 78 = .ok (.aastore, 1) := by decide +kernel
theorem dX9_init_79 : decode cX9_init 79 = .ok (.iinc 2 1, 3) := by decide +kernel
theorem dX9_init_82 : decode cX9_init 82 = .ok (.goto (-22), 3) := by decide +kernel
theorem dX9_init_85 : decode cX9_init 85 = .ok (.return_, 1) := by decide +kernel
theorem dX9_fewestTillBound_0 : decode cX9_fewestTillBound 0 = .ok (.aload_n 1, 1) := by decide +kernel
theorem dX9_fewestTillBound_1 : decode cX9_fewestTillBound 1 = .ok (.iload_n 2, 1) := by decide +kernel
theorem dX9_fewestTillBound_2 : decode cX9_fewestTillBound 2 = .ok (.invokevirtual 36, 3) := by decide +kernel
theorem dX9_fewestTillBound_5 : decode cX9_fewestTillBound 5 = .ok (.iload_n 3, 1) := by decide +kernel
theorem dX9_fewestTillBound_6 : decode cX9_fewestTillBound 6 = .ok (.if_icmp .ne 5, 3) := by decide +kernel
theorem dX9_fewestTillBound_9 : decode cX9_fewestTillBound 9 = .ok (.iconst 0, 1) := by decide +kernel
theorem dX9_fewestTillBound_10 : decode cX9_fewestTillBound 10 = .ok (.ireturn, 1) := by decide +kernel
theorem dX9_fewestTillBound_11 : decode cX9_fewestTillBound 11 = .ok (.aload_n 0, 1) := by decide +kernel
theorem dX9_fewestTillBound_12 : decode cX9_fewestTillBound 12 = .ok (.aload_n 1, 1) := by decide +kernel
theorem dX9_fewestTillBound_13 : decode cX9_fewestTillBound 13 = .ok (.invokevirtual 40, 3) := by decide +kernel
theorem dX9_fewestTillBound_16 : decode cX9_fewestTillBound 16 = .ok (.iconst 1, 1) := by decide +kernel
theorem dX9_fewestTillBound_17 : decode cX9_fewestTillBound 17 = .ok (.istore 4, 2) := by decide +kernel
theorem dX9_fewestTillBound_19 : decode cX9_fewestTillBound 19 = .ok (.iload 4, 2) := by decide +kernel
theorem dX9_fewestTillBound_21 : decode cX9_fewestTillBound 21 = .ok (.bipush 8, 2) := by decide +kernel
theorem dX9_fewestTillBound_23 : decode cX9_fewestTillBound 23 = .ok (.if_icmp .gt 40, 3) := by decide +kernel
theorem dX9_fewestTillBound_26 : decode cX9_fewestTillBound 26 = .ok (.aload_n 0, 1) := by decide +kernel
theorem dX9_fewestTillBound_27 : decode cX9_fewestTillBound 27 = .ok (.iload 4, 2) := by decide +kernel
theorem dX9_fewestTillBound_29 : decode cX9_fewestTillBound 29 = .ok (.iconst 1, 1) := by decide +kernel
theorem dX9_fewestTillBound_30 : decode cX9_fewestTillBound 30 = .ok (.isub, 1) := by decide +kernel
theorem dX9_fewestTillBound_31 : decode cX9_fewestTillBound 31 = .ok (.aload_n 1, 1) := by decide +kernel
theorem dX9_fewestTillBound_32 : decode cX9_fewestTillBound 32 = .ok (.invokevirtual 44, 3) := by decide +kernel
theorem dX9_fewestTillBound_35 : decode cX9_fewestTillBound 35 = .ok (.iload 4, 2) := by decide +kernel
theorem dX9_fewestTillBound_37 : decode cX9_fewestTillBound 37 = .ok (.iadd, 1) := by decide +kernel
theorem dX9_fewestTillBound_38 : decode cX9_fewestTillBound 38 = .ok (.iconst 1, 1) := by decide +kernel
theorem dX9_fewestTillBound_39 : decode cX9_fewestTillBound 39 = .ok (.isub, 1) := by decide +kernel
theorem dX9_fewestTillBound_40 : decode cX9_fewestTillBound 40 = .ok (.invokevirtual 48, 3) := by decide +kernel
theorem dX9_fewestTillBound_43 : decode cX9_fewestTillBound 43 = .ok (.aload_n 0, 1) := by decide +kernel
theorem dX9_fewestTillBound_44 : decode cX9_fewestTillBound 44 = .ok (.iload 4, 2) := by decide +kernel
theorem dX9_fewestTillBound_46 : decode cX9_fewestTillBound 46 = .ok (.iload_n 2, 1) := by decide +kernel
theorem dX9_fewestTillBound_47 : decode cX9_fewestTillBound 47 = .ok (.iload_n 3, 1) := by decide +kernel
theorem dX9_fewestTillBound_48 : decode cX9_fewestTillBound 48 = .ok (.invokevirtual 52, 3) := by decide +kernel
theorem dX9_fewestTillBound_51 : decode cX9_fewestTillBound 51 = .ok (.ifCond .eq 6, 3) := by decide +kernel
theorem dX9_fewestTillBound_54 : decode cX9_fewestTillBound 54 = .ok (.iload 4, 2) := by decide +kernel
theorem dX9_fewestTillBound_56 : decode cX9_fewestTillBound 56 = .ok (.ireturn, 1) := by decide +kernel
theorem dX9_fewestTillBound_57 : decode cX9_fewestTillBound 57 = .ok (.iinc 4 1, 3) := by decide +kernel
theorem dX9_fewestTillBound_60 : decode cX9_fewestTillBound 60 = .ok (.goto (-41), 3) := by decide +kernel
theorem dX9_fewestTillBound_63 : decode cX9_fewestTillBound 63 = .ok (.bipush (-2), 2) := by decide +kernel
theorem dX9_fewestTillBound_65 : decode cX9_fewestTillBound 65 = .ok (.ireturn, 1) := by decide +kernel
theorem dX9_fewestRound_0 : decode cX9_fewestRound 0 = .ok (.aload_n 0, 1) := by decide +kernel
theorem dX9_fewestRound_1 : decode cX9_fewestRound 1 = .ok (.aload_n 1, 1) := by decide +kernel
theorem dX9_fewestRound_2 : decode cX9_fewestRound 2 = .ok (.invokevirtual 40, 3) := by decide +kernel
theorem dX9_fewestRound_5 : decode cX9_fewestRound 5 = .ok (.iconst 1, 1) := by decide +kernel
theorem dX9_fewestRound_6 : decode cX9_fewestRound 6 = .ok (.istore_n 2, 1) := by decide +kernel
theorem dX9_fewestRound_7 : decode cX9_fewestRound 7 = .ok (.iload_n 2, 1) := by decide +kernel
theorem dX9_fewestRound_8 : decode cX9_fewestRound 8 = .ok (.bipush 8, 2) := by decide +kernel
theorem dX9_fewestRound_10 : decode cX9_fewestRound 10 = .ok (.if_icmp .gt 38, 3) := by decide +kernel
theorem dX9_fewestRound_13 : decode cX9_fewestRound 13 = .ok (.aload_n 0, 1) := by decide +kernel
theorem dX9_fewestRound_14 : decode cX9_fewestRound 14 = .ok (.iload_n 2, 1) := by decide +kernel
theorem dX9_fewestRound_15 : decode cX9_fewestRound 15 = .ok (.iconst 1, 1) := by decide +kernel
theorem dX9_fewestRound_16 : decode cX9_fewestRound 16 = .ok (.isub, 1) := by decide +kernel
theorem dX9_fewestRound_17 : decode cX9_fewestRound 17 = .ok (.aload_n 1, 1) := by decide +kernel
theorem dX9_fewestRound_18 : decode cX9_fewestRound 18 = .ok (.invokevirtual 44, 3) := by decide +kernel
theorem dX9_fewestRound_21 : decode cX9_fewestRound 21 = .ok (.iload_n 2, 1) := by decide +kernel
theorem dX9_fewestRound_22 : decode cX9_fewestRound 22 = .ok (.iadd, 1) := by decide +kernel
theorem dX9_fewestRound_23 : decode cX9_fewestRound 23 = .ok (.iconst 1, 1) := by decide +kernel
theorem dX9_fewestRound_24 : decode cX9_fewestRound 24 = .ok (.isub, 1) := by decide +kernel
theorem dX9_fewestRound_25 : decode cX9_fewestRound 25 = .ok (.invokevirtual 48, 3) := by decide +kernel
theorem dX9_fewestRound_28 : decode cX9_fewestRound 28 = .ok (.aload_n 0, 1) := by decide +kernel
theorem dX9_fewestRound_29 : decode cX9_fewestRound 29 = .ok (.aload_n 1, 1) := by decide +kernel
theorem dX9_fewestRound_30 : decode cX9_fewestRound 30 = .ok (.invokevirtual 56, 3) := by decide +kernel
theorem dX9_fewestRound_33 : decode cX9_fewestRound 33 = .ok (.iload_n 2, 1) := by decide +kernel
theorem dX9_fewestRound_34 : decode cX9_fewestRound 34 = .ok (.invokevirtual 59, 3) := by decide +kernel
theorem dX9_fewestRound_37 : decode cX9_fewestRound 37 = .ok (.ifCond .eq 5, 3) := by decide +kernel
theorem dX9_fewestRound_40 : decode cX9_fewestRound 40 = .ok (.iload_n 2, 1) := by decide +kernel
theorem dX9_fewestRound_41 : decode cX9_fewestRound 41 = .ok (.ireturn, 1) := by decide +kernel
theorem dX9_fewestRound_42 : decode cX9_fewestRound 42 = .ok (.iinc 2 1, 3) := by decide +kernel
theorem dX9_fewestRound_45 : decode cX9_fewestRound 45 = .ok (.goto (-38), 3) := by decide +kernel
theorem dX9_fewestRound_48 : decode cX9_fewestRound 48 = .ok (.bipush (-2), 2) := by decide +kernel
theorem dX9_fewestRound_50 : decode cX9_fewestRound 50 = .ok (.ireturn, 1) := by decide +kernel
theorem dX9_begin_0 : decode cX9_begin 0 = .ok (.iconst 0, 1) := by decide +kernel
theorem dX9_begin_1 : decode cX9_begin 1 = .ok (.istore_n 2, 1) := by decide +kernel
theorem dX9_begin_2 : decode cX9_begin 2 = .ok (.iload_n 2, 1) := by decide +kernel
theorem dX9_begin_3 : decode cX9_begin 3 = .ok (.sipush 625, 3) := by decide +kernel
theorem dX9_begin_6 : decode cX9_begin 6 = .ok (.if_icmp .ge 16, 3) := by decide +kernel
theorem dX9_begin_9 : decode cX9_begin 9 = .ok (.aload_n 0, 1) := by decide +kernel
theorem dX9_begin_10 : decode cX9_begin 10 = .ok (.getfield 11, 3) := by decide +kernel
theorem dX9_begin_13 : decode cX9_begin 13 = .ok (.iload_n 2, 1) := by decide +kernel
theorem dX9_begin_14 : decode cX9_begin 14 = .ok (.iconst 0, 1) := by decide +kernel
theorem dX9_begin_15 : decode cX9_begin 15 = .ok (.iastore, 1) := by decide +kernel
theorem dX9_begin_16 : decode cX9_begin 16 = .ok (.iinc 2 1, 3) := by decide +kernel
theorem dX9_begin_19 : decode cX9_begin 19 = .ok (.goto (-17), 3) := by decide +kernel
theorem dX9_begin_22 : decode cX9_begin 22 = .ok (.aload_n 0, 1) := by decide +kernel
theorem dX9_begin_23 : decode cX9_begin 23 = .ok (.aload_n 1, 1) := by decide +kernel
theorem dX9_begin_24 : decode cX9_begin 24 = .ok (.iconst 0, 1) := by decide +kernel
theorem dX9_begin_25 : decode cX9_begin 25 = .ok (.invokevirtual 63, 3) := by decide +kernel
theorem dX9_begin_28 : decode cX9_begin 28 = .ok (.return_, 1) := by decide +kernel
theorem dX9_reach_0 : decode cX9_reach 0 = .ok (.aload_n 1, 1) := by decide +kernel
theorem dX9_reach_1 : decode cX9_reach 1 = .ok (.invokevirtual 56, 3) := by decide +kernel
theorem dX9_reach_4 : decode cX9_reach 4 = .ok (.istore_n 3, 1) := by decide +kernel
theorem dX9_reach_5 : decode cX9_reach 5 = .ok (.iload_n 3, 1) := by decide +kernel
theorem dX9_reach_6 : decode cX9_reach 6 = .ok (.ifCond .lt 22, 3) := by decide +kernel
theorem dX9_reach_9 : decode cX9_reach 9 = .ok (.iload_n 3, 1) := by decide +kernel
theorem dX9_reach_10 : decode cX9_reach 10 = .ok (.sipush 625, 3) := by decide +kernel
theorem dX9_reach_13 : decode cX9_reach 13 = .ok (.if_icmp .ge 15, 3) := by decide +kernel
theorem dX9_reach_16 : decode cX9_reach 16 = .ok (.aload_n 0, 1) := by decide +kernel
theorem dX9_reach_17 : decode cX9_reach 17 = .ok (.getfield 11, 3) := by decide +kernel
theorem dX9_reach_20 : decode cX9_reach 20 = .ok (.iload_n 3, 1) := by decide +kernel
theorem dX9_reach_21 : decode cX9_reach 21 = .ok (.dup2, 1) := by decide +kernel
theorem dX9_reach_22 : decode cX9_reach 22 = .ok (.iaload, 1) := by decide +kernel
theorem dX9_reach_23 : decode cX9_reach 23 = .ok (.iconst 1, 1) := by decide +kernel
theorem dX9_reach_24 : decode cX9_reach 24 = .ok (.iload_n 2, 1) := by decide +kernel
theorem dX9_reach_25 : decode cX9_reach 25 = .ok (.ishl, 1) := by decide +kernel
theorem dX9_reach_26 : decode cX9_reach 26 = .ok (.ior, 1) := by decide +kernel
theorem dX9_reach_27 : decode cX9_reach 27 = .ok (.iastore, 1) := by decide +kernel
theorem dX9_reach_28 : decode cX9_reach 28 = .ok (.return_, 1) := by decide +kernel
theorem dX9_isReached_0 : decode cX9_isReached 0 = .ok (.iload_n 1, 1) := by decide +kernel
theorem dX9_isReached_1 : decode cX9_isReached 1 = .ok (.ifCond .lt 28, 3) := by decide +kernel
theorem dX9_isReached_4 : decode cX9_isReached 4 = .ok (.iload_n 1, 1) := by decide +kernel
theorem dX9_isReached_5 : decode cX9_isReached 5 = .ok (.sipush 625, 3) := by decide +kernel
theorem dX9_isReached_8 : decode cX9_isReached 8 = .ok (.if_icmp .ge 21, 3) := by decide +kernel
theorem dX9_isReached_11 : decode cX9_isReached 11 = .ok (.aload_n 0, 1) := by decide +kernel
theorem dX9_isReached_12 : decode cX9_isReached 12 = .ok (.getfield 11, 3) := by decide +kernel
theorem dX9_isReached_15 : decode cX9_isReached 15 = .ok (.iload_n 1, 1) := by decide +kernel
theorem dX9_isReached_16 : decode cX9_isReached 16 = .ok (.iaload, 1) := by decide +kernel
theorem dX9_isReached_17 : decode cX9_isReached 17 = .ok (.iload_n 2, 1) := by decide +kernel
theorem dX9_isReached_18 : decode cX9_isReached 18 = .ok (.ishr, 1) := by decide +kernel
theorem dX9_isReached_19 : decode cX9_isReached 19 = .ok (.iconst 1, 1) := by decide +kernel
theorem dX9_isReached_20 : decode cX9_isReached 20 = .ok (.iand, 1) := by decide +kernel
theorem dX9_isReached_21 : decode cX9_isReached 21 = .ok (.iconst 1, 1) := by decide +kernel
theorem dX9_isReached_22 : decode cX9_isReached 22 = .ok (.if_icmp .ne 7, 3) := by decide +kernel
theorem dX9_isReached_25 : decode cX9_isReached 25 = .ok (.iconst 1, 1) := by decide +kernel
theorem dX9_isReached_26 : decode cX9_isReached 26 = .ok (.goto 4, 3) := by decide +kernel
theorem dX9_isReached_29 : decode cX9_isReached 29 = .ok (.iconst 0, 1) := by decide +kernel
theorem dX9_isReached_30 : decode cX9_isReached 30 = .ok (.ireturn, 1) := by decide +kernel
theorem dX9_isBoundSomewhere_0 : decode cX9_isBoundSomewhere 0 = .ok (.iconst 0, 1) := by decide +kernel
theorem dX9_isBoundSomewhere_1 : decode cX9_isBoundSomewhere 1 = .ok (.istore 4, 2) := by decide +kernel
theorem dX9_isBoundSomewhere_3 : decode cX9_isBoundSomewhere 3 = .ok (.iload 4, 2) := by decide +kernel
theorem dX9_isBoundSomewhere_5 : decode cX9_isBoundSomewhere 5 = .ok (.sipush 625, 3) := by decide +kernel
theorem dX9_isBoundSomewhere_8 : decode cX9_isBoundSomewhere 8 = .ok (.if_icmp .ge 43, 3) := by decide +kernel
theorem dX9_isBoundSomewhere_11 : decode cX9_isBoundSomewhere 11 = .ok (.aload_n 0, 1) := by decide +kernel
theorem dX9_isBoundSomewhere_12 : decode cX9_isBoundSomewhere 12 = .ok (.iload 4, 2) := by decide +kernel
theorem dX9_isBoundSomewhere_14 : decode cX9_isBoundSomewhere 14 = .ok (.iload_n 1, 1) := by decide +kernel
theorem dX9_isBoundSomewhere_15 : decode cX9_isBoundSomewhere 15 = .ok (.invokevirtual 59, 3) := by decide +kernel
theorem dX9_isBoundSomewhere_18 : decode cX9_isBoundSomewhere 18 = .ok (.ifCond .eq 27, 3) := by decide +kernel
theorem dX9_isBoundSomewhere_21 : decode cX9_isBoundSomewhere 21 = .ok (.aload_n 0, 1) := by decide +kernel
theorem dX9_isBoundSomewhere_22 : decode cX9_isBoundSomewhere 22 = .ok (.getfield 21, 3) := by decide +kernel
theorem dX9_isBoundSomewhere_25 : decode cX9_isBoundSomewhere 25 = .ok (.iload 4, 2) := by decide +kernel
theorem dX9_isBoundSomewhere_27 : decode cX9_isBoundSomewhere 27 = .ok (.iconst 0, 1) := by decide +kernel
theorem dX9_isBoundSomewhere_28 : decode cX9_isBoundSomewhere 28 = .ok (.invokevirtual 67, 3) := by decide +kernel
theorem dX9_isBoundSomewhere_31 : decode cX9_isBoundSomewhere 31 = .ok (.aload_n 0, 1) := by decide +kernel
theorem dX9_isBoundSomewhere_32 : decode cX9_isBoundSomewhere 32 = .ok (.getfield 21, 3) := by decide +kernel
theorem dX9_isBoundSomewhere_35 : decode cX9_isBoundSomewhere 35 = .ok (.iload_n 2, 1) := by decide +kernel
theorem dX9_isBoundSomewhere_36 : decode cX9_isBoundSomewhere 36 = .ok (.invokevirtual 36, 3) := by decide +kernel
theorem dX9_isBoundSomewhere_39 : decode cX9_isBoundSomewhere 39 = .ok (.iload_n 3, 1) := by decide +kernel
theorem dX9_isBoundSomewhere_40 : decode cX9_isBoundSomewhere 40 = .ok (.if_icmp .ne 5, 3) := by decide +kernel
theorem dX9_isBoundSomewhere_43 : decode cX9_isBoundSomewhere 43 = .ok (.iconst 1, 1) := by decide +kernel
theorem dX9_isBoundSomewhere_44 : decode cX9_isBoundSomewhere 44 = .ok (.ireturn, 1) := by decide +kernel
theorem dX9_isBoundSomewhere_45 : decode cX9_isBoundSomewhere 45 = .ok (.iinc 4 1, 3) := by decide +kernel
theorem dX9_isBoundSomewhere_48 : decode cX9_isBoundSomewhere 48 = .ok (.goto (-45), 3) := by decide +kernel
theorem dX9_isBoundSomewhere_51 : decode cX9_isBoundSomewhere 51 = .ok (.iconst 0, 1) := by decide +kernel
theorem dX9_isBoundSomewhere_52 : decode cX9_isBoundSomewhere 52 = .ok (.ireturn, 1) := by decide +kernel
theorem dX9_spread_0 : decode cX9_spread 0 = .ok (.iconst 0, 1) := by decide +kernel
theorem dX9_spread_1 : decode cX9_spread 1 = .ok (.istore_n 3, 1) := by decide +kernel
theorem dX9_spread_2 : decode cX9_spread 2 = .ok (.iload_n 3, 1) := by decide +kernel
theorem dX9_spread_3 : decode cX9_spread 3 = .ok (.sipush 320, 3) := by decide +kernel
theorem dX9_spread_6 : decode cX9_spread 6 = .ok (.if_icmp .ge 17, 3) := by decide +kernel
theorem dX9_spread_9 : decode cX9_spread 9 = .ok (.aload_n 0, 1) := by decide +kernel
theorem dX9_spread_10 : decode cX9_spread 10 = .ok (.getfield 15, 3) := by decide +kernel
theorem dX9_spread_13 : decode cX9_spread 13 = .ok (.iload_n 3, 1) := by decide +kernel
theorem dX9_spread_14 : decode cX9_spread 14 = .ok (.bipush (-2), 2) := by decide +kernel
theorem dX9_spread_16 : decode cX9_spread 16 = .ok (.iastore, 1) := by decide +kernel
theorem dX9_spread_17 : decode cX9_spread 17 = .ok (.iinc 3 1, 3) := by decide +kernel
theorem dX9_spread_20 : decode cX9_spread 20 = .ok (.goto (-18), 3) := by decide +kernel
theorem dX9_spread_23 : decode cX9_spread 23 = .ok (.iconst 0, 1) := by decide +kernel
theorem dX9_spread_24 : decode cX9_spread 24 = .ok (.istore_n 3, 1) := by decide +kernel
theorem dX9_spread_25 : decode cX9_spread 25 = .ok (.iload_n 3, 1) := by decide +kernel
theorem dX9_spread_26 : decode cX9_spread 26 = .ok (.sipush 625, 3) := by decide +kernel
theorem dX9_spread_29 : decode cX9_spread 29 = .ok (.if_icmp .ge 32, 3) := by decide +kernel
theorem dX9_spread_32 : decode cX9_spread 32 = .ok (.aload_n 0, 1) := by decide +kernel
theorem dX9_spread_33 : decode cX9_spread 33 = .ok (.iload_n 3, 1) := by decide +kernel
theorem dX9_spread_34 : decode cX9_spread 34 = .ok (.iload_n 1, 1) := by decide +kernel
theorem dX9_spread_35 : decode cX9_spread 35 = .ok (.invokevirtual 59, 3) := by decide +kernel
theorem dX9_spread_38 : decode cX9_spread 38 = .ok (.ifCond .eq 17, 3) := by decide +kernel
theorem dX9_spread_41 : decode cX9_spread 41 = .ok (.aload_n 0, 1) := by decide +kernel
theorem dX9_spread_42 : decode cX9_spread 42 = .ok (.getfield 21, 3) := by decide +kernel
theorem dX9_spread_45 : decode cX9_spread 45 = .ok (.iload_n 3, 1) := by decide +kernel
theorem dX9_spread_46 : decode cX9_spread 46 = .ok (.iload_n 2, 1) := by decide +kernel
theorem dX9_spread_47 : decode cX9_spread 47 = .ok (.invokevirtual 67, 3) := by decide +kernel
theorem dX9_spread_50 : decode cX9_spread 50 = .ok (.aload_n 0, 1) := by decide +kernel
theorem dX9_spread_51 : decode cX9_spread 51 = .ok (.iload_n 1, 1) := by decide +kernel
theorem dX9_spread_52 : decode cX9_spread 52 = .ok (.invokevirtual 70, 3) := by decide +kernel
theorem dX9_spread_55 : decode cX9_spread 55 = .ok (.iinc 3 1, 3) := by decide +kernel
theorem dX9_spread_58 : decode cX9_spread 58 = .ok (.goto (-33), 3) := by decide +kernel
theorem dX9_spread_61 : decode cX9_spread 61 = .ok (.return_, 1) := by decide +kernel
theorem dX9_spreadFrom_0 : decode cX9_spreadFrom 0 = .ok (.aload_n 0, 1) := by decide +kernel
theorem dX9_spreadFrom_1 : decode cX9_spreadFrom 1 = .ok (.getfield 32, 3) := by decide +kernel
theorem dX9_spreadFrom_4 : decode cX9_spreadFrom 4 = .ok (.invokevirtual 74, 3) := by decide +kernel
theorem dX9_spreadFrom_7 : decode cX9_spreadFrom 7 = .ok (.invokevirtual 80, 3) := by decide +kernel
theorem dX9_spreadFrom_10 : decode cX9_spreadFrom 10 = .ok (.istore_n 2, 1) := by decide +kernel
theorem dX9_spreadFrom_11 : decode cX9_spreadFrom 11 = .ok (.iconst 0, 1) := by decide +kernel
theorem dX9_spreadFrom_12 : decode cX9_spreadFrom 12 = .ok (.istore_n 3, 1) := by decide +kernel
theorem dX9_spreadFrom_13 : decode cX9_spreadFrom 13 = .ok (.iload_n 3, 1) := by decide +kernel
theorem dX9_spreadFrom_14 : decode cX9_spreadFrom 14 = .ok (.iload_n 2, 1) := by decide +kernel
theorem dX9_spreadFrom_15 : decode cX9_spreadFrom 15 = .ok (.if_icmp .ge 80, 3) := by decide +kernel
theorem dX9_spreadFrom_18 : decode cX9_spreadFrom 18 = .ok (.iconst 0, 1) := by decide +kernel
theorem dX9_spreadFrom_19 : decode cX9_spreadFrom 19 = .ok (.istore 4, 2) := by decide +kernel
theorem dX9_spreadFrom_21 : decode cX9_spreadFrom 21 = .ok (.iload 4, 2) := by decide +kernel
theorem dX9_spreadFrom_23 : decode cX9_spreadFrom 23 = .ok (.iload_n 2, 1) := by decide +kernel
theorem dX9_spreadFrom_24 : decode cX9_spreadFrom 24 = .ok (.if_icmp .ge 65, 3) := by decide +kernel
theorem dX9_spreadFrom_27 : decode cX9_spreadFrom 27 = .ok (.iload_n 3, 1) := by decide +kernel
theorem dX9_spreadFrom_28 : decode cX9_spreadFrom 28 = .ok (.iload 4, 2) := by decide +kernel
theorem dX9_spreadFrom_30 : decode cX9_spreadFrom 30 = .ok (.if_icmp .eq 53, 3) := by decide +kernel
theorem dX9_spreadFrom_33 : decode cX9_spreadFrom 33 = .ok (.aload_n 0, 1) := by decide +kernel
theorem dX9_spreadFrom_34 : decode cX9_spreadFrom 34 = .ok (.getfield 21, 3) := by decide +kernel
theorem dX9_spreadFrom_37 : decode cX9_spreadFrom 37 = .ok (.iload_n 3, 1) := by decide +kernel
theorem dX9_spreadFrom_38 : decode cX9_spreadFrom 38 = .ok (.invokevirtual 85, 3) := by decide +kernel
theorem dX9_spreadFrom_41 : decode cX9_spreadFrom 41 = .ok (.ifCond .eq 42, 3) := by decide +kernel
theorem dX9_spreadFrom_44 : decode cX9_spreadFrom 44 = .ok (.aload_n 0, 1) := by decide +kernel
theorem dX9_spreadFrom_45 : decode cX9_spreadFrom 45 = .ok (.iload_n 3, 1) := by decide +kernel
theorem dX9_spreadFrom_46 : decode cX9_spreadFrom 46 = .ok (.iload 4, 2) := by decide +kernel
theorem dX9_spreadFrom_48 : decode cX9_spreadFrom 48 = .ok (.invokevirtual 89, 3) := by decide +kernel
theorem dX9_spreadFrom_51 : decode cX9_spreadFrom 51 = .ok (.istore 5, 2) := by decide +kernel
theorem dX9_spreadFrom_53 : decode cX9_spreadFrom 53 = .ok (.iload 5, 2) := by decide +kernel
theorem dX9_spreadFrom_55 : decode cX9_spreadFrom 55 = .ok (.ifCond .le 12, 3) := by decide +kernel
theorem dX9_spreadFrom_58 : decode cX9_spreadFrom 58 = .ok (.aload_n 0, 1) := by decide +kernel
theorem dX9_spreadFrom_59 : decode cX9_spreadFrom 59 = .ok (.iload_n 3, 1) := by decide +kernel
theorem dX9_spreadFrom_60 : decode cX9_spreadFrom 60 = .ok (.iload 4, 2) := by decide +kernel
theorem dX9_spreadFrom_62 : decode cX9_spreadFrom 62 = .ok (.iconst 1, 1) := by decide +kernel
theorem dX9_spreadFrom_63 : decode cX9_spreadFrom 63 = .ok (.iload_n 1, 1) := by decide +kernel
theorem dX9_spreadFrom_64 : decode cX9_spreadFrom 64 = .ok (.invokevirtual 93, 3) := by decide +kernel
theorem dX9_spreadFrom_67 : decode cX9_spreadFrom 67 = .ok (.iload 5, 2) := by decide +kernel
theorem dX9_spreadFrom_69 : decode cX9_spreadFrom 69 = .ok (.bipush 12, 2) := by decide +kernel
theorem dX9_spreadFrom_71 : decode cX9_spreadFrom 71 = .ok (.if_icmp .ge 12, 3) := by decide +kernel
theorem dX9_spreadFrom_74 : decode cX9_spreadFrom 74 = .ok (.aload_n 0, 1) := by decide +kernel
theorem dX9_spreadFrom_75 : decode cX9_spreadFrom 75 = .ok (.iload_n 3, 1) := by decide +kernel
theorem dX9_spreadFrom_76 : decode cX9_spreadFrom 76 = .ok (.iload 4, 2) := by decide +kernel
theorem dX9_spreadFrom_78 : decode cX9_spreadFrom 78 = .ok (.iconst 0, 1) := by decide +kernel
theorem dX9_spreadFrom_79 : decode cX9_spreadFrom 79 = .ok (.iload_n 1, 1) := by decide +kernel
theorem dX9_spreadFrom_80 : decode cX9_spreadFrom 80 = .ok (.invokevirtual 93, 3) := by decide +kernel
theorem dX9_spreadFrom_83 : decode cX9_spreadFrom 83 = .ok (.iinc 4 1, 3) := by decide +kernel
theorem dX9_spreadFrom_86 : decode cX9_spreadFrom 86 = .ok (.goto (-65), 3) := by decide +kernel
theorem dX9_spreadFrom_89 : decode cX9_spreadFrom 89 = .ok (.iinc 3 1, 3) := by decide +kernel
theorem dX9_spreadFrom_92 : decode cX9_spreadFrom 92 = .ok (.goto (-79), 3) := by decide +kernel
theorem dX9_spreadFrom_95 : decode cX9_spreadFrom 95 = .ok (.return_, 1) := by decide +kernel
theorem dX9_lead_0 : decode cX9_lead 0 = .ok (.aload_n 0, 1) := by decide +kernel
theorem dX9_lead_1 : decode cX9_lead 1 = .ok (.getfield 25, 3) := by decide +kernel
theorem dX9_lead_4 : decode cX9_lead 4 = .ok (.aload_n 0, 1) := by decide +kernel
theorem dX9_lead_5 : decode cX9_lead 5 = .ok (.getfield 21, 3) := by decide +kernel
theorem dX9_lead_8 : decode cX9_lead 8 = .ok (.invokevirtual 97, 3) := by decide +kernel
theorem dX9_lead_11 : decode cX9_lead 11 = .ok (.aload_n 0, 1) := by decide +kernel
theorem dX9_lead_12 : decode cX9_lead 12 = .ok (.getfield 25, 3) := by decide +kernel
theorem dX9_lead_15 : decode cX9_lead 15 = .ok (.iload_n 1, 1) := by decide +kernel
theorem dX9_lead_16 : decode cX9_lead 16 = .ok (.iload_n 2, 1) := by decide +kernel
theorem dX9_lead_17 : decode cX9_lead 17 = .ok (.iload_n 3, 1) := by decide +kernel
theorem dX9_lead_18 : decode cX9_lead 18 = .ok (.invokevirtual 100, 3) := by decide +kernel
theorem dX9_lead_21 : decode cX9_lead 21 = .ok (.aload_n 0, 1) := by decide +kernel
theorem dX9_lead_22 : decode cX9_lead 22 = .ok (.aload_n 0, 1) := by decide +kernel
theorem dX9_lead_23 : decode cX9_lead 23 = .ok (.getfield 25, 3) := by decide +kernel
theorem dX9_lead_26 : decode cX9_lead 26 = .ok (.iload 4, 2) := by decide +kernel
theorem dX9_lead_28 : decode cX9_lead 28 = .ok (.iconst 1, 1) := by decide +kernel
theorem dX9_lead_29 : decode cX9_lead 29 = .ok (.iadd, 1) := by decide +kernel
theorem dX9_lead_30 : decode cX9_lead 30 = .ok (.invokevirtual 63, 3) := by decide +kernel
theorem dX9_lead_33 : decode cX9_lead 33 = .ok (.return_, 1) := by decide +kernel
theorem dX9_twelfthsGiven_0 : decode cX9_twelfthsGiven 0 = .ok (.iload_n 1, 1) := by decide +kernel
theorem dX9_twelfthsGiven_1 : decode cX9_twelfthsGiven 1 = .ok (.iconst 4, 1) := by decide +kernel
theorem dX9_twelfthsGiven_2 : decode cX9_twelfthsGiven 2 = .ok (.imul, 1) := by decide +kernel
theorem dX9_twelfthsGiven_3 : decode cX9_twelfthsGiven 3 = .ok (.iload_n 2, 1) := by decide +kernel
theorem dX9_twelfthsGiven_4 : decode cX9_twelfthsGiven 4 = .ok (.iadd, 1) := by decide +kernel
theorem dX9_twelfthsGiven_5 : decode cX9_twelfthsGiven 5 = .ok (.iconst 4, 1) := by decide +kernel
theorem dX9_twelfthsGiven_6 : decode cX9_twelfthsGiven 6 = .ok (.imul, 1) := by decide +kernel
theorem dX9_twelfthsGiven_7 : decode cX9_twelfthsGiven 7 = .ok (.aload_n 0, 1) := by decide +kernel
theorem dX9_twelfthsGiven_8 : decode cX9_twelfthsGiven 8 = .ok (.getfield 21, 3) := by decide +kernel
theorem dX9_twelfthsGiven_11 : decode cX9_twelfthsGiven 11 = .ok (.iload_n 2, 1) := by decide +kernel
theorem dX9_twelfthsGiven_12 : decode cX9_twelfthsGiven 12 = .ok (.invokevirtual 104, 3) := by decide +kernel
theorem dX9_twelfthsGiven_15 : decode cX9_twelfthsGiven 15 = .ok (.iadd, 1) := by decide +kernel
theorem dX9_twelfthsGiven_16 : decode cX9_twelfthsGiven 16 = .ok (.istore_n 3, 1) := by decide +kernel
theorem dX9_twelfthsGiven_17 : decode cX9_twelfthsGiven 17 = .ok (.iload_n 3, 1) := by decide +kernel
theorem dX9_twelfthsGiven_18 : decode cX9_twelfthsGiven 18 = .ok (.iconst 5, 1) := by decide +kernel
theorem dX9_twelfthsGiven_19 : decode cX9_twelfthsGiven 19 = .ok (.imul, 1) := by decide +kernel
theorem dX9_twelfthsGiven_20 : decode cX9_twelfthsGiven 20 = .ok (.aload_n 0, 1) := by decide +kernel
theorem dX9_twelfthsGiven_21 : decode cX9_twelfthsGiven 21 = .ok (.getfield 21, 3) := by decide +kernel
theorem dX9_twelfthsGiven_24 : decode cX9_twelfthsGiven 24 = .ok (.invokevirtual 107, 3) := by decide +kernel
theorem dX9_twelfthsGiven_27 : decode cX9_twelfthsGiven 27 = .ok (.iadd, 1) := by decide +kernel
theorem dX9_twelfthsGiven_28 : decode cX9_twelfthsGiven 28 = .ok (.istore 4, 2) := by decide +kernel
theorem dX9_twelfthsGiven_30 : decode cX9_twelfthsGiven 30 = .ok (.iload 4, 2) := by decide +kernel
theorem dX9_twelfthsGiven_32 : decode cX9_twelfthsGiven 32 = .ok (.ifCond .lt 11, 3) := by decide +kernel
theorem dX9_twelfthsGiven_35 : decode cX9_twelfthsGiven 35 = .ok (.iload 4, 2) := by decide +kernel
theorem dX9_twelfthsGiven_37 : decode cX9_twelfthsGiven 37 = .ok (.sipush 320, 3) := by decide +kernel
theorem dX9_twelfthsGiven_40 : decode cX9_twelfthsGiven 40 = .ok (.if_icmp .lt 17, 3) := by decide +kernel
theorem dX9_twelfthsGiven_43 : decode cX9_twelfthsGiven 43 = .ok (.aload_n 0, 1) := by decide +kernel
theorem dX9_twelfthsGiven_44 : decode cX9_twelfthsGiven 44 = .ok (.getfield 32, 3) := by decide +kernel
theorem dX9_twelfthsGiven_47 : decode cX9_twelfthsGiven 47 = .ok (.aload_n 0, 1) := by decide +kernel
theorem dX9_twelfthsGiven_48 : decode cX9_twelfthsGiven 48 = .ok (.getfield 21, 3) := by decide +kernel
theorem dX9_twelfthsGiven_51 : decode cX9_twelfthsGiven 51 = .ok (.iload_n 1, 1) := by decide +kernel
theorem dX9_twelfthsGiven_52 : decode cX9_twelfthsGiven 52 = .ok (.iload_n 2, 1) := by decide +kernel
theorem dX9_twelfthsGiven_53 : decode cX9_twelfthsGiven 53 = .ok (.invokevirtual 110, 3) := by decide +kernel
theorem dX9_twelfthsGiven_56 : decode cX9_twelfthsGiven 56 = .ok (.ireturn, 1) := by decide +kernel
theorem dX9_twelfthsGiven_57 : decode cX9_twelfthsGiven 57 = .ok (.aload_n 0, 1) := by decide +kernel
theorem dX9_twelfthsGiven_58 : decode cX9_twelfthsGiven 58 = .ok (.getfield 15, 3) := by decide +kernel
theorem dX9_twelfthsGiven_61 : decode cX9_twelfthsGiven 61 = .ok (.iload 4, 2) := by decide +kernel
theorem dX9_twelfthsGiven_63 : decode cX9_twelfthsGiven 63 = .ok (.iaload, 1) := by decide +kernel
theorem dX9_twelfthsGiven_64 : decode cX9_twelfthsGiven 64 = .ok (.bipush (-2), 2) := by decide +kernel
theorem dX9_twelfthsGiven_66 : decode cX9_twelfthsGiven 66 = .ok (.if_icmp .ne 23, 3) := by decide +kernel
theorem dX9_twelfthsGiven_69 : decode cX9_twelfthsGiven 69 = .ok (.aload_n 0, 1) := by decide +kernel
theorem dX9_twelfthsGiven_70 : decode cX9_twelfthsGiven 70 = .ok (.getfield 15, 3) := by decide +kernel
theorem dX9_twelfthsGiven_73 : decode cX9_twelfthsGiven 73 = .ok (.iload 4, 2) := by decide +kernel
theorem dX9_twelfthsGiven_75 : decode cX9_twelfthsGiven 75 = .ok (.aload_n 0, 1) := by decide +kernel
theorem dX9_twelfthsGiven_76 : decode cX9_twelfthsGiven 76 = .ok (.getfield 32, 3) := by decide +kernel
theorem dX9_twelfthsGiven_79 : decode cX9_twelfthsGiven 79 = .ok (.aload_n 0, 1) := by decide +kernel
theorem dX9_twelfthsGiven_80 : decode cX9_twelfthsGiven 80 = .ok (.getfield 21, 3) := by decide +kernel
theorem dX9_twelfthsGiven_83 : decode cX9_twelfthsGiven 83 = .ok (.iload_n 1, 1) := by decide +kernel
theorem dX9_twelfthsGiven_84 : decode cX9_twelfthsGiven 84 = .ok (.iload_n 2, 1) := by decide +kernel
theorem dX9_twelfthsGiven_85 : decode cX9_twelfthsGiven 85 = .ok (.invokevirtual 110, 3) := by decide +kernel
theorem dX9_twelfthsGiven_88 : decode cX9_twelfthsGiven 88 = .ok (.iastore, 1) := by decide +kernel
theorem dX9_twelfthsGiven_89 : decode cX9_twelfthsGiven 89 = .ok (.aload_n 0, 1) := by decide +kernel
theorem dX9_twelfthsGiven_90 : decode cX9_twelfthsGiven 90 = .ok (.getfield 15, 3) := by decide +kernel
theorem dX9_twelfthsGiven_93 : decode cX9_twelfthsGiven 93 = .ok (.iload 4, 2) := by decide +kernel
theorem dX9_twelfthsGiven_95 : decode cX9_twelfthsGiven 95 = .ok (.iaload, 1) := by decide +kernel
theorem dX9_twelfthsGiven_96 : decode cX9_twelfthsGiven 96 = .ok (.ireturn, 1) := by decide +kernel
theorem dX9_fewestSure_0 : decode cX9_fewestSure 0 = .ok (.aload_n 0, 1) := by decide +kernel
theorem dX9_fewestSure_1 : decode cX9_fewestSure 1 = .ok (.getfield 28, 3) := by decide +kernel
theorem dX9_fewestSure_4 : decode cX9_fewestSure 4 = .ok (.iconst 0, 1) := by decide +kernel
theorem dX9_fewestSure_5 : decode cX9_fewestSure 5 = .ok (.aaload, 1) := by decide +kernel
theorem dX9_fewestSure_6 : decode cX9_fewestSure 6 = .ok (.aload_n 1, 1) := by decide +kernel
theorem dX9_fewestSure_7 : decode cX9_fewestSure 7 = .ok (.invokevirtual 97, 3) := by decide +kernel
theorem dX9_fewestSure_10 : decode cX9_fewestSure 10 = .ok (.aload_n 0, 1) := by decide +kernel
theorem dX9_fewestSure_11 : decode cX9_fewestSure 11 = .ok (.iconst 0, 1) := by decide +kernel
theorem dX9_fewestSure_12 : decode cX9_fewestSure 12 = .ok (.iload_n 2, 1) := by decide +kernel
theorem dX9_fewestSure_13 : decode cX9_fewestSure 13 = .ok (.iload_n 3, 1) := by decide +kernel
theorem dX9_fewestSure_14 : decode cX9_fewestSure 14 = .ok (.invokevirtual 114, 3) := by decide +kernel
theorem dX9_fewestSure_17 : decode cX9_fewestSure 17 = .ok (.istore 4, 2) := by decide +kernel
theorem dX9_fewestSure_19 : decode cX9_fewestSure 19 = .ok (.iload 4, 2) := by decide +kernel
theorem dX9_fewestSure_21 : decode cX9_fewestSure 21 = .ok (.bipush 6, 2) := by decide +kernel
theorem dX9_fewestSure_23 : decode cX9_fewestSure 23 = .ok (.if_icmp .le 8, 3) := by decide +kernel
theorem dX9_fewestSure_26 : decode cX9_fewestSure 26 = .ok (.bipush (-2), 2) := by decide +kernel
theorem dX9_fewestSure_28 : decode cX9_fewestSure 28 = .ok (.goto 5, 3) := by decide +kernel
theorem dX9_fewestSure_31 : decode cX9_fewestSure 31 = .ok (.iload 4, 2) := by decide +kernel
theorem dX9_fewestSure_33 : decode cX9_fewestSure 33 = .ok (.ireturn, 1) := by decide +kernel
theorem dX9_fewestSureFrom_0 : decode cX9_fewestSureFrom 0 = .ok (.sipush 1000, 3) := by decide +kernel
theorem dX9_fewestSureFrom_3 : decode cX9_fewestSureFrom 3 = .ok (.istore 4, 2) := by decide +kernel
theorem dX9_fewestSureFrom_5 : decode cX9_fewestSureFrom 5 = .ok (.iload_n 1, 1) := by decide +kernel
theorem dX9_fewestSureFrom_6 : decode cX9_fewestSureFrom 6 = .ok (.ifCond .lt 9, 3) := by decide +kernel
theorem dX9_fewestSureFrom_9 : decode cX9_fewestSureFrom 9 = .ok (.iload_n 1, 1) := by decide +kernel
theorem dX9_fewestSureFrom_10 : decode cX9_fewestSureFrom 10 = .ok (.bipush 6, 2) := by decide +kernel
theorem dX9_fewestSureFrom_12 : decode cX9_fewestSureFrom 12 = .ok (.if_icmp .lt 6, 3) := by decide +kernel
theorem dX9_fewestSureFrom_15 : decode cX9_fewestSureFrom 15 = .ok (.iload 4, 2) := by decide +kernel
theorem dX9_fewestSureFrom_17 : decode cX9_fewestSureFrom 17 = .ok (.ireturn, 1) := by decide +kernel
theorem dX9_fewestSureFrom_18 : decode cX9_fewestSureFrom 18 = .ok (.iconst 0, 1) := by decide +kernel
theorem dX9_fewestSureFrom_19 : decode cX9_fewestSureFrom 19 = .ok (.istore 5, 2) := by decide +kernel
theorem dX9_fewestSureFrom_21 : decode cX9_fewestSureFrom 21 = .ok (.iload 5, 2) := by decide +kernel
theorem dX9_fewestSureFrom_23 : decode cX9_fewestSureFrom 23 = .ok (.aload_n 0, 1) := by decide +kernel
theorem dX9_fewestSureFrom_24 : decode cX9_fewestSureFrom 24 = .ok (.getfield 32, 3) := by decide +kernel
theorem dX9_fewestSureFrom_27 : decode cX9_fewestSureFrom 27 = .ok (.invokevirtual 74, 3) := by decide +kernel
theorem dX9_fewestSureFrom_30 : decode cX9_fewestSureFrom 30 = .ok (.invokevirtual 80, 3) := by decide +kernel
theorem dX9_fewestSureFrom_33 : decode cX9_fewestSureFrom 33 = .ok (.if_icmp .ge 119, 3) := by decide +kernel
theorem dX9_fewestSureFrom_36 : decode cX9_fewestSureFrom 36 = .ok (.iload 5, 2) := by decide +kernel
theorem dX9_fewestSureFrom_38 : decode cX9_fewestSureFrom 38 = .ok (.iload_n 2, 1) := by decide +kernel
theorem dX9_fewestSureFrom_39 : decode cX9_fewestSureFrom 39 = .ok (.if_icmp .ne 7, 3) := by decide +kernel
theorem dX9_fewestSureFrom_42 : decode cX9_fewestSureFrom 42 = .ok (.iconst 0, 1) := by decide +kernel
theorem dX9_fewestSureFrom_43 : decode cX9_fewestSureFrom 43 = .ok (.goto 19, 3) := by decide +kernel
theorem dX9_fewestSureFrom_46 : decode cX9_fewestSureFrom 46 = .ok (.aload_n 0, 1) := by decide +kernel
theorem dX9_fewestSureFrom_47 : decode cX9_fewestSureFrom 47 = .ok (.getfield 32, 3) := by decide +kernel
theorem dX9_fewestSureFrom_50 : decode cX9_fewestSureFrom 50 = .ok (.aload_n 0, 1) := by decide +kernel
theorem dX9_fewestSureFrom_51 : decode cX9_fewestSureFrom 51 = .ok (.getfield 28, 3) := by decide +kernel
theorem dX9_fewestSureFrom_54 : decode cX9_fewestSureFrom 54 = .ok (.iload_n 1, 1) := by decide +kernel
theorem dX9_fewestSureFrom_55 : decode cX9_fewestSureFrom 55 = .ok (.aaload, 1) := by decide +kernel
theorem dX9_fewestSureFrom_56 : decode cX9_fewestSureFrom 56 = .ok (.iload_n 2, 1) := by decide +kernel
theorem dX9_fewestSureFrom_57 : decode cX9_fewestSureFrom 57 = .ok (.iload 5, 2) := by decide +kernel
theorem dX9_fewestSureFrom_59 : decode cX9_fewestSureFrom 59 = .ok (.invokevirtual 110, 3) := by decide +kernel
theorem dX9_fewestSureFrom_62 : decode cX9_fewestSureFrom 62 = .ok (.istore 6, 2) := by decide +kernel
theorem dX9_fewestSureFrom_64 : decode cX9_fewestSureFrom 64 = .ok (.iload 5, 2) := by decide +kernel
theorem dX9_fewestSureFrom_66 : decode cX9_fewestSureFrom 66 = .ok (.iload_n 2, 1) := by decide +kernel
theorem dX9_fewestSureFrom_67 : decode cX9_fewestSureFrom 67 = .ok (.if_icmp .eq 79, 3) := by decide +kernel
theorem dX9_fewestSureFrom_70 : decode cX9_fewestSureFrom 70 = .ok (.iload 5, 2) := by decide +kernel
theorem dX9_fewestSureFrom_72 : decode cX9_fewestSureFrom 72 = .ok (.iload_n 3, 1) := by decide +kernel
theorem dX9_fewestSureFrom_73 : decode cX9_fewestSureFrom 73 = .ok (.if_icmp .eq 10, 3) := by decide +kernel
theorem dX9_fewestSureFrom_76 : decode cX9_fewestSureFrom 76 = .ok (.iload 6, 2) := by decide +kernel
theorem dX9_fewestSureFrom_78 : decode cX9_fewestSureFrom 78 = .ok (.bipush 12, 2) := by decide +kernel
theorem dX9_fewestSureFrom_80 : decode cX9_fewestSureFrom 80 = .ok (.if_icmp .ne 66, 3) := by decide +kernel
theorem dX9_fewestSureFrom_83 : decode cX9_fewestSureFrom 83 = .ok (.iconst 1, 1) := by decide +kernel
theorem dX9_fewestSureFrom_84 : decode cX9_fewestSureFrom 84 = .ok (.istore 7, 2) := by decide +kernel
theorem dX9_fewestSureFrom_86 : decode cX9_fewestSureFrom 86 = .ok (.iload 6, 2) := by decide +kernel
theorem dX9_fewestSureFrom_88 : decode cX9_fewestSureFrom 88 = .ok (.ifCond .le 49, 3) := by decide +kernel
theorem dX9_fewestSureFrom_91 : decode cX9_fewestSureFrom 91 = .ok (.aload_n 0, 1) := by decide +kernel
theorem dX9_fewestSureFrom_92 : decode cX9_fewestSureFrom 92 = .ok (.getfield 28, 3) := by decide +kernel
theorem dX9_fewestSureFrom_95 : decode cX9_fewestSureFrom 95 = .ok (.iload_n 1, 1) := by decide +kernel
theorem dX9_fewestSureFrom_96 : decode cX9_fewestSureFrom 96 = .ok (.iconst 1, 1) := by decide +kernel
theorem dX9_fewestSureFrom_97 : decode cX9_fewestSureFrom 97 = .ok (.iadd, 1) := by decide +kernel
theorem dX9_fewestSureFrom_98 : decode cX9_fewestSureFrom 98 = .ok (.aaload, 1) := by decide +kernel
theorem dX9_fewestSureFrom_99 : decode cX9_fewestSureFrom 99 = .ok (.aload_n 0, 1) := by decide +kernel
theorem dX9_fewestSureFrom_100 : decode cX9_fewestSureFrom 100 = .ok (.getfield 28, 3) := by decide +kernel
theorem dX9_fewestSureFrom_103 : decode cX9_fewestSureFrom 103 = .ok (.iload_n 1, 1) := by decide +kernel
theorem dX9_fewestSureFrom_104 : decode cX9_fewestSureFrom 104 = .ok (.aaload, 1) := by decide +kernel
theorem dX9_fewestSureFrom_105 : decode cX9_fewestSureFrom 105 = .ok (.invokevirtual 97, 3) := by decide +kernel
theorem dX9_fewestSureFrom_108 : decode cX9_fewestSureFrom 108 = .ok (.aload_n 0, 1) := by decide +kernel
theorem dX9_fewestSureFrom_109 : decode cX9_fewestSureFrom 109 = .ok (.getfield 28, 3) := by decide +kernel
theorem dX9_fewestSureFrom_112 : decode cX9_fewestSureFrom 112 = .ok (.iload_n 1, 1) := by decide +kernel
theorem dX9_fewestSureFrom_113 : decode cX9_fewestSureFrom 113 = .ok (.iconst 1, 1) := by decide +kernel
theorem dX9_fewestSureFrom_114 : decode cX9_fewestSureFrom 114 = .ok (.iadd, 1) := by decide +kernel
theorem dX9_fewestSureFrom_115 : decode cX9_fewestSureFrom 115 = .ok (.aaload, 1) := by decide +kernel
theorem dX9_fewestSureFrom_116 : decode cX9_fewestSureFrom 116 = .ok (.iload_n 2, 1) := by decide +kernel
theorem dX9_fewestSureFrom_117 : decode cX9_fewestSureFrom 117 = .ok (.iload 5, 2) := by decide +kernel
theorem dX9_fewestSureFrom_119 : decode cX9_fewestSureFrom 119 = .ok (.iconst 1, 1) := by decide +kernel
theorem dX9_fewestSureFrom_120 : decode cX9_fewestSureFrom 120 = .ok (.invokevirtual 100, 3) := by decide +kernel
theorem dX9_fewestSureFrom_123 : decode cX9_fewestSureFrom 123 = .ok (.iload 7, 2) := by decide +kernel
theorem dX9_fewestSureFrom_125 : decode cX9_fewestSureFrom 125 = .ok (.aload_n 0, 1) := by decide +kernel
theorem dX9_fewestSureFrom_126 : decode cX9_fewestSureFrom 126 = .ok (.iload_n 1, 1) := by decide +kernel
theorem dX9_fewestSureFrom_127 : decode cX9_fewestSureFrom 127 = .ok (.iconst 1, 1) := by decide +kernel
theorem dX9_fewestSureFrom_128 : decode cX9_fewestSureFrom 128 = .ok (.iadd, 1) := by decide +kernel
theorem dX9_fewestSureFrom_129 : decode cX9_fewestSureFrom 129 = .ok (.iload_n 2, 1) := by decide +kernel
theorem dX9_fewestSureFrom_130 : decode cX9_fewestSureFrom 130 = .ok (.iload_n 3, 1) := by decide +kernel
theorem dX9_fewestSureFrom_131 : decode cX9_fewestSureFrom 131 = .ok (.invokevirtual 114, 3) := by decide +kernel
theorem dX9_fewestSureFrom_134 : decode cX9_fewestSureFrom 134 = .ok (.iadd, 1) := by decide +kernel
theorem dX9_fewestSureFrom_135 : decode cX9_fewestSureFrom 135 = .ok (.istore 7, 2) := by decide +kernel
theorem dX9_fewestSureFrom_137 : decode cX9_fewestSureFrom 137 = .ok (.iload 4, 2) := by decide +kernel
theorem dX9_fewestSureFrom_139 : decode cX9_fewestSureFrom 139 = .ok (.iload 7, 2) := by decide +kernel
theorem dX9_fewestSureFrom_141 : decode cX9_fewestSureFrom 141 = .ok (.invokestatic 118, 3) := by decide +kernel
theorem dX9_fewestSureFrom_144 : decode cX9_fewestSureFrom 144 = .ok (.istore 4, 2) := by decide +kernel
theorem dX9_fewestSureFrom_146 : decode cX9_fewestSureFrom 146 = .ok (.iinc 5 1, 3) := by decide +kernel
theorem dX9_fewestSureFrom_149 : decode cX9_fewestSureFrom 149 = .ok (.goto (-128), 3) := by decide +kernel
theorem dX9_fewestSureFrom_152 : decode cX9_fewestSureFrom 152 = .ok (.iload 4, 2) := by decide +kernel
theorem dX9_fewestSureFrom_154 : decode cX9_fewestSureFrom 154 = .ok (.ireturn, 1) := by decide +kernel
theorem dX10_init_0 : decode cX10_init 0 = .ok (.aload_n 0, 1) := by decide +kernel
theorem dX10_init_1 : decode cX10_init 1 = .ok (.invokespecial 3, 3) := by decide +kernel
theorem dX10_init_4 : decode cX10_init 4 = .ok (.aload_n 0, 1) := by decide +kernel
theorem dX10_init_5 : decode cX10_init 5 = .ok (.bipush 60, 2) := by decide +kernel
theorem dX10_init_7 : decode cX10_init 7 = .ok (.newarray .long, 2) := by decide +kernel
theorem dX10_init_9 : decode cX10_init 9 = .ok (.putfield 9, 3) := by decide +kernel
theorem dX10_init_12 : decode cX10_init 12 = .ok (.aload_n 0, 1) := by decide +kernel
theorem dX10_init_13 : decode cX10_init 13 = .ok (.iconst 0, 1) := by decide +kernel
theorem dX10_init_14 : decode cX10_init 14 = .ok (.putfield 15, 3) := by decide +kernel
theorem dX10_init_17 : decode cX10_init 17 = .ok (.aload_n 0, 1) := by decide +kernel
theorem dX10_init_18 : decode cX10_init 18 = .ok (.iconst (-1), 1) := by decide +kernel
theorem dX10_init_19 : decode cX10_init 19 = .ok (.putfield 19, 3) := by decide +kernel
theorem dX10_init_22 : decode cX10_init 22 = .ok (.aload_n 0, 1) := by decide +kernel
theorem dX10_init_23 : decode cX10_init 23 = .ok (.iconst (-1), 1) := by decide +kernel
theorem dX10_init_24 : decode cX10_init 24 = .ok (.putfield 22, 3) := by decide +kernel
theorem dX10_init_27 : decode cX10_init 27 = .ok (.return_, 1) := by decide +kernel
theorem dX10_isSort_0 : decode cX10_isSort 0 = .ok (.iload_n 0, 1) := by decide +kernel
theorem dX10_isSort_1 : decode cX10_isSort 1 = .ok (.ifCond .lt 12, 3) := by decide +kernel
theorem dX10_isSort_4 : decode cX10_isSort 4 = .ok (.iload_n 0, 1) := by decide +kernel
theorem dX10_isSort_5 : decode cX10_isSort 5 = .ok (.iconst 4, 1) := by decide +kernel
theorem dX10_isSort_6 : decode cX10_isSort 6 = .ok (.if_icmp .gt 7, 3) := by decide +kernel
theorem dX10_isSort_9 : decode cX10_isSort 9 = .ok (.iconst 1, 1) := by decide +kernel
theorem dX10_isSort_10 : decode cX10_isSort 10 = .ok (.goto 4, 3) := by decide +kernel
theorem dX10_isSort_13 : decode cX10_isSort 13 = .ok (.iconst 0, 1) := by decide +kernel
theorem dX10_isSort_14 : decode cX10_isSort 14 = .ok (.ireturn, 1) := by decide +kernel
theorem dX10_isEmpty_0 : decode cX10_isEmpty 0 = .ok (.aload_n 0, 1) := by decide +kernel
theorem dX10_isEmpty_1 : decode cX10_isEmpty 1 = .ok (.getfield 19, 3) := by decide +kernel
theorem dX10_isEmpty_4 : decode cX10_isEmpty 4 = .ok (.iconst (-1), 1) := by decide +kernel
theorem dX10_isEmpty_5 : decode cX10_isEmpty 5 = .ok (.if_icmp .ne 15, 3) := by decide +kernel
theorem dX10_isEmpty_8 : decode cX10_isEmpty 8 = .ok (.aload_n 0, 1) := by decide +kernel
theorem dX10_isEmpty_9 : decode cX10_isEmpty 9 = .ok (.getfield 22, 3) := by decide +kernel
theorem dX10_isEmpty_12 : decode cX10_isEmpty 12 = .ok (.iconst (-1), 1) := by decide +kernel
theorem dX10_isEmpty_13 : decode cX10_isEmpty 13 = .ok (.if_icmp .ne 7, 3) := by decide +kernel
theorem dX10_isEmpty_16 : decode cX10_isEmpty 16 = .ok (.iconst 1, 1) := by decide +kernel
theorem dX10_isEmpty_17 : decode cX10_isEmpty 17 = .ok (.goto 4, 3) := by decide +kernel
theorem dX10_isEmpty_20 : decode cX10_isEmpty 20 = .ok (.iconst 0, 1) := by decide +kernel
theorem dX10_isEmpty_21 : decode cX10_isEmpty 21 = .ok (.ireturn, 1) := by decide +kernel
theorem dX10_hasBytes_0 : decode cX10_hasBytes 0 = .ok (.aload_n 0, 1) := by decide +kernel
theorem dX10_hasBytes_1 : decode cX10_hasBytes 1 = .ok (.getfield 19, 3) := by decide +kernel
theorem dX10_hasBytes_4 : decode cX10_hasBytes 4 = .ok (.ifCond .ne 7, 3) := by decide +kernel
theorem dX10_hasBytes_7 : decode cX10_hasBytes 7 = .ok (.iconst 1, 1) := by decide +kernel
theorem dX10_hasBytes_8 : decode cX10_hasBytes 8 = .ok (.goto 4, 3) := by decide +kernel
theorem dX10_hasBytes_11 : decode cX10_hasBytes 11 = .ok (.iconst 0, 1) := by decide +kernel
theorem dX10_hasBytes_12 : decode cX10_hasBytes 12 = .ok (.ireturn, 1) := by decide +kernel
theorem dX10_size_0 : decode cX10_size 0 = .ok (.aload_n 0, 1) := by decide +kernel
theorem dX10_size_1 : decode cX10_size 1 = .ok (.getfield 15, 3) := by decide +kernel
theorem dX10_size_4 : decode cX10_size 4 = .ok (.ireturn, 1) := by decide +kernel
theorem dX10_heldBody_0 : decode cX10_heldBody 0 = .ok (.aload_n 0, 1) := by decide +kernel
theorem dX10_heldBody_1 : decode cX10_heldBody 1 = .ok (.getfield 22, 3) := by decide +kernel
theorem dX10_heldBody_4 : decode cX10_heldBody 4 = .ok (.ireturn, 1) := by decide +kernel
theorem dX10_clear_0 : decode cX10_clear 0 = .ok (.aload_n 0, 1) := by decide +kernel
theorem dX10_clear_1 : decode cX10_clear 1 = .ok (.iconst 0, 1) := by decide +kernel
theorem dX10_clear_2 : decode cX10_clear 2 = .ok (.putfield 15, 3) := by decide +kernel
theorem dX10_clear_5 : decode cX10_clear 5 = .ok (.aload_n 0, 1) := by decide +kernel
theorem dX10_clear_6 : decode cX10_clear 6 = .ok (.iconst (-1), 1) := by decide +kernel
theorem dX10_clear_7 : decode cX10_clear 7 = .ok (.putfield 19, 3) := by decide +kernel
theorem dX10_clear_10 : decode cX10_clear 10 = .ok (.aload_n 0, 1) := by decide +kernel
theorem dX10_clear_11 : decode cX10_clear 11 = .ok (.iconst (-1), 1) := by decide +kernel
theorem dX10_clear_12 : decode cX10_clear 12 = .ok (.putfield 22, 3) := by decide +kernel
theorem dX10_clear_15 : decode cX10_clear 15 = .ok (.return_, 1) := by decide +kernel
theorem dX10_holdBody_0 : decode cX10_holdBody 0 = .ok (.aload_n 0, 1) := by decide +kernel
theorem dX10_holdBody_1 : decode cX10_holdBody 1 = .ok (.invokevirtual 25, 3) := by decide +kernel
theorem dX10_holdBody_4 : decode cX10_holdBody 4 = .ok (.aload_n 0, 1) := by decide +kernel
theorem dX10_holdBody_5 : decode cX10_holdBody 5 = .ok (.iload_n 1, 1) := by decide +kernel
theorem dX10_holdBody_6 : decode cX10_holdBody 6 = .ok (.putfield 22, 3) := by decide +kernel
theorem dX10_holdBody_9 : decode cX10_holdBody 9 = .ok (.return_, 1) := by decide +kernel
theorem dX10_holdRow_0 : decode cX10_holdRow 0 = .ok (.aload_n 0, 1) := by decide +kernel
theorem dX10_holdRow_1 : decode cX10_holdRow 1 = .ok (.invokevirtual 25, 3) := by decide +kernel
theorem dX10_holdRow_4 : decode cX10_holdRow 4 = .ok (.aload_n 0, 1) := by decide +kernel
theorem dX10_holdRow_5 : decode cX10_holdRow 5 = .ok (.iload_n 1, 1) := by decide +kernel
theorem dX10_holdRow_6 : decode cX10_holdRow 6 = .ok (.putfield 19, 3) := by decide +kernel
theorem dX10_holdRow_9 : decode cX10_holdRow 9 = .ok (.aload_n 0, 1) := by decide +kernel
theorem dX10_holdRow_10 : decode cX10_holdRow 10 = .ok (.iconst 0, 1) := by decide +kernel
theorem dX10_holdRow_11 : decode cX10_holdRow 11 = .ok (.bipush 60, 2) := by decide +kernel
theorem dX10_holdRow_13 : decode cX10_holdRow 13 = .ok (.iload_n 2, 1) := by decide +kernel
theorem dX10_holdRow_14 : decode cX10_holdRow 14 = .ok (.invokestatic 28, 3) := by decide +kernel
theorem dX10_holdRow_17 : decode cX10_holdRow 17 = .ok (.invokestatic 34, 3) := by decide +kernel
theorem dX10_holdRow_20 : decode cX10_holdRow 20 = .ok (.putfield 15, 3) := by decide +kernel
theorem dX10_holdRow_23 : decode cX10_holdRow 23 = .ok (.iconst 0, 1) := by decide +kernel
theorem dX10_holdRow_24 : decode cX10_holdRow 24 = .ok (.istore_n 3, 1) := by decide +kernel
theorem dX10_holdRow_25 : decode cX10_holdRow 25 = .ok (.iload_n 3, 1) := by decide +kernel
theorem dX10_holdRow_26 : decode cX10_holdRow 26 = .ok (.aload_n 0, 1) := by decide +kernel
theorem dX10_holdRow_27 : decode cX10_holdRow 27 = .ok (.getfield 15, 3) := by decide +kernel
theorem dX10_holdRow_30 : decode cX10_holdRow 30 = .ok (.if_icmp .ge 16, 3) := by decide +kernel
theorem dX10_holdRow_33 : decode cX10_holdRow 33 = .ok (.aload_n 0, 1) := by decide +kernel
theorem dX10_holdRow_34 : decode cX10_holdRow 34 = .ok (.getfield 9, 3) := by decide +kernel
theorem dX10_holdRow_37 : decode cX10_holdRow 37 = .ok (.iload_n 3, 1) := by decide +kernel
theorem dX10_holdRow_38 : decode cX10_holdRow 38 = .ok (.lconst 0, 1) := by decide +kernel
theorem dX10_holdRow_39 : decode cX10_holdRow 39 = .ok (.lastore, 1) := by decide +kernel
theorem dX10_holdRow_40 : decode cX10_holdRow 40 = .ok (.iinc 3 1, 3) := by decide +kernel
theorem dX10_holdRow_43 : decode cX10_holdRow 43 = .ok (.goto (-18), 3) := by decide +kernel
theorem dX10_holdRow_46 : decode cX10_holdRow 46 = .ok (.return_, 1) := by decide +kernel
theorem dX10_refusalOfBytes_0 : decode cX10_refusalOfBytes 0 = .ok (.aload_n 0, 1) := by decide +kernel
theorem dX10_refusalOfBytes_1 : decode cX10_refusalOfBytes 1 = .ok (.invokevirtual 37, 3) := by decide +kernel
theorem dX10_refusalOfBytes_4 : decode cX10_refusalOfBytes 4 = .ok (.ifCond .eq 6, 3) := by decide +kernel
theorem dX10_refusalOfBytes_7 : decode cX10_refusalOfBytes 7 = .ok (.bipush (-11), 2) := by decide +kernel
theorem dX10_refusalOfBytes_9 : decode cX10_refusalOfBytes 9 = .ok (.ireturn, 1) := by decide +kernel
theorem dX10_refusalOfBytes_10 : decode cX10_refusalOfBytes 10 = .ok (.aload_n 0, 1) := by decide +kernel
theorem dX10_refusalOfBytes_11 : decode cX10_refusalOfBytes 11 = .ok (.invokevirtual 41, 3) := by decide +kernel
theorem dX10_refusalOfBytes_14 : decode cX10_refusalOfBytes 14 = .ok (.ifCond .eq 7, 3) := by decide +kernel
theorem dX10_refusalOfBytes_17 : decode cX10_refusalOfBytes 17 = .ok (.iconst 0, 1) := by decide +kernel
theorem dX10_refusalOfBytes_18 : decode cX10_refusalOfBytes 18 = .ok (.goto 5, 3) := by decide +kernel
theorem dX10_refusalOfBytes_21 : decode cX10_refusalOfBytes 21 = .ok (.bipush (-12), 2) := by decide +kernel
theorem dX10_refusalOfBytes_23 : decode cX10_refusalOfBytes 23 = .ok (.ireturn, 1) := by decide +kernel
theorem dX10_refusalOfPlace_0 : decode cX10_refusalOfPlace 0 = .ok (.aload_n 0, 1) := by decide +kernel
theorem dX10_refusalOfPlace_1 : decode cX10_refusalOfPlace 1 = .ok (.invokevirtual 37, 3) := by decide +kernel
theorem dX10_refusalOfPlace_4 : decode cX10_refusalOfPlace 4 = .ok (.ifCond .eq 6, 3) := by decide +kernel
theorem dX10_refusalOfPlace_7 : decode cX10_refusalOfPlace 7 = .ok (.bipush (-11), 2) := by decide +kernel
theorem dX10_refusalOfPlace_9 : decode cX10_refusalOfPlace 9 = .ok (.ireturn, 1) := by decide +kernel
theorem dX10_refusalOfPlace_10 : decode cX10_refusalOfPlace 10 = .ok (.aload_n 0, 1) := by decide +kernel
theorem dX10_refusalOfPlace_11 : decode cX10_refusalOfPlace 11 = .ok (.getfield 19, 3) := by decide +kernel
theorem dX10_refusalOfPlace_14 : decode cX10_refusalOfPlace 14 = .ok (.iconst (-1), 1) := by decide +kernel
theorem dX10_refusalOfPlace_15 : decode cX10_refusalOfPlace 15 = .ok (.if_icmp .ne 6, 3) := by decide +kernel
theorem dX10_refusalOfPlace_18 : decode cX10_refusalOfPlace 18 = .ok (.bipush (-12), 2) := by decide +kernel
theorem dX10_refusalOfPlace_20 : decode cX10_refusalOfPlace 20 = .ok (.ireturn, 1) := by decide +kernel
theorem dX10_refusalOfPlace_21 : decode cX10_refusalOfPlace 21 = .ok (.iload_n 1, 1) := by decide +kernel
theorem dX10_refusalOfPlace_22 : decode cX10_refusalOfPlace 22 = .ok (.ifCond .lt 11, 3) := by decide +kernel
theorem dX10_refusalOfPlace_25 : decode cX10_refusalOfPlace 25 = .ok (.iload_n 1, 1) := by decide +kernel
theorem dX10_refusalOfPlace_26 : decode cX10_refusalOfPlace 26 = .ok (.aload_n 0, 1) := by decide +kernel
theorem dX10_refusalOfPlace_27 : decode cX10_refusalOfPlace 27 = .ok (.getfield 15, 3) := by decide +kernel
theorem dX10_refusalOfPlace_30 : decode cX10_refusalOfPlace 30 = .ok (.if_icmp .lt 8, 3) := by decide +kernel
theorem dX10_refusalOfPlace_33 : decode cX10_refusalOfPlace 33 = .ok (.bipush (-13), 2) := by decide +kernel
theorem dX10_refusalOfPlace_35 : decode cX10_refusalOfPlace 35 = .ok (.goto 4, 3) := by decide +kernel
theorem dX10_refusalOfPlace_38 : decode cX10_refusalOfPlace 38 = .ok (.iconst 0, 1) := by decide +kernel
theorem dX10_refusalOfPlace_39 : decode cX10_refusalOfPlace 39 = .ok (.ireturn, 1) := by decide +kernel
theorem dX10_get_0 : decode cX10_get 0 = .ok (.iload_n 1, 1) := by decide +kernel
theorem dX10_get_1 : decode cX10_get 1 = .ok (.ifCond .lt 20, 3) := by decide +kernel
theorem dX10_get_4 : decode cX10_get 4 = .ok (.iload_n 1, 1) := by decide +kernel
theorem dX10_get_5 : decode cX10_get 5 = .ok (.aload_n 0, 1) := by decide +kernel
theorem dX10_get_6 : decode cX10_get 6 = .ok (.getfield 15, 3) := by decide +kernel
theorem dX10_get_9 : decode cX10_get 9 = .ok (.if_icmp .ge 12, 3) := by decide +kernel
theorem dX10_get_12 : decode cX10_get 12 = .ok (.aload_n 0, 1) := by decide +kernel
theorem dX10_get_13 : decode cX10_get 13 = .ok (.getfield 9, 3) := by decide +kernel
theorem dX10_get_16 : decode cX10_get 16 = .ok (.iload_n 1, 1) := by decide +kernel
theorem dX10_get_17 : decode cX10_get 17 = .ok (.laload, 1) := by decide +kernel
theorem dX10_get_18 : decode cX10_get 18 = .ok (.goto 4, 3) := by decide +kernel
theorem dX10_get_21 : decode cX10_get 21 = .ok (.lconst 0, 1) := by decide +kernel
theorem dX10_get_22 : decode cX10_get 22 = .ok (.lreturn, 1) := by decide +kernel
theorem dX10_getInt_0 : decode cX10_getInt 0 = .ok (.aload_n 0, 1) := by decide +kernel
theorem dX10_getInt_1 : decode cX10_getInt 1 = .ok (.iload_n 1, 1) := by decide +kernel
theorem dX10_getInt_2 : decode cX10_getInt 2 = .ok (.invokevirtual 44, 3) := by decide +kernel
theorem dX10_getInt_5 : decode cX10_getInt 5 = .ok (.l2i, 1) := by decide +kernel
theorem dX10_getInt_6 : decode cX10_getInt 6 = .ok (.ireturn, 1) := by decide +kernel
theorem dX10_set_0 : decode cX10_set 0 = .ok (.iload_n 1, 1) := by decide +kernel
theorem dX10_set_1 : decode cX10_set 1 = .ok (.ifCond .lt 22, 3) := by decide +kernel
theorem dX10_set_4 : decode cX10_set 4 = .ok (.iload_n 1, 1) := by decide +kernel
theorem dX10_set_5 : decode cX10_set 5 = .ok (.aload_n 0, 1) := by decide +kernel
theorem dX10_set_6 : decode cX10_set 6 = .ok (.getfield 15, 3) := by decide +kernel
theorem dX10_set_9 : decode cX10_set 9 = .ok (.if_icmp .ge 14, 3) := by decide +kernel
theorem dX10_set_12 : decode cX10_set 12 = .ok (.aload_n 0, 1) := by decide +kernel
theorem dX10_set_13 : decode cX10_set 13 = .ok (.getfield 9, 3) := by decide +kernel
theorem dX10_set_16 : decode cX10_set 16 = .ok (.iload_n 1, 1) := by decide +kernel
theorem dX10_set_17 : decode cX10_set 17 = .ok (.aload_n 0, 1) := by decide +kernel
theorem dX10_set_18 : decode cX10_set 18 = .ok (.lload_n 2, 1) := by decide +kernel
theorem dX10_set_19 : decode cX10_set 19 = .ok (.invokevirtual 48, 3) := by decide +kernel
theorem dX10_set_22 : decode cX10_set 22 = .ok (.lastore, 1) := by decide +kernel
theorem dX10_set_23 : decode cX10_set 23 = .ok (.return_, 1) := by decide +kernel
theorem dX10_lowestBits_0 : decode cX10_lowestBits 0 = .ok (.aload_n 0, 1) := by decide +kernel
theorem dX10_lowestBits_1 : decode cX10_lowestBits 1 = .ok (.getfield 19, 3) := by decide +kernel
theorem dX10_lowestBits_4 : decode cX10_lowestBits 4 = .ok (.tableswitch 48 0 3 #[32, 37, 42, 46], 32) := by decide +kernel
theorem dX10_lowestBits_36 : decode cX10_lowestBits 36 = .ok (.lload_n 1, 1) := by decide +kernel
theorem dX10_lowestBits_37 : decode cX10_lowestBits 37 = .ok (.l2i, 1) := by decide +kernel
theorem dX10_lowestBits_38 : decode cX10_lowestBits 38 = .ok (.i2b, 1) := by decide +kernel
theorem dX10_lowestBits_39 : decode cX10_lowestBits 39 = .ok (.i2l, 1) := by decide +kernel
theorem dX10_lowestBits_40 : decode cX10_lowestBits 40 = .ok (.lreturn, 1) := by decide +kernel
theorem dX10_lowestBits_41 : decode cX10_lowestBits 41 = .ok (.lload_n 1, 1) := by decide +kernel
theorem dX10_lowestBits_42 : decode cX10_lowestBits 42 = .ok (.l2i, 1) := by decide +kernel
theorem dX10_lowestBits_43 : decode cX10_lowestBits 43 = .ok (.i2s, 1) := by decide +kernel
theorem dX10_lowestBits_44 : decode cX10_lowestBits 44 = .ok (.i2l, 1) := by decide +kernel
theorem dX10_lowestBits_45 : decode cX10_lowestBits 45 = .ok (.lreturn, 1) := by decide +kernel
theorem dX10_lowestBits_46 : decode cX10_lowestBits 46 = .ok (.lload_n 1, 1) := by decide +kernel
theorem dX10_lowestBits_47 : decode cX10_lowestBits 47 = .ok (.l2i, 1) := by decide +kernel
theorem dX10_lowestBits_48 : decode cX10_lowestBits 48 = .ok (.i2l, 1) := by decide +kernel
theorem dX10_lowestBits_49 : decode cX10_lowestBits 49 = .ok (.lreturn, 1) := by decide +kernel
theorem dX10_lowestBits_50 : decode cX10_lowestBits 50 = .ok (.lload_n 1, 1) := by decide +kernel
theorem dX10_lowestBits_51 : decode cX10_lowestBits 51 = .ok (.lreturn, 1) := by decide +kernel
theorem dX10_lowestBits_52 : decode cX10_lowestBits 52 = .ok (.lload_n 1, 1) := by decide +kernel
theorem dX10_lowestBits_53 : decode cX10_lowestBits 53 = .ok (.lconst 0, 1) := by decide +kernel
theorem dX10_lowestBits_54 : decode cX10_lowestBits 54 = .ok (.lcmp, 1) := by decide +kernel
theorem dX10_lowestBits_55 : decode cX10_lowestBits 55 = .ok (.ifCond .eq 7, 3) := by decide +kernel
theorem dX10_lowestBits_58 : decode cX10_lowestBits 58 = .ok (.lconst 1, 1) := by decide +kernel
theorem dX10_lowestBits_59 : decode cX10_lowestBits 59 = .ok (.goto 4, 3) := by decide +kernel
theorem dX10_lowestBits_62 : decode cX10_lowestBits 62 = .ok (.lconst 0, 1) := by decide +kernel
theorem dX10_lowestBits_63 : decode cX10_lowestBits 63 = .ok (.lreturn, 1) := by decide +kernel
theorem dX10_isLike_0 : decode cX10_isLike 0 = .ok (.aload_n 0, 1) := by decide +kernel
theorem dX10_isLike_1 : decode cX10_isLike 1 = .ok (.getfield 19, 3) := by decide +kernel
theorem dX10_isLike_4 : decode cX10_isLike 4 = .ok (.iconst (-1), 1) := by decide +kernel
theorem dX10_isLike_5 : decode cX10_isLike 5 = .ok (.if_icmp .eq 18, 3) := by decide +kernel
theorem dX10_isLike_8 : decode cX10_isLike 8 = .ok (.aload_n 0, 1) := by decide +kernel
theorem dX10_isLike_9 : decode cX10_isLike 9 = .ok (.getfield 19, 3) := by decide +kernel
theorem dX10_isLike_12 : decode cX10_isLike 12 = .ok (.aload_n 1, 1) := by decide +kernel
theorem dX10_isLike_13 : decode cX10_isLike 13 = .ok (.getfield 19, 3) := by decide +kernel
theorem dX10_isLike_16 : decode cX10_isLike 16 = .ok (.if_icmp .ne 7, 3) := by decide +kernel
theorem dX10_isLike_19 : decode cX10_isLike 19 = .ok (.iconst 1, 1) := by decide +kernel
theorem dX10_isLike_20 : decode cX10_isLike 20 = .ok (.goto 4, 3) := by decide +kernel
theorem dX10_isLike_23 : decode cX10_isLike 23 = .ok (.iconst 0, 1) := by decide +kernel
theorem dX10_isLike_24 : decode cX10_isLike 24 = .ok (.ireturn, 1) := by decide +kernel
theorem dX10_hasPart_0 : decode cX10_hasPart 0 = .ok (.iload_n 1, 1) := by decide +kernel
theorem dX10_hasPart_1 : decode cX10_hasPart 1 = .ok (.ifCond .lt 29, 3) := by decide +kernel
theorem dX10_hasPart_4 : decode cX10_hasPart 4 = .ok (.iload_n 2, 1) := by decide +kernel
theorem dX10_hasPart_5 : decode cX10_hasPart 5 = .ok (.ifCond .lt 25, 3) := by decide +kernel
theorem dX10_hasPart_8 : decode cX10_hasPart 8 = .ok (.iload_n 2, 1) := by decide +kernel
theorem dX10_hasPart_9 : decode cX10_hasPart 9 = .ok (.aload_n 0, 1) := by decide +kernel
theorem dX10_hasPart_10 : decode cX10_hasPart 10 = .ok (.getfield 15, 3) := by decide +kernel
theorem dX10_hasPart_13 : decode cX10_hasPart 13 = .ok (.if_icmp .gt 17, 3) := by decide +kernel
theorem dX10_hasPart_16 : decode cX10_hasPart 16 = .ok (.iload_n 1, 1) := by decide +kernel
theorem dX10_hasPart_17 : decode cX10_hasPart 17 = .ok (.aload_n 0, 1) := by decide +kernel
theorem dX10_hasPart_18 : decode cX10_hasPart 18 = .ok (.getfield 15, 3) := by decide +kernel
theorem dX10_hasPart_21 : decode cX10_hasPart 21 = .ok (.iload_n 2, 1) := by decide +kernel
theorem dX10_hasPart_22 : decode cX10_hasPart 22 = .ok (.isub, 1) := by decide +kernel
theorem dX10_hasPart_23 : decode cX10_hasPart 23 = .ok (.if_icmp .gt 7, 3) := by decide +kernel
theorem dX10_hasPart_26 : decode cX10_hasPart 26 = .ok (.iconst 1, 1) := by decide +kernel
theorem dX10_hasPart_27 : decode cX10_hasPart 27 = .ok (.goto 4, 3) := by decide +kernel
theorem dX10_hasPart_30 : decode cX10_hasPart 30 = .ok (.iconst 0, 1) := by decide +kernel
theorem dX10_hasPart_31 : decode cX10_hasPart 31 = .ok (.ireturn, 1) := by decide +kernel
theorem dX10_copyPart_0 : decode cX10_copyPart 0 = .ok (.aload_n 0, 1) := by decide +kernel
theorem dX10_copyPart_1 : decode cX10_copyPart 1 = .ok (.iload_n 1, 1) := by decide +kernel
theorem dX10_copyPart_2 : decode cX10_copyPart 2 = .ok (.iload 4, 2) := by decide +kernel
theorem dX10_copyPart_4 : decode cX10_copyPart 4 = .ok (.invokevirtual 52, 3) := by decide +kernel
theorem dX10_copyPart_7 : decode cX10_copyPart 7 = .ok (.ifCond .eq 28, 3) := by decide +kernel
theorem dX10_copyPart_10 : decode cX10_copyPart 10 = .ok (.aload_n 2, 1) := by decide +kernel
theorem dX10_copyPart_11 : decode cX10_copyPart 11 = .ok (.iload_n 3, 1) := by decide +kernel
theorem dX10_copyPart_12 : decode cX10_copyPart 12 = .ok (.iload 4, 2) := by decide +kernel
theorem dX10_copyPart_14 : decode cX10_copyPart 14 = .ok (.invokevirtual 52, 3) := by decide +kernel
theorem dX10_copyPart_17 : decode cX10_copyPart 17 = .ok (.ifCond .eq 18, 3) := by decide +kernel
theorem dX10_copyPart_20 : decode cX10_copyPart 20 = .ok (.aload_n 0, 1) := by decide +kernel
theorem dX10_copyPart_21 : decode cX10_copyPart 21 = .ok (.getfield 9, 3) := by decide +kernel
theorem dX10_copyPart_24 : decode cX10_copyPart 24 = .ok (.iload_n 1, 1) := by decide +kernel
theorem dX10_copyPart_25 : decode cX10_copyPart 25 = .ok (.aload_n 2, 1) := by decide +kernel
theorem dX10_copyPart_26 : decode cX10_copyPart 26 = .ok (.getfield 9, 3) := by decide +kernel
theorem dX10_copyPart_29 : decode cX10_copyPart 29 = .ok (.iload_n 3, 1) := by decide +kernel
theorem dX10_copyPart_30 : decode cX10_copyPart 30 = .ok (.iload 4, 2) := by decide +kernel
theorem dX10_copyPart_32 : decode cX10_copyPart 32 = .ok (.invokestatic 56, 3) := by decide +kernel
theorem dX10_copyPart_35 : decode cX10_copyPart 35 = .ok (.return_, 1) := by decide +kernel
