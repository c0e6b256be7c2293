theorem dX11_init_0 : decode cX11_init 0 = .ok (.aload_n 0, 1) := by decide +kernel
theorem dX11_init_1 : decode cX11_init 1 = .ok (.invokespecial 1, 3) := by decide +kernel
theorem dX11_init_4 : decode cX11_init 4 = .ok (.aload_n 0, 1) := by decide +kernel
theorem dX11_init_5 : decode cX11_init 5 = .ok (.new 7, 3) := by decide +kernel
theorem dX11_init_8 : decode cX11_init 8 = .ok (.dup, 1) := by decide +kernel
theorem dX11_init_9 : decode cX11_init 9 = .ok (.invokespecial 9, 3) := by decide +kernel
theorem dX11_init_12 : decode cX11_init 12 = .ok (.putfield 10, 3) := by decide +kernel
theorem dX11_init_15 : decode cX11_init 15 = .ok (.aload_n 0, 1) := by decide +kernel
theorem dX11_init_16 : decode cX11_init 16 = .ok (.new 16, 3) := by decide +kernel
theorem dX11_init_19 : decode cX11_init 19 = .ok (.dup, 1) := by decide +kernel
theorem dX11_init_20 : decode cX11_init 20 = .ok (.invokespecial 18, 3) := by decide +kernel
theorem dX11_init_23 : decode cX11_init 23 = .ok (.putfield 19, 3) := by decide +kernel
theorem dX11_init_26 : decode cX11_init 26 = .ok (.aload_n 0, 1) := by decide +kernel
theorem dX11_init_27 : decode cX11_init 27 = .ok (.new 23, 3) := by decide +kernel
theorem dX11_init_30 : decode cX11_init 30 = .ok (.dup, 1) := by decide +kernel
theorem dX11_init_31 : decode cX11_init 31 = .ok (.invokespecial 25, 3) := by decide +kernel
theorem dX11_init_34 : decode cX11_init 34 = .ok (.putfield 26, 3) := by decide +kernel
theorem dX11_init_37 : decode cX11_init 37 = .ok (.aload_n 0, 1) := by decide +kernel
theorem dX11_init_38 : decode cX11_init 38 = .ok (.new 30, 3) := by decide +kernel
theorem dX11_init_41 : decode cX11_init 41 = .ok (.dup, 1) := by decide +kernel
theorem dX11_init_42 : decode cX11_init 42 = .ok (.aload_n 0, 1) := by decide +kernel
theorem dX11_init_43 : decode cX11_init 43 = .ok (.getfield 10, 3) := by decide +kernel
theorem dX11_init_46 : decode cX11_init 46 = .ok (.aload_n 0, 1) := by decide +kernel
theorem dX11_init_47 : decode cX11_init 47 = .ok (.getfield 19, 3) := by decide +kernel
theorem dX11_init_50 : decode cX11_init 50 = .ok (.invokespecial 32, 3) := by decide +kernel
theorem dX11_init_53 : decode cX11_init 53 = .ok (.putfield 35, 3) := by decide +kernel
theorem dX11_init_56 : decode cX11_init 56 = .ok (.aload_n 0, 1) := by decide +kernel
theorem dX11_init_57 : decode cX11_init 57 = .ok (.new 39, 3) := by decide +kernel
theorem dX11_init_60 : decode cX11_init 60 = .ok (.dup, 1) := by decide +kernel
theorem dX11_init_61 : decode cX11_init 61 = .ok (.invokespecial 41, 3) := by decide +kernel
theorem dX11_init_64 : decode cX11_init 64 = .ok (.putfield 42, 3) := by decide +kernel
theorem dX11_init_67 : decode cX11_init 67 = .ok (.aload_n 0, 1) := by decide +kernel
theorem dX11_init_68 : decode cX11_init 68 = .ok (.new 39, 3) := by decide +kernel
theorem dX11_init_71 : decode cX11_init 71 = .ok (.dup, 1) := by decide +kernel
theorem dX11_init_72 : decode cX11_init 72 = .ok (.invokespecial 41, 3) := by decide +kernel
theorem dX11_init_75 : decode cX11_init 75 = .ok (.putfield 46, 3) := by decide +kernel
theorem dX11_init_78 : decode cX11_init 78 = .ok (.aload_n 0, 1) := by decide +kernel
theorem dX11_init_79 : decode cX11_init 79 = .ok (.iconst 5, 1) := by decide +kernel
theorem dX11_init_80 : decode cX11_init 80 = .ok (.newarray .int, 2) := by decide +kernel
theorem dX11_init_82 : decode cX11_init 82 = .ok (.putfield 49, 3) := by decide +kernel
theorem dX11_init_85 : decode cX11_init 85 = .ok (.aload_n 0, 1) := by decide +kernel
theorem dX11_init_86 : decode cX11_init 86 = .ok (.iconst 5, 1) := by decide +kernel
theorem dX11_init_87 : decode cX11_init 87 = .ok (.newarray .int, 2) := by decide +kernel
theorem dX11_init_89 : decode cX11_init 89 = .ok (.putfield 53, 3) := by decide +kernel
theorem dX11_init_92 : decode cX11_init 92 = .ok (.aload_n 0, 1) := by decide +kernel
theorem dX11_init_93 : decode cX11_init 93 = .ok (.iconst 0, 1) := by decide +kernel
theorem dX11_init_94 : decode cX11_init 94 = .ok (.putfield 56, 3) := by decide +kernel
theorem dX11_init_97 : decode cX11_init 97 = .ok (.aload_n 0, 1) := by decide +kernel
theorem dX11_init_98 : decode cX11_init 98 = .ok (.new 60, 3) := by decide +kernel
theorem dX11_init_101 : decode cX11_init 101 = .ok (.dup, 1) := by decide +kernel
theorem dX11_init_102 : decode cX11_init 102 = .ok (.aload_n 0, 1) := by decide +kernel
theorem dX11_init_103 : decode cX11_init 103 = .ok (.getfield 35, 3) := by decide +kernel
theorem dX11_init_106 : decode cX11_init 106 = .ok (.invokespecial 62, 3) := by decide +kernel
theorem dX11_init_109 : decode cX11_init 109 = .ok (.putfield 65, 3) := by decide +kernel
theorem dX11_init_112 : decode cX11_init 112 = .ok (.aload_n 0, 1) := by decide +kernel
theorem dX11_init_113 : decode cX11_init 113 = .ok (.new 69, 3) := by decide +kernel
theorem dX11_init_116 : decode cX11_init 116 = .ok (.dup, 1) := by decide +kernel
theorem dX11_init_117 : decode cX11_init 117 = .ok (.aload_n 0, 1) := by decide +kernel
theorem dX11_init_118 : decode cX11_init 118 = .ok (.getfield 35, 3) := by decide +kernel
theorem dX11_init_121 : decode cX11_init 121 = .ok (.invokespecial 71, 3) := by decide +kernel
theorem dX11_init_124 : decode cX11_init 124 = .ok (.putfield 72, 3) := by decide +kernel
theorem dX11_init_127 : decode cX11_init 127 = .ok (.aload_n 0, 1) := by decide +kernel
theorem dX11_init_128 : decode cX11_init 128 = .ok (.new 76, 3) := by decide +kernel
theorem dX11_init_131 : decode cX11_init 131 = .ok (.dup, 1) := by decide +kernel
theorem dX11_init_132 : decode cX11_init 132 = .ok (.invokespecial 78, 3) := by decide +kernel
theorem dX11_init_135 : decode cX11_init 135 = .ok (.putfield 79, 3) := by decide +kernel
theorem dX11_init_138 : decode cX11_init 138 = .ok (.aload_n 0, 1) := by decide +kernel
theorem dX11_init_139 : decode cX11_init 139 = .ok (.new 83, 3) := by decide +kernel
theorem dX11_init_142 : decode cX11_init 142 = .ok (.dup, 1) := by decide +kernel
theorem dX11_init_143 : decode cX11_init 143 = .ok (.aload_n 0, 1) := by decide +kernel
theorem dX11_init_144 : decode cX11_init 144 = .ok (.getfield 35, 3) := by decide +kernel
theorem dX11_init_147 : decode cX11_init 147 = .ok (.invokespecial 85, 3) := by decide +kernel
theorem dX11_init_150 : decode cX11_init 150 = .ok (.putfield 86, 3) := by decide +kernel
theorem dX11_init_153 : decode cX11_init 153 = .ok (.aload_n 0, 1) := by decide +kernel
theorem dX11_init_154 : decode cX11_init 154 = .ok (.new 90, 3) := by decide +kernel
theorem dX11_init_157 : decode cX11_init 157 = .ok (.dup, 1) := by decide +kernel
theorem dX11_init_158 : decode cX11_init 158 = .ok (.invokespecial 92, 3) := by decide +kernel
theorem dX11_init_161 : decode cX11_init 161 = .ok (.putfield 93, 3) := by decide +kernel
theorem dX11_init_164 : decode cX11_init 164 = .ok (.aload_n 0, 1) := by decide +kernel
theorem dX11_init_165 : decode cX11_init 165 = .ok (.bipush 6, 2) := by decide +kernel
theorem dX11_init_167 : decode cX11_init 167 = .ok (.anewarray 97, 3) := by decide +kernel
theorem dX11_init_170 : decode cX11_init 170 = .ok (.putfield 99, 3) := by decide +kernel
theorem dX11_init_173 : decode cX11_init 173 = .ok (.iconst 0, 1) := by decide +kernel
theorem dX11_init_174 : decode cX11_init 174 = .ok (.istore_n 1, 1) := by decide +kernel
theorem dX11_init_175 : decode cX11_init 175 = .ok (.iload_n 1, 1) := by decide +kernel
theorem dX11_init_176 : decode cX11_init 176 = .ok (.bipush 6, 2) := by decide +kernel
theorem dX11_init_178 : decode cX11_init 178 = .ok (.if_icmp .ge 22, 3) := by decide +kernel
theorem dX11_init_181 : decode cX11_init 181 = .ok (.aload_n 0, 1) := by decide +kernel
theorem dX11_init_182 : decode cX11_init 182 = .ok (.getfield 99, 3) := by decide +kernel
theorem dX11_init_185 : decode cX11_init 185 = .ok (.iload_n 1, 1) := by decide +kernel
theorem dX11_init_186 : decode cX11_init 186 = .ok (.new 97, 3) := by decide +kernel
theorem dX11_init_189 : decode cX11_init 189 = .ok (.dup, 1) := by decide +kernel
theorem dX11_init_190 : decode cX11_init 190 = .ok (.invokespecial 103, 3) := by decide +kernel
theorem dX11_init_193 : decode cX11_init 193 = .ok (.aastore, 1) := by decide +kernel
theorem dX11_init_194 : decode cX11_init 194 = .ok (.iinc 1 1, 3) := by decide +kernel
theorem dX11_init_197 : decode cX11_init 197 = .ok (.goto (-22), 3) := by decide +kernel
theorem dX11_init_200 : decode cX11_init 200 = .ok (.return_, 1) := by decide +kernel
theorem dX11_person_0 : decode cX11_person 0 = .ok (.iconst 0, 1) := by decide +kernel
theorem dX11_person_1 : decode cX11_person 1 = .ok (.iload_n 1, 1) := by decide +kernel
theorem dX11_person_2 : decode cX11_person 2 = .ok (.invokestatic 104, 3) := by decide +kernel
theorem dX11_person_5 : decode cX11_person 5 = .ok (.ifCond .eq 11, 3) := by decide +kernel
theorem dX11_person_8 : decode cX11_person 8 = .ok (.iconst 1, 1) := by decide +kernel
theorem dX11_person_9 : decode cX11_person 9 = .ok (.iload_n 2, 1) := by decide +kernel
theorem dX11_person_10 : decode cX11_person 10 = .ok (.invokestatic 104, 3) := by decide +kernel
theorem dX11_person_13 : decode cX11_person 13 = .ok (.ifCond .ne 5, 3) := by decide +kernel
theorem dX11_person_16 : decode cX11_person 16 = .ok (.iconst (-1), 1) := by decide +kernel
theorem dX11_person_17 : decode cX11_person 17 = .ok (.ireturn, 1) := by decide +kernel
theorem dX11_person_18 : decode cX11_person 18 = .ok (.aload_n 0, 1) := by decide +kernel
theorem dX11_person_19 : decode cX11_person 19 = .ok (.getfield 10, 3) := by decide +kernel
theorem dX11_person_22 : decode cX11_person 22 = .ok (.invokevirtual 108, 3) := by decide +kernel
theorem dX11_person_25 : decode cX11_person 25 = .ok (.ifCond .eq 8, 3) := by decide +kernel
theorem dX11_person_28 : decode cX11_person 28 = .ok (.bipush (-3), 2) := by decide +kernel
theorem dX11_person_30 : decode cX11_person 30 = .ok (.goto 12, 3) := by decide +kernel
theorem dX11_person_33 : decode cX11_person 33 = .ok (.aload_n 0, 1) := by decide +kernel
theorem dX11_person_34 : decode cX11_person 34 = .ok (.getfield 10, 3) := by decide +kernel
theorem dX11_person_37 : decode cX11_person 37 = .ok (.iload_n 1, 1) := by decide +kernel
theorem dX11_person_38 : decode cX11_person 38 = .ok (.iload_n 2, 1) := by decide +kernel
theorem dX11_person_39 : decode cX11_person 39 = .ok (.invokevirtual 112, 3) := by decide +kernel
theorem dX11_person_42 : decode cX11_person 42 = .ok (.ireturn, 1) := by decide +kernel
theorem dX11_people_0 : decode cX11_people 0 = .ok (.iload_n 1, 1) := by decide +kernel
theorem dX11_people_1 : decode cX11_people 1 = .ok (.invokestatic 116, 3) := by decide +kernel
theorem dX11_people_4 : decode cX11_people 4 = .ok (.ifCond .eq 14, 3) := by decide +kernel
theorem dX11_people_7 : decode cX11_people 7 = .ok (.iload_n 3, 1) := by decide +kernel
theorem dX11_people_8 : decode cX11_people 8 = .ok (.iconst 1, 1) := by decide +kernel
theorem dX11_people_9 : decode cX11_people 9 = .ok (.if_icmp .lt 9, 3) := by decide +kernel
theorem dX11_people_12 : decode cX11_people 12 = .ok (.iload_n 3, 1) := by decide +kernel
theorem dX11_people_13 : decode cX11_people 13 = .ok (.bipush 7, 2) := by decide +kernel
theorem dX11_people_15 : decode cX11_people 15 = .ok (.if_icmp .le 5, 3) := by decide +kernel
theorem dX11_people_18 : decode cX11_people 18 = .ok (.iconst (-1), 1) := by decide +kernel
theorem dX11_people_19 : decode cX11_people 19 = .ok (.ireturn, 1) := by decide +kernel
theorem dX11_people_20 : decode cX11_people 20 = .ok (.aload_n 0, 1) := by decide +kernel
theorem dX11_people_21 : decode cX11_people 21 = .ok (.getfield 99, 3) := by decide +kernel
theorem dX11_people_24 : decode cX11_people 24 = .ok (.iload_n 1, 1) := by decide +kernel
theorem dX11_people_25 : decode cX11_people 25 = .ok (.aaload, 1) := by decide +kernel
theorem dX11_people_26 : decode cX11_people 26 = .ok (.astore 4, 2) := by decide +kernel
theorem dX11_people_28 : decode cX11_people 28 = .ok (.aload 4, 2) := by decide +kernel
theorem dX11_people_30 : decode cX11_people 30 = .ok (.invokevirtual 120, 3) := by decide +kernel
theorem dX11_people_33 : decode cX11_people 33 = .ok (.ifCond .eq 5, 3) := by decide +kernel
theorem dX11_people_36 : decode cX11_people 36 = .ok (.iconst 0, 1) := by decide +kernel
theorem dX11_people_37 : decode cX11_people 37 = .ok (.ireturn, 1) := by decide +kernel
theorem dX11_people_38 : decode cX11_people 38 = .ok (.aload 4, 2) := by decide +kernel
theorem dX11_people_40 : decode cX11_people 40 = .ok (.invokevirtual 123, 3) := by decide +kernel
theorem dX11_people_43 : decode cX11_people 43 = .ok (.ifCond .ne 6, 3) := by decide +kernel
theorem dX11_people_46 : decode cX11_people 46 = .ok (.bipush (-12), 2) := by decide +kernel
theorem dX11_people_48 : decode cX11_people 48 = .ok (.ireturn, 1) := by decide +kernel
theorem dX11_people_49 : decode cX11_people 49 = .ok (.iconst 0, 1) := by decide +kernel
theorem dX11_people_50 : decode cX11_people 50 = .ok (.istore 5, 2) := by decide +kernel
theorem dX11_people_52 : decode cX11_people 52 = .ok (.iload 5, 2) := by decide +kernel
theorem dX11_people_54 : decode cX11_people 54 = .ok (.iload_n 3, 1) := by decide +kernel
theorem dX11_people_55 : decode cX11_people 55 = .ok (.if_icmp .ge 31, 3) := by decide +kernel
theorem dX11_people_58 : decode cX11_people 58 = .ok (.aload_n 0, 1) := by decide +kernel
theorem dX11_people_59 : decode cX11_people 59 = .ok (.getfield 10, 3) := by decide +kernel
theorem dX11_people_62 : decode cX11_people 62 = .ok (.aload 4, 2) := by decide +kernel
theorem dX11_people_64 : decode cX11_people 64 = .ok (.iload_n 2, 1) := by decide +kernel
theorem dX11_people_65 : decode cX11_people 65 = .ok (.i2l, 1) := by decide +kernel
theorem dX11_people_66 : decode cX11_people 66 = .ok (.ldc2_w 126, 3) := by decide +kernel
theorem dX11_people_69 : decode cX11_people 69 = .ok (.iload 5, 2) := by decide +kernel
theorem dX11_people_71 : decode cX11_people 71 = .ok (.i2l, 1) := by decide +kernel
theorem dX11_people_72 : decode cX11_people 72 = .ok (.lmul, 1) := by decide +kernel
theorem dX11_people_73 : decode cX11_people 73 = .ok (.ladd, 1) := by decide +kernel
theorem dX11_people_74 : decode cX11_people 74 = .ok (.invokevirtual 128, 3) := by decide +kernel
theorem dX11_people_77 : decode cX11_people 77 = .ok (.ifCond .eq 9, 3) := by decide +kernel
theorem dX11_people_80 : decode cX11_people 80 = .ok (.iinc 5 1, 3) := by decide +kernel
theorem dX11_people_83 : decode cX11_people 83 = .ok (.goto (-31), 3) := by decide +kernel
theorem dX11_people_86 : decode cX11_people 86 = .ok (.iload 5, 2) := by decide +kernel
theorem dX11_people_88 : decode cX11_people 88 = .ok (.ireturn, 1) := by decide +kernel
theorem dX11_mend_0 : decode cX11_mend 0 = .ok (.aload_n 0, 1) := by decide +kernel
theorem dX11_mend_1 : decode cX11_mend 1 = .ok (.getfield 10, 3) := by decide +kernel
theorem dX11_mend_4 : decode cX11_mend 4 = .ok (.iload_n 1, 1) := by decide +kernel
theorem dX11_mend_5 : decode cX11_mend 5 = .ok (.invokevirtual 132, 3) := by decide +kernel
theorem dX11_mend_8 : decode cX11_mend 8 = .ok (.ifCond .eq 11, 3) := by decide +kernel
theorem dX11_mend_11 : decode cX11_mend 11 = .ok (.iload_n 2, 1) := by decide +kernel
theorem dX11_mend_12 : decode cX11_mend 12 = .ok (.iload_n 3, 1) := by decide +kernel
theorem dX11_mend_13 : decode cX11_mend 13 = .ok (.invokestatic 104, 3) := by decide +kernel
theorem dX11_mend_16 : decode cX11_mend 16 = .ok (.ifCond .ne 5, 3) := by decide +kernel
theorem dX11_mend_19 : decode cX11_mend 19 = .ok (.iconst (-1), 1) := by decide +kernel
theorem dX11_mend_20 : decode cX11_mend 20 = .ok (.ireturn, 1) := by decide +kernel
theorem dX11_mend_21 : decode cX11_mend 21 = .ok (.aload_n 0, 1) := by decide +kernel
theorem dX11_mend_22 : decode cX11_mend 22 = .ok (.getfield 10, 3) := by decide +kernel
theorem dX11_mend_25 : decode cX11_mend 25 = .ok (.iload_n 1, 1) := by decide +kernel
theorem dX11_mend_26 : decode cX11_mend 26 = .ok (.iload_n 2, 1) := by decide +kernel
theorem dX11_mend_27 : decode cX11_mend 27 = .ok (.iload_n 3, 1) := by decide +kernel
theorem dX11_mend_28 : decode cX11_mend 28 = .ok (.invokevirtual 135, 3) := by decide +kernel
theorem dX11_mend_31 : decode cX11_mend 31 = .ok (.ireturn, 1) := by decide +kernel
theorem dX11_of_0 : decode cX11_of 0 = .ok (.aload_n 0, 1) := by decide +kernel
theorem dX11_of_1 : decode cX11_of 1 = .ok (.getfield 10, 3) := by decide +kernel
theorem dX11_of_4 : decode cX11_of 4 = .ok (.iload_n 1, 1) := by decide +kernel
theorem dX11_of_5 : decode cX11_of 5 = .ok (.invokevirtual 132, 3) := by decide +kernel
theorem dX11_of_8 : decode cX11_of 8 = .ok (.ifCond .eq 12, 3) := by decide +kernel
theorem dX11_of_11 : decode cX11_of 11 = .ok (.iload_n 2, 1) := by decide +kernel
theorem dX11_of_12 : decode cX11_of 12 = .ok (.ifCond .lt 8, 3) := by decide +kernel
theorem dX11_of_15 : decode cX11_of 15 = .ok (.iload_n 2, 1) := by decide +kernel
theorem dX11_of_16 : decode cX11_of 16 = .ok (.iconst 4, 1) := by decide +kernel
theorem dX11_of_17 : decode cX11_of 17 = .ok (.if_icmp .le 6, 3) := by decide +kernel
theorem dX11_of_20 : decode cX11_of 20 = .ok (.ldc 139, 2) := by decide +kernel
theorem dX11_of_22 : decode cX11_of 22 = .ok (.ireturn, 1) := by decide +kernel
theorem dX11_of_23 : decode cX11_of 23 = .ok (.iload_n 2, 1) := by decide +kernel
theorem dX11_of_24 : decode cX11_of 24 = .ok (.iconst 3, 1) := by decide +kernel
theorem dX11_of_25 : decode cX11_of 25 = .ok (.if_icmp .le 14, 3) := by decide +kernel
theorem dX11_of_28 : decode cX11_of 28 = .ok (.aload_n 0, 1) := by decide +kernel
theorem dX11_of_29 : decode cX11_of 29 = .ok (.getfield 42, 3) := by decide +kernel
theorem dX11_of_32 : decode cX11_of 32 = .ok (.iload_n 1, 1) := by decide +kernel
theorem dX11_of_33 : decode cX11_of 33 = .ok (.invokevirtual 140, 3) := by decide +kernel
theorem dX11_of_36 : decode cX11_of 36 = .ok (.goto 12, 3) := by decide +kernel
theorem dX11_of_39 : decode cX11_of 39 = .ok (.aload_n 0, 1) := by decide +kernel
theorem dX11_of_40 : decode cX11_of 40 = .ok (.getfield 10, 3) := by decide +kernel
theorem dX11_of_43 : decode cX11_of 43 = .ok (.iload_n 1, 1) := by decide +kernel
theorem dX11_of_44 : decode cX11_of 44 = .ok (.iload_n 2, 1) := by decide +kernel
theorem dX11_of_45 : decode cX11_of 45 = .ok (.invokevirtual 144, 3) := by decide +kernel
theorem dX11_of_48 : decode cX11_of 48 = .ok (.ireturn, 1) := by decide +kernel
theorem dX11_feed_0 : decode cX11_feed 0 = .ok (.iload_n 1, 1) := by decide +kernel
theorem dX11_feed_1 : decode cX11_feed 1 = .ok (.ifCond .lt 10, 3) := by decide +kernel
theorem dX11_feed_4 : decode cX11_feed 4 = .ok (.iload_n 1, 1) := by decide +kernel
theorem dX11_feed_5 : decode cX11_feed 5 = .ok (.sipush 255, 3) := by decide +kernel
theorem dX11_feed_8 : decode cX11_feed 8 = .ok (.if_icmp .le 5, 3) := by decide +kernel
theorem dX11_feed_11 : decode cX11_feed 11 = .ok (.iconst (-1), 1) := by decide +kernel
theorem dX11_feed_12 : decode cX11_feed 12 = .ok (.ireturn, 1) := by decide +kernel
theorem dX11_feed_13 : decode cX11_feed 13 = .ok (.aload_n 0, 1) := by decide +kernel
theorem dX11_feed_14 : decode cX11_feed 14 = .ok (.getfield 26, 3) := by decide +kernel
theorem dX11_feed_17 : decode cX11_feed 17 = .ok (.invokevirtual 147, 3) := by decide +kernel
theorem dX11_feed_20 : decode cX11_feed 20 = .ok (.ifCond .eq 8, 3) := by decide +kernel
theorem dX11_feed_23 : decode cX11_feed 23 = .ok (.bipush (-3), 2) := by decide +kernel
theorem dX11_feed_25 : decode cX11_feed 25 = .ok (.goto 11, 3) := by decide +kernel
theorem dX11_feed_28 : decode cX11_feed 28 = .ok (.aload_n 0, 1) := by decide +kernel
theorem dX11_feed_29 : decode cX11_feed 29 = .ok (.getfield 26, 3) := by decide +kernel
theorem dX11_feed_32 : decode cX11_feed 32 = .ok (.iload_n 1, 1) := by decide +kernel
theorem dX11_feed_33 : decode cX11_feed 33 = .ok (.invokevirtual 148, 3) := by decide +kernel
theorem dX11_feed_36 : decode cX11_feed 36 = .ok (.ireturn, 1) := by decide +kernel
theorem dX11_law_0 : decode cX11_law 0 = .ok (.aload_n 0, 1) := by decide +kernel
theorem dX11_law_1 : decode cX11_law 1 = .ok (.getfield 26, 3) := by decide +kernel
theorem dX11_law_4 : decode cX11_law 4 = .ok (.aload_n 0, 1) := by decide +kernel
theorem dX11_law_5 : decode cX11_law 5 = .ok (.getfield 19, 3) := by decide +kernel
theorem dX11_law_8 : decode cX11_law 8 = .ok (.invokevirtual 151, 3) := by decide +kernel
theorem dX11_law_11 : decode cX11_law 11 = .ok (.istore_n 1, 1) := by decide +kernel
theorem dX11_law_12 : decode cX11_law 12 = .ok (.iload_n 1, 1) := by decide +kernel
theorem dX11_law_13 : decode cX11_law 13 = .ok (.ifCond .ge 7, 3) := by decide +kernel
theorem dX11_law_16 : decode cX11_law 16 = .ok (.iconst 1, 1) := by decide +kernel
theorem dX11_law_17 : decode cX11_law 17 = .ok (.goto 7, 3) := by decide +kernel
theorem dX11_law_20 : decode cX11_law 20 = .ok (.bipush (-100), 2) := by decide +kernel
theorem dX11_law_22 : decode cX11_law 22 = .ok (.iload_n 1, 1) := by decide +kernel
theorem dX11_law_23 : decode cX11_law 23 = .ok (.isub, 1) := by decide +kernel
theorem dX11_law_24 : decode cX11_law 24 = .ok (.ireturn, 1) := by decide +kernel
theorem dX11_wins_0 : decode cX11_wins 0 = .ok (.aload_n 0, 1) := by decide +kernel
theorem dX11_wins_1 : decode cX11_wins 1 = .ok (.iload_n 1, 1) := by decide +kernel
theorem dX11_wins_2 : decode cX11_wins 2 = .ok (.invokevirtual 155, 3) := by decide +kernel
theorem dX11_wins_5 : decode cX11_wins 5 = .ok (.ifCond .eq 12, 3) := by decide +kernel
theorem dX11_wins_8 : decode cX11_wins 8 = .ok (.iload_n 2, 1) := by decide +kernel
theorem dX11_wins_9 : decode cX11_wins 9 = .ok (.ifCond .lt 8, 3) := by decide +kernel
theorem dX11_wins_12 : decode cX11_wins 12 = .ok (.iload_n 2, 1) := by decide +kernel
theorem dX11_wins_13 : decode cX11_wins 13 = .ok (.iconst 1, 1) := by decide +kernel
theorem dX11_wins_14 : decode cX11_wins 14 = .ok (.if_icmp .le 5, 3) := by decide +kernel
theorem dX11_wins_17 : decode cX11_wins 17 = .ok (.iconst (-1), 1) := by decide +kernel
theorem dX11_wins_18 : decode cX11_wins 18 = .ok (.ireturn, 1) := by decide +kernel
theorem dX11_wins_19 : decode cX11_wins 19 = .ok (.iload_n 1, 1) := by decide +kernel
theorem dX11_wins_20 : decode cX11_wins 20 = .ok (.bipush 10, 2) := by decide +kernel
theorem dX11_wins_22 : decode cX11_wins 22 = .ok (.idiv, 1) := by decide +kernel
theorem dX11_wins_23 : decode cX11_wins 23 = .ok (.istore_n 3, 1) := by decide +kernel
theorem dX11_wins_24 : decode cX11_wins 24 = .ok (.iload_n 1, 1) := by decide +kernel
theorem dX11_wins_25 : decode cX11_wins 25 = .ok (.bipush 10, 2) := by decide +kernel
theorem dX11_wins_27 : decode cX11_wins 27 = .ok (.irem, 1) := by decide +kernel
theorem dX11_wins_28 : decode cX11_wins 28 = .ok (.istore 4, 2) := by decide +kernel
theorem dX11_wins_30 : decode cX11_wins 30 = .ok (.iload_n 2, 1) := by decide +kernel
theorem dX11_wins_31 : decode cX11_wins 31 = .ok (.ifCond .ne 20, 3) := by decide +kernel
theorem dX11_wins_34 : decode cX11_wins 34 = .ok (.aload_n 0, 1) := by decide +kernel
theorem dX11_wins_35 : decode cX11_wins 35 = .ok (.getfield 35, 3) := by decide +kernel
theorem dX11_wins_38 : decode cX11_wins 38 = .ok (.aload_n 0, 1) := by decide +kernel
theorem dX11_wins_39 : decode cX11_wins 39 = .ok (.getfield 42, 3) := by decide +kernel
theorem dX11_wins_42 : decode cX11_wins 42 = .ok (.iload_n 3, 1) := by decide +kernel
theorem dX11_wins_43 : decode cX11_wins 43 = .ok (.iload 4, 2) := by decide +kernel
theorem dX11_wins_45 : decode cX11_wins 45 = .ok (.invokevirtual 158, 3) := by decide +kernel
theorem dX11_wins_48 : decode cX11_wins 48 = .ok (.goto 12, 3) := by decide +kernel
theorem dX11_wins_51 : decode cX11_wins 51 = .ok (.aload_n 0, 1) := by decide +kernel
theorem dX11_wins_52 : decode cX11_wins 52 = .ok (.getfield 42, 3) := by decide +kernel
theorem dX11_wins_55 : decode cX11_wins 55 = .ok (.iload 4, 2) := by decide +kernel
theorem dX11_wins_57 : decode cX11_wins 57 = .ok (.invokevirtual 162, 3) := by decide +kernel
theorem dX11_wins_60 : decode cX11_wins 60 = .ok (.ireturn, 1) := by decide +kernel
theorem dX11_course_0 : decode cX11_course 0 = .ok (.iload_n 1, 1) := by decide +kernel
theorem dX11_course_1 : decode cX11_course 1 = .ok (.invokestatic 116, 3) := by decide +kernel
theorem dX11_course_4 : decode cX11_course 4 = .ok (.ifCond .eq 31, 3) := by decide +kernel
theorem dX11_course_7 : decode cX11_course 7 = .ok (.iload_n 2, 1) := by decide +kernel
theorem dX11_course_8 : decode cX11_course 8 = .ok (.iconst (-1), 1) := by decide +kernel
theorem dX11_course_9 : decode cX11_course 9 = .ok (.if_icmp .eq 14, 3) := by decide +kernel
theorem dX11_course_12 : decode cX11_course 12 = .ok (.aload_n 0, 1) := by decide +kernel
theorem dX11_course_13 : decode cX11_course 13 = .ok (.getfield 10, 3) := by decide +kernel
theorem dX11_course_16 : decode cX11_course 16 = .ok (.iload_n 2, 1) := by decide +kernel
theorem dX11_course_17 : decode cX11_course 17 = .ok (.invokevirtual 132, 3) := by decide +kernel
theorem dX11_course_20 : decode cX11_course 20 = .ok (.ifCond .eq 15, 3) := by decide +kernel
theorem dX11_course_23 : decode cX11_course 23 = .ok (.aload_n 0, 1) := by decide +kernel
theorem dX11_course_24 : decode cX11_course 24 = .ok (.getfield 99, 3) := by decide +kernel
theorem dX11_course_27 : decode cX11_course 27 = .ok (.iload_n 1, 1) := by decide +kernel
theorem dX11_course_28 : decode cX11_course 28 = .ok (.aaload, 1) := by decide +kernel
theorem dX11_course_29 : decode cX11_course 29 = .ok (.invokevirtual 123, 3) := by decide +kernel
theorem dX11_course_32 : decode cX11_course 32 = .ok (.ifCond .ne 6, 3) := by decide +kernel
theorem dX11_course_35 : decode cX11_course 35 = .ok (.ldc 139, 2) := by decide +kernel
theorem dX11_course_37 : decode cX11_course 37 = .ok (.ireturn, 1) := by decide +kernel
theorem dX11_course_38 : decode cX11_course 38 = .ok (.aload_n 0, 1) := by decide +kernel
theorem dX11_course_39 : decode cX11_course 39 = .ok (.getfield 65, 3) := by decide +kernel
theorem dX11_course_42 : decode cX11_course 42 = .ok (.aload_n 0, 1) := by decide +kernel
theorem dX11_course_43 : decode cX11_course 43 = .ok (.getfield 99, 3) := by decide +kernel
theorem dX11_course_46 : decode cX11_course 46 = .ok (.iload_n 1, 1) := by decide +kernel
theorem dX11_course_47 : decode cX11_course 47 = .ok (.aaload, 1) := by decide +kernel
theorem dX11_course_48 : decode cX11_course 48 = .ok (.aload_n 0, 1) := by decide +kernel
theorem dX11_course_49 : decode cX11_course 49 = .ok (.getfield 42, 3) := by decide +kernel
theorem dX11_course_52 : decode cX11_course 52 = .ok (.iload_n 2, 1) := by decide +kernel
theorem dX11_course_53 : decode cX11_course 53 = .ok (.invokevirtual 165, 3) := by decide +kernel
theorem dX11_course_56 : decode cX11_course 56 = .ok (.iload_n 2, 1) := by decide +kernel
theorem dX11_course_57 : decode cX11_course 57 = .ok (.iconst (-1), 1) := by decide +kernel
theorem dX11_course_58 : decode cX11_course 58 = .ok (.if_icmp .ne 13, 3) := by decide +kernel
theorem dX11_course_61 : decode cX11_course 61 = .ok (.aload_n 0, 1) := by decide +kernel
theorem dX11_course_62 : decode cX11_course 62 = .ok (.getfield 65, 3) := by decide +kernel
theorem dX11_course_65 : decode cX11_course 65 = .ok (.invokevirtual 169, 3) := by decide +kernel
theorem dX11_course_68 : decode cX11_course 68 = .ok (.goto 11, 3) := by decide +kernel
theorem dX11_course_71 : decode cX11_course 71 = .ok (.aload_n 0, 1) := by decide +kernel
theorem dX11_course_72 : decode cX11_course 72 = .ok (.getfield 65, 3) := by decide +kernel
theorem dX11_course_75 : decode cX11_course 75 = .ok (.iload_n 2, 1) := by decide +kernel
theorem dX11_course_76 : decode cX11_course 76 = .ok (.invokevirtual 173, 3) := by decide +kernel
theorem dX11_course_79 : decode cX11_course 79 = .ok (.ireturn, 1) := by decide +kernel
theorem dX11_ends_0 : decode cX11_ends 0 = .ok (.iload_n 1, 1) := by decide +kernel
theorem dX11_ends_1 : decode cX11_ends 1 = .ok (.invokestatic 116, 3) := by decide +kernel
theorem dX11_ends_4 : decode cX11_ends 4 = .ok (.ifCond .eq 35, 3) := by decide +kernel
theorem dX11_ends_7 : decode cX11_ends 7 = .ok (.aload_n 0, 1) := by decide +kernel
theorem dX11_ends_8 : decode cX11_ends 8 = .ok (.getfield 10, 3) := by decide +kernel
theorem dX11_ends_11 : decode cX11_ends 11 = .ok (.iload_n 2, 1) := by decide +kernel
theorem dX11_ends_12 : decode cX11_ends 12 = .ok (.invokevirtual 132, 3) := by decide +kernel
theorem dX11_ends_15 : decode cX11_ends 15 = .ok (.ifCond .eq 24, 3) := by decide +kernel
theorem dX11_ends_18 : decode cX11_ends 18 = .ok (.iload_n 3, 1) := by decide +kernel
theorem dX11_ends_19 : decode cX11_ends 19 = .ok (.ifCond .lt 20, 3) := by decide +kernel
theorem dX11_ends_22 : decode cX11_ends 22 = .ok (.iload_n 3, 1) := by decide +kernel
theorem dX11_ends_23 : decode cX11_ends 23 = .ok (.iconst 1, 1) := by decide +kernel
theorem dX11_ends_24 : decode cX11_ends 24 = .ok (.if_icmp .gt 15, 3) := by decide +kernel
theorem dX11_ends_27 : decode cX11_ends 27 = .ok (.aload_n 0, 1) := by decide +kernel
theorem dX11_ends_28 : decode cX11_ends 28 = .ok (.getfield 99, 3) := by decide +kernel
theorem dX11_ends_31 : decode cX11_ends 31 = .ok (.iload_n 1, 1) := by decide +kernel
theorem dX11_ends_32 : decode cX11_ends 32 = .ok (.aaload, 1) := by decide +kernel
theorem dX11_ends_33 : decode cX11_ends 33 = .ok (.invokevirtual 123, 3) := by decide +kernel
theorem dX11_ends_36 : decode cX11_ends 36 = .ok (.ifCond .ne 6, 3) := by decide +kernel
theorem dX11_ends_39 : decode cX11_ends 39 = .ok (.ldc 139, 2) := by decide +kernel
theorem dX11_ends_41 : decode cX11_ends 41 = .ok (.ireturn, 1) := by decide +kernel
theorem dX11_ends_42 : decode cX11_ends 42 = .ok (.aload_n 0, 1) := by decide +kernel
theorem dX11_ends_43 : decode cX11_ends 43 = .ok (.getfield 65, 3) := by decide +kernel
theorem dX11_ends_46 : decode cX11_ends 46 = .ok (.aload_n 0, 1) := by decide +kernel
theorem dX11_ends_47 : decode cX11_ends 47 = .ok (.getfield 99, 3) := by decide +kernel
theorem dX11_ends_50 : decode cX11_ends 50 = .ok (.iload_n 1, 1) := by decide +kernel
theorem dX11_ends_51 : decode cX11_ends 51 = .ok (.aaload, 1) := by decide +kernel
theorem dX11_ends_52 : decode cX11_ends 52 = .ok (.aload_n 0, 1) := by decide +kernel
theorem dX11_ends_53 : decode cX11_ends 53 = .ok (.getfield 42, 3) := by decide +kernel
theorem dX11_ends_56 : decode cX11_ends 56 = .ok (.iload_n 2, 1) := by decide +kernel
theorem dX11_ends_57 : decode cX11_ends 57 = .ok (.invokevirtual 165, 3) := by decide +kernel
theorem dX11_ends_60 : decode cX11_ends 60 = .ok (.iload_n 3, 1) := by decide +kernel
theorem dX11_ends_61 : decode cX11_ends 61 = .ok (.ifCond .ne 13, 3) := by decide +kernel
theorem dX11_ends_64 : decode cX11_ends 64 = .ok (.aload_n 0, 1) := by decide +kernel
theorem dX11_ends_65 : decode cX11_ends 65 = .ok (.getfield 65, 3) := by decide +kernel
theorem dX11_ends_68 : decode cX11_ends 68 = .ok (.invokevirtual 174, 3) := by decide +kernel
theorem dX11_ends_71 : decode cX11_ends 71 = .ok (.goto 10, 3) := by decide +kernel
theorem dX11_ends_74 : decode cX11_ends 74 = .ok (.aload_n 0, 1) := by decide +kernel
theorem dX11_ends_75 : decode cX11_ends 75 = .ok (.getfield 65, 3) := by decide +kernel
theorem dX11_ends_78 : decode cX11_ends 78 = .ok (.invokevirtual 177, 3) := by decide +kernel
theorem dX11_ends_81 : decode cX11_ends 81 = .ok (.ireturn, 1) := by decide +kernel
theorem dX11_best_0 : decode cX11_best 0 = .ok (.aload_n 0, 1) := by decide +kernel
theorem dX11_best_1 : decode cX11_best 1 = .ok (.getfield 10, 3) := by decide +kernel
theorem dX11_best_4 : decode cX11_best 4 = .ok (.iload_n 1, 1) := by decide +kernel
theorem dX11_best_5 : decode cX11_best 5 = .ok (.invokevirtual 132, 3) := by decide +kernel
theorem dX11_best_8 : decode cX11_best 8 = .ok (.ifCond .eq 12, 3) := by decide +kernel
theorem dX11_best_11 : decode cX11_best 11 = .ok (.iload_n 2, 1) := by decide +kernel
theorem dX11_best_12 : decode cX11_best 12 = .ok (.ifCond .lt 8, 3) := by decide +kernel
theorem dX11_best_15 : decode cX11_best 15 = .ok (.iload_n 2, 1) := by decide +kernel
theorem dX11_best_16 : decode cX11_best 16 = .ok (.iconst 1, 1) := by decide +kernel
theorem dX11_best_17 : decode cX11_best 17 = .ok (.if_icmp .le 5, 3) := by decide +kernel
theorem dX11_best_20 : decode cX11_best 20 = .ok (.iconst (-1), 1) := by decide +kernel
theorem dX11_best_21 : decode cX11_best 21 = .ok (.ireturn, 1) := by decide +kernel
theorem dX11_best_22 : decode cX11_best 22 = .ok (.aload_n 0, 1) := by decide +kernel
theorem dX11_best_23 : decode cX11_best 23 = .ok (.getfield 42, 3) := by decide +kernel
theorem dX11_best_26 : decode cX11_best 26 = .ok (.iload_n 1, 1) := by decide +kernel
theorem dX11_best_27 : decode cX11_best 27 = .ok (.invokevirtual 180, 3) := by decide +kernel
theorem dX11_best_30 : decode cX11_best 30 = .ok (.ifCond .eq 14, 3) := by decide +kernel
theorem dX11_best_33 : decode cX11_best 33 = .ok (.aload_n 0, 1) := by decide +kernel
theorem dX11_best_34 : decode cX11_best 34 = .ok (.getfield 10, 3) := by decide +kernel
theorem dX11_best_37 : decode cX11_best 37 = .ok (.invokevirtual 183, 3) := by decide +kernel
theorem dX11_best_40 : decode cX11_best 40 = .ok (.iconst 2, 1) := by decide +kernel
theorem dX11_best_41 : decode cX11_best 41 = .ok (.if_icmp .ge 6, 3) := by decide +kernel
theorem dX11_best_44 : decode cX11_best 44 = .ok (.bipush (-2), 2) := by decide +kernel
theorem dX11_best_46 : decode cX11_best 46 = .ok (.ireturn, 1) := by decide +kernel
theorem dX11_best_47 : decode cX11_best 47 = .ok (.iload_n 2, 1) := by decide +kernel
theorem dX11_best_48 : decode cX11_best 48 = .ok (.ifCond .ne 18, 3) := by decide +kernel
theorem dX11_best_51 : decode cX11_best 51 = .ok (.aload_n 0, 1) := by decide +kernel
theorem dX11_best_52 : decode cX11_best 52 = .ok (.getfield 35, 3) := by decide +kernel
theorem dX11_best_55 : decode cX11_best 55 = .ok (.aload_n 0, 1) := by decide +kernel
theorem dX11_best_56 : decode cX11_best 56 = .ok (.getfield 42, 3) := by decide +kernel
theorem dX11_best_59 : decode cX11_best 59 = .ok (.iload_n 1, 1) := by decide +kernel
theorem dX11_best_60 : decode cX11_best 60 = .ok (.invokevirtual 186, 3) := by decide +kernel
theorem dX11_best_63 : decode cX11_best 63 = .ok (.goto 15, 3) := by decide +kernel
theorem dX11_best_66 : decode cX11_best 66 = .ok (.aload_n 0, 1) := by decide +kernel
theorem dX11_best_67 : decode cX11_best 67 = .ok (.getfield 35, 3) := by decide +kernel
theorem dX11_best_70 : decode cX11_best 70 = .ok (.aload_n 0, 1) := by decide +kernel
theorem dX11_best_71 : decode cX11_best 71 = .ok (.getfield 42, 3) := by decide +kernel
theorem dX11_best_74 : decode cX11_best 74 = .ok (.iload_n 1, 1) := by decide +kernel
theorem dX11_best_75 : decode cX11_best 75 = .ok (.invokevirtual 190, 3) := by decide +kernel
theorem dX11_best_78 : decode cX11_best 78 = .ok (.ireturn, 1) := by decide +kernel
theorem dX11_beside_0 : decode cX11_beside 0 = .ok (.aload_n 0, 1) := by decide +kernel
theorem dX11_beside_1 : decode cX11_beside 1 = .ok (.iload_n 1, 1) := by decide +kernel
theorem dX11_beside_2 : decode cX11_beside 2 = .ok (.invokevirtual 155, 3) := by decide +kernel
theorem dX11_beside_5 : decode cX11_beside 5 = .ok (.ifCond .eq 12, 3) := by decide +kernel
theorem dX11_beside_8 : decode cX11_beside 8 = .ok (.iload_n 2, 1) := by decide +kernel
theorem dX11_beside_9 : decode cX11_beside 9 = .ok (.ifCond .lt 8, 3) := by decide +kernel
theorem dX11_beside_12 : decode cX11_beside 12 = .ok (.iload_n 2, 1) := by decide +kernel
theorem dX11_beside_13 : decode cX11_beside 13 = .ok (.iconst 1, 1) := by decide +kernel
theorem dX11_beside_14 : decode cX11_beside 14 = .ok (.if_icmp .le 7, 3) := by decide +kernel
theorem dX11_beside_17 : decode cX11_beside 17 = .ok (.ldc2_w 195, 3) := by decide +kernel
theorem dX11_beside_20 : decode cX11_beside 20 = .ok (.lreturn, 1) := by decide +kernel
theorem dX11_beside_21 : decode cX11_beside 21 = .ok (.iload_n 1, 1) := by decide +kernel
theorem dX11_beside_22 : decode cX11_beside 22 = .ok (.bipush 10, 2) := by decide +kernel
theorem dX11_beside_24 : decode cX11_beside 24 = .ok (.idiv, 1) := by decide +kernel
theorem dX11_beside_25 : decode cX11_beside 25 = .ok (.istore_n 3, 1) := by decide +kernel
theorem dX11_beside_26 : decode cX11_beside 26 = .ok (.aload_n 0, 1) := by decide +kernel
theorem dX11_beside_27 : decode cX11_beside 27 = .ok (.getfield 42, 3) := by decide +kernel
theorem dX11_beside_30 : decode cX11_beside 30 = .ok (.iload_n 3, 1) := by decide +kernel
theorem dX11_beside_31 : decode cX11_beside 31 = .ok (.invokevirtual 180, 3) := by decide +kernel
theorem dX11_beside_34 : decode cX11_beside 34 = .ok (.ifCond .eq 25, 3) := by decide +kernel
theorem dX11_beside_37 : decode cX11_beside 37 = .ok (.bipush 12, 2) := by decide +kernel
theorem dX11_beside_39 : decode cX11_beside 39 = .ok (.aload_n 0, 1) := by decide +kernel
theorem dX11_beside_40 : decode cX11_beside 40 = .ok (.getfield 35, 3) := by decide +kernel
theorem dX11_beside_43 : decode cX11_beside 43 = .ok (.aload_n 0, 1) := by decide +kernel
theorem dX11_beside_44 : decode cX11_beside 44 = .ok (.getfield 42, 3) := by decide +kernel
theorem dX11_beside_47 : decode cX11_beside 47 = .ok (.iload_n 3, 1) := by decide +kernel
theorem dX11_beside_48 : decode cX11_beside 48 = .ok (.iload_n 1, 1) := by decide +kernel
theorem dX11_beside_49 : decode cX11_beside 49 = .ok (.bipush 10, 2) := by decide +kernel
theorem dX11_beside_51 : decode cX11_beside 51 = .ok (.irem, 1) := by decide +kernel
theorem dX11_beside_52 : decode cX11_beside 52 = .ok (.invokevirtual 158, 3) := by decide +kernel
theorem dX11_beside_55 : decode cX11_beside 55 = .ok (.isub, 1) := by decide +kernel
theorem dX11_beside_56 : decode cX11_beside 56 = .ok (.goto 4, 3) := by decide +kernel
theorem dX11_beside_59 : decode cX11_beside 59 = .ok (.iconst 0, 1) := by decide +kernel
theorem dX11_beside_60 : decode cX11_beside 60 = .ok (.istore 4, 2) := by decide +kernel
theorem dX11_beside_62 : decode cX11_beside 62 = .ok (.iload 4, 2) := by decide +kernel
theorem dX11_beside_64 : decode cX11_beside 64 = .ok (.invokestatic 197, 3) := by decide +kernel
theorem dX11_beside_67 : decode cX11_beside 67 = .ok (.istore 5, 2) := by decide +kernel
theorem dX11_beside_69 : decode cX11_beside 69 = .ok (.iload_n 2, 1) := by decide +kernel
theorem dX11_beside_70 : decode cX11_beside 70 = .ok (.ifCond .ne 12, 3) := by decide +kernel
theorem dX11_beside_73 : decode cX11_beside 73 = .ok (.iload 4, 2) := by decide +kernel
theorem dX11_beside_75 : decode cX11_beside 75 = .ok (.iload 5, 2) := by decide +kernel
theorem dX11_beside_77 : decode cX11_beside 77 = .ok (.idiv, 1) := by decide +kernel
theorem dX11_beside_78 : decode cX11_beside 78 = .ok (.i2l, 1) := by decide +kernel
theorem dX11_beside_79 : decode cX11_beside 79 = .ok (.goto 9, 3) := by decide +kernel
theorem dX11_beside_82 : decode cX11_beside 82 = .ok (.bipush 12, 2) := by decide +kernel
theorem dX11_beside_84 : decode cX11_beside 84 = .ok (.iload 5, 2) := by decide +kernel
theorem dX11_beside_86 : decode cX11_beside 86 = .ok (.idiv, 1) := by decide +kernel
theorem dX11_beside_87 : decode cX11_beside 87 = .ok (.i2l, 1) := by decide +kernel
theorem dX11_beside_88 : decode cX11_beside 88 = .ok (.lreturn, 1) := by decide +kernel
theorem dX11_tillBound_0 : decode cX11_tillBound 0 = .ok (.aload_n 0, 1) := by decide +kernel
theorem dX11_tillBound_1 : decode cX11_tillBound 1 = .ok (.iload_n 1, 1) := by decide +kernel
theorem dX11_tillBound_2 : decode cX11_tillBound 2 = .ok (.invokevirtual 155, 3) := by decide +kernel
theorem dX11_tillBound_5 : decode cX11_tillBound 5 = .ok (.ifCond .ne 5, 3) := by decide +kernel
theorem dX11_tillBound_8 : decode cX11_tillBound 8 = .ok (.iconst (-1), 1) := by decide +kernel
theorem dX11_tillBound_9 : decode cX11_tillBound 9 = .ok (.ireturn, 1) := by decide +kernel
theorem dX11_tillBound_10 : decode cX11_tillBound 10 = .ok (.aload_n 0, 1) := by decide +kernel
theorem dX11_tillBound_11 : decode cX11_tillBound 11 = .ok (.getfield 10, 3) := by decide +kernel
theorem dX11_tillBound_14 : decode cX11_tillBound 14 = .ok (.invokevirtual 183, 3) := by decide +kernel
theorem dX11_tillBound_17 : decode cX11_tillBound 17 = .ok (.iconst 4, 1) := by decide +kernel
theorem dX11_tillBound_18 : decode cX11_tillBound 18 = .ok (.if_icmp .le 6, 3) := by decide +kernel
theorem dX11_tillBound_21 : decode cX11_tillBound 21 = .ok (.bipush (-5), 2) := by decide +kernel
theorem dX11_tillBound_23 : decode cX11_tillBound 23 = .ok (.ireturn, 1) := by decide +kernel
theorem dX11_tillBound_24 : decode cX11_tillBound 24 = .ok (.aload_n 0, 1) := by decide +kernel
theorem dX11_tillBound_25 : decode cX11_tillBound 25 = .ok (.getfield 72, 3) := by decide +kernel
theorem dX11_tillBound_28 : decode cX11_tillBound 28 = .ok (.aload_n 0, 1) := by decide +kernel
theorem dX11_tillBound_29 : decode cX11_tillBound 29 = .ok (.getfield 42, 3) := by decide +kernel
theorem dX11_tillBound_32 : decode cX11_tillBound 32 = .ok (.iload_n 1, 1) := by decide +kernel
theorem dX11_tillBound_33 : decode cX11_tillBound 33 = .ok (.bipush 10, 2) := by decide +kernel
theorem dX11_tillBound_35 : decode cX11_tillBound 35 = .ok (.idiv, 1) := by decide +kernel
theorem dX11_tillBound_36 : decode cX11_tillBound 36 = .ok (.iload_n 1, 1) := by decide +kernel
theorem dX11_tillBound_37 : decode cX11_tillBound 37 = .ok (.bipush 10, 2) := by decide +kernel
theorem dX11_tillBound_39 : decode cX11_tillBound 39 = .ok (.irem, 1) := by decide +kernel
theorem dX11_tillBound_40 : decode cX11_tillBound 40 = .ok (.invokevirtual 200, 3) := by decide +kernel
theorem dX11_tillBound_43 : decode cX11_tillBound 43 = .ok (.ireturn, 1) := by decide +kernel
theorem dX11_round_0 : decode cX11_round 0 = .ok (.aload_n 0, 1) := by decide +kernel
theorem dX11_round_1 : decode cX11_round 1 = .ok (.getfield 10, 3) := by decide +kernel
theorem dX11_round_4 : decode cX11_round 4 = .ok (.invokevirtual 183, 3) := by decide +kernel
theorem dX11_round_7 : decode cX11_round 7 = .ok (.iconst 4, 1) := by decide +kernel
theorem dX11_round_8 : decode cX11_round 8 = .ok (.if_icmp .le 8, 3) := by decide +kernel
theorem dX11_round_11 : decode cX11_round 11 = .ok (.bipush (-5), 2) := by decide +kernel
theorem dX11_round_13 : decode cX11_round 13 = .ok (.goto 14, 3) := by decide +kernel
theorem dX11_round_16 : decode cX11_round 16 = .ok (.aload_n 0, 1) := by decide +kernel
theorem dX11_round_17 : decode cX11_round 17 = .ok (.getfield 72, 3) := by decide +kernel
theorem dX11_round_20 : decode cX11_round 20 = .ok (.aload_n 0, 1) := by decide +kernel
theorem dX11_round_21 : decode cX11_round 21 = .ok (.getfield 42, 3) := by decide +kernel
theorem dX11_round_24 : decode cX11_round 24 = .ok (.invokevirtual 203, 3) := by decide +kernel
theorem dX11_round_27 : decode cX11_round 27 = .ok (.ireturn, 1) := by decide +kernel
theorem dX11_sure_0 : decode cX11_sure 0 = .ok (.aload_n 0, 1) := by decide +kernel
theorem dX11_sure_1 : decode cX11_sure 1 = .ok (.iload_n 1, 1) := by decide +kernel
theorem dX11_sure_2 : decode cX11_sure 2 = .ok (.invokevirtual 155, 3) := by decide +kernel
theorem dX11_sure_5 : decode cX11_sure 5 = .ok (.ifCond .ne 5, 3) := by decide +kernel
theorem dX11_sure_8 : decode cX11_sure 8 = .ok (.iconst (-1), 1) := by decide +kernel
theorem dX11_sure_9 : decode cX11_sure 9 = .ok (.ireturn, 1) := by decide +kernel
theorem dX11_sure_10 : decode cX11_sure 10 = .ok (.iload_n 1, 1) := by decide +kernel
theorem dX11_sure_11 : decode cX11_sure 11 = .ok (.bipush 10, 2) := by decide +kernel
theorem dX11_sure_13 : decode cX11_sure 13 = .ok (.idiv, 1) := by decide +kernel
theorem dX11_sure_14 : decode cX11_sure 14 = .ok (.istore_n 2, 1) := by decide +kernel
theorem dX11_sure_15 : decode cX11_sure 15 = .ok (.aload_n 0, 1) := by decide +kernel
theorem dX11_sure_16 : decode cX11_sure 16 = .ok (.getfield 10, 3) := by decide +kernel
theorem dX11_sure_19 : decode cX11_sure 19 = .ok (.invokevirtual 183, 3) := by decide +kernel
theorem dX11_sure_22 : decode cX11_sure 22 = .ok (.iconst 4, 1) := by decide +kernel
theorem dX11_sure_23 : decode cX11_sure 23 = .ok (.if_icmp .gt 14, 3) := by decide +kernel
theorem dX11_sure_26 : decode cX11_sure 26 = .ok (.aload_n 0, 1) := by decide +kernel
theorem dX11_sure_27 : decode cX11_sure 27 = .ok (.getfield 42, 3) := by decide +kernel
theorem dX11_sure_30 : decode cX11_sure 30 = .ok (.iload_n 2, 1) := by decide +kernel
theorem dX11_sure_31 : decode cX11_sure 31 = .ok (.invokevirtual 180, 3) := by decide +kernel
theorem dX11_sure_34 : decode cX11_sure 34 = .ok (.ifCond .ne 6, 3) := by decide +kernel
theorem dX11_sure_37 : decode cX11_sure 37 = .ok (.bipush (-5), 2) := by decide +kernel
theorem dX11_sure_39 : decode cX11_sure 39 = .ok (.ireturn, 1) := by decide +kernel
theorem dX11_sure_40 : decode cX11_sure 40 = .ok (.aload_n 0, 1) := by decide +kernel
theorem dX11_sure_41 : decode cX11_sure 41 = .ok (.getfield 72, 3) := by decide +kernel
theorem dX11_sure_44 : decode cX11_sure 44 = .ok (.aload_n 0, 1) := by decide +kernel
theorem dX11_sure_45 : decode cX11_sure 45 = .ok (.getfield 42, 3) := by decide +kernel
theorem dX11_sure_48 : decode cX11_sure 48 = .ok (.iload_n 2, 1) := by decide +kernel
theorem dX11_sure_49 : decode cX11_sure 49 = .ok (.iload_n 1, 1) := by decide +kernel
theorem dX11_sure_50 : decode cX11_sure 50 = .ok (.bipush 10, 2) := by decide +kernel
theorem dX11_sure_52 : decode cX11_sure 52 = .ok (.irem, 1) := by decide +kernel
theorem dX11_sure_53 : decode cX11_sure 53 = .ok (.invokevirtual 207, 3) := by decide +kernel
theorem dX11_sure_56 : decode cX11_sure 56 = .ok (.ireturn, 1) := by decide +kernel
theorem dX11_charges_0 : decode cX11_charges 0 = .ok (.iload_n 1, 1) := by decide +kernel
theorem dX11_charges_1 : decode cX11_charges 1 = .ok (.invokestatic 116, 3) := by decide +kernel
theorem dX11_charges_4 : decode cX11_charges 4 = .ok (.ifCond .eq 12, 3) := by decide +kernel
theorem dX11_charges_7 : decode cX11_charges 7 = .ok (.iload_n 2, 1) := by decide +kernel
theorem dX11_charges_8 : decode cX11_charges 8 = .ok (.ifCond .lt 8, 3) := by decide +kernel
theorem dX11_charges_11 : decode cX11_charges 11 = .ok (.iload_n 2, 1) := by decide +kernel
theorem dX11_charges_12 : decode cX11_charges 12 = .ok (.iconst 2, 1) := by decide +kernel
theorem dX11_charges_13 : decode cX11_charges 13 = .ok (.if_icmp .le 5, 3) := by decide +kernel
theorem dX11_charges_16 : decode cX11_charges 16 = .ok (.iconst (-1), 1) := by decide +kernel
theorem dX11_charges_17 : decode cX11_charges 17 = .ok (.ireturn, 1) := by decide +kernel
theorem dX11_charges_18 : decode cX11_charges 18 = .ok (.aload_n 0, 1) := by decide +kernel
theorem dX11_charges_19 : decode cX11_charges 19 = .ok (.getfield 99, 3) := by decide +kernel
theorem dX11_charges_22 : decode cX11_charges 22 = .ok (.iload_n 1, 1) := by decide +kernel
theorem dX11_charges_23 : decode cX11_charges 23 = .ok (.aaload, 1) := by decide +kernel
theorem dX11_charges_24 : decode cX11_charges 24 = .ok (.invokevirtual 210, 3) := by decide +kernel
theorem dX11_charges_27 : decode cX11_charges 27 = .ok (.istore_n 3, 1) := by decide +kernel
theorem dX11_charges_28 : decode cX11_charges 28 = .ok (.iload_n 3, 1) := by decide +kernel
theorem dX11_charges_29 : decode cX11_charges 29 = .ok (.ifCond .ge 5, 3) := by decide +kernel
theorem dX11_charges_32 : decode cX11_charges 32 = .ok (.iload_n 3, 1) := by decide +kernel
theorem dX11_charges_33 : decode cX11_charges 33 = .ok (.ireturn, 1) := by decide +kernel
theorem dX11_charges_34 : decode cX11_charges 34 = .ok (.aload_n 0, 1) := by decide +kernel
theorem dX11_charges_35 : decode cX11_charges 35 = .ok (.getfield 79, 3) := by decide +kernel
theorem dX11_charges_38 : decode cX11_charges 38 = .ok (.aload_n 0, 1) := by decide +kernel
theorem dX11_charges_39 : decode cX11_charges 39 = .ok (.getfield 99, 3) := by decide +kernel
theorem dX11_charges_42 : decode cX11_charges 42 = .ok (.iload_n 1, 1) := by decide +kernel
theorem dX11_charges_43 : decode cX11_charges 43 = .ok (.aaload, 1) := by decide +kernel
theorem dX11_charges_44 : decode cX11_charges 44 = .ok (.aload_n 0, 1) := by decide +kernel
theorem dX11_charges_45 : decode cX11_charges 45 = .ok (.getfield 10, 3) := by decide +kernel
theorem dX11_charges_48 : decode cX11_charges 48 = .ok (.invokevirtual 213, 3) := by decide +kernel
theorem dX11_charges_51 : decode cX11_charges 51 = .ok (.iload_n 2, 1) := by decide +kernel
theorem dX11_charges_52 : decode cX11_charges 52 = .ok (.ifCond .ne 15, 3) := by decide +kernel
theorem dX11_charges_55 : decode cX11_charges 55 = .ok (.aload_n 0, 1) := by decide +kernel
theorem dX11_charges_56 : decode cX11_charges 56 = .ok (.getfield 79, 3) := by decide +kernel
theorem dX11_charges_59 : decode cX11_charges 59 = .ok (.aload_n 0, 1) := by decide +kernel
theorem dX11_charges_60 : decode cX11_charges 60 = .ok (.getfield 10, 3) := by decide +kernel
theorem dX11_charges_63 : decode cX11_charges 63 = .ok (.invokevirtual 217, 3) := by decide +kernel
theorem dX11_charges_66 : decode cX11_charges 66 = .ok (.ireturn, 1) := by decide +kernel
theorem dX11_charges_67 : decode cX11_charges 67 = .ok (.iload_n 2, 1) := by decide +kernel
theorem dX11_charges_68 : decode cX11_charges 68 = .ok (.iconst 1, 1) := by decide +kernel
theorem dX11_charges_69 : decode cX11_charges 69 = .ok (.if_icmp .ne 13, 3) := by decide +kernel
theorem dX11_charges_72 : decode cX11_charges 72 = .ok (.aload_n 0, 1) := by decide +kernel
theorem dX11_charges_73 : decode cX11_charges 73 = .ok (.getfield 79, 3) := by decide +kernel
theorem dX11_charges_76 : decode cX11_charges 76 = .ok (.invokevirtual 221, 3) := by decide +kernel
theorem dX11_charges_79 : decode cX11_charges 79 = .ok (.goto 10, 3) := by decide +kernel
theorem dX11_charges_82 : decode cX11_charges 82 = .ok (.aload_n 0, 1) := by decide +kernel
theorem dX11_charges_83 : decode cX11_charges 83 = .ok (.getfield 79, 3) := by decide +kernel
theorem dX11_charges_86 : decode cX11_charges 86 = .ok (.invokevirtual 224, 3) := by decide +kernel
theorem dX11_charges_89 : decode cX11_charges 89 = .ok (.ireturn, 1) := by decide +kernel
theorem dX11_days_0 : decode cX11_days 0 = .ok (.iload_n 1, 1) := by decide +kernel
theorem dX11_days_1 : decode cX11_days 1 = .ok (.invokestatic 116, 3) := by decide +kernel
theorem dX11_days_4 : decode cX11_days 4 = .ok (.ifCond .eq 8, 3) := by decide +kernel
theorem dX11_days_7 : decode cX11_days 7 = .ok (.iload_n 2, 1) := by decide +kernel
theorem dX11_days_8 : decode cX11_days 8 = .ok (.iconst (-1), 1) := by decide +kernel
theorem dX11_days_9 : decode cX11_days 9 = .ok (.if_icmp .ge 5, 3) := by decide +kernel
theorem dX11_days_12 : decode cX11_days 12 = .ok (.iconst (-1), 1) := by decide +kernel
theorem dX11_days_13 : decode cX11_days 13 = .ok (.ireturn, 1) := by decide +kernel
theorem dX11_days_14 : decode cX11_days 14 = .ok (.aload_n 0, 1) := by decide +kernel
theorem dX11_days_15 : decode cX11_days 15 = .ok (.getfield 99, 3) := by decide +kernel
theorem dX11_days_18 : decode cX11_days 18 = .ok (.iload_n 1, 1) := by decide +kernel
theorem dX11_days_19 : decode cX11_days 19 = .ok (.aaload, 1) := by decide +kernel
theorem dX11_days_20 : decode cX11_days 20 = .ok (.invokevirtual 210, 3) := by decide +kernel
theorem dX11_days_23 : decode cX11_days 23 = .ok (.istore_n 3, 1) := by decide +kernel
theorem dX11_days_24 : decode cX11_days 24 = .ok (.iload_n 3, 1) := by decide +kernel
theorem dX11_days_25 : decode cX11_days 25 = .ok (.ifCond .ge 5, 3) := by decide +kernel
theorem dX11_days_28 : decode cX11_days 28 = .ok (.iload_n 3, 1) := by decide +kernel
theorem dX11_days_29 : decode cX11_days 29 = .ok (.ireturn, 1) := by decide +kernel
theorem dX11_days_30 : decode cX11_days 30 = .ok (.aload_n 0, 1) := by decide +kernel
theorem dX11_days_31 : decode cX11_days 31 = .ok (.getfield 79, 3) := by decide +kernel
theorem dX11_days_34 : decode cX11_days 34 = .ok (.aload_n 0, 1) := by decide +kernel
theorem dX11_days_35 : decode cX11_days 35 = .ok (.getfield 99, 3) := by decide +kernel
theorem dX11_days_38 : decode cX11_days 38 = .ok (.iload_n 1, 1) := by decide +kernel
theorem dX11_days_39 : decode cX11_days 39 = .ok (.aaload, 1) := by decide +kernel
theorem dX11_days_40 : decode cX11_days 40 = .ok (.aload_n 0, 1) := by decide +kernel
theorem dX11_days_41 : decode cX11_days 41 = .ok (.getfield 10, 3) := by decide +kernel
theorem dX11_days_44 : decode cX11_days 44 = .ok (.invokevirtual 213, 3) := by decide +kernel
theorem dX11_days_47 : decode cX11_days 47 = .ok (.aload_n 0, 1) := by decide +kernel
theorem dX11_days_48 : decode cX11_days 48 = .ok (.getfield 79, 3) := by decide +kernel
theorem dX11_days_51 : decode cX11_days 51 = .ok (.invokevirtual 224, 3) := by decide +kernel
theorem dX11_days_54 : decode cX11_days 54 = .ok (.bipush 6, 2) := by decide +kernel
theorem dX11_days_56 : decode cX11_days 56 = .ok (.if_icmp .le 6, 3) := by decide +kernel
theorem dX11_days_59 : decode cX11_days 59 = .ok (.bipush (-5), 2) := by decide +kernel
theorem dX11_days_61 : decode cX11_days 61 = .ok (.ireturn, 1) := by decide +kernel
theorem dX11_days_62 : decode cX11_days 62 = .ok (.iload_n 2, 1) := by decide +kernel
theorem dX11_days_63 : decode cX11_days 63 = .ok (.aload_n 0, 1) := by decide +kernel
theorem dX11_days_64 : decode cX11_days 64 = .ok (.getfield 79, 3) := by decide +kernel
theorem dX11_days_67 : decode cX11_days 67 = .ok (.invokevirtual 224, 3) := by decide +kernel
theorem dX11_days_70 : decode cX11_days 70 = .ok (.if_icmp .lt 6, 3) := by decide +kernel
theorem dX11_days_73 : decode cX11_days 73 = .ok (.bipush (-2), 2) := by decide +kernel
theorem dX11_days_75 : decode cX11_days 75 = .ok (.ireturn, 1) := by decide +kernel
theorem dX11_days_76 : decode cX11_days 76 = .ok (.aload_n 0, 1) := by decide +kernel
theorem dX11_days_77 : decode cX11_days 77 = .ok (.getfield 79, 3) := by decide +kernel
theorem dX11_days_80 : decode cX11_days 80 = .ok (.invokevirtual 225, 3) := by decide +kernel
theorem dX11_days_83 : decode cX11_days 83 = .ok (.istore 4, 2) := by decide +kernel
theorem dX11_days_85 : decode cX11_days 85 = .ok (.iload_n 2, 1) := by decide +kernel
theorem dX11_days_86 : decode cX11_days 86 = .ok (.iconst (-1), 1) := by decide +kernel
theorem dX11_days_87 : decode cX11_days 87 = .ok (.if_icmp .ne 8, 3) := by decide +kernel
theorem dX11_days_90 : decode cX11_days 90 = .ok (.iload 4, 2) := by decide +kernel
theorem dX11_days_92 : decode cX11_days 92 = .ok (.goto 11, 3) := by decide +kernel
theorem dX11_days_95 : decode cX11_days 95 = .ok (.aload_n 0, 1) := by decide +kernel
theorem dX11_days_96 : decode cX11_days 96 = .ok (.getfield 79, 3) := by decide +kernel
theorem dX11_days_99 : decode cX11_days 99 = .ok (.iload_n 2, 1) := by decide +kernel
theorem dX11_days_100 : decode cX11_days 100 = .ok (.invokevirtual 228, 3) := by decide +kernel
theorem dX11_days_103 : decode cX11_days 103 = .ok (.ireturn, 1) := by decide +kernel
theorem dX11_quiet_0 : decode cX11_quiet 0 = .ok (.aload_n 0, 1) := by decide +kernel
theorem dX11_quiet_1 : decode cX11_quiet 1 = .ok (.getfield 10, 3) := by decide +kernel
theorem dX11_quiet_4 : decode cX11_quiet 4 = .ok (.iload_n 1, 1) := by decide +kernel
theorem dX11_quiet_5 : decode cX11_quiet 5 = .ok (.invokevirtual 132, 3) := by decide +kernel
theorem dX11_quiet_8 : decode cX11_quiet 8 = .ok (.ifCond .eq 12, 3) := by decide +kernel
theorem dX11_quiet_11 : decode cX11_quiet 11 = .ok (.iload_n 2, 1) := by decide +kernel
theorem dX11_quiet_12 : decode cX11_quiet 12 = .ok (.ifCond .lt 8, 3) := by decide +kernel
theorem dX11_quiet_15 : decode cX11_quiet 15 = .ok (.iload_n 2, 1) := by decide +kernel
theorem dX11_quiet_16 : decode cX11_quiet 16 = .ok (.iconst 1, 1) := by decide +kernel
theorem dX11_quiet_17 : decode cX11_quiet 17 = .ok (.if_icmp .le 5, 3) := by decide +kernel
theorem dX11_quiet_20 : decode cX11_quiet 20 = .ok (.iconst (-1), 1) := by decide +kernel
theorem dX11_quiet_21 : decode cX11_quiet 21 = .ok (.ireturn, 1) := by decide +kernel
theorem dX11_quiet_22 : decode cX11_quiet 22 = .ok (.aload_n 0, 1) := by decide +kernel
theorem dX11_quiet_23 : decode cX11_quiet 23 = .ok (.getfield 10, 3) := by decide +kernel
theorem dX11_quiet_26 : decode cX11_quiet 26 = .ok (.invokevirtual 183, 3) := by decide +kernel
theorem dX11_quiet_29 : decode cX11_quiet 29 = .ok (.iconst 2, 1) := by decide +kernel
theorem dX11_quiet_30 : decode cX11_quiet 30 = .ok (.if_icmp .ge 7, 3) := by decide +kernel
theorem dX11_quiet_33 : decode cX11_quiet 33 = .ok (.iconst 1, 1) := by decide +kernel
theorem dX11_quiet_34 : decode cX11_quiet 34 = .ok (.goto 4, 3) := by decide +kernel
theorem dX11_quiet_37 : decode cX11_quiet 37 = .ok (.iconst 0, 1) := by decide +kernel
theorem dX11_quiet_38 : decode cX11_quiet 38 = .ok (.istore_n 3, 1) := by decide +kernel
theorem dX11_quiet_39 : decode cX11_quiet 39 = .ok (.iload_n 3, 1) := by decide +kernel
theorem dX11_quiet_40 : decode cX11_quiet 40 = .ok (.ifCond .eq 8, 3) := by decide +kernel
theorem dX11_quiet_43 : decode cX11_quiet 43 = .ok (.bipush 12, 2) := by decide +kernel
theorem dX11_quiet_45 : decode cX11_quiet 45 = .ok (.goto 27, 3) := by decide +kernel
theorem dX11_quiet_48 : decode cX11_quiet 48 = .ok (.aload_n 0, 1) := by decide +kernel
theorem dX11_quiet_49 : decode cX11_quiet 49 = .ok (.getfield 35, 3) := by decide +kernel
theorem dX11_quiet_52 : decode cX11_quiet 52 = .ok (.aload_n 0, 1) := by decide +kernel
theorem dX11_quiet_53 : decode cX11_quiet 53 = .ok (.getfield 42, 3) := by decide +kernel
theorem dX11_quiet_56 : decode cX11_quiet 56 = .ok (.iload_n 1, 1) := by decide +kernel
theorem dX11_quiet_57 : decode cX11_quiet 57 = .ok (.aload_n 0, 1) := by decide +kernel
theorem dX11_quiet_58 : decode cX11_quiet 58 = .ok (.getfield 35, 3) := by decide +kernel
theorem dX11_quiet_61 : decode cX11_quiet 61 = .ok (.aload_n 0, 1) := by decide +kernel
theorem dX11_quiet_62 : decode cX11_quiet 62 = .ok (.getfield 42, 3) := by decide +kernel
theorem dX11_quiet_65 : decode cX11_quiet 65 = .ok (.iload_n 1, 1) := by decide +kernel
theorem dX11_quiet_66 : decode cX11_quiet 66 = .ok (.invokevirtual 190, 3) := by decide +kernel
theorem dX11_quiet_69 : decode cX11_quiet 69 = .ok (.invokevirtual 158, 3) := by decide +kernel
theorem dX11_quiet_72 : decode cX11_quiet 72 = .ok (.istore 4, 2) := by decide +kernel
theorem dX11_quiet_74 : decode cX11_quiet 74 = .ok (.iload_n 2, 1) := by decide +kernel
theorem dX11_quiet_75 : decode cX11_quiet 75 = .ok (.ifCond .ne 6, 3) := by decide +kernel
theorem dX11_quiet_78 : decode cX11_quiet 78 = .ok (.iload 4, 2) := by decide +kernel
theorem dX11_quiet_80 : decode cX11_quiet 80 = .ok (.ireturn, 1) := by decide +kernel
theorem dX11_quiet_81 : decode cX11_quiet 81 = .ok (.iload_n 3, 1) := by decide +kernel
theorem dX11_quiet_82 : decode cX11_quiet 82 = .ok (.ifCond .eq 8, 3) := by decide +kernel
theorem dX11_quiet_85 : decode cX11_quiet 85 = .ok (.bipush 12, 2) := by decide +kernel
theorem dX11_quiet_87 : decode cX11_quiet 87 = .ok (.goto 27, 3) := by decide +kernel
theorem dX11_quiet_90 : decode cX11_quiet 90 = .ok (.aload_n 0, 1) := by decide +kernel
theorem dX11_quiet_91 : decode cX11_quiet 91 = .ok (.getfield 35, 3) := by decide +kernel
theorem dX11_quiet_94 : decode cX11_quiet 94 = .ok (.aload_n 0, 1) := by decide +kernel
theorem dX11_quiet_95 : decode cX11_quiet 95 = .ok (.getfield 42, 3) := by decide +kernel
theorem dX11_quiet_98 : decode cX11_quiet 98 = .ok (.iload_n 1, 1) := by decide +kernel
theorem dX11_quiet_99 : decode cX11_quiet 99 = .ok (.aload_n 0, 1) := by decide +kernel
theorem dX11_quiet_100 : decode cX11_quiet 100 = .ok (.getfield 35, 3) := by decide +kernel
theorem dX11_quiet_103 : decode cX11_quiet 103 = .ok (.aload_n 0, 1) := by decide +kernel
theorem dX11_quiet_104 : decode cX11_quiet 104 = .ok (.getfield 42, 3) := by decide +kernel
theorem dX11_quiet_107 : decode cX11_quiet 107 = .ok (.iload_n 1, 1) := by decide +kernel
theorem dX11_quiet_108 : decode cX11_quiet 108 = .ok (.invokevirtual 186, 3) := by decide +kernel
theorem dX11_quiet_111 : decode cX11_quiet 111 = .ok (.invokevirtual 158, 3) := by decide +kernel
theorem dX11_quiet_114 : decode cX11_quiet 114 = .ok (.istore 5, 2) := by decide +kernel
theorem dX11_quiet_116 : decode cX11_quiet 116 = .ok (.aload_n 0, 1) := by decide +kernel
theorem dX11_quiet_117 : decode cX11_quiet 117 = .ok (.getfield 42, 3) := by decide +kernel
theorem dX11_quiet_120 : decode cX11_quiet 120 = .ok (.iload_n 1, 1) := by decide +kernel
theorem dX11_quiet_121 : decode cX11_quiet 121 = .ok (.invokevirtual 180, 3) := by decide +kernel
theorem dX11_quiet_124 : decode cX11_quiet 124 = .ok (.ifCond .eq 13, 3) := by decide +kernel
theorem dX11_quiet_127 : decode cX11_quiet 127 = .ok (.iload 4, 2) := by decide +kernel
theorem dX11_quiet_129 : decode cX11_quiet 129 = .ok (.iload 5, 2) := by decide +kernel
theorem dX11_quiet_131 : decode cX11_quiet 131 = .ok (.iadd, 1) := by decide +kernel
theorem dX11_quiet_132 : decode cX11_quiet 132 = .ok (.bipush 12, 2) := by decide +kernel
theorem dX11_quiet_134 : decode cX11_quiet 134 = .ok (.if_icmp .ge 7, 3) := by decide +kernel
theorem dX11_quiet_137 : decode cX11_quiet 137 = .ok (.iconst 1, 1) := by decide +kernel
theorem dX11_quiet_138 : decode cX11_quiet 138 = .ok (.goto 4, 3) := by decide +kernel
theorem dX11_quiet_141 : decode cX11_quiet 141 = .ok (.iconst 0, 1) := by decide +kernel
theorem dX11_quiet_142 : decode cX11_quiet 142 = .ok (.ireturn, 1) := by decide +kernel
theorem dX11_judge_0 : decode cX11_judge 0 = .ok (.iload_n 1, 1) := by decide +kernel
theorem dX11_judge_1 : decode cX11_judge 1 = .ok (.invokestatic 116, 3) := by decide +kernel
theorem dX11_judge_4 : decode cX11_judge 4 = .ok (.ifCond .ne 5, 3) := by decide +kernel
theorem dX11_judge_7 : decode cX11_judge 7 = .ok (.iconst (-1), 1) := by decide +kernel
theorem dX11_judge_8 : decode cX11_judge 8 = .ok (.ireturn, 1) := by decide +kernel
theorem dX11_judge_9 : decode cX11_judge 9 = .ok (.aload_n 0, 1) := by decide +kernel
theorem dX11_judge_10 : decode cX11_judge 10 = .ok (.getfield 99, 3) := by decide +kernel
theorem dX11_judge_13 : decode cX11_judge 13 = .ok (.iload_n 1, 1) := by decide +kernel
theorem dX11_judge_14 : decode cX11_judge 14 = .ok (.aaload, 1) := by decide +kernel
theorem dX11_judge_15 : decode cX11_judge 15 = .ok (.invokevirtual 210, 3) := by decide +kernel
theorem dX11_judge_18 : decode cX11_judge 18 = .ok (.istore_n 2, 1) := by decide +kernel
theorem dX11_judge_19 : decode cX11_judge 19 = .ok (.iload_n 2, 1) := by decide +kernel
theorem dX11_judge_20 : decode cX11_judge 20 = .ok (.ifCond .ge 7, 3) := by decide +kernel
theorem dX11_judge_23 : decode cX11_judge 23 = .ok (.iload_n 2, 1) := by decide +kernel
theorem dX11_judge_24 : decode cX11_judge 24 = .ok (.goto 20, 3) := by decide +kernel
theorem dX11_judge_27 : decode cX11_judge 27 = .ok (.aload_n 0, 1) := by decide +kernel
theorem dX11_judge_28 : decode cX11_judge 28 = .ok (.getfield 65, 3) := by decide +kernel
theorem dX11_judge_31 : decode cX11_judge 31 = .ok (.aload_n 0, 1) := by decide +kernel
theorem dX11_judge_32 : decode cX11_judge 32 = .ok (.getfield 99, 3) := by decide +kernel
theorem dX11_judge_35 : decode cX11_judge 35 = .ok (.iload_n 1, 1) := by decide +kernel
theorem dX11_judge_36 : decode cX11_judge 36 = .ok (.aaload, 1) := by decide +kernel
theorem dX11_judge_37 : decode cX11_judge 37 = .ok (.aload_n 0, 1) := by decide +kernel
theorem dX11_judge_38 : decode cX11_judge 38 = .ok (.getfield 42, 3) := by decide +kernel
theorem dX11_judge_41 : decode cX11_judge 41 = .ok (.invokevirtual 231, 3) := by decide +kernel
theorem dX11_judge_44 : decode cX11_judge 44 = .ok (.ireturn, 1) := by decide +kernel
theorem dX11_roll_0 : decode cX11_roll 0 = .ok (.iload_n 1, 1) := by decide +kernel
theorem dX11_roll_1 : decode cX11_roll 1 = .ok (.invokestatic 116, 3) := by decide +kernel
theorem dX11_roll_4 : decode cX11_roll 4 = .ok (.ifCond .eq 12, 3) := by decide +kernel
theorem dX11_roll_7 : decode cX11_roll 7 = .ok (.iload_n 2, 1) := by decide +kernel
theorem dX11_roll_8 : decode cX11_roll 8 = .ok (.ifCond .lt 8, 3) := by decide +kernel
theorem dX11_roll_11 : decode cX11_roll 11 = .ok (.iload_n 2, 1) := by decide +kernel
theorem dX11_roll_12 : decode cX11_roll 12 = .ok (.iconst 1, 1) := by decide +kernel
theorem dX11_roll_13 : decode cX11_roll 13 = .ok (.if_icmp .le 5, 3) := by decide +kernel
theorem dX11_roll_16 : decode cX11_roll 16 = .ok (.iconst (-1), 1) := by decide +kernel
theorem dX11_roll_17 : decode cX11_roll 17 = .ok (.ireturn, 1) := by decide +kernel
theorem dX11_roll_18 : decode cX11_roll 18 = .ok (.aload_n 0, 1) := by decide +kernel
theorem dX11_roll_19 : decode cX11_roll 19 = .ok (.iload_n 1, 1) := by decide +kernel
theorem dX11_roll_20 : decode cX11_roll 20 = .ok (.invokevirtual 235, 3) := by decide +kernel
theorem dX11_roll_23 : decode cX11_roll 23 = .ok (.istore_n 3, 1) := by decide +kernel
theorem dX11_roll_24 : decode cX11_roll 24 = .ok (.iload_n 3, 1) := by decide +kernel
theorem dX11_roll_25 : decode cX11_roll 25 = .ok (.ifCond .ge 5, 3) := by decide +kernel
theorem dX11_roll_28 : decode cX11_roll 28 = .ok (.iload_n 3, 1) := by decide +kernel
theorem dX11_roll_29 : decode cX11_roll 29 = .ok (.ireturn, 1) := by decide +kernel
theorem dX11_roll_30 : decode cX11_roll 30 = .ok (.aload_n 0, 1) := by decide +kernel
theorem dX11_roll_31 : decode cX11_roll 31 = .ok (.getfield 65, 3) := by decide +kernel
theorem dX11_roll_34 : decode cX11_roll 34 = .ok (.aload_n 0, 1) := by decide +kernel
theorem dX11_roll_35 : decode cX11_roll 35 = .ok (.getfield 99, 3) := by decide +kernel
theorem dX11_roll_38 : decode cX11_roll 38 = .ok (.iload_n 1, 1) := by decide +kernel
theorem dX11_roll_39 : decode cX11_roll 39 = .ok (.aaload, 1) := by decide +kernel
theorem dX11_roll_40 : decode cX11_roll 40 = .ok (.aload_n 0, 1) := by decide +kernel
theorem dX11_roll_41 : decode cX11_roll 41 = .ok (.getfield 42, 3) := by decide +kernel
theorem dX11_roll_44 : decode cX11_roll 44 = .ok (.invokevirtual 238, 3) := by decide +kernel
theorem dX11_roll_47 : decode cX11_roll 47 = .ok (.iload_n 2, 1) := by decide +kernel
theorem dX11_roll_48 : decode cX11_roll 48 = .ok (.ifCond .ne 13, 3) := by decide +kernel
theorem dX11_roll_51 : decode cX11_roll 51 = .ok (.aload_n 0, 1) := by decide +kernel
theorem dX11_roll_52 : decode cX11_roll 52 = .ok (.getfield 65, 3) := by decide +kernel
theorem dX11_roll_55 : decode cX11_roll 55 = .ok (.invokevirtual 242, 3) := by decide +kernel
theorem dX11_roll_58 : decode cX11_roll 58 = .ok (.goto 10, 3) := by decide +kernel
theorem dX11_roll_61 : decode cX11_roll 61 = .ok (.aload_n 0, 1) := by decide +kernel
theorem dX11_roll_62 : decode cX11_roll 62 = .ok (.getfield 65, 3) := by decide +kernel
theorem dX11_roll_65 : decode cX11_roll 65 = .ok (.invokevirtual 245, 3) := by decide +kernel
theorem dX11_roll_68 : decode cX11_roll 68 = .ok (.ireturn, 1) := by decide +kernel
theorem dX11_sold_0 : decode cX11_sold 0 = .ok (.iload_n 1, 1) := by decide +kernel
theorem dX11_sold_1 : decode cX11_sold 1 = .ok (.invokestatic 116, 3) := by decide +kernel
theorem dX11_sold_4 : decode cX11_sold 4 = .ok (.ifCond .ne 5, 3) := by decide +kernel
theorem dX11_sold_7 : decode cX11_sold 7 = .ok (.iconst (-1), 1) := by decide +kernel
theorem dX11_sold_8 : decode cX11_sold 8 = .ok (.ireturn, 1) := by decide +kernel
theorem dX11_sold_9 : decode cX11_sold 9 = .ok (.aload_n 0, 1) := by decide +kernel
theorem dX11_sold_10 : decode cX11_sold 10 = .ok (.iload_n 1, 1) := by decide +kernel
theorem dX11_sold_11 : decode cX11_sold 11 = .ok (.invokevirtual 235, 3) := by decide +kernel
theorem dX11_sold_14 : decode cX11_sold 14 = .ok (.istore_n 2, 1) := by decide +kernel
theorem dX11_sold_15 : decode cX11_sold 15 = .ok (.iload_n 2, 1) := by decide +kernel
theorem dX11_sold_16 : decode cX11_sold 16 = .ok (.ifCond .ge 5, 3) := by decide +kernel
theorem dX11_sold_19 : decode cX11_sold 19 = .ok (.iload_n 2, 1) := by decide +kernel
theorem dX11_sold_20 : decode cX11_sold 20 = .ok (.ireturn, 1) := by decide +kernel
theorem dX11_sold_21 : decode cX11_sold 21 = .ok (.aload_n 0, 1) := by decide +kernel
theorem dX11_sold_22 : decode cX11_sold 22 = .ok (.getfield 65, 3) := by decide +kernel
theorem dX11_sold_25 : decode cX11_sold 25 = .ok (.aload_n 0, 1) := by decide +kernel
theorem dX11_sold_26 : decode cX11_sold 26 = .ok (.getfield 99, 3) := by decide +kernel
theorem dX11_sold_29 : decode cX11_sold 29 = .ok (.iload_n 1, 1) := by decide +kernel
theorem dX11_sold_30 : decode cX11_sold 30 = .ok (.aaload, 1) := by decide +kernel
theorem dX11_sold_31 : decode cX11_sold 31 = .ok (.aload_n 0, 1) := by decide +kernel
theorem dX11_sold_32 : decode cX11_sold 32 = .ok (.getfield 42, 3) := by decide +kernel
theorem dX11_sold_35 : decode cX11_sold 35 = .ok (.invokevirtual 238, 3) := by decide +kernel
theorem dX11_sold_38 : decode cX11_sold 38 = .ok (.aload_n 0, 1) := by decide +kernel
theorem dX11_sold_39 : decode cX11_sold 39 = .ok (.getfield 65, 3) := by decide +kernel
theorem dX11_sold_42 : decode cX11_sold 42 = .ok (.aload_n 0, 1) := by decide +kernel
theorem dX11_sold_43 : decode cX11_sold 43 = .ok (.getfield 99, 3) := by decide +kernel
theorem dX11_sold_46 : decode cX11_sold 46 = .ok (.iload_n 1, 1) := by decide +kernel
theorem dX11_sold_47 : decode cX11_sold 47 = .ok (.aaload, 1) := by decide +kernel
theorem dX11_sold_48 : decode cX11_sold 48 = .ok (.aload_n 0, 1) := by decide +kernel
theorem dX11_sold_49 : decode cX11_sold 49 = .ok (.getfield 42, 3) := by decide +kernel
theorem dX11_sold_52 : decode cX11_sold 52 = .ok (.invokevirtual 248, 3) := by decide +kernel
theorem dX11_sold_55 : decode cX11_sold 55 = .ok (.ireturn, 1) := by decide +kernel
theorem dX11_friend_0 : decode cX11_friend 0 = .ok (.aload_n 0, 1) := by decide +kernel
theorem dX11_friend_1 : decode cX11_friend 1 = .ok (.iload_n 1, 1) := by decide +kernel
theorem dX11_friend_2 : decode cX11_friend 2 = .ok (.invokevirtual 155, 3) := by decide +kernel
theorem dX11_friend_5 : decode cX11_friend 5 = .ok (.ifCond .eq 11, 3) := by decide +kernel
theorem dX11_friend_8 : decode cX11_friend 8 = .ok (.iconst 1, 1) := by decide +kernel
theorem dX11_friend_9 : decode cX11_friend 9 = .ok (.iload_n 2, 1) := by decide +kernel
theorem dX11_friend_10 : decode cX11_friend 10 = .ok (.invokestatic 104, 3) := by decide +kernel
theorem dX11_friend_13 : decode cX11_friend 13 = .ok (.ifCond .ne 6, 3) := by decide +kernel
theorem dX11_friend_16 : decode cX11_friend 16 = .ok (.ldc 139, 2) := by decide +kernel
theorem dX11_friend_18 : decode cX11_friend 18 = .ok (.ireturn, 1) := by decide +kernel
theorem dX11_friend_19 : decode cX11_friend 19 = .ok (.iload_n 1, 1) := by decide +kernel
theorem dX11_friend_20 : decode cX11_friend 20 = .ok (.bipush 10, 2) := by decide +kernel
theorem dX11_friend_22 : decode cX11_friend 22 = .ok (.idiv, 1) := by decide +kernel
theorem dX11_friend_23 : decode cX11_friend 23 = .ok (.istore_n 3, 1) := by decide +kernel
theorem dX11_friend_24 : decode cX11_friend 24 = .ok (.iload_n 1, 1) := by decide +kernel
theorem dX11_friend_25 : decode cX11_friend 25 = .ok (.bipush 10, 2) := by decide +kernel
theorem dX11_friend_27 : decode cX11_friend 27 = .ok (.irem, 1) := by decide +kernel
theorem dX11_friend_28 : decode cX11_friend 28 = .ok (.istore 4, 2) := by decide +kernel
theorem dX11_friend_30 : decode cX11_friend 30 = .ok (.aload_n 0, 1) := by decide +kernel
theorem dX11_friend_31 : decode cX11_friend 31 = .ok (.getfield 35, 3) := by decide +kernel
theorem dX11_friend_34 : decode cX11_friend 34 = .ok (.aload_n 0, 1) := by decide +kernel
theorem dX11_friend_35 : decode cX11_friend 35 = .ok (.getfield 42, 3) := by decide +kernel
theorem dX11_friend_38 : decode cX11_friend 38 = .ok (.iload_n 3, 1) := by decide +kernel
theorem dX11_friend_39 : decode cX11_friend 39 = .ok (.iload 4, 2) := by decide +kernel
theorem dX11_friend_41 : decode cX11_friend 41 = .ok (.invokevirtual 158, 3) := by decide +kernel
theorem dX11_friend_44 : decode cX11_friend 44 = .ok (.aload_n 0, 1) := by decide +kernel
theorem dX11_friend_45 : decode cX11_friend 45 = .ok (.getfield 35, 3) := by decide +kernel
theorem dX11_friend_48 : decode cX11_friend 48 = .ok (.aload_n 0, 1) := by decide +kernel
theorem dX11_friend_49 : decode cX11_friend 49 = .ok (.getfield 42, 3) := by decide +kernel
theorem dX11_friend_52 : decode cX11_friend 52 = .ok (.iload_n 3, 1) := by decide +kernel
theorem dX11_friend_53 : decode cX11_friend 53 = .ok (.iload 4, 2) := by decide +kernel
theorem dX11_friend_55 : decode cX11_friend 55 = .ok (.iload_n 2, 1) := by decide +kernel
theorem dX11_friend_56 : decode cX11_friend 56 = .ok (.iconst 0, 1) := by decide +kernel
theorem dX11_friend_57 : decode cX11_friend 57 = .ok (.invokevirtual 251, 3) := by decide +kernel
theorem dX11_friend_60 : decode cX11_friend 60 = .ok (.isub, 1) := by decide +kernel
theorem dX11_friend_61 : decode cX11_friend 61 = .ok (.ireturn, 1) := by decide +kernel
theorem dX11_drawn_0 : decode cX11_drawn 0 = .ok (.iload_n 2, 1) := by decide +kernel
theorem dX11_drawn_1 : decode cX11_drawn 1 = .ok (.bipush 100, 2) := by decide +kernel
theorem dX11_drawn_3 : decode cX11_drawn 3 = .ok (.idiv, 1) := by decide +kernel
theorem dX11_drawn_4 : decode cX11_drawn 4 = .ok (.istore 5, 2) := by decide +kernel
theorem dX11_drawn_6 : decode cX11_drawn 6 = .ok (.iload_n 2, 1) := by decide +kernel
theorem dX11_drawn_7 : decode cX11_drawn 7 = .ok (.bipush 100, 2) := by decide +kernel
theorem dX11_drawn_9 : decode cX11_drawn 9 = .ok (.irem, 1) := by decide +kernel
theorem dX11_drawn_10 : decode cX11_drawn 10 = .ok (.istore 6, 2) := by decide +kernel
theorem dX11_drawn_12 : decode cX11_drawn 12 = .ok (.iload 5, 2) := by decide +kernel
theorem dX11_drawn_14 : decode cX11_drawn 14 = .ok (.iconst 1, 1) := by decide +kernel
theorem dX11_drawn_15 : decode cX11_drawn 15 = .ok (.if_icmp .lt 49, 3) := by decide +kernel
theorem dX11_drawn_18 : decode cX11_drawn 18 = .ok (.iload 5, 2) := by decide +kernel
theorem dX11_drawn_20 : decode cX11_drawn 20 = .ok (.bipush 30, 2) := by decide +kernel
theorem dX11_drawn_22 : decode cX11_drawn 22 = .ok (.if_icmp .gt 42, 3) := by decide +kernel
theorem dX11_drawn_25 : decode cX11_drawn 25 = .ok (.iload 6, 2) := by decide +kernel
theorem dX11_drawn_27 : decode cX11_drawn 27 = .ok (.iconst 1, 1) := by decide +kernel
theorem dX11_drawn_28 : decode cX11_drawn 28 = .ok (.if_icmp .lt 36, 3) := by decide +kernel
theorem dX11_drawn_31 : decode cX11_drawn 31 = .ok (.iload 6, 2) := by decide +kernel
theorem dX11_drawn_33 : decode cX11_drawn 33 = .ok (.bipush 60, 2) := by decide +kernel
theorem dX11_drawn_35 : decode cX11_drawn 35 = .ok (.if_icmp .gt 29, 3) := by decide +kernel
theorem dX11_drawn_38 : decode cX11_drawn 38 = .ok (.iload_n 3, 1) := by decide +kernel
theorem dX11_drawn_39 : decode cX11_drawn 39 = .ok (.ifCond .lt 25, 3) := by decide +kernel
theorem dX11_drawn_42 : decode cX11_drawn 42 = .ok (.iload_n 3, 1) := by decide +kernel
theorem dX11_drawn_43 : decode cX11_drawn 43 = .ok (.iconst 2, 1) := by decide +kernel
theorem dX11_drawn_44 : decode cX11_drawn 44 = .ok (.if_icmp .gt 20, 3) := by decide +kernel
theorem dX11_drawn_47 : decode cX11_drawn 47 = .ok (.iload_n 3, 1) := by decide +kernel
theorem dX11_drawn_48 : decode cX11_drawn 48 = .ok (.iconst 1, 1) := by decide +kernel
theorem dX11_drawn_49 : decode cX11_drawn 49 = .ok (.if_icmp .ne 17, 3) := by decide +kernel
theorem dX11_drawn_52 : decode cX11_drawn 52 = .ok (.aload_n 0, 1) := by decide +kernel
theorem dX11_drawn_53 : decode cX11_drawn 53 = .ok (.getfield 10, 3) := by decide +kernel
theorem dX11_drawn_56 : decode cX11_drawn 56 = .ok (.iload 4, 2) := by decide +kernel
theorem dX11_drawn_58 : decode cX11_drawn 58 = .ok (.invokevirtual 132, 3) := by decide +kernel
theorem dX11_drawn_61 : decode cX11_drawn 61 = .ok (.ifCond .ne 5, 3) := by decide +kernel
theorem dX11_drawn_64 : decode cX11_drawn 64 = .ok (.iconst (-1), 1) := by decide +kernel
theorem dX11_drawn_65 : decode cX11_drawn 65 = .ok (.ireturn, 1) := by decide +kernel
theorem dX11_drawn_66 : decode cX11_drawn 66 = .ok (.aload_n 0, 1) := by decide +kernel
theorem dX11_drawn_67 : decode cX11_drawn 67 = .ok (.getfield 86, 3) := by decide +kernel
theorem dX11_drawn_70 : decode cX11_drawn 70 = .ok (.aload_n 0, 1) := by decide +kernel
theorem dX11_drawn_71 : decode cX11_drawn 71 = .ok (.getfield 42, 3) := by decide +kernel
theorem dX11_drawn_74 : decode cX11_drawn 74 = .ok (.iload_n 1, 1) := by decide +kernel
theorem dX11_drawn_75 : decode cX11_drawn 75 = .ok (.iload 5, 2) := by decide +kernel
theorem dX11_drawn_77 : decode cX11_drawn 77 = .ok (.iload 6, 2) := by decide +kernel
theorem dX11_drawn_79 : decode cX11_drawn 79 = .ok (.iload 4, 2) := by decide +kernel
theorem dX11_drawn_81 : decode cX11_drawn 81 = .ok (.invokevirtual 255, 3) := by decide +kernel
theorem dX11_drawn_84 : decode cX11_drawn 84 = .ok (.iload_n 3, 1) := by decide +kernel
theorem dX11_drawn_85 : decode cX11_drawn 85 = .ok (.ifCond .ne 11, 3) := by decide +kernel
theorem dX11_drawn_88 : decode cX11_drawn 88 = .ok (.aload_n 0, 1) := by decide +kernel
theorem dX11_drawn_89 : decode cX11_drawn 89 = .ok (.getfield 86, 3) := by decide +kernel
theorem dX11_drawn_92 : decode cX11_drawn 92 = .ok (.invokevirtual 259, 3) := by decide +kernel
theorem dX11_drawn_95 : decode cX11_drawn 95 = .ok (.ireturn, 1) := by decide +kernel
theorem dX11_drawn_96 : decode cX11_drawn 96 = .ok (.iload_n 3, 1) := by decide +kernel
theorem dX11_drawn_97 : decode cX11_drawn 97 = .ok (.iconst 1, 1) := by decide +kernel
theorem dX11_drawn_98 : decode cX11_drawn 98 = .ok (.if_icmp .ne 13, 3) := by decide +kernel
theorem dX11_drawn_101 : decode cX11_drawn 101 = .ok (.aload_n 0, 1) := by decide +kernel
theorem dX11_drawn_102 : decode cX11_drawn 102 = .ok (.getfield 86, 3) := by decide +kernel
theorem dX11_drawn_105 : decode cX11_drawn 105 = .ok (.invokevirtual 260, 3) := by decide +kernel
theorem dX11_drawn_108 : decode cX11_drawn 108 = .ok (.goto 10, 3) := by decide +kernel
theorem dX11_drawn_111 : decode cX11_drawn 111 = .ok (.aload_n 0, 1) := by decide +kernel
theorem dX11_drawn_112 : decode cX11_drawn 112 = .ok (.getfield 86, 3) := by decide +kernel
theorem dX11_drawn_115 : decode cX11_drawn 115 = .ok (.invokevirtual 263, 3) := by decide +kernel
theorem dX11_drawn_118 : decode cX11_drawn 118 = .ok (.ireturn, 1) := by decide +kernel
theorem dX11_hold_0 : decode cX11_hold 0 = .ok (.aload_n 0, 1) := by decide +kernel
theorem dX11_hold_1 : decode cX11_hold 1 = .ok (.iload_n 1, 1) := by decide +kernel
theorem dX11_hold_2 : decode cX11_hold 2 = .ok (.invokevirtual 155, 3) := by decide +kernel
theorem dX11_hold_5 : decode cX11_hold 5 = .ok (.ifCond .eq 12, 3) := by decide +kernel
theorem dX11_hold_8 : decode cX11_hold 8 = .ok (.iload_n 2, 1) := by decide +kernel
theorem dX11_hold_9 : decode cX11_hold 9 = .ok (.ifCond .lt 8, 3) := by decide +kernel
theorem dX11_hold_12 : decode cX11_hold 12 = .ok (.iload_n 2, 1) := by decide +kernel
theorem dX11_hold_13 : decode cX11_hold 13 = .ok (.iconst 1, 1) := by decide +kernel
theorem dX11_hold_14 : decode cX11_hold 14 = .ok (.if_icmp .le 5, 3) := by decide +kernel
theorem dX11_hold_17 : decode cX11_hold 17 = .ok (.iconst (-1), 1) := by decide +kernel
theorem dX11_hold_18 : decode cX11_hold 18 = .ok (.ireturn, 1) := by decide +kernel
theorem dX11_hold_19 : decode cX11_hold 19 = .ok (.iload_n 1, 1) := by decide +kernel
theorem dX11_hold_20 : decode cX11_hold 20 = .ok (.bipush 10, 2) := by decide +kernel
theorem dX11_hold_22 : decode cX11_hold 22 = .ok (.idiv, 1) := by decide +kernel
theorem dX11_hold_23 : decode cX11_hold 23 = .ok (.istore_n 3, 1) := by decide +kernel
theorem dX11_hold_24 : decode cX11_hold 24 = .ok (.iload_n 1, 1) := by decide +kernel
theorem dX11_hold_25 : decode cX11_hold 25 = .ok (.bipush 10, 2) := by decide +kernel
theorem dX11_hold_27 : decode cX11_hold 27 = .ok (.irem, 1) := by decide +kernel
theorem dX11_hold_28 : decode cX11_hold 28 = .ok (.istore 4, 2) := by decide +kernel
theorem dX11_hold_30 : decode cX11_hold 30 = .ok (.aload_n 0, 1) := by decide +kernel
theorem dX11_hold_31 : decode cX11_hold 31 = .ok (.getfield 42, 3) := by decide +kernel
theorem dX11_hold_34 : decode cX11_hold 34 = .ok (.iload_n 3, 1) := by decide +kernel
theorem dX11_hold_35 : decode cX11_hold 35 = .ok (.invokevirtual 180, 3) := by decide +kernel
theorem dX11_hold_38 : decode cX11_hold 38 = .ok (.ifCond .ne 6, 3) := by decide +kernel
theorem dX11_hold_41 : decode cX11_hold 41 = .ok (.bipush (-5), 2) := by decide +kernel
theorem dX11_hold_43 : decode cX11_hold 43 = .ok (.ireturn, 1) := by decide +kernel
theorem dX11_hold_44 : decode cX11_hold 44 = .ok (.aload_n 0, 1) := by decide +kernel
theorem dX11_hold_45 : decode cX11_hold 45 = .ok (.getfield 42, 3) := by decide +kernel
theorem dX11_hold_48 : decode cX11_hold 48 = .ok (.iload 4, 2) := by decide +kernel
theorem dX11_hold_50 : decode cX11_hold 50 = .ok (.invokevirtual 162, 3) := by decide +kernel
theorem dX11_hold_53 : decode cX11_hold 53 = .ok (.istore 5, 2) := by decide +kernel
theorem dX11_hold_55 : decode cX11_hold 55 = .ok (.aload_n 0, 1) := by decide +kernel
theorem dX11_hold_56 : decode cX11_hold 56 = .ok (.getfield 42, 3) := by decide +kernel
theorem dX11_hold_59 : decode cX11_hold 59 = .ok (.iload_n 3, 1) := by decide +kernel
theorem dX11_hold_60 : decode cX11_hold 60 = .ok (.iload 4, 2) := by decide +kernel
theorem dX11_hold_62 : decode cX11_hold 62 = .ok (.iload_n 2, 1) := by decide +kernel
theorem dX11_hold_63 : decode cX11_hold 63 = .ok (.iconst 1, 1) := by decide +kernel
theorem dX11_hold_64 : decode cX11_hold 64 = .ok (.if_icmp .ne 7, 3) := by decide +kernel
theorem dX11_hold_67 : decode cX11_hold 67 = .ok (.iconst 1, 1) := by decide +kernel
theorem dX11_hold_68 : decode cX11_hold 68 = .ok (.goto 4, 3) := by decide +kernel
theorem dX11_hold_71 : decode cX11_hold 71 = .ok (.iconst 0, 1) := by decide +kernel
theorem dX11_hold_72 : decode cX11_hold 72 = .ok (.invokevirtual 266, 3) := by decide +kernel
theorem dX11_hold_75 : decode cX11_hold 75 = .ok (.aload_n 0, 1) := by decide +kernel
theorem dX11_hold_76 : decode cX11_hold 76 = .ok (.getfield 49, 3) := by decide +kernel
theorem dX11_hold_79 : decode cX11_hold 79 = .ok (.iconst 0, 1) := by decide +kernel
theorem dX11_hold_80 : decode cX11_hold 80 = .ok (.dup2, 1) := by decide +kernel
theorem dX11_hold_81 : decode cX11_hold 81 = .ok (.iaload, 1) := by decide +kernel
theorem dX11_hold_82 : decode cX11_hold 82 = .ok (.iconst 1, 1) := by decide +kernel
theorem dX11_hold_83 : decode cX11_hold 83 = .ok (.iadd, 1) := by decide +kernel
theorem dX11_hold_84 : decode cX11_hold 84 = .ok (.iastore, 1) := by decide +kernel
theorem dX11_hold_85 : decode cX11_hold 85 = .ok (.aload_n 0, 1) := by decide +kernel
theorem dX11_hold_86 : decode cX11_hold 86 = .ok (.getfield 49, 3) := by decide +kernel
theorem dX11_hold_89 : decode cX11_hold 89 = .ok (.iconst 1, 1) := by decide +kernel
theorem dX11_hold_90 : decode cX11_hold 90 = .ok (.dup2, 1) := by decide +kernel
theorem dX11_hold_91 : decode cX11_hold 91 = .ok (.iaload, 1) := by decide +kernel
theorem dX11_hold_92 : decode cX11_hold 92 = .ok (.iload_n 2, 1) := by decide +kernel
theorem dX11_hold_93 : decode cX11_hold 93 = .ok (.iadd, 1) := by decide +kernel
theorem dX11_hold_94 : decode cX11_hold 94 = .ok (.iastore, 1) := by decide +kernel
theorem dX11_hold_95 : decode cX11_hold 95 = .ok (.aload_n 0, 1) := by decide +kernel
theorem dX11_hold_96 : decode cX11_hold 96 = .ok (.getfield 49, 3) := by decide +kernel
theorem dX11_hold_99 : decode cX11_hold 99 = .ok (.iconst 4, 1) := by decide +kernel
theorem dX11_hold_100 : decode cX11_hold 100 = .ok (.dup2, 1) := by decide +kernel
theorem dX11_hold_101 : decode cX11_hold 101 = .ok (.iaload, 1) := by decide +kernel
theorem dX11_hold_102 : decode cX11_hold 102 = .ok (.aload_n 0, 1) := by decide +kernel
theorem dX11_hold_103 : decode cX11_hold 103 = .ok (.getfield 10, 3) := by decide +kernel
theorem dX11_hold_106 : decode cX11_hold 106 = .ok (.iload_n 2, 1) := by decide +kernel
theorem dX11_hold_107 : decode cX11_hold 107 = .ok (.iconst 1, 1) := by decide +kernel
theorem dX11_hold_108 : decode cX11_hold 108 = .ok (.if_icmp .ne 8, 3) := by decide +kernel
theorem dX11_hold_111 : decode cX11_hold 111 = .ok (.iload 4, 2) := by decide +kernel
theorem dX11_hold_113 : decode cX11_hold 113 = .ok (.goto 4, 3) := by decide +kernel
theorem dX11_hold_116 : decode cX11_hold 116 = .ok (.iload_n 3, 1) := by decide +kernel
theorem dX11_hold_117 : decode cX11_hold 117 = .ok (.iconst 3, 1) := by decide +kernel
theorem dX11_hold_118 : decode cX11_hold 118 = .ok (.invokevirtual 144, 3) := by decide +kernel
theorem dX11_hold_121 : decode cX11_hold 121 = .ok (.iadd, 1) := by decide +kernel
theorem dX11_hold_122 : decode cX11_hold 122 = .ok (.iastore, 1) := by decide +kernel
theorem dX11_hold_123 : decode cX11_hold 123 = .ok (.iload 5, 2) := by decide +kernel
theorem dX11_hold_125 : decode cX11_hold 125 = .ok (.ireturn, 1) := by decide +kernel
theorem dX11_release_0 : decode cX11_release 0 = .ok (.aload_n 0, 1) := by decide +kernel
theorem dX11_release_1 : decode cX11_release 1 = .ok (.getfield 10, 3) := by decide +kernel
theorem dX11_release_4 : decode cX11_release 4 = .ok (.iload_n 1, 1) := by decide +kernel
theorem dX11_release_5 : decode cX11_release 5 = .ok (.invokevirtual 132, 3) := by decide +kernel
theorem dX11_release_8 : decode cX11_release 8 = .ok (.ifCond .ne 6, 3) := by decide +kernel
theorem dX11_release_11 : decode cX11_release 11 = .ok (.ldc 139, 2) := by decide +kernel
theorem dX11_release_13 : decode cX11_release 13 = .ok (.ireturn, 1) := by decide +kernel
theorem dX11_release_14 : decode cX11_release 14 = .ok (.aload_n 0, 1) := by decide +kernel
theorem dX11_release_15 : decode cX11_release 15 = .ok (.getfield 42, 3) := by decide +kernel
theorem dX11_release_18 : decode cX11_release 18 = .ok (.iload_n 1, 1) := by decide +kernel
theorem dX11_release_19 : decode cX11_release 19 = .ok (.invokevirtual 140, 3) := by decide +kernel
theorem dX11_release_22 : decode cX11_release 22 = .ok (.istore_n 2, 1) := by decide +kernel
theorem dX11_release_23 : decode cX11_release 23 = .ok (.aload_n 0, 1) := by decide +kernel
theorem dX11_release_24 : decode cX11_release 24 = .ok (.getfield 42, 3) := by decide +kernel
theorem dX11_release_27 : decode cX11_release 27 = .ok (.iload_n 1, 1) := by decide +kernel
theorem dX11_release_28 : decode cX11_release 28 = .ok (.invokevirtual 270, 3) := by decide +kernel
theorem dX11_release_31 : decode cX11_release 31 = .ok (.aload_n 0, 1) := by decide +kernel
theorem dX11_release_32 : decode cX11_release 32 = .ok (.getfield 49, 3) := by decide +kernel
theorem dX11_release_35 : decode cX11_release 35 = .ok (.iconst 3, 1) := by decide +kernel
theorem dX11_release_36 : decode cX11_release 36 = .ok (.dup2, 1) := by decide +kernel
theorem dX11_release_37 : decode cX11_release 37 = .ok (.iaload, 1) := by decide +kernel
theorem dX11_release_38 : decode cX11_release 38 = .ok (.iconst 1, 1) := by decide +kernel
theorem dX11_release_39 : decode cX11_release 39 = .ok (.iadd, 1) := by decide +kernel
theorem dX11_release_40 : decode cX11_release 40 = .ok (.iastore, 1) := by decide +kernel
theorem dX11_release_41 : decode cX11_release 41 = .ok (.iload_n 2, 1) := by decide +kernel
theorem dX11_release_42 : decode cX11_release 42 = .ok (.ireturn, 1) := by decide +kernel
theorem dX11_year_0 : decode cX11_year 0 = .ok (.aload_n 0, 1) := by decide +kernel
theorem dX11_year_1 : decode cX11_year 1 = .ok (.getfield 42, 3) := by decide +kernel
theorem dX11_year_4 : decode cX11_year 4 = .ok (.invokevirtual 274, 3) := by decide +kernel
theorem dX11_year_7 : decode cX11_year 7 = .ok (.istore_n 1, 1) := by decide +kernel
theorem dX11_year_8 : decode cX11_year 8 = .ok (.aload_n 0, 1) := by decide +kernel
theorem dX11_year_9 : decode cX11_year 9 = .ok (.getfield 42, 3) := by decide +kernel
theorem dX11_year_12 : decode cX11_year 12 = .ok (.invokevirtual 277, 3) := by decide +kernel
theorem dX11_year_15 : decode cX11_year 15 = .ok (.aload_n 0, 1) := by decide +kernel
theorem dX11_year_16 : decode cX11_year 16 = .ok (.getfield 49, 3) := by decide +kernel
theorem dX11_year_19 : decode cX11_year 19 = .ok (.iconst 2, 1) := by decide +kernel
theorem dX11_year_20 : decode cX11_year 20 = .ok (.dup2, 1) := by decide +kernel
theorem dX11_year_21 : decode cX11_year 21 = .ok (.iaload, 1) := by decide +kernel
theorem dX11_year_22 : decode cX11_year 22 = .ok (.iconst 1, 1) := by decide +kernel
theorem dX11_year_23 : decode cX11_year 23 = .ok (.iadd, 1) := by decide +kernel
theorem dX11_year_24 : decode cX11_year 24 = .ok (.iastore, 1) := by decide +kernel
theorem dX11_year_25 : decode cX11_year 25 = .ok (.iload_n 1, 1) := by decide +kernel
theorem dX11_year_26 : decode cX11_year 26 = .ok (.ireturn, 1) := by decide +kernel
theorem dX11_led_0 : decode cX11_led 0 = .ok (.iload_n 1, 1) := by decide +kernel
theorem dX11_led_1 : decode cX11_led 1 = .ok (.ifCond .lt 8, 3) := by decide +kernel
theorem dX11_led_4 : decode cX11_led 4 = .ok (.iload_n 1, 1) := by decide +kernel
theorem dX11_led_5 : decode cX11_led 5 = .ok (.iconst 5, 1) := by decide +kernel
theorem dX11_led_6 : decode cX11_led 6 = .ok (.if_icmp .lt 7, 3) := by decide +kernel
theorem dX11_led_9 : decode cX11_led 9 = .ok (.iconst (-1), 1) := by decide +kernel
theorem dX11_led_10 : decode cX11_led 10 = .ok (.goto 9, 3) := by decide +kernel
theorem dX11_led_13 : decode cX11_led 13 = .ok (.aload_n 0, 1) := by decide +kernel
theorem dX11_led_14 : decode cX11_led 14 = .ok (.getfield 49, 3) := by decide +kernel
theorem dX11_led_17 : decode cX11_led 17 = .ok (.iload_n 1, 1) := by decide +kernel
theorem dX11_led_18 : decode cX11_led 18 = .ok (.iaload, 1) := by decide +kernel
theorem dX11_led_19 : decode cX11_led 19 = .ok (.ireturn, 1) := by decide +kernel
theorem dX11_image_0 : decode cX11_image 0 = .ok (.aload_n 0, 1) := by decide +kernel
theorem dX11_image_1 : decode cX11_image 1 = .ok (.getfield 46, 3) := by decide +kernel
theorem dX11_image_4 : decode cX11_image 4 = .ok (.aload_n 0, 1) := by decide +kernel
theorem dX11_image_5 : decode cX11_image 5 = .ok (.getfield 42, 3) := by decide +kernel
theorem dX11_image_8 : decode cX11_image 8 = .ok (.invokevirtual 280, 3) := by decide +kernel
theorem dX11_image_11 : decode cX11_image 11 = .ok (.aload_n 0, 1) := by decide +kernel
theorem dX11_image_12 : decode cX11_image 12 = .ok (.getfield 49, 3) := by decide +kernel
theorem dX11_image_15 : decode cX11_image 15 = .ok (.iconst 0, 1) := by decide +kernel
theorem dX11_image_16 : decode cX11_image 16 = .ok (.aload_n 0, 1) := by decide +kernel
theorem dX11_image_17 : decode cX11_image 17 = .ok (.getfield 53, 3) := by decide +kernel
theorem dX11_image_20 : decode cX11_image 20 = .ok (.iconst 0, 1) := by decide +kernel
theorem dX11_image_21 : decode cX11_image 21 = .ok (.iconst 5, 1) := by decide +kernel
theorem dX11_image_22 : decode cX11_image 22 = .ok (.invokestatic 284, 3) := by decide +kernel
theorem dX11_image_25 : decode cX11_image 25 = .ok (.aload_n 0, 1) := by decide +kernel
theorem dX11_image_26 : decode cX11_image 26 = .ok (.iconst 1, 1) := by decide +kernel
theorem dX11_image_27 : decode cX11_image 27 = .ok (.putfield 56, 3) := by decide +kernel
theorem dX11_image_30 : decode cX11_image 30 = .ok (.aload_n 0, 1) := by decide +kernel
theorem dX11_image_31 : decode cX11_image 31 = .ok (.getfield 49, 3) := by decide +kernel
theorem dX11_image_34 : decode cX11_image 34 = .ok (.iconst 0, 1) := by decide +kernel
theorem dX11_image_35 : decode cX11_image 35 = .ok (.iaload, 1) := by decide +kernel
theorem dX11_image_36 : decode cX11_image 36 = .ok (.ireturn, 1) := by decide +kernel
theorem dX11_back_0 : decode cX11_back 0 = .ok (.aload_n 0, 1) := by decide +kernel
theorem dX11_back_1 : decode cX11_back 1 = .ok (.getfield 56, 3) := by decide +kernel
theorem dX11_back_4 : decode cX11_back 4 = .ok (.ifCond .ne 6, 3) := by decide +kernel
theorem dX11_back_7 : decode cX11_back 7 = .ok (.bipush (-5), 2) := by decide +kernel
theorem dX11_back_9 : decode cX11_back 9 = .ok (.ireturn, 1) := by decide +kernel
theorem dX11_back_10 : decode cX11_back 10 = .ok (.aload_n 0, 1) := by decide +kernel
theorem dX11_back_11 : decode cX11_back 11 = .ok (.getfield 42, 3) := by decide +kernel
theorem dX11_back_14 : decode cX11_back 14 = .ok (.aload_n 0, 1) := by decide +kernel
theorem dX11_back_15 : decode cX11_back 15 = .ok (.getfield 46, 3) := by decide +kernel
theorem dX11_back_18 : decode cX11_back 18 = .ok (.invokevirtual 280, 3) := by decide +kernel
theorem dX11_back_21 : decode cX11_back 21 = .ok (.aload_n 0, 1) := by decide +kernel
theorem dX11_back_22 : decode cX11_back 22 = .ok (.getfield 53, 3) := by decide +kernel
theorem dX11_back_25 : decode cX11_back 25 = .ok (.iconst 0, 1) := by decide +kernel
theorem dX11_back_26 : decode cX11_back 26 = .ok (.aload_n 0, 1) := by decide +kernel
theorem dX11_back_27 : decode cX11_back 27 = .ok (.getfield 49, 3) := by decide +kernel
theorem dX11_back_30 : decode cX11_back 30 = .ok (.iconst 0, 1) := by decide +kernel
theorem dX11_back_31 : decode cX11_back 31 = .ok (.iconst 5, 1) := by decide +kernel
theorem dX11_back_32 : decode cX11_back 32 = .ok (.invokestatic 284, 3) := by decide +kernel
theorem dX11_back_35 : decode cX11_back 35 = .ok (.aload_n 0, 1) := by decide +kernel
theorem dX11_back_36 : decode cX11_back 36 = .ok (.getfield 49, 3) := by decide +kernel
theorem dX11_back_39 : decode cX11_back 39 = .ok (.iconst 0, 1) := by decide +kernel
theorem dX11_back_40 : decode cX11_back 40 = .ok (.iaload, 1) := by decide +kernel
theorem dX11_back_41 : decode cX11_back 41 = .ok (.ireturn, 1) := by decide +kernel
theorem dX11_undo_0 : decode cX11_undo 0 = .ok (.aload_n 0, 1) := by decide +kernel
theorem dX11_undo_1 : decode cX11_undo 1 = .ok (.getfield 10, 3) := by decide +kernel
theorem dX11_undo_4 : decode cX11_undo 4 = .ok (.invokevirtual 290, 3) := by decide +kernel
theorem dX11_undo_7 : decode cX11_undo 7 = .ok (.ifCond .ne 8, 3) := by decide +kernel
theorem dX11_undo_10 : decode cX11_undo 10 = .ok (.bipush (-5), 2) := by decide +kernel
theorem dX11_undo_12 : decode cX11_undo 12 = .ok (.goto 10, 3) := by decide +kernel
theorem dX11_undo_15 : decode cX11_undo 15 = .ok (.aload_n 0, 1) := by decide +kernel
theorem dX11_undo_16 : decode cX11_undo 16 = .ok (.getfield 10, 3) := by decide +kernel
theorem dX11_undo_19 : decode cX11_undo 19 = .ok (.invokevirtual 293, 3) := by decide +kernel
theorem dX11_undo_22 : decode cX11_undo 22 = .ok (.ireturn, 1) := by decide +kernel
theorem dX11_redo_0 : decode cX11_redo 0 = .ok (.aload_n 0, 1) := by decide +kernel
theorem dX11_redo_1 : decode cX11_redo 1 = .ok (.getfield 10, 3) := by decide +kernel
theorem dX11_redo_4 : decode cX11_redo 4 = .ok (.invokevirtual 296, 3) := by decide +kernel
theorem dX11_redo_7 : decode cX11_redo 7 = .ok (.ifCond .ne 8, 3) := by decide +kernel
theorem dX11_redo_10 : decode cX11_redo 10 = .ok (.bipush (-5), 2) := by decide +kernel
theorem dX11_redo_12 : decode cX11_redo 12 = .ok (.goto 10, 3) := by decide +kernel
theorem dX11_redo_15 : decode cX11_redo 15 = .ok (.aload_n 0, 1) := by decide +kernel
theorem dX11_redo_16 : decode cX11_redo 16 = .ok (.getfield 10, 3) := by decide +kernel
theorem dX11_redo_19 : decode cX11_redo 19 = .ok (.invokevirtual 299, 3) := by decide +kernel
theorem dX11_redo_22 : decode cX11_redo 22 = .ok (.ireturn, 1) := by decide +kernel
theorem dX11_body_0 : decode cX11_body 0 = .ok (.iload_n 1, 1) := by decide +kernel
theorem dX11_body_1 : decode cX11_body 1 = .ok (.invokestatic 302, 3) := by decide +kernel
theorem dX11_body_4 : decode cX11_body 4 = .ok (.ifCond .ne 5, 3) := by decide +kernel
theorem dX11_body_7 : decode cX11_body 7 = .ok (.iconst (-1), 1) := by decide +kernel
theorem dX11_body_8 : decode cX11_body 8 = .ok (.ireturn, 1) := by decide +kernel
theorem dX11_body_9 : decode cX11_body 9 = .ok (.aload_n 0, 1) := by decide +kernel
theorem dX11_body_10 : decode cX11_body 10 = .ok (.getfield 93, 3) := by decide +kernel
theorem dX11_body_13 : decode cX11_body 13 = .ok (.invokevirtual 305, 3) := by decide +kernel
theorem dX11_body_16 : decode cX11_body 16 = .ok (.ifCond .eq 8, 3) := by decide +kernel
theorem dX11_body_19 : decode cX11_body 19 = .ok (.bipush (-3), 2) := by decide +kernel
theorem dX11_body_21 : decode cX11_body 21 = .ok (.goto 11, 3) := by decide +kernel
theorem dX11_body_24 : decode cX11_body 24 = .ok (.aload_n 0, 1) := by decide +kernel
theorem dX11_body_25 : decode cX11_body 25 = .ok (.getfield 93, 3) := by decide +kernel
theorem dX11_body_28 : decode cX11_body 28 = .ok (.iload_n 1, 1) := by decide +kernel
theorem dX11_body_29 : decode cX11_body 29 = .ok (.invokevirtual 306, 3) := by decide +kernel
theorem dX11_body_32 : decode cX11_body 32 = .ok (.ireturn, 1) := by decide +kernel
theorem dX11_act_0 : decode cX11_act 0 = .ok (.aload_n 0, 1) := by decide +kernel
theorem dX11_act_1 : decode cX11_act 1 = .ok (.getfield 93, 3) := by decide +kernel
theorem dX11_act_4 : decode cX11_act 4 = .ok (.iload_n 1, 1) := by decide +kernel
theorem dX11_act_5 : decode cX11_act 5 = .ok (.iload_n 2, 1) := by decide +kernel
theorem dX11_act_6 : decode cX11_act 6 = .ok (.iload_n 3, 1) := by decide +kernel
theorem dX11_act_7 : decode cX11_act 7 = .ok (.invokevirtual 309, 3) := by decide +kernel
theorem dX11_act_10 : decode cX11_act 10 = .ok (.ireturn, 1) := by decide +kernel
theorem dX11_trace_0 : decode cX11_trace 0 = .ok (.iload_n 1, 1) := by decide +kernel
theorem dX11_trace_1 : decode cX11_trace 1 = .ok (.ifCond .lt 14, 3) := by decide +kernel
theorem dX11_trace_4 : decode cX11_trace 4 = .ok (.iload_n 1, 1) := by decide +kernel
theorem dX11_trace_5 : decode cX11_trace 5 = .ok (.aload_n 0, 1) := by decide +kernel
theorem dX11_trace_6 : decode cX11_trace 6 = .ok (.getfield 93, 3) := by decide +kernel
theorem dX11_trace_9 : decode cX11_trace 9 = .ok (.invokevirtual 312, 3) := by decide +kernel
theorem dX11_trace_12 : decode cX11_trace 12 = .ok (.if_icmp .lt 7, 3) := by decide +kernel
theorem dX11_trace_15 : decode cX11_trace 15 = .ok (.iconst (-1), 1) := by decide +kernel
theorem dX11_trace_16 : decode cX11_trace 16 = .ok (.goto 11, 3) := by decide +kernel
theorem dX11_trace_19 : decode cX11_trace 19 = .ok (.aload_n 0, 1) := by decide +kernel
theorem dX11_trace_20 : decode cX11_trace 20 = .ok (.getfield 93, 3) := by decide +kernel
theorem dX11_trace_23 : decode cX11_trace 23 = .ok (.iload_n 1, 1) := by decide +kernel
theorem dX11_trace_24 : decode cX11_trace 24 = .ok (.invokevirtual 315, 3) := by decide +kernel
theorem dX11_trace_27 : decode cX11_trace 27 = .ok (.ireturn, 1) := by decide +kernel
theorem dX11_keep_0 : decode cX11_keep 0 = .ok (.iload_n 1, 1) := by decide +kernel
theorem dX11_keep_1 : decode cX11_keep 1 = .ok (.invokestatic 116, 3) := by decide +kernel
theorem dX11_keep_4 : decode cX11_keep 4 = .ok (.ifCond .eq 19, 3) := by decide +kernel
theorem dX11_keep_7 : decode cX11_keep 7 = .ok (.iload_n 2, 1) := by decide +kernel
theorem dX11_keep_8 : decode cX11_keep 8 = .ok (.iconst (-1), 1) := by decide +kernel
theorem dX11_keep_9 : decode cX11_keep 9 = .ok (.if_icmp .eq 16, 3) := by decide +kernel
theorem dX11_keep_12 : decode cX11_keep 12 = .ok (.aload_n 0, 1) := by decide +kernel
theorem dX11_keep_13 : decode cX11_keep 13 = .ok (.getfield 93, 3) := by decide +kernel
theorem dX11_keep_16 : decode cX11_keep 16 = .ok (.iload_n 2, 1) := by decide +kernel
theorem dX11_keep_17 : decode cX11_keep 17 = .ok (.invokevirtual 318, 3) := by decide +kernel
theorem dX11_keep_20 : decode cX11_keep 20 = .ok (.ifCond .ne 5, 3) := by decide +kernel
theorem dX11_keep_23 : decode cX11_keep 23 = .ok (.iconst (-1), 1) := by decide +kernel
theorem dX11_keep_24 : decode cX11_keep 24 = .ok (.ireturn, 1) := by decide +kernel
theorem dX11_keep_25 : decode cX11_keep 25 = .ok (.iload_n 2, 1) := by decide +kernel
theorem dX11_keep_26 : decode cX11_keep 26 = .ok (.iconst (-1), 1) := by decide +kernel
theorem dX11_keep_27 : decode cX11_keep 27 = .ok (.if_icmp .ne 15, 3) := by decide +kernel
theorem dX11_keep_30 : decode cX11_keep 30 = .ok (.aload_n 0, 1) := by decide +kernel
theorem dX11_keep_31 : decode cX11_keep 31 = .ok (.getfield 99, 3) := by decide +kernel
theorem dX11_keep_34 : decode cX11_keep 34 = .ok (.iload_n 1, 1) := by decide +kernel
theorem dX11_keep_35 : decode cX11_keep 35 = .ok (.aaload, 1) := by decide +kernel
theorem dX11_keep_36 : decode cX11_keep 36 = .ok (.invokevirtual 319, 3) := by decide +kernel
theorem dX11_keep_39 : decode cX11_keep 39 = .ok (.goto 13, 3) := by decide +kernel
theorem dX11_keep_42 : decode cX11_keep 42 = .ok (.aload_n 0, 1) := by decide +kernel
theorem dX11_keep_43 : decode cX11_keep 43 = .ok (.getfield 99, 3) := by decide +kernel
theorem dX11_keep_46 : decode cX11_keep 46 = .ok (.iload_n 1, 1) := by decide +kernel
theorem dX11_keep_47 : decode cX11_keep 47 = .ok (.aaload, 1) := by decide +kernel
theorem dX11_keep_48 : decode cX11_keep 48 = .ok (.iload_n 2, 1) := by decide +kernel
theorem dX11_keep_49 : decode cX11_keep 49 = .ok (.invokevirtual 322, 3) := by decide +kernel
theorem dX11_keep_52 : decode cX11_keep 52 = .ok (.iconst 1, 1) := by decide +kernel
theorem dX11_keep_53 : decode cX11_keep 53 = .ok (.ireturn, 1) := by decide +kernel
theorem dX11_row_0 : decode cX11_row 0 = .ok (.iload_n 1, 1) := by decide +kernel
theorem dX11_row_1 : decode cX11_row 1 = .ok (.invokestatic 116, 3) := by decide +kernel
theorem dX11_row_4 : decode cX11_row 4 = .ok (.ifCond .eq 16, 3) := by decide +kernel
theorem dX11_row_7 : decode cX11_row 7 = .ok (.iload_n 2, 1) := by decide +kernel
theorem dX11_row_8 : decode cX11_row 8 = .ok (.invokestatic 325, 3) := by decide +kernel
theorem dX11_row_11 : decode cX11_row 11 = .ok (.ifCond .eq 9, 3) := by decide +kernel
theorem dX11_row_14 : decode cX11_row 14 = .ok (.iload_n 3, 1) := by decide +kernel
theorem dX11_row_15 : decode cX11_row 15 = .ok (.bipush 60, 2) := by decide +kernel
theorem dX11_row_17 : decode cX11_row 17 = .ok (.if_icmp .le 5, 3) := by decide +kernel
theorem dX11_row_20 : decode cX11_row 20 = .ok (.iconst (-1), 1) := by decide +kernel
theorem dX11_row_21 : decode cX11_row 21 = .ok (.ireturn, 1) := by decide +kernel
theorem dX11_row_22 : decode cX11_row 22 = .ok (.iload_n 3, 1) := by decide +kernel
theorem dX11_row_23 : decode cX11_row 23 = .ok (.ifCond .ge 6, 3) := by decide +kernel
theorem dX11_row_26 : decode cX11_row 26 = .ok (.bipush (-14), 2) := by decide +kernel
theorem dX11_row_28 : decode cX11_row 28 = .ok (.ireturn, 1) := by decide +kernel
theorem dX11_row_29 : decode cX11_row 29 = .ok (.aload_n 0, 1) := by decide +kernel
theorem dX11_row_30 : decode cX11_row 30 = .ok (.getfield 99, 3) := by decide +kernel
theorem dX11_row_33 : decode cX11_row 33 = .ok (.iload_n 1, 1) := by decide +kernel
theorem dX11_row_34 : decode cX11_row 34 = .ok (.aaload, 1) := by decide +kernel
theorem dX11_row_35 : decode cX11_row 35 = .ok (.iload_n 2, 1) := by decide +kernel
theorem dX11_row_36 : decode cX11_row 36 = .ok (.iload_n 3, 1) := by decide +kernel
theorem dX11_row_37 : decode cX11_row 37 = .ok (.invokevirtual 328, 3) := by decide +kernel
theorem dX11_row_40 : decode cX11_row 40 = .ok (.iconst 1, 1) := by decide +kernel
theorem dX11_row_41 : decode cX11_row 41 = .ok (.ireturn, 1) := by decide +kernel
theorem dX11_put_0 : decode cX11_put 0 = .ok (.iload_n 1, 1) := by decide +kernel
theorem dX11_put_1 : decode cX11_put 1 = .ok (.invokestatic 116, 3) := by decide +kernel
theorem dX11_put_4 : decode cX11_put 4 = .ok (.ifCond .ne 5, 3) := by decide +kernel
theorem dX11_put_7 : decode cX11_put 7 = .ok (.iconst (-1), 1) := by decide +kernel
theorem dX11_put_8 : decode cX11_put 8 = .ok (.ireturn, 1) := by decide +kernel
theorem dX11_put_9 : decode cX11_put 9 = .ok (.aload_n 0, 1) := by decide +kernel
theorem dX11_put_10 : decode cX11_put 10 = .ok (.getfield 99, 3) := by decide +kernel
theorem dX11_put_13 : decode cX11_put 13 = .ok (.iload_n 1, 1) := by decide +kernel
theorem dX11_put_14 : decode cX11_put 14 = .ok (.aaload, 1) := by decide +kernel
theorem dX11_put_15 : decode cX11_put 15 = .ok (.iload_n 2, 1) := by decide +kernel
theorem dX11_put_16 : decode cX11_put 16 = .ok (.invokevirtual 332, 3) := by decide +kernel
theorem dX11_put_19 : decode cX11_put 19 = .ok (.istore 5, 2) := by decide +kernel
theorem dX11_put_21 : decode cX11_put 21 = .ok (.iload 5, 2) := by decide +kernel
theorem dX11_put_23 : decode cX11_put 23 = .ok (.ifCond .ge 6, 3) := by decide +kernel
theorem dX11_put_26 : decode cX11_put 26 = .ok (.iload 5, 2) := by decide +kernel
theorem dX11_put_28 : decode cX11_put 28 = .ok (.ireturn, 1) := by decide +kernel
theorem dX11_put_29 : decode cX11_put 29 = .ok (.aload_n 0, 1) := by decide +kernel
theorem dX11_put_30 : decode cX11_put 30 = .ok (.getfield 99, 3) := by decide +kernel
theorem dX11_put_33 : decode cX11_put 33 = .ok (.iload_n 1, 1) := by decide +kernel
theorem dX11_put_34 : decode cX11_put 34 = .ok (.aaload, 1) := by decide +kernel
theorem dX11_put_35 : decode cX11_put 35 = .ok (.iload_n 2, 1) := by decide +kernel
theorem dX11_put_36 : decode cX11_put 36 = .ok (.lload_n 3, 1) := by decide +kernel
theorem dX11_put_37 : decode cX11_put 37 = .ok (.invokevirtual 335, 3) := by decide +kernel
theorem dX11_put_40 : decode cX11_put 40 = .ok (.iconst 1, 1) := by decide +kernel
theorem dX11_put_41 : decode cX11_put 41 = .ok (.ireturn, 1) := by decide +kernel
theorem dX11_element_0 : decode cX11_element 0 = .ok (.iload_n 1, 1) := by decide +kernel
theorem dX11_element_1 : decode cX11_element 1 = .ok (.invokestatic 116, 3) := by decide +kernel
theorem dX11_element_4 : decode cX11_element 4 = .ok (.ifCond .eq 16, 3) := by decide +kernel
theorem dX11_element_7 : decode cX11_element 7 = .ok (.aload_n 0, 1) := by decide +kernel
theorem dX11_element_8 : decode cX11_element 8 = .ok (.getfield 99, 3) := by decide +kernel
theorem dX11_element_11 : decode cX11_element 11 = .ok (.iload_n 1, 1) := by decide +kernel
theorem dX11_element_12 : decode cX11_element 12 = .ok (.aaload, 1) := by decide +kernel
theorem dX11_element_13 : decode cX11_element 13 = .ok (.iload_n 2, 1) := by decide +kernel
theorem dX11_element_14 : decode cX11_element 14 = .ok (.invokevirtual 332, 3) := by decide +kernel
theorem dX11_element_17 : decode cX11_element 17 = .ok (.ifCond .ge 7, 3) := by decide +kernel
theorem dX11_element_20 : decode cX11_element 20 = .ok (.ldc2_w 195, 3) := by decide +kernel
theorem dX11_element_23 : decode cX11_element 23 = .ok (.lreturn, 1) := by decide +kernel
theorem dX11_element_24 : decode cX11_element 24 = .ok (.aload_n 0, 1) := by decide +kernel
theorem dX11_element_25 : decode cX11_element 25 = .ok (.getfield 99, 3) := by decide +kernel
theorem dX11_element_28 : decode cX11_element 28 = .ok (.iload_n 1, 1) := by decide +kernel
theorem dX11_element_29 : decode cX11_element 29 = .ok (.aaload, 1) := by decide +kernel
theorem dX11_element_30 : decode cX11_element 30 = .ok (.iload_n 2, 1) := by decide +kernel
theorem dX11_element_31 : decode cX11_element 31 = .ok (.invokevirtual 339, 3) := by decide +kernel
theorem dX11_element_34 : decode cX11_element 34 = .ok (.lreturn, 1) := by decide +kernel
theorem dX11_shift_0 : decode cX11_shift 0 = .ok (.iload_n 1, 1) := by decide +kernel
theorem dX11_shift_1 : decode cX11_shift 1 = .ok (.invokestatic 116, 3) := by decide +kernel
theorem dX11_shift_4 : decode cX11_shift 4 = .ok (.ifCond .eq 10, 3) := by decide +kernel
theorem dX11_shift_7 : decode cX11_shift 7 = .ok (.iload_n 3, 1) := by decide +kernel
theorem dX11_shift_8 : decode cX11_shift 8 = .ok (.invokestatic 116, 3) := by decide +kernel
theorem dX11_shift_11 : decode cX11_shift 11 = .ok (.ifCond .ne 5, 3) := by decide +kernel
theorem dX11_shift_14 : decode cX11_shift 14 = .ok (.iconst (-1), 1) := by decide +kernel
theorem dX11_shift_15 : decode cX11_shift 15 = .ok (.ireturn, 1) := by decide +kernel
theorem dX11_shift_16 : decode cX11_shift 16 = .ok (.aload_n 0, 1) := by decide +kernel
theorem dX11_shift_17 : decode cX11_shift 17 = .ok (.getfield 99, 3) := by decide +kernel
theorem dX11_shift_20 : decode cX11_shift 20 = .ok (.iload_n 1, 1) := by decide +kernel
theorem dX11_shift_21 : decode cX11_shift 21 = .ok (.aaload, 1) := by decide +kernel
theorem dX11_shift_22 : decode cX11_shift 22 = .ok (.astore 6, 2) := by decide +kernel
theorem dX11_shift_24 : decode cX11_shift 24 = .ok (.aload_n 0, 1) := by decide +kernel
theorem dX11_shift_25 : decode cX11_shift 25 = .ok (.getfield 99, 3) := by decide +kernel
theorem dX11_shift_28 : decode cX11_shift 28 = .ok (.iload_n 3, 1) := by decide +kernel
theorem dX11_shift_29 : decode cX11_shift 29 = .ok (.aaload, 1) := by decide +kernel
theorem dX11_shift_30 : decode cX11_shift 30 = .ok (.astore 7, 2) := by decide +kernel
theorem dX11_shift_32 : decode cX11_shift 32 = .ok (.aload 6, 2) := by decide +kernel
theorem dX11_shift_34 : decode cX11_shift 34 = .ok (.invokevirtual 120, 3) := by decide +kernel
theorem dX11_shift_37 : decode cX11_shift 37 = .ok (.ifCond .ne 11, 3) := by decide +kernel
theorem dX11_shift_40 : decode cX11_shift 40 = .ok (.aload 7, 2) := by decide +kernel
theorem dX11_shift_42 : decode cX11_shift 42 = .ok (.invokevirtual 120, 3) := by decide +kernel
theorem dX11_shift_45 : decode cX11_shift 45 = .ok (.ifCond .eq 6, 3) := by decide +kernel
theorem dX11_shift_48 : decode cX11_shift 48 = .ok (.bipush (-11), 2) := by decide +kernel
theorem dX11_shift_50 : decode cX11_shift 50 = .ok (.ireturn, 1) := by decide +kernel
theorem dX11_shift_51 : decode cX11_shift 51 = .ok (.aload 6, 2) := by decide +kernel
theorem dX11_shift_53 : decode cX11_shift 53 = .ok (.aload 7, 2) := by decide +kernel
theorem dX11_shift_55 : decode cX11_shift 55 = .ok (.invokevirtual 343, 3) := by decide +kernel
theorem dX11_shift_58 : decode cX11_shift 58 = .ok (.ifCond .ne 6, 3) := by decide +kernel
theorem dX11_shift_61 : decode cX11_shift 61 = .ok (.bipush (-12), 2) := by decide +kernel
theorem dX11_shift_63 : decode cX11_shift 63 = .ok (.ireturn, 1) := by decide +kernel
theorem dX11_shift_64 : decode cX11_shift 64 = .ok (.aload 6, 2) := by decide +kernel
theorem dX11_shift_66 : decode cX11_shift 66 = .ok (.iload_n 2, 1) := by decide +kernel
theorem dX11_shift_67 : decode cX11_shift 67 = .ok (.iload 5, 2) := by decide +kernel
theorem dX11_shift_69 : decode cX11_shift 69 = .ok (.invokevirtual 347, 3) := by decide +kernel
theorem dX11_shift_72 : decode cX11_shift 72 = .ok (.ifCond .eq 15, 3) := by decide +kernel
theorem dX11_shift_75 : decode cX11_shift 75 = .ok (.aload 7, 2) := by decide +kernel
theorem dX11_shift_77 : decode cX11_shift 77 = .ok (.iload 4, 2) := by decide +kernel
theorem dX11_shift_79 : decode cX11_shift 79 = .ok (.iload 5, 2) := by decide +kernel
theorem dX11_shift_81 : decode cX11_shift 81 = .ok (.invokevirtual 347, 3) := by decide +kernel
theorem dX11_shift_84 : decode cX11_shift 84 = .ok (.ifCond .ne 6, 3) := by decide +kernel
theorem dX11_shift_87 : decode cX11_shift 87 = .ok (.bipush (-13), 2) := by decide +kernel
theorem dX11_shift_89 : decode cX11_shift 89 = .ok (.ireturn, 1) := by decide +kernel
theorem dX11_shift_90 : decode cX11_shift 90 = .ok (.aload 6, 2) := by decide +kernel
theorem dX11_shift_92 : decode cX11_shift 92 = .ok (.iload_n 2, 1) := by decide +kernel
theorem dX11_shift_93 : decode cX11_shift 93 = .ok (.aload 7, 2) := by decide +kernel
theorem dX11_shift_95 : decode cX11_shift 95 = .ok (.iload 4, 2) := by decide +kernel
theorem dX11_shift_97 : decode cX11_shift 97 = .ok (.iload 5, 2) := by decide +kernel
theorem dX11_shift_99 : decode cX11_shift 99 = .ok (.invokevirtual 350, 3) := by decide +kernel
theorem dX11_shift_102 : decode cX11_shift 102 = .ok (.iload 5, 2) := by decide +kernel
theorem dX11_shift_104 : decode cX11_shift 104 = .ok (.ireturn, 1) := by decide +kernel
theorem dX11_taken_0 : decode cX11_taken 0 = .ok (.iload_n 1, 1) := by decide +kernel
theorem dX11_taken_1 : decode cX11_taken 1 = .ok (.invokestatic 116, 3) := by decide +kernel
theorem dX11_taken_4 : decode cX11_taken 4 = .ok (.ifCond .eq 10, 3) := by decide +kernel
theorem dX11_taken_7 : decode cX11_taken 7 = .ok (.iload_n 2, 1) := by decide +kernel
theorem dX11_taken_8 : decode cX11_taken 8 = .ok (.invokestatic 302, 3) := by decide +kernel
theorem dX11_taken_11 : decode cX11_taken 11 = .ok (.ifCond .ne 5, 3) := by decide +kernel
theorem dX11_taken_14 : decode cX11_taken 14 = .ok (.iconst (-1), 1) := by decide +kernel
theorem dX11_taken_15 : decode cX11_taken 15 = .ok (.ireturn, 1) := by decide +kernel
theorem dX11_taken_16 : decode cX11_taken 16 = .ok (.aload_n 0, 1) := by decide +kernel
theorem dX11_taken_17 : decode cX11_taken 17 = .ok (.getfield 99, 3) := by decide +kernel
theorem dX11_taken_20 : decode cX11_taken 20 = .ok (.iload_n 1, 1) := by decide +kernel
theorem dX11_taken_21 : decode cX11_taken 21 = .ok (.aaload, 1) := by decide +kernel
theorem dX11_taken_22 : decode cX11_taken 22 = .ok (.invokevirtual 120, 3) := by decide +kernel
theorem dX11_taken_25 : decode cX11_taken 25 = .ok (.ifCond .eq 6, 3) := by decide +kernel
theorem dX11_taken_28 : decode cX11_taken 28 = .ok (.bipush (-11), 2) := by decide +kernel
theorem dX11_taken_30 : decode cX11_taken 30 = .ok (.ireturn, 1) := by decide +kernel
theorem dX11_taken_31 : decode cX11_taken 31 = .ok (.aload_n 0, 1) := by decide +kernel
theorem dX11_taken_32 : decode cX11_taken 32 = .ok (.getfield 93, 3) := by decide +kernel
theorem dX11_taken_35 : decode cX11_taken 35 = .ok (.aload_n 0, 1) := by decide +kernel
theorem dX11_taken_36 : decode cX11_taken 36 = .ok (.getfield 99, 3) := by decide +kernel
theorem dX11_taken_39 : decode cX11_taken 39 = .ok (.iload_n 1, 1) := by decide +kernel
theorem dX11_taken_40 : decode cX11_taken 40 = .ok (.aaload, 1) := by decide +kernel
theorem dX11_taken_41 : decode cX11_taken 41 = .ok (.invokevirtual 354, 3) := by decide +kernel
theorem dX11_taken_44 : decode cX11_taken 44 = .ok (.invokevirtual 357, 3) := by decide +kernel
theorem dX11_taken_47 : decode cX11_taken 47 = .ok (.istore_n 3, 1) := by decide +kernel
theorem dX11_taken_48 : decode cX11_taken 48 = .ok (.iload_n 3, 1) := by decide +kernel
theorem dX11_taken_49 : decode cX11_taken 49 = .ok (.iload_n 2, 1) := by decide +kernel
theorem dX11_taken_50 : decode cX11_taken 50 = .ok (.invokestatic 360, 3) := by decide +kernel
theorem dX11_taken_53 : decode cX11_taken 53 = .ok (.ifCond .eq 7, 3) := by decide +kernel
theorem dX11_taken_56 : decode cX11_taken 56 = .ok (.iload_n 3, 1) := by decide +kernel
theorem dX11_taken_57 : decode cX11_taken 57 = .ok (.goto 5, 3) := by decide +kernel
theorem dX11_taken_60 : decode cX11_taken 60 = .ok (.bipush (-12), 2) := by decide +kernel
theorem dX11_taken_62 : decode cX11_taken 62 = .ok (.ireturn, 1) := by decide +kernel
theorem dX11_count_0 : decode cX11_count 0 = .ok (.iload_n 1, 1) := by decide +kernel
theorem dX11_count_1 : decode cX11_count 1 = .ok (.tableswitch 87 0 5 #[39, 47, 55, 63, 71, 79], 39) := by decide +kernel
theorem dX11_count_40 : decode cX11_count 40 = .ok (.aload_n 0, 1) := by decide +kernel
theorem dX11_count_41 : decode cX11_count 41 = .ok (.getfield 10, 3) := by decide +kernel
theorem dX11_count_44 : decode cX11_count 44 = .ok (.invokevirtual 183, 3) := by decide +kernel
theorem dX11_count_47 : decode cX11_count 47 = .ok (.ireturn, 1) := by decide +kernel
theorem dX11_count_48 : decode cX11_count 48 = .ok (.aload_n 0, 1) := by decide +kernel
theorem dX11_count_49 : decode cX11_count 49 = .ok (.getfield 42, 3) := by decide +kernel
theorem dX11_count_52 : decode cX11_count 52 = .ok (.invokevirtual 274, 3) := by decide +kernel
theorem dX11_count_55 : decode cX11_count 55 = .ok (.ireturn, 1) := by decide +kernel
theorem dX11_count_56 : decode cX11_count 56 = .ok (.aload_n 0, 1) := by decide +kernel
theorem dX11_count_57 : decode cX11_count 57 = .ok (.getfield 26, 3) := by decide +kernel
theorem dX11_count_60 : decode cX11_count 60 = .ok (.invokevirtual 363, 3) := by decide +kernel
theorem dX11_count_63 : decode cX11_count 63 = .ok (.ireturn, 1) := by decide +kernel
theorem dX11_count_64 : decode cX11_count 64 = .ok (.aload_n 0, 1) := by decide +kernel
theorem dX11_count_65 : decode cX11_count 65 = .ok (.getfield 10, 3) := by decide +kernel
theorem dX11_count_68 : decode cX11_count 68 = .ok (.invokevirtual 290, 3) := by decide +kernel
theorem dX11_count_71 : decode cX11_count 71 = .ok (.ireturn, 1) := by decide +kernel
theorem dX11_count_72 : decode cX11_count 72 = .ok (.aload_n 0, 1) := by decide +kernel
theorem dX11_count_73 : decode cX11_count 73 = .ok (.getfield 93, 3) := by decide +kernel
theorem dX11_count_76 : decode cX11_count 76 = .ok (.invokevirtual 366, 3) := by decide +kernel
theorem dX11_count_79 : decode cX11_count 79 = .ok (.ireturn, 1) := by decide +kernel
theorem dX11_count_80 : decode cX11_count 80 = .ok (.aload_n 0, 1) := by decide +kernel
theorem dX11_count_81 : decode cX11_count 81 = .ok (.getfield 93, 3) := by decide +kernel
theorem dX11_count_84 : decode cX11_count 84 = .ok (.invokevirtual 367, 3) := by decide +kernel
theorem dX11_count_87 : decode cX11_count 87 = .ok (.ireturn, 1) := by decide +kernel
theorem dX11_count_88 : decode cX11_count 88 = .ok (.iconst (-1), 1) := by decide +kernel
theorem dX11_count_89 : decode cX11_count 89 = .ok (.ireturn, 1) := by decide +kernel
theorem dX11_isShelf_0 : decode cX11_isShelf 0 = .ok (.iload_n 0, 1) := by decide +kernel
theorem dX11_isShelf_1 : decode cX11_isShelf 1 = .ok (.ifCond .lt 13, 3) := by decide +kernel
theorem dX11_isShelf_4 : decode cX11_isShelf 4 = .ok (.iload_n 0, 1) := by decide +kernel
theorem dX11_isShelf_5 : decode cX11_isShelf 5 = .ok (.bipush 6, 2) := by decide +kernel
theorem dX11_isShelf_7 : decode cX11_isShelf 7 = .ok (.if_icmp .ge 7, 3) := by decide +kernel
theorem dX11_isShelf_10 : decode cX11_isShelf 10 = .ok (.iconst 1, 1) := by decide +kernel
theorem dX11_isShelf_11 : decode cX11_isShelf 11 = .ok (.goto 4, 3) := by decide +kernel
theorem dX11_isShelf_14 : decode cX11_isShelf 14 = .ok (.iconst 0, 1) := by decide +kernel
theorem dX11_isShelf_15 : decode cX11_isShelf 15 = .ok (.ireturn, 1) := by decide +kernel
theorem dX11_isPair_0 : decode cX11_isPair 0 = .ok (.iload_n 1, 1) := by decide +kernel
theorem dX11_isPair_1 : decode cX11_isPair 1 = .ok (.ifCond .lt 25, 3) := by decide +kernel
theorem dX11_isPair_4 : decode cX11_isPair 4 = .ok (.aload_n 0, 1) := by decide +kernel
theorem dX11_isPair_5 : decode cX11_isPair 5 = .ok (.getfield 10, 3) := by decide +kernel
theorem dX11_isPair_8 : decode cX11_isPair 8 = .ok (.iload_n 1, 1) := by decide +kernel
theorem dX11_isPair_9 : decode cX11_isPair 9 = .ok (.bipush 10, 2) := by decide +kernel
theorem dX11_isPair_11 : decode cX11_isPair 11 = .ok (.idiv, 1) := by decide +kernel
theorem dX11_isPair_12 : decode cX11_isPair 12 = .ok (.iload_n 1, 1) := by decide +kernel
theorem dX11_isPair_13 : decode cX11_isPair 13 = .ok (.bipush 10, 2) := by decide +kernel
theorem dX11_isPair_15 : decode cX11_isPair 15 = .ok (.irem, 1) := by decide +kernel
theorem dX11_isPair_16 : decode cX11_isPair 16 = .ok (.invokevirtual 370, 3) := by decide +kernel
theorem dX11_isPair_19 : decode cX11_isPair 19 = .ok (.ifCond .eq 7, 3) := by decide +kernel
theorem dX11_isPair_22 : decode cX11_isPair 22 = .ok (.iconst 1, 1) := by decide +kernel
theorem dX11_isPair_23 : decode cX11_isPair 23 = .ok (.goto 4, 3) := by decide +kernel
theorem dX11_isPair_26 : decode cX11_isPair 26 = .ok (.iconst 0, 1) := by decide +kernel
theorem dX11_isPair_27 : decode cX11_isPair 27 = .ok (.ireturn, 1) := by decide +kernel
theorem dX11_refusalOfRoll_0 : decode cX11_refusalOfRoll 0 = .ok (.aload_n 0, 1) := by decide +kernel
theorem dX11_refusalOfRoll_1 : decode cX11_refusalOfRoll 1 = .ok (.getfield 99, 3) := by decide +kernel
theorem dX11_refusalOfRoll_4 : decode cX11_refusalOfRoll 4 = .ok (.iload_n 1, 1) := by decide +kernel
theorem dX11_refusalOfRoll_5 : decode cX11_refusalOfRoll 5 = .ok (.aaload, 1) := by decide +kernel
theorem dX11_refusalOfRoll_6 : decode cX11_refusalOfRoll 6 = .ok (.invokevirtual 210, 3) := by decide +kernel
theorem dX11_refusalOfRoll_9 : decode cX11_refusalOfRoll 9 = .ok (.istore_n 2, 1) := by decide +kernel
theorem dX11_refusalOfRoll_10 : decode cX11_refusalOfRoll 10 = .ok (.iload_n 2, 1) := by decide +kernel
theorem dX11_refusalOfRoll_11 : decode cX11_refusalOfRoll 11 = .ok (.ifCond .ge 5, 3) := by decide +kernel
theorem dX11_refusalOfRoll_14 : decode cX11_refusalOfRoll 14 = .ok (.iload_n 2, 1) := by decide +kernel
theorem dX11_refusalOfRoll_15 : decode cX11_refusalOfRoll 15 = .ok (.ireturn, 1) := by decide +kernel
theorem dX11_refusalOfRoll_16 : decode cX11_refusalOfRoll 16 = .ok (.aload_n 0, 1) := by decide +kernel
theorem dX11_refusalOfRoll_17 : decode cX11_refusalOfRoll 17 = .ok (.getfield 65, 3) := by decide +kernel
theorem dX11_refusalOfRoll_20 : decode cX11_refusalOfRoll 20 = .ok (.aload_n 0, 1) := by decide +kernel
theorem dX11_refusalOfRoll_21 : decode cX11_refusalOfRoll 21 = .ok (.getfield 99, 3) := by decide +kernel
theorem dX11_refusalOfRoll_24 : decode cX11_refusalOfRoll 24 = .ok (.iload_n 1, 1) := by decide +kernel
theorem dX11_refusalOfRoll_25 : decode cX11_refusalOfRoll 25 = .ok (.aaload, 1) := by decide +kernel
theorem dX11_refusalOfRoll_26 : decode cX11_refusalOfRoll 26 = .ok (.invokevirtual 373, 3) := by decide +kernel
theorem dX11_refusalOfRoll_29 : decode cX11_refusalOfRoll 29 = .ok (.bipush 8, 2) := by decide +kernel
theorem dX11_refusalOfRoll_31 : decode cX11_refusalOfRoll 31 = .ok (.if_icmp .le 8, 3) := by decide +kernel
theorem dX11_refusalOfRoll_34 : decode cX11_refusalOfRoll 34 = .ok (.bipush (-5), 2) := by decide +kernel
theorem dX11_refusalOfRoll_36 : decode cX11_refusalOfRoll 36 = .ok (.goto 4, 3) := by decide +kernel
theorem dX11_refusalOfRoll_39 : decode cX11_refusalOfRoll 39 = .ok (.iconst 0, 1) := by decide +kernel
theorem dX11_refusalOfRoll_40 : decode cX11_refusalOfRoll 40 = .ok (.ireturn, 1) := by decide +kernel
theorem dX11_commonDivisor_0 : decode cX11_commonDivisor 0 = .ok (.bipush 12, 2) := by decide +kernel
theorem dX11_commonDivisor_2 : decode cX11_commonDivisor 2 = .ok (.istore_n 1, 1) := by decide +kernel
theorem dX11_commonDivisor_3 : decode cX11_commonDivisor 3 = .ok (.iload_n 1, 1) := by decide +kernel
theorem dX11_commonDivisor_4 : decode cX11_commonDivisor 4 = .ok (.iconst 1, 1) := by decide +kernel
theorem dX11_commonDivisor_5 : decode cX11_commonDivisor 5 = .ok (.if_icmp .le 24, 3) := by decide +kernel
theorem dX11_commonDivisor_8 : decode cX11_commonDivisor 8 = .ok (.iload_n 0, 1) := by decide +kernel
theorem dX11_commonDivisor_9 : decode cX11_commonDivisor 9 = .ok (.iload_n 1, 1) := by decide +kernel
theorem dX11_commonDivisor_10 : decode cX11_commonDivisor 10 = .ok (.irem, 1) := by decide +kernel
theorem dX11_commonDivisor_11 : decode cX11_commonDivisor 11 = .ok (.ifCond .ne 12, 3) := by decide +kernel
theorem dX11_commonDivisor_14 : decode cX11_commonDivisor 14 = .ok (.bipush 12, 2) := by decide +kernel
theorem dX11_commonDivisor_16 : decode cX11_commonDivisor 16 = .ok (.iload_n 1, 1) := by decide +kernel
theorem dX11_commonDivisor_17 : decode cX11_commonDivisor 17 = .ok (.irem, 1) := by decide +kernel
theorem dX11_commonDivisor_18 : decode cX11_commonDivisor 18 = .ok (.ifCond .ne 5, 3) := by decide +kernel
theorem dX11_commonDivisor_21 : decode cX11_commonDivisor 21 = .ok (.iload_n 1, 1) := by decide +kernel
theorem dX11_commonDivisor_22 : decode cX11_commonDivisor 22 = .ok (.ireturn, 1) := by decide +kernel
theorem dX11_commonDivisor_23 : decode cX11_commonDivisor 23 = .ok (.iinc 1 (-1), 3) := by decide +kernel
theorem dX11_commonDivisor_26 : decode cX11_commonDivisor 26 = .ok (.goto (-23), 3) := by decide +kernel
theorem dX11_commonDivisor_29 : decode cX11_commonDivisor 29 = .ok (.iconst 1, 1) := by decide +kernel
theorem dX11_commonDivisor_30 : decode cX11_commonDivisor 30 = .ok (.ireturn, 1) := by decide +kernel
