theorem dX8_init_0 : decode cX8_init 0 = .ok (.aload_n 0, 1) := by decide +kernel
theorem dX8_init_1 : decode cX8_init 1 = .ok (.invokespecial 1, 3) := by decide +kernel
theorem dX8_init_4 : decode cX8_init 4 = .ok (.aload_n 0, 1) := by decide +kernel
theorem dX8_init_5 : decode cX8_init 5 = .ok (.sipush 945, 3) := by decide +kernel
theorem dX8_init_8 : decode cX8_init 8 = .ok (.newarray .int, 2) := by decide +kernel
theorem dX8_init_10 : decode cX8_init 10 = .ok (.putfield 7, 3) := by decide +kernel
theorem dX8_init_13 : decode cX8_init 13 = .ok (.aload_n 0, 1) := by decide +kernel
theorem dX8_init_14 : decode cX8_init 14 = .ok (.iconst 3, 1) := by decide +kernel
theorem dX8_init_15 : decode cX8_init 15 = .ok (.newarray .int, 2) := by decide +kernel
theorem dX8_init_17 : decode cX8_init 17 = .ok (.putfield 13, 3) := by decide +kernel
theorem dX8_init_20 : decode cX8_init 20 = .ok (.aload_n 0, 1) := by decide +kernel
theorem dX8_init_21 : decode cX8_init 21 = .ok (.iconst 3, 1) := by decide +kernel
theorem dX8_init_22 : decode cX8_init 22 = .ok (.newarray .int, 2) := by decide +kernel
theorem dX8_init_24 : decode cX8_init 24 = .ok (.putfield 16, 3) := by decide +kernel
theorem dX8_init_27 : decode cX8_init 27 = .ok (.aload_n 0, 1) := by decide +kernel
theorem dX8_init_28 : decode cX8_init 28 = .ok (.iconst (-1), 1) := by decide +kernel
theorem dX8_init_29 : decode cX8_init 29 = .ok (.putfield 19, 3) := by decide +kernel
theorem dX8_init_32 : decode cX8_init 32 = .ok (.aload_n 0, 1) := by decide +kernel
theorem dX8_init_33 : decode cX8_init 33 = .ok (.bipush 100, 2) := by decide +kernel
theorem dX8_init_35 : decode cX8_init 35 = .ok (.newarray .int, 2) := by decide +kernel
theorem dX8_init_37 : decode cX8_init 37 = .ok (.putfield 23, 3) := by decide +kernel
theorem dX8_init_40 : decode cX8_init 40 = .ok (.aload_n 0, 1) := by decide +kernel
theorem dX8_init_41 : decode cX8_init 41 = .ok (.bipush 100, 2) := by decide +kernel
theorem dX8_init_43 : decode cX8_init 43 = .ok (.newarray .int, 2) := by decide +kernel
theorem dX8_init_45 : decode cX8_init 45 = .ok (.putfield 26, 3) := by decide +kernel
theorem dX8_init_48 : decode cX8_init 48 = .ok (.aload_n 0, 1) := by decide +kernel
theorem dX8_init_49 : decode cX8_init 49 = .ok (.bipush 100, 2) := by decide +kernel
theorem dX8_init_51 : decode cX8_init 51 = .ok (.newarray .int, 2) := by decide +kernel
theorem dX8_init_53 : decode cX8_init 53 = .ok (.putfield 29, 3) := by decide +kernel
theorem dX8_init_56 : decode cX8_init 56 = .ok (.aload_n 0, 1) := by decide +kernel
theorem dX8_init_57 : decode cX8_init 57 = .ok (.bipush 100, 2) := by decide +kernel
theorem dX8_init_59 : decode cX8_init 59 = .ok (.newarray .int, 2) := by decide +kernel
theorem dX8_init_61 : decode cX8_init 61 = .ok (.putfield 32, 3) := by decide +kernel
theorem dX8_init_64 : decode cX8_init 64 = .ok (.aload_n 0, 1) := by decide +kernel
theorem dX8_init_65 : decode cX8_init 65 = .ok (.bipush 100, 2) := by decide +kernel
theorem dX8_init_67 : decode cX8_init 67 = .ok (.newarray .int, 2) := by decide +kernel
theorem dX8_init_69 : decode cX8_init 69 = .ok (.putfield 35, 3) := by decide +kernel
theorem dX8_init_72 : decode cX8_init 72 = .ok (.aload_n 0, 1) := by decide +kernel
theorem dX8_init_73 : decode cX8_init 73 = .ok (.bipush 100, 2) := by decide +kernel
theorem dX8_init_75 : decode cX8_init 75 = .ok (.newarray .int, 2) := by decide +kernel
theorem dX8_init_77 : decode cX8_init 77 = .ok (.putfield 38, 3) := by decide +kernel
theorem dX8_init_80 : decode cX8_init 80 = .ok (.aload_n 0, 1) := by decide +kernel
theorem dX8_init_81 : decode cX8_init 81 = .ok (.bipush 8, 2) := by decide +kernel
theorem dX8_init_83 : decode cX8_init 83 = .ok (.newarray .int, 2) := by decide +kernel
theorem dX8_init_85 : decode cX8_init 85 = .ok (.putfield 41, 3) := by decide +kernel
theorem dX8_init_88 : decode cX8_init 88 = .ok (.aload_n 0, 1) := by decide +kernel
theorem dX8_init_89 : decode cX8_init 89 = .ok (.bipush 8, 2) := by decide +kernel
theorem dX8_init_91 : decode cX8_init 91 = .ok (.newarray .int, 2) := by decide +kernel
theorem dX8_init_93 : decode cX8_init 93 = .ok (.putfield 44, 3) := by decide +kernel
theorem dX8_init_96 : decode cX8_init 96 = .ok (.aload_n 0, 1) := by decide +kernel
theorem dX8_init_97 : decode cX8_init 97 = .ok (.bipush 8, 2) := by decide +kernel
theorem dX8_init_99 : decode cX8_init 99 = .ok (.newarray .int, 2) := by decide +kernel
theorem dX8_init_101 : decode cX8_init 101 = .ok (.putfield 47, 3) := by decide +kernel
theorem dX8_init_104 : decode cX8_init 104 = .ok (.aload_n 0, 1) := by decide +kernel
theorem dX8_init_105 : decode cX8_init 105 = .ok (.bipush 8, 2) := by decide +kernel
theorem dX8_init_107 : decode cX8_init 107 = .ok (.newarray .int, 2) := by decide +kernel
theorem dX8_init_109 : decode cX8_init 109 = .ok (.putfield 50, 3) := by decide +kernel
theorem dX8_init_112 : decode cX8_init 112 = .ok (.return_, 1) := by decide +kernel
theorem dX8_thrown_0 : decode cX8_thrown 0 = .ok (.aload_n 0, 1) := by decide +kernel
theorem dX8_thrown_1 : decode cX8_thrown 1 = .ok (.getfield 53, 3) := by decide +kernel
theorem dX8_thrown_4 : decode cX8_thrown 4 = .ok (.ireturn, 1) := by decide +kernel
theorem dX8_fails_0 : decode cX8_fails 0 = .ok (.aload_n 0, 1) := by decide +kernel
theorem dX8_fails_1 : decode cX8_fails 1 = .ok (.iload_n 1, 1) := by decide +kernel
theorem dX8_fails_2 : decode cX8_fails 2 = .ok (.putfield 53, 3) := by decide +kernel
theorem dX8_fails_5 : decode cX8_fails 5 = .ok (.iconst 0, 1) := by decide +kernel
theorem dX8_fails_6 : decode cX8_fails 6 = .ok (.ireturn, 1) := by decide +kernel
theorem dX8_in_0 : decode cX8_in 0 = .ok (.iload_n 0, 1) := by decide +kernel
theorem dX8_in_1 : decode cX8_in 1 = .ok (.iload_n 1, 1) := by decide +kernel
theorem dX8_in_2 : decode cX8_in 2 = .ok (.if_icmp .lt 12, 3) := by decide +kernel
theorem dX8_in_5 : decode cX8_in 5 = .ok (.iload_n 0, 1) := by decide +kernel
theorem dX8_in_6 : decode cX8_in 6 = .ok (.iload_n 2, 1) := by decide +kernel
theorem dX8_in_7 : decode cX8_in 7 = .ok (.if_icmp .gt 7, 3) := by decide +kernel
theorem dX8_in_10 : decode cX8_in 10 = .ok (.iconst 1, 1) := by decide +kernel
theorem dX8_in_11 : decode cX8_in 11 = .ok (.goto 4, 3) := by decide +kernel
theorem dX8_in_14 : decode cX8_in 14 = .ok (.iconst 0, 1) := by decide +kernel
theorem dX8_in_15 : decode cX8_in 15 = .ok (.ireturn, 1) := by decide +kernel
theorem dX8_at_0 : decode cX8_at 0 = .ok (.bipush 27, 2) := by decide +kernel
theorem dX8_at_2 : decode cX8_at 2 = .ok (.iload_n 0, 1) := by decide +kernel
theorem dX8_at_3 : decode cX8_at 3 = .ok (.imul, 1) := by decide +kernel
theorem dX8_at_4 : decode cX8_at 4 = .ok (.iconst 3, 1) := by decide +kernel
theorem dX8_at_5 : decode cX8_at 5 = .ok (.iadd, 1) := by decide +kernel
theorem dX8_at_6 : decode cX8_at 6 = .ok (.bipush 6, 2) := by decide +kernel
theorem dX8_at_8 : decode cX8_at 8 = .ok (.iload_n 1, 1) := by decide +kernel
theorem dX8_at_9 : decode cX8_at 9 = .ok (.imul, 1) := by decide +kernel
theorem dX8_at_10 : decode cX8_at 10 = .ok (.iadd, 1) := by decide +kernel
theorem dX8_at_11 : decode cX8_at 11 = .ok (.iload_n 2, 1) := by decide +kernel
theorem dX8_at_12 : decode cX8_at 12 = .ok (.iadd, 1) := by decide +kernel
theorem dX8_at_13 : decode cX8_at 13 = .ok (.ireturn, 1) := by decide +kernel
theorem dX8_many_0 : decode cX8_many 0 = .ok (.aload_n 0, 1) := by decide +kernel
theorem dX8_many_1 : decode cX8_many 1 = .ok (.getfield 7, 3) := by decide +kernel
theorem dX8_many_4 : decode cX8_many 4 = .ok (.bipush 27, 2) := by decide +kernel
theorem dX8_many_6 : decode cX8_many 6 = .ok (.iload_n 1, 1) := by decide +kernel
theorem dX8_many_7 : decode cX8_many 7 = .ok (.imul, 1) := by decide +kernel
theorem dX8_many_8 : decode cX8_many 8 = .ok (.iload_n 2, 1) := by decide +kernel
theorem dX8_many_9 : decode cX8_many 9 = .ok (.iadd, 1) := by decide +kernel
theorem dX8_many_10 : decode cX8_many 10 = .ok (.iaload, 1) := by decide +kernel
theorem dX8_many_11 : decode cX8_many 11 = .ok (.ireturn, 1) := by decide +kernel
theorem dX8_groupAt_0 : decode cX8_groupAt 0 = .ok (.bipush 27, 2) := by decide +kernel
theorem dX8_groupAt_2 : decode cX8_groupAt 2 = .ok (.iload_n 0, 1) := by decide +kernel
theorem dX8_groupAt_3 : decode cX8_groupAt 3 = .ok (.imul, 1) := by decide +kernel
theorem dX8_groupAt_4 : decode cX8_groupAt 4 = .ok (.bipush 21, 2) := by decide +kernel
theorem dX8_groupAt_6 : decode cX8_groupAt 6 = .ok (.iadd, 1) := by decide +kernel
theorem dX8_groupAt_7 : decode cX8_groupAt 7 = .ok (.iconst 2, 1) := by decide +kernel
theorem dX8_groupAt_8 : decode cX8_groupAt 8 = .ok (.iload_n 1, 1) := by decide +kernel
theorem dX8_groupAt_9 : decode cX8_groupAt 9 = .ok (.imul, 1) := by decide +kernel
theorem dX8_groupAt_10 : decode cX8_groupAt 10 = .ok (.iadd, 1) := by decide +kernel
theorem dX8_groupAt_11 : decode cX8_groupAt 11 = .ok (.iload_n 2, 1) := by decide +kernel
theorem dX8_groupAt_12 : decode cX8_groupAt 12 = .ok (.iadd, 1) := by decide +kernel
theorem dX8_groupAt_13 : decode cX8_groupAt 13 = .ok (.ireturn, 1) := by decide +kernel
theorem dX8_key_0 : decode cX8_key 0 = .ok (.iload_n 0, 1) := by decide +kernel
theorem dX8_key_1 : decode cX8_key 1 = .ok (.bipush 16, 2) := by decide +kernel
theorem dX8_key_3 : decode cX8_key 3 = .ok (.irem, 1) := by decide +kernel
theorem dX8_key_4 : decode cX8_key 4 = .ok (.ireturn, 1) := by decide +kernel
theorem dX8_field_0 : decode cX8_field 0 = .ok (.iload_n 0, 1) := by decide +kernel
theorem dX8_field_1 : decode cX8_field 1 = .ok (.iconst 4, 1) := by decide +kernel
theorem dX8_field_2 : decode cX8_field 2 = .ok (.bipush 7, 2) := by decide +kernel
theorem dX8_field_4 : decode cX8_field 4 = .ok (.iload_n 1, 1) := by decide +kernel
theorem dX8_field_5 : decode cX8_field 5 = .ok (.imul, 1) := by decide +kernel
theorem dX8_field_6 : decode cX8_field 6 = .ok (.iadd, 1) := by decide +kernel
theorem dX8_field_7 : decode cX8_field 7 = .ok (.ishr, 1) := by decide +kernel
theorem dX8_field_8 : decode cX8_field 8 = .ok (.bipush 127, 2) := by decide +kernel
theorem dX8_field_10 : decode cX8_field 10 = .ok (.iand, 1) := by decide +kernel
theorem dX8_field_11 : decode cX8_field 11 = .ok (.ireturn, 1) := by decide +kernel
theorem dX8_group_0 : decode cX8_group 0 = .ok (.iload_n 0, 1) := by decide +kernel
theorem dX8_group_1 : decode cX8_group 1 = .ok (.bipush 18, 2) := by decide +kernel
theorem dX8_group_3 : decode cX8_group 3 = .ok (.ishr, 1) := by decide +kernel
theorem dX8_group_4 : decode cX8_group 4 = .ok (.ireturn, 1) := by decide +kernel
theorem dX8_withField_0 : decode cX8_withField 0 = .ok (.iconst 4, 1) := by decide +kernel
theorem dX8_withField_1 : decode cX8_withField 1 = .ok (.bipush 7, 2) := by decide +kernel
theorem dX8_withField_3 : decode cX8_withField 3 = .ok (.iload_n 1, 1) := by decide +kernel
theorem dX8_withField_4 : decode cX8_withField 4 = .ok (.imul, 1) := by decide +kernel
theorem dX8_withField_5 : decode cX8_withField 5 = .ok (.iadd, 1) := by decide +kernel
theorem dX8_withField_6 : decode cX8_withField 6 = .ok (.istore_n 3, 1) := by decide +kernel
theorem dX8_withField_7 : decode cX8_withField 7 = .ok (.iload_n 0, 1) := by decide +kernel
theorem dX8_withField_8 : decode cX8_withField 8 = .ok (.bipush 127, 2) := by decide +kernel
theorem dX8_withField_10 : decode cX8_withField 10 = .ok (.iload_n 3, 1) := by decide +kernel
theorem dX8_withField_11 : decode cX8_withField 11 = .ok (.ishl, 1) := by decide +kernel
theorem dX8_withField_12 : decode cX8_withField 12 = .ok (.iconst (-1), 1) := by decide +kernel
theorem dX8_withField_13 : decode cX8_withField 13 = .ok (.ixor, 1) := by decide +kernel
theorem dX8_withField_14 : decode cX8_withField 14 = .ok (.iand, 1) := by decide +kernel
theorem dX8_withField_15 : decode cX8_withField 15 = .ok (.iload_n 2, 1) := by decide +kernel
theorem dX8_withField_16 : decode cX8_withField 16 = .ok (.iload_n 3, 1) := by decide +kernel
theorem dX8_withField_17 : decode cX8_withField 17 = .ok (.ishl, 1) := by decide +kernel
theorem dX8_withField_18 : decode cX8_withField 18 = .ok (.ior, 1) := by decide +kernel
theorem dX8_withField_19 : decode cX8_withField 19 = .ok (.ireturn, 1) := by decide +kernel
theorem dX8_withGroup_0 : decode cX8_withGroup 0 = .ok (.iload_n 0, 1) := by decide +kernel
theorem dX8_withGroup_1 : decode cX8_withGroup 1 = .ok (.ldc 56, 2) := by decide +kernel
theorem dX8_withGroup_3 : decode cX8_withGroup 3 = .ok (.iand, 1) := by decide +kernel
theorem dX8_withGroup_4 : decode cX8_withGroup 4 = .ok (.iload_n 1, 1) := by decide +kernel
theorem dX8_withGroup_5 : decode cX8_withGroup 5 = .ok (.bipush 18, 2) := by decide +kernel
theorem dX8_withGroup_7 : decode cX8_withGroup 7 = .ok (.ishl, 1) := by decide +kernel
theorem dX8_withGroup_8 : decode cX8_withGroup 8 = .ok (.ior, 1) := by decide +kernel
theorem dX8_withGroup_9 : decode cX8_withGroup 9 = .ok (.ireturn, 1) := by decide +kernel
theorem dX8_find_0 : decode cX8_find 0 = .ok (.iconst 0, 1) := by decide +kernel
theorem dX8_find_1 : decode cX8_find 1 = .ok (.istore 4, 2) := by decide +kernel
theorem dX8_find_3 : decode cX8_find 3 = .ok (.iload 4, 2) := by decide +kernel
theorem dX8_find_5 : decode cX8_find 5 = .ok (.aload_n 0, 1) := by decide +kernel
theorem dX8_find_6 : decode cX8_find 6 = .ok (.iload_n 1, 1) := by decide +kernel
theorem dX8_find_7 : decode cX8_find 7 = .ok (.iload_n 2, 1) := by decide +kernel
theorem dX8_find_8 : decode cX8_find 8 = .ok (.invokevirtual 57, 3) := by decide +kernel
theorem dX8_find_11 : decode cX8_find 11 = .ok (.if_icmp .ge 28, 3) := by decide +kernel
theorem dX8_find_14 : decode cX8_find 14 = .ok (.aload_n 0, 1) := by decide +kernel
theorem dX8_find_15 : decode cX8_find 15 = .ok (.getfield 7, 3) := by decide +kernel
theorem dX8_find_18 : decode cX8_find 18 = .ok (.iload_n 1, 1) := by decide +kernel
theorem dX8_find_19 : decode cX8_find 19 = .ok (.iload_n 2, 1) := by decide +kernel
theorem dX8_find_20 : decode cX8_find 20 = .ok (.iload 4, 2) := by decide +kernel
theorem dX8_find_22 : decode cX8_find 22 = .ok (.invokestatic 61, 3) := by decide +kernel
theorem dX8_find_25 : decode cX8_find 25 = .ok (.iaload, 1) := by decide +kernel
theorem dX8_find_26 : decode cX8_find 26 = .ok (.invokestatic 65, 3) := by decide +kernel
theorem dX8_find_29 : decode cX8_find 29 = .ok (.iload_n 3, 1) := by decide +kernel
theorem dX8_find_30 : decode cX8_find 30 = .ok (.if_icmp .eq 9, 3) := by decide +kernel
theorem dX8_find_33 : decode cX8_find 33 = .ok (.iinc 4 1, 3) := by decide +kernel
theorem dX8_find_36 : decode cX8_find 36 = .ok (.goto (-33), 3) := by decide +kernel
theorem dX8_find_39 : decode cX8_find 39 = .ok (.iload 4, 2) := by decide +kernel
theorem dX8_find_41 : decode cX8_find 41 = .ok (.aload_n 0, 1) := by decide +kernel
theorem dX8_find_42 : decode cX8_find 42 = .ok (.iload_n 1, 1) := by decide +kernel
theorem dX8_find_43 : decode cX8_find 43 = .ok (.iload_n 2, 1) := by decide +kernel
theorem dX8_find_44 : decode cX8_find 44 = .ok (.invokevirtual 57, 3) := by decide +kernel
theorem dX8_find_47 : decode cX8_find 47 = .ok (.if_icmp .ge 8, 3) := by decide +kernel
theorem dX8_find_50 : decode cX8_find 50 = .ok (.iload 4, 2) := by decide +kernel
theorem dX8_find_52 : decode cX8_find 52 = .ok (.goto 4, 3) := by decide +kernel
theorem dX8_find_55 : decode cX8_find 55 = .ok (.iconst (-1), 1) := by decide +kernel
theorem dX8_find_56 : decode cX8_find 56 = .ok (.ireturn, 1) := by decide +kernel
theorem dX8_takes_0 : decode cX8_takes 0 = .ok (.aload_n 0, 1) := by decide +kernel
theorem dX8_takes_1 : decode cX8_takes 1 = .ok (.getfield 7, 3) := by decide +kernel
theorem dX8_takes_4 : decode cX8_takes 4 = .ok (.bipush 27, 2) := by decide +kernel
theorem dX8_takes_6 : decode cX8_takes 6 = .ok (.iload_n 1, 1) := by decide +kernel
theorem dX8_takes_7 : decode cX8_takes 7 = .ok (.imul, 1) := by decide +kernel
theorem dX8_takes_8 : decode cX8_takes 8 = .ok (.iload_n 2, 1) := by decide +kernel
theorem dX8_takes_9 : decode cX8_takes 9 = .ok (.iadd, 1) := by decide +kernel
theorem dX8_takes_10 : decode cX8_takes 10 = .ok (.dup2, 1) := by decide +kernel
theorem dX8_takes_11 : decode cX8_takes 11 = .ok (.iaload, 1) := by decide +kernel
theorem dX8_takes_12 : decode cX8_takes 12 = .ok (.iconst 1, 1) := by decide +kernel
theorem dX8_takes_13 : decode cX8_takes 13 = .ok (.isub, 1) := by decide +kernel
theorem dX8_takes_14 : decode cX8_takes 14 = .ok (.iastore, 1) := by decide +kernel
theorem dX8_takes_15 : decode cX8_takes 15 = .ok (.iload_n 3, 1) := by decide +kernel
theorem dX8_takes_16 : decode cX8_takes 16 = .ok (.istore 4, 2) := by decide +kernel
theorem dX8_takes_18 : decode cX8_takes 18 = .ok (.iload 4, 2) := by decide +kernel
theorem dX8_takes_20 : decode cX8_takes 20 = .ok (.aload_n 0, 1) := by decide +kernel
theorem dX8_takes_21 : decode cX8_takes 21 = .ok (.iload_n 1, 1) := by decide +kernel
theorem dX8_takes_22 : decode cX8_takes 22 = .ok (.iload_n 2, 1) := by decide +kernel
theorem dX8_takes_23 : decode cX8_takes 23 = .ok (.invokevirtual 57, 3) := by decide +kernel
theorem dX8_takes_26 : decode cX8_takes 26 = .ok (.if_icmp .ge 35, 3) := by decide +kernel
theorem dX8_takes_29 : decode cX8_takes 29 = .ok (.aload_n 0, 1) := by decide +kernel
theorem dX8_takes_30 : decode cX8_takes 30 = .ok (.getfield 7, 3) := by decide +kernel
theorem dX8_takes_33 : decode cX8_takes 33 = .ok (.iload_n 1, 1) := by decide +kernel
theorem dX8_takes_34 : decode cX8_takes 34 = .ok (.iload_n 2, 1) := by decide +kernel
theorem dX8_takes_35 : decode cX8_takes 35 = .ok (.iload 4, 2) := by decide +kernel
theorem dX8_takes_37 : decode cX8_takes 37 = .ok (.invokestatic 61, 3) := by decide +kernel
theorem dX8_takes_40 : decode cX8_takes 40 = .ok (.aload_n 0, 1) := by decide +kernel
theorem dX8_takes_41 : decode cX8_takes 41 = .ok (.getfield 7, 3) := by decide +kernel
theorem dX8_takes_44 : decode cX8_takes 44 = .ok (.iload_n 1, 1) := by decide +kernel
theorem dX8_takes_45 : decode cX8_takes 45 = .ok (.iload_n 2, 1) := by decide +kernel
theorem dX8_takes_46 : decode cX8_takes 46 = .ok (.iload 4, 2) := by decide +kernel
theorem dX8_takes_48 : decode cX8_takes 48 = .ok (.iconst 1, 1) := by decide +kernel
theorem dX8_takes_49 : decode cX8_takes 49 = .ok (.iadd, 1) := by decide +kernel
theorem dX8_takes_50 : decode cX8_takes 50 = .ok (.invokestatic 61, 3) := by decide +kernel
theorem dX8_takes_53 : decode cX8_takes 53 = .ok (.iaload, 1) := by decide +kernel
theorem dX8_takes_54 : decode cX8_takes 54 = .ok (.iastore, 1) := by decide +kernel
theorem dX8_takes_55 : decode cX8_takes 55 = .ok (.iinc 4 1, 3) := by decide +kernel
theorem dX8_takes_58 : decode cX8_takes 58 = .ok (.goto (-40), 3) := by decide +kernel
theorem dX8_takes_61 : decode cX8_takes 61 = .ok (.return_, 1) := by decide +kernel
theorem dX8_puts_0 : decode cX8_puts 0 = .ok (.aload_n 0, 1) := by decide +kernel
theorem dX8_puts_1 : decode cX8_puts 1 = .ok (.iload_n 1, 1) := by decide +kernel
theorem dX8_puts_2 : decode cX8_puts 2 = .ok (.iload_n 2, 1) := by decide +kernel
theorem dX8_puts_3 : decode cX8_puts 3 = .ok (.invokevirtual 57, 3) := by decide +kernel
theorem dX8_puts_6 : decode cX8_puts 6 = .ok (.istore 5, 2) := by decide +kernel
theorem dX8_puts_8 : decode cX8_puts 8 = .ok (.iload 5, 2) := by decide +kernel
theorem dX8_puts_10 : decode cX8_puts 10 = .ok (.iload_n 3, 1) := by decide +kernel
theorem dX8_puts_11 : decode cX8_puts 11 = .ok (.if_icmp .le 35, 3) := by decide +kernel
theorem dX8_puts_14 : decode cX8_puts 14 = .ok (.aload_n 0, 1) := by decide +kernel
theorem dX8_puts_15 : decode cX8_puts 15 = .ok (.getfield 7, 3) := by decide +kernel
theorem dX8_puts_18 : decode cX8_puts 18 = .ok (.iload_n 1, 1) := by decide +kernel
theorem dX8_puts_19 : decode cX8_puts 19 = .ok (.iload_n 2, 1) := by decide +kernel
theorem dX8_puts_20 : decode cX8_puts 20 = .ok (.iload 5, 2) := by decide +kernel
theorem dX8_puts_22 : decode cX8_puts 22 = .ok (.invokestatic 61, 3) := by decide +kernel
theorem dX8_puts_25 : decode cX8_puts 25 = .ok (.aload_n 0, 1) := by decide +kernel
theorem dX8_puts_26 : decode cX8_puts 26 = .ok (.getfield 7, 3) := by decide +kernel
theorem dX8_puts_29 : decode cX8_puts 29 = .ok (.iload_n 1, 1) := by decide +kernel
theorem dX8_puts_30 : decode cX8_puts 30 = .ok (.iload_n 2, 1) := by decide +kernel
theorem dX8_puts_31 : decode cX8_puts 31 = .ok (.iload 5, 2) := by decide +kernel
theorem dX8_puts_33 : decode cX8_puts 33 = .ok (.iconst 1, 1) := by decide +kernel
theorem dX8_puts_34 : decode cX8_puts 34 = .ok (.isub, 1) := by decide +kernel
theorem dX8_puts_35 : decode cX8_puts 35 = .ok (.invokestatic 61, 3) := by decide +kernel
theorem dX8_puts_38 : decode cX8_puts 38 = .ok (.iaload, 1) := by decide +kernel
theorem dX8_puts_39 : decode cX8_puts 39 = .ok (.iastore, 1) := by decide +kernel
theorem dX8_puts_40 : decode cX8_puts 40 = .ok (.iinc 5 (-1), 3) := by decide +kernel
theorem dX8_puts_43 : decode cX8_puts 43 = .ok (.goto (-35), 3) := by decide +kernel
theorem dX8_puts_46 : decode cX8_puts 46 = .ok (.aload_n 0, 1) := by decide +kernel
theorem dX8_puts_47 : decode cX8_puts 47 = .ok (.getfield 7, 3) := by decide +kernel
theorem dX8_puts_50 : decode cX8_puts 50 = .ok (.iload_n 1, 1) := by decide +kernel
theorem dX8_puts_51 : decode cX8_puts 51 = .ok (.iload_n 2, 1) := by decide +kernel
theorem dX8_puts_52 : decode cX8_puts 52 = .ok (.iload_n 3, 1) := by decide +kernel
theorem dX8_puts_53 : decode cX8_puts 53 = .ok (.invokestatic 61, 3) := by decide +kernel
theorem dX8_puts_56 : decode cX8_puts 56 = .ok (.iload 4, 2) := by decide +kernel
theorem dX8_puts_58 : decode cX8_puts 58 = .ok (.iastore, 1) := by decide +kernel
theorem dX8_puts_59 : decode cX8_puts 59 = .ok (.aload_n 0, 1) := by decide +kernel
theorem dX8_puts_60 : decode cX8_puts 60 = .ok (.getfield 7, 3) := by decide +kernel
theorem dX8_puts_63 : decode cX8_puts 63 = .ok (.bipush 27, 2) := by decide +kernel
theorem dX8_puts_65 : decode cX8_puts 65 = .ok (.iload_n 1, 1) := by decide +kernel
theorem dX8_puts_66 : decode cX8_puts 66 = .ok (.imul, 1) := by decide +kernel
theorem dX8_puts_67 : decode cX8_puts 67 = .ok (.iload_n 2, 1) := by decide +kernel
theorem dX8_puts_68 : decode cX8_puts 68 = .ok (.iadd, 1) := by decide +kernel
theorem dX8_puts_69 : decode cX8_puts 69 = .ok (.dup2, 1) := by decide +kernel
theorem dX8_puts_70 : decode cX8_puts 70 = .ok (.iaload, 1) := by decide +kernel
theorem dX8_puts_71 : decode cX8_puts 71 = .ok (.iconst 1, 1) := by decide +kernel
theorem dX8_puts_72 : decode cX8_puts 72 = .ok (.iadd, 1) := by decide +kernel
theorem dX8_puts_73 : decode cX8_puts 73 = .ok (.iastore, 1) := by decide +kernel
theorem dX8_puts_74 : decode cX8_puts 74 = .ok (.return_, 1) := by decide +kernel
theorem dX8_shifts_0 : decode cX8_shifts 0 = .ok (.aload_n 0, 1) := by decide +kernel
theorem dX8_shifts_1 : decode cX8_shifts 1 = .ok (.getfield 7, 3) := by decide +kernel
theorem dX8_shifts_4 : decode cX8_shifts 4 = .ok (.iload_n 1, 1) := by decide +kernel
theorem dX8_shifts_5 : decode cX8_shifts 5 = .ok (.iload_n 2, 1) := by decide +kernel
theorem dX8_shifts_6 : decode cX8_shifts 6 = .ok (.iload_n 3, 1) := by decide +kernel
theorem dX8_shifts_7 : decode cX8_shifts 7 = .ok (.invokestatic 61, 3) := by decide +kernel
theorem dX8_shifts_10 : decode cX8_shifts 10 = .ok (.iaload, 1) := by decide +kernel
theorem dX8_shifts_11 : decode cX8_shifts 11 = .ok (.istore 5, 2) := by decide +kernel
theorem dX8_shifts_13 : decode cX8_shifts 13 = .ok (.aload_n 0, 1) := by decide +kernel
theorem dX8_shifts_14 : decode cX8_shifts 14 = .ok (.iload_n 1, 1) := by decide +kernel
theorem dX8_shifts_15 : decode cX8_shifts 15 = .ok (.iload_n 2, 1) := by decide +kernel
theorem dX8_shifts_16 : decode cX8_shifts 16 = .ok (.iload_n 3, 1) := by decide +kernel
theorem dX8_shifts_17 : decode cX8_shifts 17 = .ok (.invokevirtual 69, 3) := by decide +kernel
theorem dX8_shifts_20 : decode cX8_shifts 20 = .ok (.aload_n 0, 1) := by decide +kernel
theorem dX8_shifts_21 : decode cX8_shifts 21 = .ok (.iload_n 1, 1) := by decide +kernel
theorem dX8_shifts_22 : decode cX8_shifts 22 = .ok (.iload_n 2, 1) := by decide +kernel
theorem dX8_shifts_23 : decode cX8_shifts 23 = .ok (.iload 4, 2) := by decide +kernel
theorem dX8_shifts_25 : decode cX8_shifts 25 = .ok (.iload 5, 2) := by decide +kernel
theorem dX8_shifts_27 : decode cX8_shifts 27 = .ok (.invokevirtual 73, 3) := by decide +kernel
theorem dX8_shifts_30 : decode cX8_shifts 30 = .ok (.return_, 1) := by decide +kernel
theorem dX8_copies_0 : decode cX8_copies 0 = .ok (.iconst 0, 1) := by decide +kernel
theorem dX8_copies_1 : decode cX8_copies 1 = .ok (.istore_n 3, 1) := by decide +kernel
theorem dX8_copies_2 : decode cX8_copies 2 = .ok (.iload_n 3, 1) := by decide +kernel
theorem dX8_copies_3 : decode cX8_copies 3 = .ok (.bipush 27, 2) := by decide +kernel
theorem dX8_copies_5 : decode cX8_copies 5 = .ok (.if_icmp .ge 31, 3) := by decide +kernel
theorem dX8_copies_8 : decode cX8_copies 8 = .ok (.aload_n 0, 1) := by decide +kernel
theorem dX8_copies_9 : decode cX8_copies 9 = .ok (.getfield 7, 3) := by decide +kernel
theorem dX8_copies_12 : decode cX8_copies 12 = .ok (.bipush 27, 2) := by decide +kernel
theorem dX8_copies_14 : decode cX8_copies 14 = .ok (.iload_n 2, 1) := by decide +kernel
theorem dX8_copies_15 : decode cX8_copies 15 = .ok (.imul, 1) := by decide +kernel
theorem dX8_copies_16 : decode cX8_copies 16 = .ok (.iload_n 3, 1) := by decide +kernel
theorem dX8_copies_17 : decode cX8_copies 17 = .ok (.iadd, 1) := by decide +kernel
theorem dX8_copies_18 : decode cX8_copies 18 = .ok (.aload_n 0, 1) := by decide +kernel
theorem dX8_copies_19 : decode cX8_copies 19 = .ok (.getfield 7, 3) := by decide +kernel
theorem dX8_copies_22 : decode cX8_copies 22 = .ok (.bipush 27, 2) := by decide +kernel
theorem dX8_copies_24 : decode cX8_copies 24 = .ok (.iload_n 1, 1) := by decide +kernel
theorem dX8_copies_25 : decode cX8_copies 25 = .ok (.imul, 1) := by decide +kernel
theorem dX8_copies_26 : decode cX8_copies 26 = .ok (.iload_n 3, 1) := by decide +kernel
theorem dX8_copies_27 : decode cX8_copies 27 = .ok (.iadd, 1) := by decide +kernel
theorem dX8_copies_28 : decode cX8_copies 28 = .ok (.iaload, 1) := by decide +kernel
theorem dX8_copies_29 : decode cX8_copies 29 = .ok (.iastore, 1) := by decide +kernel
theorem dX8_copies_30 : decode cX8_copies 30 = .ok (.iinc 3 1, 3) := by decide +kernel
theorem dX8_copies_33 : decode cX8_copies 33 = .ok (.goto (-31), 3) := by decide +kernel
theorem dX8_copies_36 : decode cX8_copies 36 = .ok (.return_, 1) := by decide +kernel
theorem dX8_slot_0 : decode cX8_slot 0 = .ok (.iload_n 1, 1) := by decide +kernel
theorem dX8_slot_1 : decode cX8_slot 1 = .ok (.iconst 0, 1) := by decide +kernel
theorem dX8_slot_2 : decode cX8_slot 2 = .ok (.iconst 2, 1) := by decide +kernel
theorem dX8_slot_3 : decode cX8_slot 3 = .ok (.invokestatic 77, 3) := by decide +kernel
theorem dX8_slot_6 : decode cX8_slot 6 = .ok (.ifCond .eq 19, 3) := by decide +kernel
theorem dX8_slot_9 : decode cX8_slot 9 = .ok (.aload_n 0, 1) := by decide +kernel
theorem dX8_slot_10 : decode cX8_slot 10 = .ok (.getfield 13, 3) := by decide +kernel
theorem dX8_slot_13 : decode cX8_slot 13 = .ok (.iload_n 1, 1) := by decide +kernel
theorem dX8_slot_14 : decode cX8_slot 14 = .ok (.iaload, 1) := by decide +kernel
theorem dX8_slot_15 : decode cX8_slot 15 = .ok (.iconst 1, 1) := by decide +kernel
theorem dX8_slot_16 : decode cX8_slot 16 = .ok (.if_icmp .ne 7, 3) := by decide +kernel
theorem dX8_slot_19 : decode cX8_slot 19 = .ok (.iload_n 1, 1) := by decide +kernel
theorem dX8_slot_20 : decode cX8_slot 20 = .ok (.goto 4, 3) := by decide +kernel
theorem dX8_slot_23 : decode cX8_slot 23 = .ok (.iconst (-1), 1) := by decide +kernel
theorem dX8_slot_24 : decode cX8_slot 24 = .ok (.ireturn, 1) := by decide +kernel
theorem dX8_slot_25 : decode cX8_slot 25 = .ok (.iload_n 1, 1) := by decide +kernel
theorem dX8_slot_26 : decode cX8_slot 26 = .ok (.bipush 10, 2) := by decide +kernel
theorem dX8_slot_28 : decode cX8_slot 28 = .ok (.bipush 10, 2) := by decide +kernel
theorem dX8_slot_30 : decode cX8_slot 30 = .ok (.aload_n 0, 1) := by decide +kernel
theorem dX8_slot_31 : decode cX8_slot 31 = .ok (.getfield 81, 3) := by decide +kernel
theorem dX8_slot_34 : decode cX8_slot 34 = .ok (.iadd, 1) := by decide +kernel
theorem dX8_slot_35 : decode cX8_slot 35 = .ok (.invokestatic 77, 3) := by decide +kernel
theorem dX8_slot_38 : decode cX8_slot 38 = .ok (.ifCond .eq 10, 3) := by decide +kernel
theorem dX8_slot_41 : decode cX8_slot 41 = .ok (.iload_n 1, 1) := by decide +kernel
theorem dX8_slot_42 : decode cX8_slot 42 = .ok (.bipush 7, 2) := by decide +kernel
theorem dX8_slot_44 : decode cX8_slot 44 = .ok (.isub, 1) := by decide +kernel
theorem dX8_slot_45 : decode cX8_slot 45 = .ok (.goto 4, 3) := by decide +kernel
theorem dX8_slot_48 : decode cX8_slot 48 = .ok (.iconst (-1), 1) := by decide +kernel
theorem dX8_slot_49 : decode cX8_slot 49 = .ok (.ireturn, 1) := by decide +kernel
theorem dX8_isField_0 : decode cX8_isField 0 = .ok (.iload_n 0, 1) := by decide +kernel
theorem dX8_isField_1 : decode cX8_isField 1 = .ok (.ifCond .eq 8, 3) := by decide +kernel
theorem dX8_isField_4 : decode cX8_isField 4 = .ok (.iload_n 0, 1) := by decide +kernel
theorem dX8_isField_5 : decode cX8_isField 5 = .ok (.iconst 1, 1) := by decide +kernel
theorem dX8_isField_6 : decode cX8_isField 6 = .ok (.if_icmp .ne 7, 3) := by decide +kernel
theorem dX8_isField_9 : decode cX8_isField 9 = .ok (.iconst 1, 1) := by decide +kernel
theorem dX8_isField_10 : decode cX8_isField 10 = .ok (.goto 4, 3) := by decide +kernel
theorem dX8_isField_13 : decode cX8_isField 13 = .ok (.iconst 0, 1) := by decide +kernel
theorem dX8_isField_14 : decode cX8_isField 14 = .ok (.ireturn, 1) := by decide +kernel
theorem dX8_isSection_0 : decode cX8_isSection 0 = .ok (.iload_n 0, 1) := by decide +kernel
theorem dX8_isSection_1 : decode cX8_isSection 1 = .ok (.iconst 0, 1) := by decide +kernel
theorem dX8_isSection_2 : decode cX8_isSection 2 = .ok (.iconst 2, 1) := by decide +kernel
theorem dX8_isSection_3 : decode cX8_isSection 3 = .ok (.invokestatic 77, 3) := by decide +kernel
theorem dX8_isSection_6 : decode cX8_isSection 6 = .ok (.ireturn, 1) := by decide +kernel
theorem dX8_isKey_0 : decode cX8_isKey 0 = .ok (.iload_n 0, 1) := by decide +kernel
theorem dX8_isKey_1 : decode cX8_isKey 1 = .ok (.invokestatic 84, 3) := by decide +kernel
theorem dX8_isKey_4 : decode cX8_isKey 4 = .ok (.ifCond .eq 17, 3) := by decide +kernel
theorem dX8_isKey_7 : decode cX8_isKey 7 = .ok (.iload_n 1, 1) := by decide +kernel
theorem dX8_isKey_8 : decode cX8_isKey 8 = .ok (.iconst 0, 1) := by decide +kernel
theorem dX8_isKey_9 : decode cX8_isKey 9 = .ok (.bipush 9, 2) := by decide +kernel
theorem dX8_isKey_11 : decode cX8_isKey 11 = .ok (.invokestatic 77, 3) := by decide +kernel
theorem dX8_isKey_14 : decode cX8_isKey 14 = .ok (.ifCond .eq 7, 3) := by decide +kernel
theorem dX8_isKey_17 : decode cX8_isKey 17 = .ok (.iconst 1, 1) := by decide +kernel
theorem dX8_isKey_18 : decode cX8_isKey 18 = .ok (.goto 4, 3) := by decide +kernel
theorem dX8_isKey_21 : decode cX8_isKey 21 = .ok (.iconst 0, 1) := by decide +kernel
theorem dX8_isKey_22 : decode cX8_isKey 22 = .ok (.ireturn, 1) := by decide +kernel
theorem dX8_isCandidate_0 : decode cX8_isCandidate 0 = .ok (.iload_n 0, 1) := by decide +kernel
theorem dX8_isCandidate_1 : decode cX8_isCandidate 1 = .ok (.iconst 0, 1) := by decide +kernel
theorem dX8_isCandidate_2 : decode cX8_isCandidate 2 = .ok (.iconst 2, 1) := by decide +kernel
theorem dX8_isCandidate_3 : decode cX8_isCandidate 3 = .ok (.invokestatic 77, 3) := by decide +kernel
theorem dX8_isCandidate_6 : decode cX8_isCandidate 6 = .ok (.ireturn, 1) := by decide +kernel
theorem dX8_open_0 : decode cX8_open 0 = .ok (.aload_n 0, 1) := by decide +kernel
theorem dX8_open_1 : decode cX8_open 1 = .ok (.iload_n 1, 1) := by decide +kernel
theorem dX8_open_2 : decode cX8_open 2 = .ok (.invokestatic 88, 3) := by decide +kernel
theorem dX8_open_5 : decode cX8_open 5 = .ok (.ifCond .eq 7, 3) := by decide +kernel
theorem dX8_open_8 : decode cX8_open 8 = .ok (.iconst 0, 1) := by decide +kernel
theorem dX8_open_9 : decode cX8_open 9 = .ok (.goto 4, 3) := by decide +kernel
theorem dX8_open_12 : decode cX8_open 12 = .ok (.iconst 1, 1) := by decide +kernel
theorem dX8_open_13 : decode cX8_open 13 = .ok (.putfield 53, 3) := by decide +kernel
theorem dX8_open_16 : decode cX8_open 16 = .ok (.aload_n 0, 1) := by decide +kernel
theorem dX8_open_17 : decode cX8_open 17 = .ok (.getfield 53, 3) := by decide +kernel
theorem dX8_open_20 : decode cX8_open 20 = .ok (.ifCond .le 5, 3) := by decide +kernel
theorem dX8_open_23 : decode cX8_open 23 = .ok (.iconst 0, 1) := by decide +kernel
theorem dX8_open_24 : decode cX8_open 24 = .ok (.ireturn, 1) := by decide +kernel
theorem dX8_open_25 : decode cX8_open 25 = .ok (.aload_n 0, 1) := by decide +kernel
theorem dX8_open_26 : decode cX8_open 26 = .ok (.getfield 13, 3) := by decide +kernel
theorem dX8_open_29 : decode cX8_open 29 = .ok (.iload_n 1, 1) := by decide +kernel
theorem dX8_open_30 : decode cX8_open 30 = .ok (.iconst 1, 1) := by decide +kernel
theorem dX8_open_31 : decode cX8_open 31 = .ok (.iastore, 1) := by decide +kernel
theorem dX8_open_32 : decode cX8_open 32 = .ok (.aload_n 0, 1) := by decide +kernel
theorem dX8_open_33 : decode cX8_open 33 = .ok (.getfield 16, 3) := by decide +kernel
theorem dX8_open_36 : decode cX8_open 36 = .ok (.iload_n 1, 1) := by decide +kernel
theorem dX8_open_37 : decode cX8_open 37 = .ok (.aload_n 0, 1) := by decide +kernel
theorem dX8_open_38 : decode cX8_open 38 = .ok (.getfield 81, 3) := by decide +kernel
theorem dX8_open_41 : decode cX8_open 41 = .ok (.iastore, 1) := by decide +kernel
theorem dX8_open_42 : decode cX8_open 42 = .ok (.aload_n 0, 1) := by decide +kernel
theorem dX8_open_43 : decode cX8_open 43 = .ok (.iconst 3, 1) := by decide +kernel
theorem dX8_open_44 : decode cX8_open 44 = .ok (.aload_n 0, 1) := by decide +kernel
theorem dX8_open_45 : decode cX8_open 45 = .ok (.getfield 81, 3) := by decide +kernel
theorem dX8_open_48 : decode cX8_open 48 = .ok (.iadd, 1) := by decide +kernel
theorem dX8_open_49 : decode cX8_open 49 = .ok (.iload_n 1, 1) := by decide +kernel
theorem dX8_open_50 : decode cX8_open 50 = .ok (.invokevirtual 91, 3) := by decide +kernel
theorem dX8_open_53 : decode cX8_open 53 = .ok (.aload_n 0, 1) := by decide +kernel
theorem dX8_open_54 : decode cX8_open 54 = .ok (.getfield 81, 3) := by decide +kernel
theorem dX8_open_57 : decode cX8_open 57 = .ok (.ireturn, 1) := by decide +kernel
theorem dX8_add_0 : decode cX8_add 0 = .ok (.aload_n 0, 1) := by decide +kernel
theorem dX8_add_1 : decode cX8_add 1 = .ok (.iload_n 1, 1) := by decide +kernel
theorem dX8_add_2 : decode cX8_add 2 = .ok (.invokestatic 88, 3) := by decide +kernel
theorem dX8_add_5 : decode cX8_add 5 = .ok (.ifCond .eq 15, 3) := by decide +kernel
theorem dX8_add_8 : decode cX8_add 8 = .ok (.iload_n 2, 1) := by decide +kernel
theorem dX8_add_9 : decode cX8_add 9 = .ok (.iload_n 3, 1) := by decide +kernel
theorem dX8_add_10 : decode cX8_add 10 = .ok (.invokestatic 95, 3) := by decide +kernel
theorem dX8_add_13 : decode cX8_add 13 = .ok (.ifCond .eq 7, 3) := by decide +kernel
theorem dX8_add_16 : decode cX8_add 16 = .ok (.iconst 0, 1) := by decide +kernel
theorem dX8_add_17 : decode cX8_add 17 = .ok (.goto 4, 3) := by decide +kernel
theorem dX8_add_20 : decode cX8_add 20 = .ok (.iconst 1, 1) := by decide +kernel
theorem dX8_add_21 : decode cX8_add 21 = .ok (.putfield 53, 3) := by decide +kernel
theorem dX8_add_24 : decode cX8_add 24 = .ok (.aload_n 0, 1) := by decide +kernel
theorem dX8_add_25 : decode cX8_add 25 = .ok (.getfield 53, 3) := by decide +kernel
theorem dX8_add_28 : decode cX8_add 28 = .ok (.ifCond .le 5, 3) := by decide +kernel
theorem dX8_add_31 : decode cX8_add 31 = .ok (.iconst 0, 1) := by decide +kernel
theorem dX8_add_32 : decode cX8_add 32 = .ok (.ireturn, 1) := by decide +kernel
theorem dX8_add_33 : decode cX8_add 33 = .ok (.aload_n 0, 1) := by decide +kernel
theorem dX8_add_34 : decode cX8_add 34 = .ok (.getfield 13, 3) := by decide +kernel
theorem dX8_add_37 : decode cX8_add 37 = .ok (.iload_n 1, 1) := by decide +kernel
theorem dX8_add_38 : decode cX8_add 38 = .ok (.iaload, 1) := by decide +kernel
theorem dX8_add_39 : decode cX8_add 39 = .ok (.ifCond .eq 25, 3) := by decide +kernel
theorem dX8_add_42 : decode cX8_add 42 = .ok (.aload_n 0, 1) := by decide +kernel
theorem dX8_add_43 : decode cX8_add 43 = .ok (.iload_n 1, 1) := by decide +kernel
theorem dX8_add_44 : decode cX8_add 44 = .ok (.iload_n 2, 1) := by decide +kernel
theorem dX8_add_45 : decode cX8_add 45 = .ok (.iload_n 3, 1) := by decide +kernel
theorem dX8_add_46 : decode cX8_add 46 = .ok (.invokevirtual 99, 3) := by decide +kernel
theorem dX8_add_49 : decode cX8_add 49 = .ok (.iconst (-1), 1) := by decide +kernel
theorem dX8_add_50 : decode cX8_add 50 = .ok (.if_icmp .ne 14, 3) := by decide +kernel
theorem dX8_add_53 : decode cX8_add 53 = .ok (.aload_n 0, 1) := by decide +kernel
theorem dX8_add_54 : decode cX8_add 54 = .ok (.iload_n 1, 1) := by decide +kernel
theorem dX8_add_55 : decode cX8_add 55 = .ok (.iload_n 2, 1) := by decide +kernel
theorem dX8_add_56 : decode cX8_add 56 = .ok (.invokevirtual 57, 3) := by decide +kernel
theorem dX8_add_59 : decode cX8_add 59 = .ok (.bipush 6, 2) := by decide +kernel
theorem dX8_add_61 : decode cX8_add 61 = .ok (.if_icmp .ne 9, 3) := by decide +kernel
theorem dX8_add_64 : decode cX8_add 64 = .ok (.aload_n 0, 1) := by decide +kernel
theorem dX8_add_65 : decode cX8_add 65 = .ok (.iconst 2, 1) := by decide +kernel
theorem dX8_add_66 : decode cX8_add 66 = .ok (.invokevirtual 102, 3) := by decide +kernel
theorem dX8_add_69 : decode cX8_add 69 = .ok (.ireturn, 1) := by decide +kernel
theorem dX8_add_70 : decode cX8_add 70 = .ok (.iload 4, 2) := by decide +kernel
theorem dX8_add_72 : decode cX8_add 72 = .ok (.iconst 0, 1) := by decide +kernel
theorem dX8_add_73 : decode cX8_add 73 = .ok (.aload_n 0, 1) := by decide +kernel
theorem dX8_add_74 : decode cX8_add 74 = .ok (.iload_n 1, 1) := by decide +kernel
theorem dX8_add_75 : decode cX8_add 75 = .ok (.iload_n 2, 1) := by decide +kernel
theorem dX8_add_76 : decode cX8_add 76 = .ok (.invokevirtual 57, 3) := by decide +kernel
theorem dX8_add_79 : decode cX8_add 79 = .ok (.invokestatic 77, 3) := by decide +kernel
theorem dX8_add_82 : decode cX8_add 82 = .ok (.ifCond .ne 9, 3) := by decide +kernel
theorem dX8_add_85 : decode cX8_add 85 = .ok (.aload_n 0, 1) := by decide +kernel
theorem dX8_add_86 : decode cX8_add 86 = .ok (.iconst 3, 1) := by decide +kernel
theorem dX8_add_87 : decode cX8_add 87 = .ok (.invokevirtual 102, 3) := by decide +kernel
theorem dX8_add_90 : decode cX8_add 90 = .ok (.ireturn, 1) := by decide +kernel
theorem dX8_add_91 : decode cX8_add 91 = .ok (.aload_n 0, 1) := by decide +kernel
theorem dX8_add_92 : decode cX8_add 92 = .ok (.iload_n 1, 1) := by decide +kernel
theorem dX8_add_93 : decode cX8_add 93 = .ok (.iload_n 2, 1) := by decide +kernel
theorem dX8_add_94 : decode cX8_add 94 = .ok (.iload 4, 2) := by decide +kernel
theorem dX8_add_96 : decode cX8_add 96 = .ok (.iload_n 3, 1) := by decide +kernel
theorem dX8_add_97 : decode cX8_add 97 = .ok (.invokevirtual 73, 3) := by decide +kernel
theorem dX8_add_100 : decode cX8_add 100 = .ok (.aload_n 0, 1) := by decide +kernel
theorem dX8_add_101 : decode cX8_add 101 = .ok (.iload_n 1, 1) := by decide +kernel
theorem dX8_add_102 : decode cX8_add 102 = .ok (.iload_n 2, 1) := by decide +kernel
theorem dX8_add_103 : decode cX8_add 103 = .ok (.invokevirtual 57, 3) := by decide +kernel
theorem dX8_add_106 : decode cX8_add 106 = .ok (.ireturn, 1) := by decide +kernel
theorem dX8_entry_0 : decode cX8_entry 0 = .ok (.aload_n 0, 1) := by decide +kernel
theorem dX8_entry_1 : decode cX8_entry 1 = .ok (.iload_n 1, 1) := by decide +kernel
theorem dX8_entry_2 : decode cX8_entry 2 = .ok (.invokestatic 88, 3) := by decide +kernel
theorem dX8_entry_5 : decode cX8_entry 5 = .ok (.ifCond .eq 15, 3) := by decide +kernel
theorem dX8_entry_8 : decode cX8_entry 8 = .ok (.iload_n 2, 1) := by decide +kernel
theorem dX8_entry_9 : decode cX8_entry 9 = .ok (.iload_n 3, 1) := by decide +kernel
theorem dX8_entry_10 : decode cX8_entry 10 = .ok (.invokestatic 95, 3) := by decide +kernel
theorem dX8_entry_13 : decode cX8_entry 13 = .ok (.ifCond .eq 7, 3) := by decide +kernel
theorem dX8_entry_16 : decode cX8_entry 16 = .ok (.iconst 0, 1) := by decide +kernel
theorem dX8_entry_17 : decode cX8_entry 17 = .ok (.goto 4, 3) := by decide +kernel
theorem dX8_entry_20 : decode cX8_entry 20 = .ok (.iconst 1, 1) := by decide +kernel
theorem dX8_entry_21 : decode cX8_entry 21 = .ok (.putfield 53, 3) := by decide +kernel
theorem dX8_entry_24 : decode cX8_entry 24 = .ok (.aload_n 0, 1) := by decide +kernel
theorem dX8_entry_25 : decode cX8_entry 25 = .ok (.getfield 53, 3) := by decide +kernel
theorem dX8_entry_28 : decode cX8_entry 28 = .ok (.ifCond .ne 23, 3) := by decide +kernel
theorem dX8_entry_31 : decode cX8_entry 31 = .ok (.aload_n 0, 1) := by decide +kernel
theorem dX8_entry_32 : decode cX8_entry 32 = .ok (.getfield 13, 3) := by decide +kernel
theorem dX8_entry_35 : decode cX8_entry 35 = .ok (.iload_n 1, 1) := by decide +kernel
theorem dX8_entry_36 : decode cX8_entry 36 = .ok (.iaload, 1) := by decide +kernel
theorem dX8_entry_37 : decode cX8_entry 37 = .ok (.iconst 1, 1) := by decide +kernel
theorem dX8_entry_38 : decode cX8_entry 38 = .ok (.if_icmp .ne 13, 3) := by decide +kernel
theorem dX8_entry_41 : decode cX8_entry 41 = .ok (.aload_n 0, 1) := by decide +kernel
theorem dX8_entry_42 : decode cX8_entry 42 = .ok (.iload_n 1, 1) := by decide +kernel
theorem dX8_entry_43 : decode cX8_entry 43 = .ok (.iload_n 2, 1) := by decide +kernel
theorem dX8_entry_44 : decode cX8_entry 44 = .ok (.iload_n 3, 1) := by decide +kernel
theorem dX8_entry_45 : decode cX8_entry 45 = .ok (.invokevirtual 99, 3) := by decide +kernel
theorem dX8_entry_48 : decode cX8_entry 48 = .ok (.goto 4, 3) := by decide +kernel
theorem dX8_entry_51 : decode cX8_entry 51 = .ok (.iconst (-1), 1) := by decide +kernel
theorem dX8_entry_52 : decode cX8_entry 52 = .ok (.istore 5, 2) := by decide +kernel
theorem dX8_entry_54 : decode cX8_entry 54 = .ok (.aload_n 0, 1) := by decide +kernel
theorem dX8_entry_55 : decode cX8_entry 55 = .ok (.aload_n 0, 1) := by decide +kernel
theorem dX8_entry_56 : decode cX8_entry 56 = .ok (.getfield 53, 3) := by decide +kernel
theorem dX8_entry_59 : decode cX8_entry 59 = .ok (.ifCond .ne 14, 3) := by decide +kernel
theorem dX8_entry_62 : decode cX8_entry 62 = .ok (.iload 5, 2) := by decide +kernel
theorem dX8_entry_64 : decode cX8_entry 64 = .ok (.iconst (-1), 1) := by decide +kernel
theorem dX8_entry_65 : decode cX8_entry 65 = .ok (.if_icmp .ne 8, 3) := by decide +kernel
theorem dX8_entry_68 : decode cX8_entry 68 = .ok (.iload 4, 2) := by decide +kernel
theorem dX8_entry_70 : decode cX8_entry 70 = .ok (.goto 7, 3) := by decide +kernel
theorem dX8_entry_73 : decode cX8_entry 73 = .ok (.aload_n 0, 1) := by decide +kernel
theorem dX8_entry_74 : decode cX8_entry 74 = .ok (.getfield 53, 3) := by decide +kernel
theorem dX8_entry_77 : decode cX8_entry 77 = .ok (.putfield 53, 3) := by decide +kernel
theorem dX8_entry_80 : decode cX8_entry 80 = .ok (.iload 5, 2) := by decide +kernel
theorem dX8_entry_82 : decode cX8_entry 82 = .ok (.ireturn, 1) := by decide +kernel
theorem dX8_remove_0 : decode cX8_remove 0 = .ok (.aload_n 0, 1) := by decide +kernel
theorem dX8_remove_1 : decode cX8_remove 1 = .ok (.iload_n 1, 1) := by decide +kernel
theorem dX8_remove_2 : decode cX8_remove 2 = .ok (.iload_n 2, 1) := by decide +kernel
theorem dX8_remove_3 : decode cX8_remove 3 = .ok (.iload_n 3, 1) := by decide +kernel
theorem dX8_remove_4 : decode cX8_remove 4 = .ok (.iconst 2, 1) := by decide +kernel
theorem dX8_remove_5 : decode cX8_remove 5 = .ok (.invokevirtual 105, 3) := by decide +kernel
theorem dX8_remove_8 : decode cX8_remove 8 = .ok (.istore 4, 2) := by decide +kernel
theorem dX8_remove_10 : decode cX8_remove 10 = .ok (.aload_n 0, 1) := by decide +kernel
theorem dX8_remove_11 : decode cX8_remove 11 = .ok (.getfield 53, 3) := by decide +kernel
theorem dX8_remove_14 : decode cX8_remove 14 = .ok (.ifCond .le 5, 3) := by decide +kernel
theorem dX8_remove_17 : decode cX8_remove 17 = .ok (.iconst 0, 1) := by decide +kernel
theorem dX8_remove_18 : decode cX8_remove 18 = .ok (.ireturn, 1) := by decide +kernel
theorem dX8_remove_19 : decode cX8_remove 19 = .ok (.aload_n 0, 1) := by decide +kernel
theorem dX8_remove_20 : decode cX8_remove 20 = .ok (.iload_n 1, 1) := by decide +kernel
theorem dX8_remove_21 : decode cX8_remove 21 = .ok (.iload_n 2, 1) := by decide +kernel
theorem dX8_remove_22 : decode cX8_remove 22 = .ok (.iload 4, 2) := by decide +kernel
theorem dX8_remove_24 : decode cX8_remove 24 = .ok (.invokevirtual 69, 3) := by decide +kernel
theorem dX8_remove_27 : decode cX8_remove 27 = .ok (.iload 4, 2) := by decide +kernel
theorem dX8_remove_29 : decode cX8_remove 29 = .ok (.ireturn, 1) := by decide +kernel
theorem dX8_move_0 : decode cX8_move 0 = .ok (.aload_n 0, 1) := by decide +kernel
theorem dX8_move_1 : decode cX8_move 1 = .ok (.iload_n 1, 1) := by decide +kernel
theorem dX8_move_2 : decode cX8_move 2 = .ok (.iload_n 2, 1) := by decide +kernel
theorem dX8_move_3 : decode cX8_move 3 = .ok (.iload_n 3, 1) := by decide +kernel
theorem dX8_move_4 : decode cX8_move 4 = .ok (.iconst 2, 1) := by decide +kernel
theorem dX8_move_5 : decode cX8_move 5 = .ok (.invokevirtual 105, 3) := by decide +kernel
theorem dX8_move_8 : decode cX8_move 8 = .ok (.istore 5, 2) := by decide +kernel
theorem dX8_move_10 : decode cX8_move 10 = .ok (.aload_n 0, 1) := by decide +kernel
theorem dX8_move_11 : decode cX8_move 11 = .ok (.getfield 53, 3) := by decide +kernel
theorem dX8_move_14 : decode cX8_move 14 = .ok (.ifCond .le 5, 3) := by decide +kernel
theorem dX8_move_17 : decode cX8_move 17 = .ok (.iconst 0, 1) := by decide +kernel
theorem dX8_move_18 : decode cX8_move 18 = .ok (.ireturn, 1) := by decide +kernel
theorem dX8_move_19 : decode cX8_move 19 = .ok (.iload 4, 2) := by decide +kernel
theorem dX8_move_21 : decode cX8_move 21 = .ok (.iconst 0, 1) := by decide +kernel
theorem dX8_move_22 : decode cX8_move 22 = .ok (.aload_n 0, 1) := by decide +kernel
theorem dX8_move_23 : decode cX8_move 23 = .ok (.iload_n 1, 1) := by decide +kernel
theorem dX8_move_24 : decode cX8_move 24 = .ok (.iload_n 2, 1) := by decide +kernel
theorem dX8_move_25 : decode cX8_move 25 = .ok (.invokevirtual 57, 3) := by decide +kernel
theorem dX8_move_28 : decode cX8_move 28 = .ok (.iconst 1, 1) := by decide +kernel
theorem dX8_move_29 : decode cX8_move 29 = .ok (.isub, 1) := by decide +kernel
theorem dX8_move_30 : decode cX8_move 30 = .ok (.invokestatic 77, 3) := by decide +kernel
theorem dX8_move_33 : decode cX8_move 33 = .ok (.ifCond .ne 9, 3) := by decide +kernel
theorem dX8_move_36 : decode cX8_move 36 = .ok (.aload_n 0, 1) := by decide +kernel
theorem dX8_move_37 : decode cX8_move 37 = .ok (.iconst 3, 1) := by decide +kernel
theorem dX8_move_38 : decode cX8_move 38 = .ok (.invokevirtual 102, 3) := by decide +kernel
theorem dX8_move_41 : decode cX8_move 41 = .ok (.ireturn, 1) := by decide +kernel
theorem dX8_move_42 : decode cX8_move 42 = .ok (.aload_n 0, 1) := by decide +kernel
theorem dX8_move_43 : decode cX8_move 43 = .ok (.iload_n 1, 1) := by decide +kernel
theorem dX8_move_44 : decode cX8_move 44 = .ok (.iload_n 2, 1) := by decide +kernel
theorem dX8_move_45 : decode cX8_move 45 = .ok (.iload 5, 2) := by decide +kernel
theorem dX8_move_47 : decode cX8_move 47 = .ok (.iload 4, 2) := by decide +kernel
theorem dX8_move_49 : decode cX8_move 49 = .ok (.invokevirtual 109, 3) := by decide +kernel
theorem dX8_move_52 : decode cX8_move 52 = .ok (.iload 5, 2) := by decide +kernel
theorem dX8_move_54 : decode cX8_move 54 = .ok (.ireturn, 1) := by decide +kernel
theorem dX8_set_0 : decode cX8_set 0 = .ok (.aload_n 0, 1) := by decide +kernel
theorem dX8_set_1 : decode cX8_set 1 = .ok (.iload_n 1, 1) := by decide +kernel
theorem dX8_set_2 : decode cX8_set 2 = .ok (.iload_n 2, 1) := by decide +kernel
theorem dX8_set_3 : decode cX8_set 3 = .ok (.iload_n 3, 1) := by decide +kernel
theorem dX8_set_4 : decode cX8_set 4 = .ok (.iconst 3, 1) := by decide +kernel
theorem dX8_set_5 : decode cX8_set 5 = .ok (.invokevirtual 105, 3) := by decide +kernel
theorem dX8_set_8 : decode cX8_set 8 = .ok (.istore 6, 2) := by decide +kernel
theorem dX8_set_10 : decode cX8_set 10 = .ok (.aload_n 0, 1) := by decide +kernel
theorem dX8_set_11 : decode cX8_set 11 = .ok (.iload 4, 2) := by decide +kernel
theorem dX8_set_13 : decode cX8_set 13 = .ok (.invokestatic 112, 3) := by decide +kernel
theorem dX8_set_16 : decode cX8_set 16 = .ok (.ifCond .ne 7, 3) := by decide +kernel
theorem dX8_set_19 : decode cX8_set 19 = .ok (.iconst 1, 1) := by decide +kernel
theorem dX8_set_20 : decode cX8_set 20 = .ok (.goto 7, 3) := by decide +kernel
theorem dX8_set_23 : decode cX8_set 23 = .ok (.aload_n 0, 1) := by decide +kernel
theorem dX8_set_24 : decode cX8_set 24 = .ok (.getfield 53, 3) := by decide +kernel
theorem dX8_set_27 : decode cX8_set 27 = .ok (.putfield 53, 3) := by decide +kernel
theorem dX8_set_30 : decode cX8_set 30 = .ok (.aload_n 0, 1) := by decide +kernel
theorem dX8_set_31 : decode cX8_set 31 = .ok (.aload_n 0, 1) := by decide +kernel
theorem dX8_set_32 : decode cX8_set 32 = .ok (.getfield 53, 3) := by decide +kernel
theorem dX8_set_35 : decode cX8_set 35 = .ok (.iconst 1, 1) := by decide +kernel
theorem dX8_set_36 : decode cX8_set 36 = .ok (.if_icmp .eq 18, 3) := by decide +kernel
theorem dX8_set_39 : decode cX8_set 39 = .ok (.iload 5, 2) := by decide +kernel
theorem dX8_set_41 : decode cX8_set 41 = .ok (.iconst (-1), 1) := by decide +kernel
theorem dX8_set_42 : decode cX8_set 42 = .ok (.bipush 99, 2) := by decide +kernel
theorem dX8_set_44 : decode cX8_set 44 = .ok (.invokestatic 77, 3) := by decide +kernel
theorem dX8_set_47 : decode cX8_set 47 = .ok (.ifCond .ne 7, 3) := by decide +kernel
theorem dX8_set_50 : decode cX8_set 50 = .ok (.iconst 2, 1) := by decide +kernel
theorem dX8_set_51 : decode cX8_set 51 = .ok (.goto 7, 3) := by decide +kernel
theorem dX8_set_54 : decode cX8_set 54 = .ok (.aload_n 0, 1) := by decide +kernel
theorem dX8_set_55 : decode cX8_set 55 = .ok (.getfield 53, 3) := by decide +kernel
theorem dX8_set_58 : decode cX8_set 58 = .ok (.putfield 53, 3) := by decide +kernel
theorem dX8_set_61 : decode cX8_set 61 = .ok (.aload_n 0, 1) := by decide +kernel
theorem dX8_set_62 : decode cX8_set 62 = .ok (.getfield 53, 3) := by decide +kernel
theorem dX8_set_65 : decode cX8_set 65 = .ok (.ifCond .le 5, 3) := by decide +kernel
theorem dX8_set_68 : decode cX8_set 68 = .ok (.iconst 0, 1) := by decide +kernel
theorem dX8_set_69 : decode cX8_set 69 = .ok (.ireturn, 1) := by decide +kernel
theorem dX8_set_70 : decode cX8_set 70 = .ok (.iload_n 1, 1) := by decide +kernel
theorem dX8_set_71 : decode cX8_set 71 = .ok (.iload_n 2, 1) := by decide +kernel
theorem dX8_set_72 : decode cX8_set 72 = .ok (.iload 6, 2) := by decide +kernel
theorem dX8_set_74 : decode cX8_set 74 = .ok (.invokestatic 61, 3) := by decide +kernel
theorem dX8_set_77 : decode cX8_set 77 = .ok (.istore 7, 2) := by decide +kernel
theorem dX8_set_79 : decode cX8_set 79 = .ok (.aload_n 0, 1) := by decide +kernel
theorem dX8_set_80 : decode cX8_set 80 = .ok (.getfield 7, 3) := by decide +kernel
theorem dX8_set_83 : decode cX8_set 83 = .ok (.iload 7, 2) := by decide +kernel
theorem dX8_set_85 : decode cX8_set 85 = .ok (.iaload, 1) := by decide +kernel
theorem dX8_set_86 : decode cX8_set 86 = .ok (.iload 4, 2) := by decide +kernel
theorem dX8_set_88 : decode cX8_set 88 = .ok (.invokestatic 115, 3) := by decide +kernel
theorem dX8_set_91 : decode cX8_set 91 = .ok (.iconst 1, 1) := by decide +kernel
theorem dX8_set_92 : decode cX8_set 92 = .ok (.isub, 1) := by decide +kernel
theorem dX8_set_93 : decode cX8_set 93 = .ok (.istore 8, 2) := by decide +kernel
theorem dX8_set_95 : decode cX8_set 95 = .ok (.aload_n 0, 1) := by decide +kernel
theorem dX8_set_96 : decode cX8_set 96 = .ok (.getfield 7, 3) := by decide +kernel
theorem dX8_set_99 : decode cX8_set 99 = .ok (.iload 7, 2) := by decide +kernel
theorem dX8_set_101 : decode cX8_set 101 = .ok (.aload_n 0, 1) := by decide +kernel
theorem dX8_set_102 : decode cX8_set 102 = .ok (.getfield 7, 3) := by decide +kernel
theorem dX8_set_105 : decode cX8_set 105 = .ok (.iload 7, 2) := by decide +kernel
theorem dX8_set_107 : decode cX8_set 107 = .ok (.iaload, 1) := by decide +kernel
theorem dX8_set_108 : decode cX8_set 108 = .ok (.iload 4, 2) := by decide +kernel
theorem dX8_set_110 : decode cX8_set 110 = .ok (.iload 5, 2) := by decide +kernel
theorem dX8_set_112 : decode cX8_set 112 = .ok (.iconst 1, 1) := by decide +kernel
theorem dX8_set_113 : decode cX8_set 113 = .ok (.iadd, 1) := by decide +kernel
theorem dX8_set_114 : decode cX8_set 114 = .ok (.invokestatic 118, 3) := by decide +kernel
theorem dX8_set_117 : decode cX8_set 117 = .ok (.iastore, 1) := by decide +kernel
theorem dX8_set_118 : decode cX8_set 118 = .ok (.iload 8, 2) := by decide +kernel
theorem dX8_set_120 : decode cX8_set 120 = .ok (.ireturn, 1) := by decide +kernel
theorem dX8_join_0 : decode cX8_join 0 = .ok (.aload_n 0, 1) := by decide +kernel
theorem dX8_join_1 : decode cX8_join 1 = .ok (.iload_n 1, 1) := by decide +kernel
theorem dX8_join_2 : decode cX8_join 2 = .ok (.iload_n 2, 1) := by decide +kernel
theorem dX8_join_3 : decode cX8_join 3 = .ok (.iload_n 3, 1) := by decide +kernel
theorem dX8_join_4 : decode cX8_join 4 = .ok (.iconst 3, 1) := by decide +kernel
theorem dX8_join_5 : decode cX8_join 5 = .ok (.invokevirtual 105, 3) := by decide +kernel
theorem dX8_join_8 : decode cX8_join 8 = .ok (.istore 5, 2) := by decide +kernel
theorem dX8_join_10 : decode cX8_join 10 = .ok (.aload_n 0, 1) := by decide +kernel
theorem dX8_join_11 : decode cX8_join 11 = .ok (.aload_n 0, 1) := by decide +kernel
theorem dX8_join_12 : decode cX8_join 12 = .ok (.getfield 53, 3) := by decide +kernel
theorem dX8_join_15 : decode cX8_join 15 = .ok (.iconst 1, 1) := by decide +kernel
theorem dX8_join_16 : decode cX8_join 16 = .ok (.if_icmp .eq 17, 3) := by decide +kernel
theorem dX8_join_19 : decode cX8_join 19 = .ok (.iload 4, 2) := by decide +kernel
theorem dX8_join_21 : decode cX8_join 21 = .ok (.iconst (-1), 1) := by decide +kernel
theorem dX8_join_22 : decode cX8_join 22 = .ok (.iconst 2, 1) := by decide +kernel
theorem dX8_join_23 : decode cX8_join 23 = .ok (.invokestatic 77, 3) := by decide +kernel
theorem dX8_join_26 : decode cX8_join 26 = .ok (.ifCond .ne 7, 3) := by decide +kernel
theorem dX8_join_29 : decode cX8_join 29 = .ok (.iconst 2, 1) := by decide +kernel
theorem dX8_join_30 : decode cX8_join 30 = .ok (.goto 7, 3) := by decide +kernel
theorem dX8_join_33 : decode cX8_join 33 = .ok (.aload_n 0, 1) := by decide +kernel
theorem dX8_join_34 : decode cX8_join 34 = .ok (.getfield 53, 3) := by decide +kernel
theorem dX8_join_37 : decode cX8_join 37 = .ok (.putfield 53, 3) := by decide +kernel
theorem dX8_join_40 : decode cX8_join 40 = .ok (.aload_n 0, 1) := by decide +kernel
theorem dX8_join_41 : decode cX8_join 41 = .ok (.getfield 53, 3) := by decide +kernel
theorem dX8_join_44 : decode cX8_join 44 = .ok (.ifCond .le 5, 3) := by decide +kernel
theorem dX8_join_47 : decode cX8_join 47 = .ok (.iconst 0, 1) := by decide +kernel
theorem dX8_join_48 : decode cX8_join 48 = .ok (.ireturn, 1) := by decide +kernel
theorem dX8_join_49 : decode cX8_join 49 = .ok (.iload_n 1, 1) := by decide +kernel
theorem dX8_join_50 : decode cX8_join 50 = .ok (.iload_n 2, 1) := by decide +kernel
theorem dX8_join_51 : decode cX8_join 51 = .ok (.iload 5, 2) := by decide +kernel
theorem dX8_join_53 : decode cX8_join 53 = .ok (.invokestatic 61, 3) := by decide +kernel
theorem dX8_join_56 : decode cX8_join 56 = .ok (.istore 6, 2) := by decide +kernel
theorem dX8_join_58 : decode cX8_join 58 = .ok (.aload_n 0, 1) := by decide +kernel
theorem dX8_join_59 : decode cX8_join 59 = .ok (.getfield 7, 3) := by decide +kernel
theorem dX8_join_62 : decode cX8_join 62 = .ok (.iload 6, 2) := by decide +kernel
theorem dX8_join_64 : decode cX8_join 64 = .ok (.iaload, 1) := by decide +kernel
theorem dX8_join_65 : decode cX8_join 65 = .ok (.invokestatic 121, 3) := by decide +kernel
theorem dX8_join_68 : decode cX8_join 68 = .ok (.iconst 1, 1) := by decide +kernel
theorem dX8_join_69 : decode cX8_join 69 = .ok (.isub, 1) := by decide +kernel
theorem dX8_join_70 : decode cX8_join 70 = .ok (.istore 7, 2) := by decide +kernel
theorem dX8_join_72 : decode cX8_join 72 = .ok (.aload_n 0, 1) := by decide +kernel
theorem dX8_join_73 : decode cX8_join 73 = .ok (.getfield 7, 3) := by decide +kernel
theorem dX8_join_76 : decode cX8_join 76 = .ok (.iload 6, 2) := by decide +kernel
theorem dX8_join_78 : decode cX8_join 78 = .ok (.aload_n 0, 1) := by decide +kernel
theorem dX8_join_79 : decode cX8_join 79 = .ok (.getfield 7, 3) := by decide +kernel
theorem dX8_join_82 : decode cX8_join 82 = .ok (.iload 6, 2) := by decide +kernel
theorem dX8_join_84 : decode cX8_join 84 = .ok (.iaload, 1) := by decide +kernel
theorem dX8_join_85 : decode cX8_join 85 = .ok (.iload 4, 2) := by decide +kernel
theorem dX8_join_87 : decode cX8_join 87 = .ok (.iconst 1, 1) := by decide +kernel
theorem dX8_join_88 : decode cX8_join 88 = .ok (.iadd, 1) := by decide +kernel
theorem dX8_join_89 : decode cX8_join 89 = .ok (.invokestatic 124, 3) := by decide +kernel
theorem dX8_join_92 : decode cX8_join 92 = .ok (.iastore, 1) := by decide +kernel
theorem dX8_join_93 : decode cX8_join 93 = .ok (.iload 7, 2) := by decide +kernel
theorem dX8_join_95 : decode cX8_join 95 = .ok (.ireturn, 1) := by decide +kernel
theorem dX8_setGroup_0 : decode cX8_setGroup 0 = .ok (.aload_n 0, 1) := by decide +kernel
theorem dX8_setGroup_1 : decode cX8_setGroup 1 = .ok (.iload_n 1, 1) := by decide +kernel
theorem dX8_setGroup_2 : decode cX8_setGroup 2 = .ok (.invokestatic 88, 3) := by decide +kernel
theorem dX8_setGroup_5 : decode cX8_setGroup 5 = .ok (.ifCond .eq 19, 3) := by decide +kernel
theorem dX8_setGroup_8 : decode cX8_setGroup 8 = .ok (.iload_n 2, 1) := by decide +kernel
theorem dX8_setGroup_9 : decode cX8_setGroup 9 = .ok (.iconst 0, 1) := by decide +kernel
theorem dX8_setGroup_10 : decode cX8_setGroup 10 = .ok (.iconst 2, 1) := by decide +kernel
theorem dX8_setGroup_11 : decode cX8_setGroup 11 = .ok (.invokestatic 77, 3) := by decide +kernel
theorem dX8_setGroup_14 : decode cX8_setGroup 14 = .ok (.ifCond .eq 10, 3) := by decide +kernel
theorem dX8_setGroup_17 : decode cX8_setGroup 17 = .ok (.iload_n 3, 1) := by decide +kernel
theorem dX8_setGroup_18 : decode cX8_setGroup 18 = .ok (.invokestatic 112, 3) := by decide +kernel
theorem dX8_setGroup_21 : decode cX8_setGroup 21 = .ok (.ifCond .ne 7, 3) := by decide +kernel
theorem dX8_setGroup_24 : decode cX8_setGroup 24 = .ok (.iconst 1, 1) := by decide +kernel
theorem dX8_setGroup_25 : decode cX8_setGroup 25 = .ok (.goto 32, 3) := by decide +kernel
theorem dX8_setGroup_28 : decode cX8_setGroup 28 = .ok (.iload 4, 2) := by decide +kernel
theorem dX8_setGroup_30 : decode cX8_setGroup 30 = .ok (.iconst (-1), 1) := by decide +kernel
theorem dX8_setGroup_31 : decode cX8_setGroup 31 = .ok (.bipush 99, 2) := by decide +kernel
theorem dX8_setGroup_33 : decode cX8_setGroup 33 = .ok (.invokestatic 77, 3) := by decide +kernel
theorem dX8_setGroup_36 : decode cX8_setGroup 36 = .ok (.ifCond .ne 7, 3) := by decide +kernel
theorem dX8_setGroup_39 : decode cX8_setGroup 39 = .ok (.iconst 2, 1) := by decide +kernel
theorem dX8_setGroup_40 : decode cX8_setGroup 40 = .ok (.goto 17, 3) := by decide +kernel
theorem dX8_setGroup_43 : decode cX8_setGroup 43 = .ok (.aload_n 0, 1) := by decide +kernel
theorem dX8_setGroup_44 : decode cX8_setGroup 44 = .ok (.getfield 13, 3) := by decide +kernel
theorem dX8_setGroup_47 : decode cX8_setGroup 47 = .ok (.iload_n 1, 1) := by decide +kernel
theorem dX8_setGroup_48 : decode cX8_setGroup 48 = .ok (.iaload, 1) := by decide +kernel
theorem dX8_setGroup_49 : decode cX8_setGroup 49 = .ok (.ifCond .ne 7, 3) := by decide +kernel
theorem dX8_setGroup_52 : decode cX8_setGroup 52 = .ok (.iconst 3, 1) := by decide +kernel
theorem dX8_setGroup_53 : decode cX8_setGroup 53 = .ok (.goto 4, 3) := by decide +kernel
theorem dX8_setGroup_56 : decode cX8_setGroup 56 = .ok (.iconst 0, 1) := by decide +kernel
theorem dX8_setGroup_57 : decode cX8_setGroup 57 = .ok (.putfield 53, 3) := by decide +kernel
theorem dX8_setGroup_60 : decode cX8_setGroup 60 = .ok (.aload_n 0, 1) := by decide +kernel
theorem dX8_setGroup_61 : decode cX8_setGroup 61 = .ok (.getfield 53, 3) := by decide +kernel
theorem dX8_setGroup_64 : decode cX8_setGroup 64 = .ok (.ifCond .le 5, 3) := by decide +kernel
theorem dX8_setGroup_67 : decode cX8_setGroup 67 = .ok (.iconst 0, 1) := by decide +kernel
theorem dX8_setGroup_68 : decode cX8_setGroup 68 = .ok (.ireturn, 1) := by decide +kernel
theorem dX8_setGroup_69 : decode cX8_setGroup 69 = .ok (.iload_n 1, 1) := by decide +kernel
theorem dX8_setGroup_70 : decode cX8_setGroup 70 = .ok (.iload_n 2, 1) := by decide +kernel
theorem dX8_setGroup_71 : decode cX8_setGroup 71 = .ok (.iload_n 3, 1) := by decide +kernel
theorem dX8_setGroup_72 : decode cX8_setGroup 72 = .ok (.invokestatic 127, 3) := by decide +kernel
theorem dX8_setGroup_75 : decode cX8_setGroup 75 = .ok (.istore 5, 2) := by decide +kernel
theorem dX8_setGroup_77 : decode cX8_setGroup 77 = .ok (.aload_n 0, 1) := by decide +kernel
theorem dX8_setGroup_78 : decode cX8_setGroup 78 = .ok (.getfield 7, 3) := by decide +kernel
theorem dX8_setGroup_81 : decode cX8_setGroup 81 = .ok (.iload 5, 2) := by decide +kernel
theorem dX8_setGroup_83 : decode cX8_setGroup 83 = .ok (.iaload, 1) := by decide +kernel
theorem dX8_setGroup_84 : decode cX8_setGroup 84 = .ok (.iconst 1, 1) := by decide +kernel
theorem dX8_setGroup_85 : decode cX8_setGroup 85 = .ok (.isub, 1) := by decide +kernel
theorem dX8_setGroup_86 : decode cX8_setGroup 86 = .ok (.istore 6, 2) := by decide +kernel
theorem dX8_setGroup_88 : decode cX8_setGroup 88 = .ok (.aload_n 0, 1) := by decide +kernel
theorem dX8_setGroup_89 : decode cX8_setGroup 89 = .ok (.getfield 7, 3) := by decide +kernel
theorem dX8_setGroup_92 : decode cX8_setGroup 92 = .ok (.iload 5, 2) := by decide +kernel
theorem dX8_setGroup_94 : decode cX8_setGroup 94 = .ok (.iload 4, 2) := by decide +kernel
theorem dX8_setGroup_96 : decode cX8_setGroup 96 = .ok (.iconst 1, 1) := by decide +kernel
theorem dX8_setGroup_97 : decode cX8_setGroup 97 = .ok (.iadd, 1) := by decide +kernel
theorem dX8_setGroup_98 : decode cX8_setGroup 98 = .ok (.iastore, 1) := by decide +kernel
theorem dX8_setGroup_99 : decode cX8_setGroup 99 = .ok (.iload 6, 2) := by decide +kernel
theorem dX8_setGroup_101 : decode cX8_setGroup 101 = .ok (.ireturn, 1) := by decide +kernel
theorem dX8_load_0 : decode cX8_load 0 = .ok (.aload_n 0, 1) := by decide +kernel
theorem dX8_load_1 : decode cX8_load 1 = .ok (.iload_n 1, 1) := by decide +kernel
theorem dX8_load_2 : decode cX8_load 2 = .ok (.invokestatic 88, 3) := by decide +kernel
theorem dX8_load_5 : decode cX8_load 5 = .ok (.ifCond .eq 15, 3) := by decide +kernel
theorem dX8_load_8 : decode cX8_load 8 = .ok (.iload_n 2, 1) := by decide +kernel
theorem dX8_load_9 : decode cX8_load 9 = .ok (.iconst 0, 1) := by decide +kernel
theorem dX8_load_10 : decode cX8_load 10 = .ok (.aload_n 0, 1) := by decide +kernel
theorem dX8_load_11 : decode cX8_load 11 = .ok (.getfield 81, 3) := by decide +kernel
theorem dX8_load_14 : decode cX8_load 14 = .ok (.invokestatic 77, 3) := by decide +kernel
theorem dX8_load_17 : decode cX8_load 17 = .ok (.ifCond .ne 7, 3) := by decide +kernel
theorem dX8_load_20 : decode cX8_load 20 = .ok (.iconst 1, 1) := by decide +kernel
theorem dX8_load_21 : decode cX8_load 21 = .ok (.goto 17, 3) := by decide +kernel
theorem dX8_load_24 : decode cX8_load 24 = .ok (.aload_n 0, 1) := by decide +kernel
theorem dX8_load_25 : decode cX8_load 25 = .ok (.getfield 13, 3) := by decide +kernel
theorem dX8_load_28 : decode cX8_load 28 = .ok (.iload_n 1, 1) := by decide +kernel
theorem dX8_load_29 : decode cX8_load 29 = .ok (.iaload, 1) := by decide +kernel
theorem dX8_load_30 : decode cX8_load 30 = .ok (.ifCond .ne 7, 3) := by decide +kernel
theorem dX8_load_33 : decode cX8_load 33 = .ok (.iconst 2, 1) := by decide +kernel
theorem dX8_load_34 : decode cX8_load 34 = .ok (.goto 4, 3) := by decide +kernel
theorem dX8_load_37 : decode cX8_load 37 = .ok (.iconst 0, 1) := by decide +kernel
theorem dX8_load_38 : decode cX8_load 38 = .ok (.putfield 53, 3) := by decide +kernel
theorem dX8_load_41 : decode cX8_load 41 = .ok (.aload_n 0, 1) := by decide +kernel
theorem dX8_load_42 : decode cX8_load 42 = .ok (.getfield 53, 3) := by decide +kernel
theorem dX8_load_45 : decode cX8_load 45 = .ok (.ifCond .ne 11, 3) := by decide +kernel
theorem dX8_load_48 : decode cX8_load 48 = .ok (.aload_n 0, 1) := by decide +kernel
theorem dX8_load_49 : decode cX8_load 49 = .ok (.iconst 3, 1) := by decide +kernel
theorem dX8_load_50 : decode cX8_load 50 = .ok (.iload_n 2, 1) := by decide +kernel
theorem dX8_load_51 : decode cX8_load 51 = .ok (.iadd, 1) := by decide +kernel
theorem dX8_load_52 : decode cX8_load 52 = .ok (.iload_n 1, 1) := by decide +kernel
theorem dX8_load_53 : decode cX8_load 53 = .ok (.invokevirtual 91, 3) := by decide +kernel
theorem dX8_load_56 : decode cX8_load 56 = .ok (.return_, 1) := by decide +kernel
theorem dX8_notes_0 : decode cX8_notes 0 = .ok (.aload_n 0, 1) := by decide +kernel
theorem dX8_notes_1 : decode cX8_notes 1 = .ok (.getfield 23, 3) := by decide +kernel
theorem dX8_notes_4 : decode cX8_notes 4 = .ok (.aload_n 0, 1) := by decide +kernel
theorem dX8_notes_5 : decode cX8_notes 5 = .ok (.getfield 130, 3) := by decide +kernel
theorem dX8_notes_8 : decode cX8_notes 8 = .ok (.iload_n 1, 1) := by decide +kernel
theorem dX8_notes_9 : decode cX8_notes 9 = .ok (.iastore, 1) := by decide +kernel
theorem dX8_notes_10 : decode cX8_notes 10 = .ok (.aload_n 0, 1) := by decide +kernel
theorem dX8_notes_11 : decode cX8_notes 11 = .ok (.getfield 26, 3) := by decide +kernel
theorem dX8_notes_14 : decode cX8_notes 14 = .ok (.aload_n 0, 1) := by decide +kernel
theorem dX8_notes_15 : decode cX8_notes 15 = .ok (.getfield 130, 3) := by decide +kernel
theorem dX8_notes_18 : decode cX8_notes 18 = .ok (.iload_n 2, 1) := by decide +kernel
theorem dX8_notes_19 : decode cX8_notes 19 = .ok (.iastore, 1) := by decide +kernel
theorem dX8_notes_20 : decode cX8_notes 20 = .ok (.aload_n 0, 1) := by decide +kernel
theorem dX8_notes_21 : decode cX8_notes 21 = .ok (.getfield 29, 3) := by decide +kernel
theorem dX8_notes_24 : decode cX8_notes 24 = .ok (.aload_n 0, 1) := by decide +kernel
theorem dX8_notes_25 : decode cX8_notes 25 = .ok (.getfield 130, 3) := by decide +kernel
theorem dX8_notes_28 : decode cX8_notes 28 = .ok (.iload_n 3, 1) := by decide +kernel
theorem dX8_notes_29 : decode cX8_notes 29 = .ok (.iastore, 1) := by decide +kernel
theorem dX8_notes_30 : decode cX8_notes 30 = .ok (.aload_n 0, 1) := by decide +kernel
theorem dX8_notes_31 : decode cX8_notes 31 = .ok (.getfield 32, 3) := by decide +kernel
theorem dX8_notes_34 : decode cX8_notes 34 = .ok (.aload_n 0, 1) := by decide +kernel
theorem dX8_notes_35 : decode cX8_notes 35 = .ok (.getfield 130, 3) := by decide +kernel
theorem dX8_notes_38 : decode cX8_notes 38 = .ok (.iload 4, 2) := by decide +kernel
theorem dX8_notes_40 : decode cX8_notes 40 = .ok (.iastore, 1) := by decide +kernel
theorem dX8_notes_41 : decode cX8_notes 41 = .ok (.aload_n 0, 1) := by decide +kernel
theorem dX8_notes_42 : decode cX8_notes 42 = .ok (.getfield 35, 3) := by decide +kernel
theorem dX8_notes_45 : decode cX8_notes 45 = .ok (.aload_n 0, 1) := by decide +kernel
theorem dX8_notes_46 : decode cX8_notes 46 = .ok (.getfield 130, 3) := by decide +kernel
theorem dX8_notes_49 : decode cX8_notes 49 = .ok (.iload 5, 2) := by decide +kernel
theorem dX8_notes_51 : decode cX8_notes 51 = .ok (.iastore, 1) := by decide +kernel
theorem dX8_notes_52 : decode cX8_notes 52 = .ok (.aload_n 0, 1) := by decide +kernel
theorem dX8_notes_53 : decode cX8_notes 53 = .ok (.getfield 38, 3) := by decide +kernel
theorem dX8_notes_56 : decode cX8_notes 56 = .ok (.aload_n 0, 1) := by decide +kernel
theorem dX8_notes_57 : decode cX8_notes 57 = .ok (.getfield 130, 3) := by decide +kernel
theorem dX8_notes_60 : decode cX8_notes 60 = .ok (.iload 6, 2) := by decide +kernel
theorem dX8_notes_62 : decode cX8_notes 62 = .ok (.iastore, 1) := by decide +kernel
theorem dX8_notes_63 : decode cX8_notes 63 = .ok (.aload_n 0, 1) := by decide +kernel
theorem dX8_notes_64 : decode cX8_notes 64 = .ok (.dup, 1) := by decide +kernel
theorem dX8_notes_65 : decode cX8_notes 65 = .ok (.getfield 130, 3) := by decide +kernel
theorem dX8_notes_68 : decode cX8_notes 68 = .ok (.iconst 1, 1) := by decide +kernel
theorem dX8_notes_69 : decode cX8_notes 69 = .ok (.iadd, 1) := by decide +kernel
theorem dX8_notes_70 : decode cX8_notes 70 = .ok (.putfield 130, 3) := by decide +kernel
theorem dX8_notes_73 : decode cX8_notes 73 = .ok (.return_, 1) := by decide +kernel
theorem dX8_settles_0 : decode cX8_settles 0 = .ok (.iconst 0, 1) := by decide +kernel
theorem dX8_settles_1 : decode cX8_settles 1 = .ok (.istore 4, 2) := by decide +kernel
theorem dX8_settles_3 : decode cX8_settles 3 = .ok (.iload 4, 2) := by decide +kernel
theorem dX8_settles_5 : decode cX8_settles 5 = .ok (.bipush 10, 2) := by decide +kernel
theorem dX8_settles_7 : decode cX8_settles 7 = .ok (.if_icmp .ge 163, 3) := by decide +kernel
theorem dX8_settles_10 : decode cX8_settles 10 = .ok (.aload_n 0, 1) := by decide +kernel
theorem dX8_settles_11 : decode cX8_settles 11 = .ok (.iload_n 1, 1) := by decide +kernel
theorem dX8_settles_12 : decode cX8_settles 12 = .ok (.iload_n 3, 1) := by decide +kernel
theorem dX8_settles_13 : decode cX8_settles 13 = .ok (.iload 4, 2) := by decide +kernel
theorem dX8_settles_15 : decode cX8_settles 15 = .ok (.invokevirtual 99, 3) := by decide +kernel
theorem dX8_settles_18 : decode cX8_settles 18 = .ok (.istore 5, 2) := by decide +kernel
theorem dX8_settles_20 : decode cX8_settles 20 = .ok (.aload_n 0, 1) := by decide +kernel
theorem dX8_settles_21 : decode cX8_settles 21 = .ok (.iload_n 2, 1) := by decide +kernel
theorem dX8_settles_22 : decode cX8_settles 22 = .ok (.iload_n 3, 1) := by decide +kernel
theorem dX8_settles_23 : decode cX8_settles 23 = .ok (.iload 4, 2) := by decide +kernel
theorem dX8_settles_25 : decode cX8_settles 25 = .ok (.invokevirtual 99, 3) := by decide +kernel
theorem dX8_settles_28 : decode cX8_settles 28 = .ok (.istore 6, 2) := by decide +kernel
theorem dX8_settles_30 : decode cX8_settles 30 = .ok (.iload 5, 2) := by decide +kernel
theorem dX8_settles_32 : decode cX8_settles 32 = .ok (.iconst (-1), 1) := by decide +kernel
theorem dX8_settles_33 : decode cX8_settles 33 = .ok (.if_icmp .eq 131, 3) := by decide +kernel
theorem dX8_settles_36 : decode cX8_settles 36 = .ok (.iload 6, 2) := by decide +kernel
theorem dX8_settles_38 : decode cX8_settles 38 = .ok (.iconst (-1), 1) := by decide +kernel
theorem dX8_settles_39 : decode cX8_settles 39 = .ok (.if_icmp .ne 6, 3) := by decide +kernel
theorem dX8_settles_42 : decode cX8_settles 42 = .ok (.goto 122, 3) := by decide +kernel
theorem dX8_settles_45 : decode cX8_settles 45 = .ok (.aload_n 0, 1) := by decide +kernel
theorem dX8_settles_46 : decode cX8_settles 46 = .ok (.getfield 7, 3) := by decide +kernel
theorem dX8_settles_49 : decode cX8_settles 49 = .ok (.iload_n 1, 1) := by decide +kernel
theorem dX8_settles_50 : decode cX8_settles 50 = .ok (.iload_n 3, 1) := by decide +kernel
theorem dX8_settles_51 : decode cX8_settles 51 = .ok (.iload 5, 2) := by decide +kernel
theorem dX8_settles_53 : decode cX8_settles 53 = .ok (.invokestatic 61, 3) := by decide +kernel
theorem dX8_settles_56 : decode cX8_settles 56 = .ok (.iaload, 1) := by decide +kernel
theorem dX8_settles_57 : decode cX8_settles 57 = .ok (.istore 7, 2) := by decide +kernel
theorem dX8_settles_59 : decode cX8_settles 59 = .ok (.aload_n 0, 1) := by decide +kernel
theorem dX8_settles_60 : decode cX8_settles 60 = .ok (.getfield 7, 3) := by decide +kernel
theorem dX8_settles_63 : decode cX8_settles 63 = .ok (.iload_n 2, 1) := by decide +kernel
theorem dX8_settles_64 : decode cX8_settles 64 = .ok (.iload_n 3, 1) := by decide +kernel
theorem dX8_settles_65 : decode cX8_settles 65 = .ok (.iload 6, 2) := by decide +kernel
theorem dX8_settles_67 : decode cX8_settles 67 = .ok (.invokestatic 61, 3) := by decide +kernel
theorem dX8_settles_70 : decode cX8_settles 70 = .ok (.iaload, 1) := by decide +kernel
theorem dX8_settles_71 : decode cX8_settles 71 = .ok (.istore 8, 2) := by decide +kernel
theorem dX8_settles_73 : decode cX8_settles 73 = .ok (.iconst 0, 1) := by decide +kernel
theorem dX8_settles_74 : decode cX8_settles 74 = .ok (.istore 9, 2) := by decide +kernel
theorem dX8_settles_76 : decode cX8_settles 76 = .ok (.iload 9, 2) := by decide +kernel
theorem dX8_settles_78 : decode cX8_settles 78 = .ok (.iconst 2, 1) := by decide +kernel
theorem dX8_settles_79 : decode cX8_settles 79 = .ok (.if_icmp .ge 52, 3) := by decide +kernel
theorem dX8_settles_82 : decode cX8_settles 82 = .ok (.iload 7, 2) := by decide +kernel
theorem dX8_settles_84 : decode cX8_settles 84 = .ok (.iload 9, 2) := by decide +kernel
theorem dX8_settles_86 : decode cX8_settles 86 = .ok (.invokestatic 115, 3) := by decide +kernel
theorem dX8_settles_89 : decode cX8_settles 89 = .ok (.iload 8, 2) := by decide +kernel
theorem dX8_settles_91 : decode cX8_settles 91 = .ok (.iload 9, 2) := by decide +kernel
theorem dX8_settles_93 : decode cX8_settles 93 = .ok (.invokestatic 115, 3) := by decide +kernel
theorem dX8_settles_96 : decode cX8_settles 96 = .ok (.if_icmp .eq 29, 3) := by decide +kernel
theorem dX8_settles_99 : decode cX8_settles 99 = .ok (.aload_n 0, 1) := by decide +kernel
theorem dX8_settles_100 : decode cX8_settles 100 = .ok (.iconst 4, 1) := by decide +kernel
theorem dX8_settles_101 : decode cX8_settles 101 = .ok (.iload 9, 2) := by decide +kernel
theorem dX8_settles_103 : decode cX8_settles 103 = .ok (.iadd, 1) := by decide +kernel
theorem dX8_settles_104 : decode cX8_settles 104 = .ok (.iload_n 3, 1) := by decide +kernel
theorem dX8_settles_105 : decode cX8_settles 105 = .ok (.iload 4, 2) := by decide +kernel
theorem dX8_settles_107 : decode cX8_settles 107 = .ok (.iload 7, 2) := by decide +kernel
theorem dX8_settles_109 : decode cX8_settles 109 = .ok (.iload 9, 2) := by decide +kernel
theorem dX8_settles_111 : decode cX8_settles 111 = .ok (.invokestatic 115, 3) := by decide +kernel
theorem dX8_settles_114 : decode cX8_settles 114 = .ok (.iload 8, 2) := by decide +kernel
theorem dX8_settles_116 : decode cX8_settles 116 = .ok (.iload 9, 2) := by decide +kernel
theorem dX8_settles_118 : decode cX8_settles 118 = .ok (.invokestatic 115, 3) := by decide +kernel
theorem dX8_settles_121 : decode cX8_settles 121 = .ok (.iconst 0, 1) := by decide +kernel
theorem dX8_settles_122 : decode cX8_settles 122 = .ok (.invokevirtual 132, 3) := by decide +kernel
theorem dX8_settles_125 : decode cX8_settles 125 = .ok (.iinc 9 1, 3) := by decide +kernel
theorem dX8_settles_128 : decode cX8_settles 128 = .ok (.goto (-52), 3) := by decide +kernel
theorem dX8_settles_131 : decode cX8_settles 131 = .ok (.iload 7, 2) := by decide +kernel
theorem dX8_settles_133 : decode cX8_settles 133 = .ok (.invokestatic 121, 3) := by decide +kernel
theorem dX8_settles_136 : decode cX8_settles 136 = .ok (.iload 8, 2) := by decide +kernel
theorem dX8_settles_138 : decode cX8_settles 138 = .ok (.invokestatic 121, 3) := by decide +kernel
theorem dX8_settles_141 : decode cX8_settles 141 = .ok (.if_icmp .eq 23, 3) := by decide +kernel
theorem dX8_settles_144 : decode cX8_settles 144 = .ok (.aload_n 0, 1) := by decide +kernel
theorem dX8_settles_145 : decode cX8_settles 145 = .ok (.bipush 6, 2) := by decide +kernel
theorem dX8_settles_147 : decode cX8_settles 147 = .ok (.iload_n 3, 1) := by decide +kernel
theorem dX8_settles_148 : decode cX8_settles 148 = .ok (.iload 4, 2) := by decide +kernel
theorem dX8_settles_150 : decode cX8_settles 150 = .ok (.iload 7, 2) := by decide +kernel
theorem dX8_settles_152 : decode cX8_settles 152 = .ok (.invokestatic 121, 3) := by decide +kernel
theorem dX8_settles_155 : decode cX8_settles 155 = .ok (.iload 8, 2) := by decide +kernel
theorem dX8_settles_157 : decode cX8_settles 157 = .ok (.invokestatic 121, 3) := by decide +kernel
theorem dX8_settles_160 : decode cX8_settles 160 = .ok (.iconst 0, 1) := by decide +kernel
theorem dX8_settles_161 : decode cX8_settles 161 = .ok (.invokevirtual 132, 3) := by decide +kernel
theorem dX8_settles_164 : decode cX8_settles 164 = .ok (.iinc 4 1, 3) := by decide +kernel
theorem dX8_settles_167 : decode cX8_settles 167 = .ok (.goto (-164), 3) := by decide +kernel
theorem dX8_settles_170 : decode cX8_settles 170 = .ok (.return_, 1) := by decide +kernel
theorem dX8_lists_0 : decode cX8_lists 0 = .ok (.aload_n 0, 1) := by decide +kernel
theorem dX8_lists_1 : decode cX8_lists 1 = .ok (.iconst 0, 1) := by decide +kernel
theorem dX8_lists_2 : decode cX8_lists 2 = .ok (.putfield 130, 3) := by decide +kernel
theorem dX8_lists_5 : decode cX8_lists 5 = .ok (.aload_n 0, 1) := by decide +kernel
theorem dX8_lists_6 : decode cX8_lists 6 = .ok (.iload_n 1, 1) := by decide +kernel
theorem dX8_lists_7 : decode cX8_lists 7 = .ok (.bipush 33, 2) := by decide +kernel
theorem dX8_lists_9 : decode cX8_lists 9 = .ok (.invokevirtual 91, 3) := by decide +kernel
theorem dX8_lists_12 : decode cX8_lists 12 = .ok (.iconst 0, 1) := by decide +kernel
theorem dX8_lists_13 : decode cX8_lists 13 = .ok (.istore_n 3, 1) := by decide +kernel
theorem dX8_lists_14 : decode cX8_lists 14 = .ok (.iload_n 3, 1) := by decide +kernel
theorem dX8_lists_15 : decode cX8_lists 15 = .ok (.iconst 3, 1) := by decide +kernel
theorem dX8_lists_16 : decode cX8_lists 16 = .ok (.if_icmp .ge 213, 3) := by decide +kernel
theorem dX8_lists_19 : decode cX8_lists 19 = .ok (.aload_n 0, 1) := by decide +kernel
theorem dX8_lists_20 : decode cX8_lists 20 = .ok (.bipush 33, 2) := by decide +kernel
theorem dX8_lists_22 : decode cX8_lists 22 = .ok (.iload_n 3, 1) := by decide +kernel
theorem dX8_lists_23 : decode cX8_lists 23 = .ok (.invokevirtual 57, 3) := by decide +kernel
theorem dX8_lists_26 : decode cX8_lists 26 = .ok (.iconst 1, 1) := by decide +kernel
theorem dX8_lists_27 : decode cX8_lists 27 = .ok (.isub, 1) := by decide +kernel
theorem dX8_lists_28 : decode cX8_lists 28 = .ok (.istore 4, 2) := by decide +kernel
theorem dX8_lists_30 : decode cX8_lists 30 = .ok (.iload 4, 2) := by decide +kernel
theorem dX8_lists_32 : decode cX8_lists 32 = .ok (.ifCond .lt 65, 3) := by decide +kernel
theorem dX8_lists_35 : decode cX8_lists 35 = .ok (.aload_n 0, 1) := by decide +kernel
theorem dX8_lists_36 : decode cX8_lists 36 = .ok (.getfield 7, 3) := by decide +kernel
theorem dX8_lists_39 : decode cX8_lists 39 = .ok (.bipush 33, 2) := by decide +kernel
theorem dX8_lists_41 : decode cX8_lists 41 = .ok (.iload_n 3, 1) := by decide +kernel
theorem dX8_lists_42 : decode cX8_lists 42 = .ok (.iload 4, 2) := by decide +kernel
theorem dX8_lists_44 : decode cX8_lists 44 = .ok (.invokestatic 61, 3) := by decide +kernel
theorem dX8_lists_47 : decode cX8_lists 47 = .ok (.iaload, 1) := by decide +kernel
theorem dX8_lists_48 : decode cX8_lists 48 = .ok (.istore 5, 2) := by decide +kernel
theorem dX8_lists_50 : decode cX8_lists 50 = .ok (.aload_n 0, 1) := by decide +kernel
theorem dX8_lists_51 : decode cX8_lists 51 = .ok (.iload_n 2, 1) := by decide +kernel
theorem dX8_lists_52 : decode cX8_lists 52 = .ok (.iload_n 3, 1) := by decide +kernel
theorem dX8_lists_53 : decode cX8_lists 53 = .ok (.iload 5, 2) := by decide +kernel
theorem dX8_lists_55 : decode cX8_lists 55 = .ok (.invokestatic 65, 3) := by decide +kernel
theorem dX8_lists_58 : decode cX8_lists 58 = .ok (.invokevirtual 99, 3) := by decide +kernel
theorem dX8_lists_61 : decode cX8_lists 61 = .ok (.iconst (-1), 1) := by decide +kernel
theorem dX8_lists_62 : decode cX8_lists 62 = .ok (.if_icmp .ne 29, 3) := by decide +kernel
theorem dX8_lists_65 : decode cX8_lists 65 = .ok (.aload_n 0, 1) := by decide +kernel
theorem dX8_lists_66 : decode cX8_lists 66 = .ok (.iconst 1, 1) := by decide +kernel
theorem dX8_lists_67 : decode cX8_lists 67 = .ok (.iload_n 3, 1) := by decide +kernel
theorem dX8_lists_68 : decode cX8_lists 68 = .ok (.iload 5, 2) := by decide +kernel
theorem dX8_lists_70 : decode cX8_lists 70 = .ok (.invokestatic 65, 3) := by decide +kernel
theorem dX8_lists_73 : decode cX8_lists 73 = .ok (.iload 4, 2) := by decide +kernel
theorem dX8_lists_75 : decode cX8_lists 75 = .ok (.iload 4, 2) := by decide +kernel
theorem dX8_lists_77 : decode cX8_lists 77 = .ok (.iload 5, 2) := by decide +kernel
theorem dX8_lists_79 : decode cX8_lists 79 = .ok (.invokevirtual 132, 3) := by decide +kernel
theorem dX8_lists_82 : decode cX8_lists 82 = .ok (.aload_n 0, 1) := by decide +kernel
theorem dX8_lists_83 : decode cX8_lists 83 = .ok (.bipush 33, 2) := by decide +kernel
theorem dX8_lists_85 : decode cX8_lists 85 = .ok (.iload_n 3, 1) := by decide +kernel
theorem dX8_lists_86 : decode cX8_lists 86 = .ok (.iload 4, 2) := by decide +kernel
theorem dX8_lists_88 : decode cX8_lists 88 = .ok (.invokevirtual 69, 3) := by decide +kernel
theorem dX8_lists_91 : decode cX8_lists 91 = .ok (.iinc 4 (-1), 3) := by decide +kernel
theorem dX8_lists_94 : decode cX8_lists 94 = .ok (.goto (-64), 3) := by decide +kernel
theorem dX8_lists_97 : decode cX8_lists 97 = .ok (.iconst 0, 1) := by decide +kernel
theorem dX8_lists_98 : decode cX8_lists 98 = .ok (.istore 4, 2) := by decide +kernel
theorem dX8_lists_100 : decode cX8_lists 100 = .ok (.iload 4, 2) := by decide +kernel
theorem dX8_lists_102 : decode cX8_lists 102 = .ok (.aload_n 0, 1) := by decide +kernel
theorem dX8_lists_103 : decode cX8_lists 103 = .ok (.iload_n 2, 1) := by decide +kernel
theorem dX8_lists_104 : decode cX8_lists 104 = .ok (.iload_n 3, 1) := by decide +kernel
theorem dX8_lists_105 : decode cX8_lists 105 = .ok (.invokevirtual 57, 3) := by decide +kernel
theorem dX8_lists_108 : decode cX8_lists 108 = .ok (.if_icmp .ge 108, 3) := by decide +kernel
theorem dX8_lists_111 : decode cX8_lists 111 = .ok (.aload_n 0, 1) := by decide +kernel
theorem dX8_lists_112 : decode cX8_lists 112 = .ok (.getfield 7, 3) := by decide +kernel
theorem dX8_lists_115 : decode cX8_lists 115 = .ok (.iload_n 2, 1) := by decide +kernel
theorem dX8_lists_116 : decode cX8_lists 116 = .ok (.iload_n 3, 1) := by decide +kernel
theorem dX8_lists_117 : decode cX8_lists 117 = .ok (.iload 4, 2) := by decide +kernel
theorem dX8_lists_119 : decode cX8_lists 119 = .ok (.invokestatic 61, 3) := by decide +kernel
theorem dX8_lists_122 : decode cX8_lists 122 = .ok (.iaload, 1) := by decide +kernel
theorem dX8_lists_123 : decode cX8_lists 123 = .ok (.istore 5, 2) := by decide +kernel
theorem dX8_lists_125 : decode cX8_lists 125 = .ok (.aload_n 0, 1) := by decide +kernel
theorem dX8_lists_126 : decode cX8_lists 126 = .ok (.bipush 33, 2) := by decide +kernel
theorem dX8_lists_128 : decode cX8_lists 128 = .ok (.iload_n 3, 1) := by decide +kernel
theorem dX8_lists_129 : decode cX8_lists 129 = .ok (.iload 5, 2) := by decide +kernel
theorem dX8_lists_131 : decode cX8_lists 131 = .ok (.invokestatic 65, 3) := by decide +kernel
theorem dX8_lists_134 : decode cX8_lists 134 = .ok (.invokevirtual 99, 3) := by decide +kernel
theorem dX8_lists_137 : decode cX8_lists 137 = .ok (.istore 6, 2) := by decide +kernel
theorem dX8_lists_139 : decode cX8_lists 139 = .ok (.iload 6, 2) := by decide +kernel
theorem dX8_lists_141 : decode cX8_lists 141 = .ok (.iconst (-1), 1) := by decide +kernel
theorem dX8_lists_142 : decode cX8_lists 142 = .ok (.if_icmp .ne 34, 3) := by decide +kernel
theorem dX8_lists_145 : decode cX8_lists 145 = .ok (.aload_n 0, 1) := by decide +kernel
theorem dX8_lists_146 : decode cX8_lists 146 = .ok (.iconst 2, 1) := by decide +kernel
theorem dX8_lists_147 : decode cX8_lists 147 = .ok (.iload_n 3, 1) := by decide +kernel
theorem dX8_lists_148 : decode cX8_lists 148 = .ok (.iload 5, 2) := by decide +kernel
theorem dX8_lists_150 : decode cX8_lists 150 = .ok (.invokestatic 65, 3) := by decide +kernel
theorem dX8_lists_153 : decode cX8_lists 153 = .ok (.iload 4, 2) := by decide +kernel
theorem dX8_lists_155 : decode cX8_lists 155 = .ok (.iload 4, 2) := by decide +kernel
theorem dX8_lists_157 : decode cX8_lists 157 = .ok (.iload 5, 2) := by decide +kernel
theorem dX8_lists_159 : decode cX8_lists 159 = .ok (.invokevirtual 132, 3) := by decide +kernel
theorem dX8_lists_162 : decode cX8_lists 162 = .ok (.aload_n 0, 1) := by decide +kernel
theorem dX8_lists_163 : decode cX8_lists 163 = .ok (.bipush 33, 2) := by decide +kernel
theorem dX8_lists_165 : decode cX8_lists 165 = .ok (.iload_n 3, 1) := by decide +kernel
theorem dX8_lists_166 : decode cX8_lists 166 = .ok (.iload 4, 2) := by decide +kernel
theorem dX8_lists_168 : decode cX8_lists 168 = .ok (.iload 5, 2) := by decide +kernel
theorem dX8_lists_170 : decode cX8_lists 170 = .ok (.invokevirtual 73, 3) := by decide +kernel
theorem dX8_lists_173 : decode cX8_lists 173 = .ok (.goto 37, 3) := by decide +kernel
theorem dX8_lists_176 : decode cX8_lists 176 = .ok (.iload 6, 2) := by decide +kernel
theorem dX8_lists_178 : decode cX8_lists 178 = .ok (.iload 4, 2) := by decide +kernel
theorem dX8_lists_180 : decode cX8_lists 180 = .ok (.if_icmp .eq 30, 3) := by decide +kernel
theorem dX8_lists_183 : decode cX8_lists 183 = .ok (.aload_n 0, 1) := by decide +kernel
theorem dX8_lists_184 : decode cX8_lists 184 = .ok (.iconst 3, 1) := by decide +kernel
theorem dX8_lists_185 : decode cX8_lists 185 = .ok (.iload_n 3, 1) := by decide +kernel
theorem dX8_lists_186 : decode cX8_lists 186 = .ok (.iload 5, 2) := by decide +kernel
theorem dX8_lists_188 : decode cX8_lists 188 = .ok (.invokestatic 65, 3) := by decide +kernel
theorem dX8_lists_191 : decode cX8_lists 191 = .ok (.iload 6, 2) := by decide +kernel
theorem dX8_lists_193 : decode cX8_lists 193 = .ok (.iload 4, 2) := by decide +kernel
theorem dX8_lists_195 : decode cX8_lists 195 = .ok (.iconst 0, 1) := by decide +kernel
theorem dX8_lists_196 : decode cX8_lists 196 = .ok (.invokevirtual 132, 3) := by decide +kernel
theorem dX8_lists_199 : decode cX8_lists 199 = .ok (.aload_n 0, 1) := by decide +kernel
theorem dX8_lists_200 : decode cX8_lists 200 = .ok (.bipush 33, 2) := by decide +kernel
theorem dX8_lists_202 : decode cX8_lists 202 = .ok (.iload_n 3, 1) := by decide +kernel
theorem dX8_lists_203 : decode cX8_lists 203 = .ok (.iload 6, 2) := by decide +kernel
theorem dX8_lists_205 : decode cX8_lists 205 = .ok (.iload 4, 2) := by decide +kernel
theorem dX8_lists_207 : decode cX8_lists 207 = .ok (.invokevirtual 109, 3) := by decide +kernel
theorem dX8_lists_210 : decode cX8_lists 210 = .ok (.iinc 4 1, 3) := by decide +kernel
theorem dX8_lists_213 : decode cX8_lists 213 = .ok (.goto (-113), 3) := by decide +kernel
theorem dX8_lists_216 : decode cX8_lists 216 = .ok (.aload_n 0, 1) := by decide +kernel
theorem dX8_lists_217 : decode cX8_lists 217 = .ok (.iload_n 1, 1) := by decide +kernel
theorem dX8_lists_218 : decode cX8_lists 218 = .ok (.iload_n 2, 1) := by decide +kernel
theorem dX8_lists_219 : decode cX8_lists 219 = .ok (.iload_n 3, 1) := by decide +kernel
theorem dX8_lists_220 : decode cX8_lists 220 = .ok (.invokevirtual 136, 3) := by decide +kernel
theorem dX8_lists_223 : decode cX8_lists 223 = .ok (.iinc 3 1, 3) := by decide +kernel
theorem dX8_lists_226 : decode cX8_lists 226 = .ok (.goto (-212), 3) := by decide +kernel
theorem dX8_lists_229 : decode cX8_lists 229 = .ok (.iconst 0, 1) := by decide +kernel
theorem dX8_lists_230 : decode cX8_lists 230 = .ok (.istore_n 3, 1) := by decide +kernel
theorem dX8_lists_231 : decode cX8_lists 231 = .ok (.iload_n 3, 1) := by decide +kernel
theorem dX8_lists_232 : decode cX8_lists 232 = .ok (.iconst 3, 1) := by decide +kernel
theorem dX8_lists_233 : decode cX8_lists 233 = .ok (.if_icmp .ge 73, 3) := by decide +kernel
theorem dX8_lists_236 : decode cX8_lists 236 = .ok (.iconst 0, 1) := by decide +kernel
theorem dX8_lists_237 : decode cX8_lists 237 = .ok (.istore 4, 2) := by decide +kernel
theorem dX8_lists_239 : decode cX8_lists 239 = .ok (.iload 4, 2) := by decide +kernel
theorem dX8_lists_241 : decode cX8_lists 241 = .ok (.iconst 2, 1) := by decide +kernel
theorem dX8_lists_242 : decode cX8_lists 242 = .ok (.if_icmp .ge 58, 3) := by decide +kernel
theorem dX8_lists_245 : decode cX8_lists 245 = .ok (.aload_n 0, 1) := by decide +kernel
theorem dX8_lists_246 : decode cX8_lists 246 = .ok (.getfield 7, 3) := by decide +kernel
theorem dX8_lists_249 : decode cX8_lists 249 = .ok (.iload_n 1, 1) := by decide +kernel
theorem dX8_lists_250 : decode cX8_lists 250 = .ok (.iload_n 3, 1) := by decide +kernel
theorem dX8_lists_251 : decode cX8_lists 251 = .ok (.iload 4, 2) := by decide +kernel
theorem dX8_lists_253 : decode cX8_lists 253 = .ok (.invokestatic 127, 3) := by decide +kernel
theorem dX8_lists_256 : decode cX8_lists 256 = .ok (.iaload, 1) := by decide +kernel
theorem dX8_lists_257 : decode cX8_lists 257 = .ok (.istore 5, 2) := by decide +kernel
theorem dX8_lists_259 : decode cX8_lists 259 = .ok (.aload_n 0, 1) := by decide +kernel
theorem dX8_lists_260 : decode cX8_lists 260 = .ok (.getfield 7, 3) := by decide +kernel
theorem dX8_lists_263 : decode cX8_lists 263 = .ok (.iload_n 2, 1) := by decide +kernel
theorem dX8_lists_264 : decode cX8_lists 264 = .ok (.iload_n 3, 1) := by decide +kernel
theorem dX8_lists_265 : decode cX8_lists 265 = .ok (.iload 4, 2) := by decide +kernel
theorem dX8_lists_267 : decode cX8_lists 267 = .ok (.invokestatic 127, 3) := by decide +kernel
theorem dX8_lists_270 : decode cX8_lists 270 = .ok (.iaload, 1) := by decide +kernel
theorem dX8_lists_271 : decode cX8_lists 271 = .ok (.istore 6, 2) := by decide +kernel
theorem dX8_lists_273 : decode cX8_lists 273 = .ok (.iload 5, 2) := by decide +kernel
theorem dX8_lists_275 : decode cX8_lists 275 = .ok (.iload 6, 2) := by decide +kernel
theorem dX8_lists_277 : decode cX8_lists 277 = .ok (.if_icmp .eq 17, 3) := by decide +kernel
theorem dX8_lists_280 : decode cX8_lists 280 = .ok (.aload_n 0, 1) := by decide +kernel
theorem dX8_lists_281 : decode cX8_lists 281 = .ok (.bipush 7, 2) := by decide +kernel
theorem dX8_lists_283 : decode cX8_lists 283 = .ok (.iload_n 3, 1) := by decide +kernel
theorem dX8_lists_284 : decode cX8_lists 284 = .ok (.iload 4, 2) := by decide +kernel
theorem dX8_lists_286 : decode cX8_lists 286 = .ok (.iload 5, 2) := by decide +kernel
theorem dX8_lists_288 : decode cX8_lists 288 = .ok (.iload 6, 2) := by decide +kernel
theorem dX8_lists_290 : decode cX8_lists 290 = .ok (.iconst 0, 1) := by decide +kernel
theorem dX8_lists_291 : decode cX8_lists 291 = .ok (.invokevirtual 132, 3) := by decide +kernel
theorem dX8_lists_294 : decode cX8_lists 294 = .ok (.iinc 4 1, 3) := by decide +kernel
theorem dX8_lists_297 : decode cX8_lists 297 = .ok (.goto (-58), 3) := by decide +kernel
theorem dX8_lists_300 : decode cX8_lists 300 = .ok (.iinc 3 1, 3) := by decide +kernel
theorem dX8_lists_303 : decode cX8_lists 303 = .ok (.goto (-72), 3) := by decide +kernel
theorem dX8_lists_306 : decode cX8_lists 306 = .ok (.return_, 1) := by decide +kernel
theorem dX8_does_0 : decode cX8_does 0 = .ok (.aload_n 0, 1) := by decide +kernel
theorem dX8_does_1 : decode cX8_does 1 = .ok (.getfield 26, 3) := by decide +kernel
theorem dX8_does_4 : decode cX8_does 4 = .ok (.iload_n 2, 1) := by decide +kernel
theorem dX8_does_5 : decode cX8_does 5 = .ok (.iaload, 1) := by decide +kernel
theorem dX8_does_6 : decode cX8_does 6 = .ok (.istore 5, 2) := by decide +kernel
theorem dX8_does_8 : decode cX8_does 8 = .ok (.iload_n 3, 1) := by decide +kernel
theorem dX8_does_9 : decode cX8_does 9 = .ok (.ifCond .eq 12, 3) := by decide +kernel
theorem dX8_does_12 : decode cX8_does 12 = .ok (.aload_n 0, 1) := by decide +kernel
theorem dX8_does_13 : decode cX8_does 13 = .ok (.getfield 35, 3) := by decide +kernel
theorem dX8_does_16 : decode cX8_does 16 = .ok (.iload_n 2, 1) := by decide +kernel
theorem dX8_does_17 : decode cX8_does 17 = .ok (.iaload, 1) := by decide +kernel
theorem dX8_does_18 : decode cX8_does 18 = .ok (.goto 9, 3) := by decide +kernel
theorem dX8_does_21 : decode cX8_does 21 = .ok (.aload_n 0, 1) := by decide +kernel
theorem dX8_does_22 : decode cX8_does 22 = .ok (.getfield 32, 3) := by decide +kernel
theorem dX8_does_25 : decode cX8_does 25 = .ok (.iload_n 2, 1) := by decide +kernel
theorem dX8_does_26 : decode cX8_does 26 = .ok (.iaload, 1) := by decide +kernel
theorem dX8_does_27 : decode cX8_does 27 = .ok (.istore 6, 2) := by decide +kernel
theorem dX8_does_29 : decode cX8_does 29 = .ok (.iload_n 3, 1) := by decide +kernel
theorem dX8_does_30 : decode cX8_does 30 = .ok (.ifCond .eq 12, 3) := by decide +kernel
theorem dX8_does_33 : decode cX8_does 33 = .ok (.aload_n 0, 1) := by decide +kernel
theorem dX8_does_34 : decode cX8_does 34 = .ok (.getfield 32, 3) := by decide +kernel
theorem dX8_does_37 : decode cX8_does 37 = .ok (.iload_n 2, 1) := by decide +kernel
theorem dX8_does_38 : decode cX8_does 38 = .ok (.iaload, 1) := by decide +kernel
theorem dX8_does_39 : decode cX8_does 39 = .ok (.goto 9, 3) := by decide +kernel
theorem dX8_does_42 : decode cX8_does 42 = .ok (.aload_n 0, 1) := by decide +kernel
theorem dX8_does_43 : decode cX8_does 43 = .ok (.getfield 35, 3) := by decide +kernel
theorem dX8_does_46 : decode cX8_does 46 = .ok (.iload_n 2, 1) := by decide +kernel
theorem dX8_does_47 : decode cX8_does 47 = .ok (.iaload, 1) := by decide +kernel
theorem dX8_does_48 : decode cX8_does 48 = .ok (.istore 7, 2) := by decide +kernel
theorem dX8_does_50 : decode cX8_does 50 = .ok (.iload_n 3, 1) := by decide +kernel
theorem dX8_does_51 : decode cX8_does 51 = .ok (.ifCond .eq 13, 3) := by decide +kernel
theorem dX8_does_54 : decode cX8_does 54 = .ok (.aload_n 0, 1) := by decide +kernel
theorem dX8_does_55 : decode cX8_does 55 = .ok (.getfield 23, 3) := by decide +kernel
theorem dX8_does_58 : decode cX8_does 58 = .ok (.iload_n 2, 1) := by decide +kernel
theorem dX8_does_59 : decode cX8_does 59 = .ok (.iaload, 1) := by decide +kernel
theorem dX8_does_60 : decode cX8_does 60 = .ok (.iconst 2, 1) := by decide +kernel
theorem dX8_does_61 : decode cX8_does 61 = .ok (.if_icmp .le 12, 3) := by decide +kernel
theorem dX8_does_64 : decode cX8_does 64 = .ok (.aload_n 0, 1) := by decide +kernel
theorem dX8_does_65 : decode cX8_does 65 = .ok (.getfield 23, 3) := by decide +kernel
theorem dX8_does_68 : decode cX8_does 68 = .ok (.iload_n 2, 1) := by decide +kernel
theorem dX8_does_69 : decode cX8_does 69 = .ok (.iaload, 1) := by decide +kernel
theorem dX8_does_70 : decode cX8_does 70 = .ok (.goto 11, 3) := by decide +kernel
theorem dX8_does_73 : decode cX8_does 73 = .ok (.iconst 3, 1) := by decide +kernel
theorem dX8_does_74 : decode cX8_does 74 = .ok (.aload_n 0, 1) := by decide +kernel
theorem dX8_does_75 : decode cX8_does 75 = .ok (.getfield 23, 3) := by decide +kernel
theorem dX8_does_78 : decode cX8_does 78 = .ok (.iload_n 2, 1) := by decide +kernel
theorem dX8_does_79 : decode cX8_does 79 = .ok (.iaload, 1) := by decide +kernel
theorem dX8_does_80 : decode cX8_does 80 = .ok (.isub, 1) := by decide +kernel
theorem dX8_does_81 : decode cX8_does 81 = .ok (.istore 8, 2) := by decide +kernel
theorem dX8_does_83 : decode cX8_does 83 = .ok (.iload 8, 2) := by decide +kernel
theorem dX8_does_85 : decode cX8_does 85 = .ok (.bipush 7, 2) := by decide +kernel
theorem dX8_does_87 : decode cX8_does 87 = .ok (.if_icmp .ne 63, 3) := by decide +kernel
theorem dX8_does_90 : decode cX8_does 90 = .ok (.iload_n 1, 1) := by decide +kernel
theorem dX8_does_91 : decode cX8_does 91 = .ok (.iload 5, 2) := by decide +kernel
theorem dX8_does_93 : decode cX8_does 93 = .ok (.aload_n 0, 1) := by decide +kernel
theorem dX8_does_94 : decode cX8_does 94 = .ok (.getfield 29, 3) := by decide +kernel
theorem dX8_does_97 : decode cX8_does 97 = .ok (.iload_n 2, 1) := by decide +kernel
theorem dX8_does_98 : decode cX8_does 98 = .ok (.iaload, 1) := by decide +kernel
theorem dX8_does_99 : decode cX8_does 99 = .ok (.invokestatic 127, 3) := by decide +kernel
theorem dX8_does_102 : decode cX8_does 102 = .ok (.istore 9, 2) := by decide +kernel
theorem dX8_does_104 : decode cX8_does 104 = .ok (.aload_n 0, 1) := by decide +kernel
theorem dX8_does_105 : decode cX8_does 105 = .ok (.getfield 7, 3) := by decide +kernel
theorem dX8_does_108 : decode cX8_does 108 = .ok (.iload 9, 2) := by decide +kernel
theorem dX8_does_110 : decode cX8_does 110 = .ok (.iaload, 1) := by decide +kernel
theorem dX8_does_111 : decode cX8_does 111 = .ok (.iload 6, 2) := by decide +kernel
theorem dX8_does_113 : decode cX8_does 113 = .ok (.if_icmp .ne 7, 3) := by decide +kernel
theorem dX8_does_116 : decode cX8_does 116 = .ok (.iconst 1, 1) := by decide +kernel
theorem dX8_does_117 : decode cX8_does 117 = .ok (.goto 4, 3) := by decide +kernel
theorem dX8_does_120 : decode cX8_does 120 = .ok (.iconst 0, 1) := by decide +kernel
theorem dX8_does_121 : decode cX8_does 121 = .ok (.istore 10, 2) := by decide +kernel
theorem dX8_does_123 : decode cX8_does 123 = .ok (.aload_n 0, 1) := by decide +kernel
theorem dX8_does_124 : decode cX8_does 124 = .ok (.getfield 7, 3) := by decide +kernel
theorem dX8_does_127 : decode cX8_does 127 = .ok (.iload 9, 2) := by decide +kernel
theorem dX8_does_129 : decode cX8_does 129 = .ok (.iload 10, 2) := by decide +kernel
theorem dX8_does_131 : decode cX8_does 131 = .ok (.ifCond .eq 8, 3) := by decide +kernel
theorem dX8_does_134 : decode cX8_does 134 = .ok (.iload 7, 2) := by decide +kernel
theorem dX8_does_136 : decode cX8_does 136 = .ok (.goto 10, 3) := by decide +kernel
theorem dX8_does_139 : decode cX8_does 139 = .ok (.aload_n 0, 1) := by decide +kernel
theorem dX8_does_140 : decode cX8_does 140 = .ok (.getfield 7, 3) := by decide +kernel
theorem dX8_does_143 : decode cX8_does 143 = .ok (.iload 9, 2) := by decide +kernel
theorem dX8_does_145 : decode cX8_does 145 = .ok (.iaload, 1) := by decide +kernel
theorem dX8_does_146 : decode cX8_does 146 = .ok (.iastore, 1) := by decide +kernel
theorem dX8_does_147 : decode cX8_does 147 = .ok (.iload 10, 2) := by decide +kernel
theorem dX8_does_149 : decode cX8_does 149 = .ok (.ireturn, 1) := by decide +kernel
theorem dX8_does_150 : decode cX8_does 150 = .ok (.aload_n 0, 1) := by decide +kernel
theorem dX8_does_151 : decode cX8_does 151 = .ok (.iload_n 1, 1) := by decide +kernel
theorem dX8_does_152 : decode cX8_does 152 = .ok (.iload 5, 2) := by decide +kernel
theorem dX8_does_154 : decode cX8_does 154 = .ok (.invokevirtual 57, 3) := by decide +kernel
theorem dX8_does_157 : decode cX8_does 157 = .ok (.istore 9, 2) := by decide +kernel
theorem dX8_does_159 : decode cX8_does 159 = .ok (.aload_n 0, 1) := by decide +kernel
theorem dX8_does_160 : decode cX8_does 160 = .ok (.iload_n 1, 1) := by decide +kernel
theorem dX8_does_161 : decode cX8_does 161 = .ok (.iload 5, 2) := by decide +kernel
theorem dX8_does_163 : decode cX8_does 163 = .ok (.aload_n 0, 1) := by decide +kernel
theorem dX8_does_164 : decode cX8_does 164 = .ok (.getfield 29, 3) := by decide +kernel
theorem dX8_does_167 : decode cX8_does 167 = .ok (.iload_n 2, 1) := by decide +kernel
theorem dX8_does_168 : decode cX8_does 168 = .ok (.iaload, 1) := by decide +kernel
theorem dX8_does_169 : decode cX8_does 169 = .ok (.invokevirtual 99, 3) := by decide +kernel
theorem dX8_does_172 : decode cX8_does 172 = .ok (.istore 10, 2) := by decide +kernel
theorem dX8_does_174 : decode cX8_does 174 = .ok (.iload 8, 2) := by decide +kernel
theorem dX8_does_176 : decode cX8_does 176 = .ok (.iconst 2, 1) := by decide +kernel
theorem dX8_does_177 : decode cX8_does 177 = .ok (.if_icmp .ne 63, 3) := by decide +kernel
theorem dX8_does_180 : decode cX8_does 180 = .ok (.iload 6, 2) := by decide +kernel
theorem dX8_does_182 : decode cX8_does 182 = .ok (.iload 9, 2) := by decide +kernel
theorem dX8_does_184 : decode cX8_does 184 = .ok (.if_icmp .ge 8, 3) := by decide +kernel
theorem dX8_does_187 : decode cX8_does 187 = .ok (.iload 6, 2) := by decide +kernel
theorem dX8_does_189 : decode cX8_does 189 = .ok (.goto 5, 3) := by decide +kernel
theorem dX8_does_192 : decode cX8_does 192 = .ok (.iload 9, 2) := by decide +kernel
theorem dX8_does_194 : decode cX8_does 194 = .ok (.istore 11, 2) := by decide +kernel
theorem dX8_does_196 : decode cX8_does 196 = .ok (.iload 10, 2) := by decide +kernel
theorem dX8_does_198 : decode cX8_does 198 = .ok (.iconst (-1), 1) := by decide +kernel
theorem dX8_does_199 : decode cX8_does 199 = .ok (.if_icmp .ne 22, 3) := by decide +kernel
theorem dX8_does_202 : decode cX8_does 202 = .ok (.iload 9, 2) := by decide +kernel
theorem dX8_does_204 : decode cX8_does 204 = .ok (.bipush 6, 2) := by decide +kernel
theorem dX8_does_206 : decode cX8_does 206 = .ok (.if_icmp .eq 15, 3) := by decide +kernel
theorem dX8_does_209 : decode cX8_does 209 = .ok (.iload 4, 2) := by decide +kernel
theorem dX8_does_211 : decode cX8_does 211 = .ok (.ifCond .ne 12, 3) := by decide +kernel
theorem dX8_does_214 : decode cX8_does 214 = .ok (.iload 11, 2) := by decide +kernel
theorem dX8_does_216 : decode cX8_does 216 = .ok (.iload 6, 2) := by decide +kernel
theorem dX8_does_218 : decode cX8_does 218 = .ok (.if_icmp .eq 5, 3) := by decide +kernel
theorem dX8_does_221 : decode cX8_does 221 = .ok (.iconst 0, 1) := by decide +kernel
theorem dX8_does_222 : decode cX8_does 222 = .ok (.ireturn, 1) := by decide +kernel
theorem dX8_does_223 : decode cX8_does 223 = .ok (.aload_n 0, 1) := by decide +kernel
theorem dX8_does_224 : decode cX8_does 224 = .ok (.iload_n 1, 1) := by decide +kernel
theorem dX8_does_225 : decode cX8_does 225 = .ok (.iload 5, 2) := by decide +kernel
theorem dX8_does_227 : decode cX8_does 227 = .ok (.iload 11, 2) := by decide +kernel
theorem dX8_does_229 : decode cX8_does 229 = .ok (.aload_n 0, 1) := by decide +kernel
theorem dX8_does_230 : decode cX8_does 230 = .ok (.getfield 38, 3) := by decide +kernel
theorem dX8_does_233 : decode cX8_does 233 = .ok (.iload_n 2, 1) := by decide +kernel
theorem dX8_does_234 : decode cX8_does 234 = .ok (.iaload, 1) := by decide +kernel
theorem dX8_does_235 : decode cX8_does 235 = .ok (.invokevirtual 73, 3) := by decide +kernel
theorem dX8_does_238 : decode cX8_does 238 = .ok (.iconst 1, 1) := by decide +kernel
theorem dX8_does_239 : decode cX8_does 239 = .ok (.ireturn, 1) := by decide +kernel
theorem dX8_does_240 : decode cX8_does 240 = .ok (.iload 10, 2) := by decide +kernel
theorem dX8_does_242 : decode cX8_does 242 = .ok (.iconst (-1), 1) := by decide +kernel
theorem dX8_does_243 : decode cX8_does 243 = .ok (.if_icmp .ne 5, 3) := by decide +kernel
theorem dX8_does_246 : decode cX8_does 246 = .ok (.iconst 0, 1) := by decide +kernel
theorem dX8_does_247 : decode cX8_does 247 = .ok (.ireturn, 1) := by decide +kernel
theorem dX8_does_248 : decode cX8_does 248 = .ok (.iload 8, 2) := by decide +kernel
theorem dX8_does_250 : decode cX8_does 250 = .ok (.iconst 1, 1) := by decide +kernel
theorem dX8_does_251 : decode cX8_does 251 = .ok (.if_icmp .ne 50, 3) := by decide +kernel
theorem dX8_does_254 : decode cX8_does 254 = .ok (.aload_n 0, 1) := by decide +kernel
theorem dX8_does_255 : decode cX8_does 255 = .ok (.getfield 7, 3) := by decide +kernel
theorem dX8_does_258 : decode cX8_does 258 = .ok (.iload_n 1, 1) := by decide +kernel
theorem dX8_does_259 : decode cX8_does 259 = .ok (.iload 5, 2) := by decide +kernel
theorem dX8_does_261 : decode cX8_does 261 = .ok (.iload 10, 2) := by decide +kernel
theorem dX8_does_263 : decode cX8_does 263 = .ok (.invokestatic 61, 3) := by decide +kernel
theorem dX8_does_266 : decode cX8_does 266 = .ok (.iaload, 1) := by decide +kernel
theorem dX8_does_267 : decode cX8_does 267 = .ok (.aload_n 0, 1) := by decide +kernel
theorem dX8_does_268 : decode cX8_does 268 = .ok (.getfield 38, 3) := by decide +kernel
theorem dX8_does_271 : decode cX8_does 271 = .ok (.iload_n 2, 1) := by decide +kernel
theorem dX8_does_272 : decode cX8_does 272 = .ok (.iaload, 1) := by decide +kernel
theorem dX8_does_273 : decode cX8_does 273 = .ok (.if_icmp .ne 15, 3) := by decide +kernel
theorem dX8_does_276 : decode cX8_does 276 = .ok (.iload 4, 2) := by decide +kernel
theorem dX8_does_278 : decode cX8_does 278 = .ok (.ifCond .ne 12, 3) := by decide +kernel
theorem dX8_does_281 : decode cX8_does 281 = .ok (.iload 10, 2) := by decide +kernel
theorem dX8_does_283 : decode cX8_does 283 = .ok (.iload 6, 2) := by decide +kernel
theorem dX8_does_285 : decode cX8_does 285 = .ok (.if_icmp .eq 5, 3) := by decide +kernel
theorem dX8_does_288 : decode cX8_does 288 = .ok (.iconst 0, 1) := by decide +kernel
theorem dX8_does_289 : decode cX8_does 289 = .ok (.ireturn, 1) := by decide +kernel
theorem dX8_does_290 : decode cX8_does 290 = .ok (.aload_n 0, 1) := by decide +kernel
theorem dX8_does_291 : decode cX8_does 291 = .ok (.iload_n 1, 1) := by decide +kernel
theorem dX8_does_292 : decode cX8_does 292 = .ok (.iload 5, 2) := by decide +kernel
theorem dX8_does_294 : decode cX8_does 294 = .ok (.iload 10, 2) := by decide +kernel
theorem dX8_does_296 : decode cX8_does 296 = .ok (.invokevirtual 69, 3) := by decide +kernel
theorem dX8_does_299 : decode cX8_does 299 = .ok (.iconst 1, 1) := by decide +kernel
theorem dX8_does_300 : decode cX8_does 300 = .ok (.ireturn, 1) := by decide +kernel
theorem dX8_does_301 : decode cX8_does 301 = .ok (.iload 8, 2) := by decide +kernel
theorem dX8_does_303 : decode cX8_does 303 = .ok (.iconst 3, 1) := by decide +kernel
theorem dX8_does_304 : decode cX8_does 304 = .ok (.if_icmp .ne 55, 3) := by decide +kernel
theorem dX8_does_307 : decode cX8_does 307 = .ok (.iload 7, 2) := by decide +kernel
theorem dX8_does_309 : decode cX8_does 309 = .ok (.iload 9, 2) := by decide +kernel
theorem dX8_does_311 : decode cX8_does 311 = .ok (.if_icmp .ge 8, 3) := by decide +kernel
theorem dX8_does_314 : decode cX8_does 314 = .ok (.iload 7, 2) := by decide +kernel
theorem dX8_does_316 : decode cX8_does 316 = .ok (.goto 7, 3) := by decide +kernel
theorem dX8_does_319 : decode cX8_does 319 = .ok (.iload 9, 2) := by decide +kernel
theorem dX8_does_321 : decode cX8_does 321 = .ok (.iconst 1, 1) := by decide +kernel
theorem dX8_does_322 : decode cX8_does 322 = .ok (.isub, 1) := by decide +kernel
theorem dX8_does_323 : decode cX8_does 323 = .ok (.istore 11, 2) := by decide +kernel
theorem dX8_does_325 : decode cX8_does 325 = .ok (.iload 4, 2) := by decide +kernel
theorem dX8_does_327 : decode cX8_does 327 = .ok (.ifCond .ne 19, 3) := by decide +kernel
theorem dX8_does_330 : decode cX8_does 330 = .ok (.iload 10, 2) := by decide +kernel
theorem dX8_does_332 : decode cX8_does 332 = .ok (.iload 6, 2) := by decide +kernel
theorem dX8_does_334 : decode cX8_does 334 = .ok (.if_icmp .ne 10, 3) := by decide +kernel
theorem dX8_does_337 : decode cX8_does 337 = .ok (.iload 11, 2) := by decide +kernel
theorem dX8_does_339 : decode cX8_does 339 = .ok (.iload 7, 2) := by decide +kernel
theorem dX8_does_341 : decode cX8_does 341 = .ok (.if_icmp .eq 5, 3) := by decide +kernel
theorem dX8_does_344 : decode cX8_does 344 = .ok (.iconst 0, 1) := by decide +kernel
theorem dX8_does_345 : decode cX8_does 345 = .ok (.ireturn, 1) := by decide +kernel
theorem dX8_does_346 : decode cX8_does 346 = .ok (.aload_n 0, 1) := by decide +kernel
theorem dX8_does_347 : decode cX8_does 347 = .ok (.iload_n 1, 1) := by decide +kernel
theorem dX8_does_348 : decode cX8_does 348 = .ok (.iload 5, 2) := by decide +kernel
theorem dX8_does_350 : decode cX8_does 350 = .ok (.iload 10, 2) := by decide +kernel
theorem dX8_does_352 : decode cX8_does 352 = .ok (.iload 11, 2) := by decide +kernel
theorem dX8_does_354 : decode cX8_does 354 = .ok (.invokevirtual 109, 3) := by decide +kernel
theorem dX8_does_357 : decode cX8_does 357 = .ok (.iconst 1, 1) := by decide +kernel
theorem dX8_does_358 : decode cX8_does 358 = .ok (.ireturn, 1) := by decide +kernel
theorem dX8_does_359 : decode cX8_does 359 = .ok (.iload_n 1, 1) := by decide +kernel
theorem dX8_does_360 : decode cX8_does 360 = .ok (.iload 5, 2) := by decide +kernel
theorem dX8_does_362 : decode cX8_does 362 = .ok (.iload 10, 2) := by decide +kernel
theorem dX8_does_364 : decode cX8_does 364 = .ok (.invokestatic 61, 3) := by decide +kernel
theorem dX8_does_367 : decode cX8_does 367 = .ok (.istore 11, 2) := by decide +kernel
theorem dX8_does_369 : decode cX8_does 369 = .ok (.iload 8, 2) := by decide +kernel
theorem dX8_does_371 : decode cX8_does 371 = .ok (.bipush 6, 2) := by decide +kernel
theorem dX8_does_373 : decode cX8_does 373 = .ok (.if_icmp .ne 16, 3) := by decide +kernel
theorem dX8_does_376 : decode cX8_does 376 = .ok (.aload_n 0, 1) := by decide +kernel
theorem dX8_does_377 : decode cX8_does 377 = .ok (.getfield 7, 3) := by decide +kernel
theorem dX8_does_380 : decode cX8_does 380 = .ok (.iload 11, 2) := by decide +kernel
theorem dX8_does_382 : decode cX8_does 382 = .ok (.iaload, 1) := by decide +kernel
theorem dX8_does_383 : decode cX8_does 383 = .ok (.invokestatic 121, 3) := by decide +kernel
theorem dX8_does_386 : decode cX8_does 386 = .ok (.goto 17, 3) := by decide +kernel
theorem dX8_does_389 : decode cX8_does 389 = .ok (.aload_n 0, 1) := by decide +kernel
theorem dX8_does_390 : decode cX8_does 390 = .ok (.getfield 7, 3) := by decide +kernel
theorem dX8_does_393 : decode cX8_does 393 = .ok (.iload 11, 2) := by decide +kernel
theorem dX8_does_395 : decode cX8_does 395 = .ok (.iaload, 1) := by decide +kernel
theorem dX8_does_396 : decode cX8_does 396 = .ok (.iload 8, 2) := by decide +kernel
theorem dX8_does_398 : decode cX8_does 398 = .ok (.iconst 4, 1) := by decide +kernel
theorem dX8_does_399 : decode cX8_does 399 = .ok (.isub, 1) := by decide +kernel
theorem dX8_does_400 : decode cX8_does 400 = .ok (.invokestatic 115, 3) := by decide +kernel
theorem dX8_does_403 : decode cX8_does 403 = .ok (.istore 12, 2) := by decide +kernel
theorem dX8_does_405 : decode cX8_does 405 = .ok (.iload 12, 2) := by decide +kernel
theorem dX8_does_407 : decode cX8_does 407 = .ok (.iload 6, 2) := by decide +kernel
theorem dX8_does_409 : decode cX8_does 409 = .ok (.if_icmp .eq 5, 3) := by decide +kernel
theorem dX8_does_412 : decode cX8_does 412 = .ok (.iconst 0, 1) := by decide +kernel
theorem dX8_does_413 : decode cX8_does 413 = .ok (.ireturn, 1) := by decide +kernel
theorem dX8_does_414 : decode cX8_does 414 = .ok (.aload_n 0, 1) := by decide +kernel
theorem dX8_does_415 : decode cX8_does 415 = .ok (.getfield 7, 3) := by decide +kernel
theorem dX8_does_418 : decode cX8_does 418 = .ok (.iload 11, 2) := by decide +kernel
theorem dX8_does_420 : decode cX8_does 420 = .ok (.iload 8, 2) := by decide +kernel
theorem dX8_does_422 : decode cX8_does 422 = .ok (.bipush 6, 2) := by decide +kernel
theorem dX8_does_424 : decode cX8_does 424 = .ok (.if_icmp .ne 18, 3) := by decide +kernel
theorem dX8_does_427 : decode cX8_does 427 = .ok (.aload_n 0, 1) := by decide +kernel
theorem dX8_does_428 : decode cX8_does 428 = .ok (.getfield 7, 3) := by decide +kernel
theorem dX8_does_431 : decode cX8_does 431 = .ok (.iload 11, 2) := by decide +kernel
theorem dX8_does_433 : decode cX8_does 433 = .ok (.iaload, 1) := by decide +kernel
theorem dX8_does_434 : decode cX8_does 434 = .ok (.iload 7, 2) := by decide +kernel
theorem dX8_does_436 : decode cX8_does 436 = .ok (.invokestatic 124, 3) := by decide +kernel
theorem dX8_does_439 : decode cX8_does 439 = .ok (.goto 19, 3) := by decide +kernel
theorem dX8_does_442 : decode cX8_does 442 = .ok (.aload_n 0, 1) := by decide +kernel
theorem dX8_does_443 : decode cX8_does 443 = .ok (.getfield 7, 3) := by decide +kernel
theorem dX8_does_446 : decode cX8_does 446 = .ok (.iload 11, 2) := by decide +kernel
theorem dX8_does_448 : decode cX8_does 448 = .ok (.iaload, 1) := by decide +kernel
theorem dX8_does_449 : decode cX8_does 449 = .ok (.iload 8, 2) := by decide +kernel
theorem dX8_does_451 : decode cX8_does 451 = .ok (.iconst 4, 1) := by decide +kernel
theorem dX8_does_452 : decode cX8_does 452 = .ok (.isub, 1) := by decide +kernel
theorem dX8_does_453 : decode cX8_does 453 = .ok (.iload 7, 2) := by decide +kernel
theorem dX8_does_455 : decode cX8_does 455 = .ok (.invokestatic 118, 3) := by decide +kernel
theorem dX8_does_458 : decode cX8_does 458 = .ok (.iastore, 1) := by decide +kernel
theorem dX8_does_459 : decode cX8_does 459 = .ok (.iconst 1, 1) := by decide +kernel
theorem dX8_does_460 : decode cX8_does 460 = .ok (.ireturn, 1) := by decide +kernel
theorem dX8_doesAll_0 : decode cX8_doesAll 0 = .ok (.iconst 1, 1) := by decide +kernel
theorem dX8_doesAll_1 : decode cX8_doesAll 1 = .ok (.istore_n 3, 1) := by decide +kernel
theorem dX8_doesAll_2 : decode cX8_doesAll 2 = .ok (.iconst 0, 1) := by decide +kernel
theorem dX8_doesAll_3 : decode cX8_doesAll 3 = .ok (.istore 4, 2) := by decide +kernel
theorem dX8_doesAll_5 : decode cX8_doesAll 5 = .ok (.iload 4, 2) := by decide +kernel
theorem dX8_doesAll_7 : decode cX8_doesAll 7 = .ok (.aload_n 0, 1) := by decide +kernel
theorem dX8_doesAll_8 : decode cX8_doesAll 8 = .ok (.getfield 130, 3) := by decide +kernel
theorem dX8_doesAll_11 : decode cX8_doesAll 11 = .ok (.if_icmp .ge 40, 3) := by decide +kernel
theorem dX8_doesAll_14 : decode cX8_doesAll 14 = .ok (.iload_n 3, 1) := by decide +kernel
theorem dX8_doesAll_15 : decode cX8_doesAll 15 = .ok (.ifCond .eq 36, 3) := by decide +kernel
theorem dX8_doesAll_18 : decode cX8_doesAll 18 = .ok (.aload_n 0, 1) := by decide +kernel
theorem dX8_doesAll_19 : decode cX8_doesAll 19 = .ok (.bipush 34, 2) := by decide +kernel
theorem dX8_doesAll_21 : decode cX8_doesAll 21 = .ok (.iload_n 1, 1) := by decide +kernel
theorem dX8_doesAll_22 : decode cX8_doesAll 22 = .ok (.ifCond .eq 15, 3) := by decide +kernel
theorem dX8_doesAll_25 : decode cX8_doesAll 25 = .ok (.aload_n 0, 1) := by decide +kernel
theorem dX8_doesAll_26 : decode cX8_doesAll 26 = .ok (.getfield 130, 3) := by decide +kernel
theorem dX8_doesAll_29 : decode cX8_doesAll 29 = .ok (.iconst 1, 1) := by decide +kernel
theorem dX8_doesAll_30 : decode cX8_doesAll 30 = .ok (.isub, 1) := by decide +kernel
theorem dX8_doesAll_31 : decode cX8_doesAll 31 = .ok (.iload 4, 2) := by decide +kernel
theorem dX8_doesAll_33 : decode cX8_doesAll 33 = .ok (.isub, 1) := by decide +kernel
theorem dX8_doesAll_34 : decode cX8_doesAll 34 = .ok (.goto 5, 3) := by decide +kernel
theorem dX8_doesAll_37 : decode cX8_doesAll 37 = .ok (.iload 4, 2) := by decide +kernel
theorem dX8_doesAll_39 : decode cX8_doesAll 39 = .ok (.iload_n 1, 1) := by decide +kernel
theorem dX8_doesAll_40 : decode cX8_doesAll 40 = .ok (.iload_n 2, 1) := by decide +kernel
theorem dX8_doesAll_41 : decode cX8_doesAll 41 = .ok (.invokevirtual 139, 3) := by decide +kernel
theorem dX8_doesAll_44 : decode cX8_doesAll 44 = .ok (.istore_n 3, 1) := by decide +kernel
theorem dX8_doesAll_45 : decode cX8_doesAll 45 = .ok (.iinc 4 1, 3) := by decide +kernel
theorem dX8_doesAll_48 : decode cX8_doesAll 48 = .ok (.goto (-43), 3) := by decide +kernel
theorem dX8_doesAll_51 : decode cX8_doesAll 51 = .ok (.iload_n 3, 1) := by decide +kernel
theorem dX8_doesAll_52 : decode cX8_doesAll 52 = .ok (.ireturn, 1) := by decide +kernel
theorem dX8_apply_0 : decode cX8_apply 0 = .ok (.aload_n 0, 1) := by decide +kernel
theorem dX8_apply_1 : decode cX8_apply 1 = .ok (.iload_n 1, 1) := by decide +kernel
theorem dX8_apply_2 : decode cX8_apply 2 = .ok (.invokestatic 88, 3) := by decide +kernel
theorem dX8_apply_5 : decode cX8_apply 5 = .ok (.ifCond .eq 25, 3) := by decide +kernel
theorem dX8_apply_8 : decode cX8_apply 8 = .ok (.aload_n 0, 1) := by decide +kernel
theorem dX8_apply_9 : decode cX8_apply 9 = .ok (.iload_n 2, 1) := by decide +kernel
theorem dX8_apply_10 : decode cX8_apply 10 = .ok (.invokevirtual 143, 3) := by decide +kernel
theorem dX8_apply_13 : decode cX8_apply 13 = .ok (.iconst (-1), 1) := by decide +kernel
theorem dX8_apply_14 : decode cX8_apply 14 = .ok (.if_icmp .eq 16, 3) := by decide +kernel
theorem dX8_apply_17 : decode cX8_apply 17 = .ok (.aload_n 0, 1) := by decide +kernel
theorem dX8_apply_18 : decode cX8_apply 18 = .ok (.iload_n 3, 1) := by decide +kernel
theorem dX8_apply_19 : decode cX8_apply 19 = .ok (.invokevirtual 143, 3) := by decide +kernel
theorem dX8_apply_22 : decode cX8_apply 22 = .ok (.iconst (-1), 1) := by decide +kernel
theorem dX8_apply_23 : decode cX8_apply 23 = .ok (.if_icmp .eq 7, 3) := by decide +kernel
theorem dX8_apply_26 : decode cX8_apply 26 = .ok (.iconst 0, 1) := by decide +kernel
theorem dX8_apply_27 : decode cX8_apply 27 = .ok (.goto 4, 3) := by decide +kernel
theorem dX8_apply_30 : decode cX8_apply 30 = .ok (.iconst 1, 1) := by decide +kernel
theorem dX8_apply_31 : decode cX8_apply 31 = .ok (.putfield 53, 3) := by decide +kernel
theorem dX8_apply_34 : decode cX8_apply 34 = .ok (.aload_n 0, 1) := by decide +kernel
theorem dX8_apply_35 : decode cX8_apply 35 = .ok (.getfield 53, 3) := by decide +kernel
theorem dX8_apply_38 : decode cX8_apply 38 = .ok (.ifCond .le 5, 3) := by decide +kernel
theorem dX8_apply_41 : decode cX8_apply 41 = .ok (.iconst 0, 1) := by decide +kernel
theorem dX8_apply_42 : decode cX8_apply 42 = .ok (.ireturn, 1) := by decide +kernel
theorem dX8_apply_43 : decode cX8_apply 43 = .ok (.aload_n 0, 1) := by decide +kernel
theorem dX8_apply_44 : decode cX8_apply 44 = .ok (.getfield 13, 3) := by decide +kernel
theorem dX8_apply_47 : decode cX8_apply 47 = .ok (.iload_n 1, 1) := by decide +kernel
theorem dX8_apply_48 : decode cX8_apply 48 = .ok (.iaload, 1) := by decide +kernel
theorem dX8_apply_49 : decode cX8_apply 49 = .ok (.ifCond .ne 9, 3) := by decide +kernel
theorem dX8_apply_52 : decode cX8_apply 52 = .ok (.aload_n 0, 1) := by decide +kernel
theorem dX8_apply_53 : decode cX8_apply 53 = .ok (.iconst 2, 1) := by decide +kernel
theorem dX8_apply_54 : decode cX8_apply 54 = .ok (.invokevirtual 102, 3) := by decide +kernel
theorem dX8_apply_57 : decode cX8_apply 57 = .ok (.ireturn, 1) := by decide +kernel
theorem dX8_apply_58 : decode cX8_apply 58 = .ok (.aload_n 0, 1) := by decide +kernel
theorem dX8_apply_59 : decode cX8_apply 59 = .ok (.aload_n 0, 1) := by decide +kernel
theorem dX8_apply_60 : decode cX8_apply 60 = .ok (.iload_n 2, 1) := by decide +kernel
theorem dX8_apply_61 : decode cX8_apply 61 = .ok (.invokevirtual 143, 3) := by decide +kernel
theorem dX8_apply_64 : decode cX8_apply 64 = .ok (.aload_n 0, 1) := by decide +kernel
theorem dX8_apply_65 : decode cX8_apply 65 = .ok (.iload_n 3, 1) := by decide +kernel
theorem dX8_apply_66 : decode cX8_apply 66 = .ok (.invokevirtual 143, 3) := by decide +kernel
theorem dX8_apply_69 : decode cX8_apply 69 = .ok (.invokevirtual 146, 3) := by decide +kernel
theorem dX8_apply_72 : decode cX8_apply 72 = .ok (.aload_n 0, 1) := by decide +kernel
theorem dX8_apply_73 : decode cX8_apply 73 = .ok (.iload_n 1, 1) := by decide +kernel
theorem dX8_apply_74 : decode cX8_apply 74 = .ok (.bipush 34, 2) := by decide +kernel
theorem dX8_apply_76 : decode cX8_apply 76 = .ok (.invokevirtual 91, 3) := by decide +kernel
theorem dX8_apply_79 : decode cX8_apply 79 = .ok (.aload_n 0, 1) := by decide +kernel
theorem dX8_apply_80 : decode cX8_apply 80 = .ok (.iload 4, 2) := by decide +kernel
theorem dX8_apply_82 : decode cX8_apply 82 = .ok (.iconst 0, 1) := by decide +kernel
theorem dX8_apply_83 : decode cX8_apply 83 = .ok (.invokevirtual 149, 3) := by decide +kernel
theorem dX8_apply_86 : decode cX8_apply 86 = .ok (.ifCond .ne 9, 3) := by decide +kernel
theorem dX8_apply_89 : decode cX8_apply 89 = .ok (.aload_n 0, 1) := by decide +kernel
theorem dX8_apply_90 : decode cX8_apply 90 = .ok (.iconst 2, 1) := by decide +kernel
theorem dX8_apply_91 : decode cX8_apply 91 = .ok (.invokevirtual 102, 3) := by decide +kernel
theorem dX8_apply_94 : decode cX8_apply 94 = .ok (.ireturn, 1) := by decide +kernel
theorem dX8_apply_95 : decode cX8_apply 95 = .ok (.aload_n 0, 1) := by decide +kernel
theorem dX8_apply_96 : decode cX8_apply 96 = .ok (.bipush 34, 2) := by decide +kernel
theorem dX8_apply_98 : decode cX8_apply 98 = .ok (.iload_n 1, 1) := by decide +kernel
theorem dX8_apply_99 : decode cX8_apply 99 = .ok (.invokevirtual 91, 3) := by decide +kernel
theorem dX8_apply_102 : decode cX8_apply 102 = .ok (.aload_n 0, 1) := by decide +kernel
theorem dX8_apply_103 : decode cX8_apply 103 = .ok (.getfield 130, 3) := by decide +kernel
theorem dX8_apply_106 : decode cX8_apply 106 = .ok (.ireturn, 1) := by decide +kernel
theorem dX8_rule_0 : decode cX8_rule 0 = .ok (.aload_n 0, 1) := by decide +kernel
theorem dX8_rule_1 : decode cX8_rule 1 = .ok (.iload_n 2, 1) := by decide +kernel
theorem dX8_rule_2 : decode cX8_rule 2 = .ok (.invokestatic 84, 3) := by decide +kernel
theorem dX8_rule_5 : decode cX8_rule 5 = .ok (.ifCond .eq 10, 3) := by decide +kernel
theorem dX8_rule_8 : decode cX8_rule 8 = .ok (.iload_n 3, 1) := by decide +kernel
theorem dX8_rule_9 : decode cX8_rule 9 = .ok (.invokestatic 112, 3) := by decide +kernel
theorem dX8_rule_12 : decode cX8_rule 12 = .ok (.ifCond .ne 7, 3) := by decide +kernel
theorem dX8_rule_15 : decode cX8_rule 15 = .ok (.iconst 1, 1) := by decide +kernel
theorem dX8_rule_16 : decode cX8_rule 16 = .ok (.goto 41, 3) := by decide +kernel
theorem dX8_rule_19 : decode cX8_rule 19 = .ok (.iload_n 1, 1) := by decide +kernel
theorem dX8_rule_20 : decode cX8_rule 20 = .ok (.iconst 0, 1) := by decide +kernel
theorem dX8_rule_21 : decode cX8_rule 21 = .ok (.iconst 3, 1) := by decide +kernel
theorem dX8_rule_22 : decode cX8_rule 22 = .ok (.invokestatic 77, 3) := by decide +kernel
theorem dX8_rule_25 : decode cX8_rule 25 = .ok (.ifCond .eq 14, 3) := by decide +kernel
theorem dX8_rule_28 : decode cX8_rule 28 = .ok (.iload 4, 2) := by decide +kernel
theorem dX8_rule_30 : decode cX8_rule 30 = .ok (.iconst 0, 1) := by decide +kernel
theorem dX8_rule_31 : decode cX8_rule 31 = .ok (.bipush 99, 2) := by decide +kernel
theorem dX8_rule_33 : decode cX8_rule 33 = .ok (.invokestatic 77, 3) := by decide +kernel
theorem dX8_rule_36 : decode cX8_rule 36 = .ok (.ifCond .ne 7, 3) := by decide +kernel
theorem dX8_rule_39 : decode cX8_rule 39 = .ok (.iconst 2, 1) := by decide +kernel
theorem dX8_rule_40 : decode cX8_rule 40 = .ok (.goto 17, 3) := by decide +kernel
theorem dX8_rule_43 : decode cX8_rule 43 = .ok (.aload_n 0, 1) := by decide +kernel
theorem dX8_rule_44 : decode cX8_rule 44 = .ok (.getfield 153, 3) := by decide +kernel
theorem dX8_rule_47 : decode cX8_rule 47 = .ok (.bipush 8, 2) := by decide +kernel
theorem dX8_rule_49 : decode cX8_rule 49 = .ok (.if_icmp .ne 7, 3) := by decide +kernel
theorem dX8_rule_52 : decode cX8_rule 52 = .ok (.iconst 3, 1) := by decide +kernel
theorem dX8_rule_53 : decode cX8_rule 53 = .ok (.goto 4, 3) := by decide +kernel
theorem dX8_rule_56 : decode cX8_rule 56 = .ok (.iconst 0, 1) := by decide +kernel
theorem dX8_rule_57 : decode cX8_rule 57 = .ok (.putfield 53, 3) := by decide +kernel
theorem dX8_rule_60 : decode cX8_rule 60 = .ok (.aload_n 0, 1) := by decide +kernel
theorem dX8_rule_61 : decode cX8_rule 61 = .ok (.getfield 53, 3) := by decide +kernel
theorem dX8_rule_64 : decode cX8_rule 64 = .ok (.ifCond .le 5, 3) := by decide +kernel
theorem dX8_rule_67 : decode cX8_rule 67 = .ok (.iconst 0, 1) := by decide +kernel
theorem dX8_rule_68 : decode cX8_rule 68 = .ok (.ireturn, 1) := by decide +kernel
theorem dX8_rule_69 : decode cX8_rule 69 = .ok (.aload_n 0, 1) := by decide +kernel
theorem dX8_rule_70 : decode cX8_rule 70 = .ok (.getfield 41, 3) := by decide +kernel
theorem dX8_rule_73 : decode cX8_rule 73 = .ok (.aload_n 0, 1) := by decide +kernel
theorem dX8_rule_74 : decode cX8_rule 74 = .ok (.getfield 153, 3) := by decide +kernel
theorem dX8_rule_77 : decode cX8_rule 77 = .ok (.iload_n 1, 1) := by decide +kernel
theorem dX8_rule_78 : decode cX8_rule 78 = .ok (.iastore, 1) := by decide +kernel
theorem dX8_rule_79 : decode cX8_rule 79 = .ok (.aload_n 0, 1) := by decide +kernel
theorem dX8_rule_80 : decode cX8_rule 80 = .ok (.getfield 44, 3) := by decide +kernel
theorem dX8_rule_83 : decode cX8_rule 83 = .ok (.aload_n 0, 1) := by decide +kernel
theorem dX8_rule_84 : decode cX8_rule 84 = .ok (.getfield 153, 3) := by decide +kernel
theorem dX8_rule_87 : decode cX8_rule 87 = .ok (.iload_n 2, 1) := by decide +kernel
theorem dX8_rule_88 : decode cX8_rule 88 = .ok (.iastore, 1) := by decide +kernel
theorem dX8_rule_89 : decode cX8_rule 89 = .ok (.aload_n 0, 1) := by decide +kernel
theorem dX8_rule_90 : decode cX8_rule 90 = .ok (.getfield 47, 3) := by decide +kernel
theorem dX8_rule_93 : decode cX8_rule 93 = .ok (.aload_n 0, 1) := by decide +kernel
theorem dX8_rule_94 : decode cX8_rule 94 = .ok (.getfield 153, 3) := by decide +kernel
theorem dX8_rule_97 : decode cX8_rule 97 = .ok (.iload_n 3, 1) := by decide +kernel
theorem dX8_rule_98 : decode cX8_rule 98 = .ok (.iastore, 1) := by decide +kernel
theorem dX8_rule_99 : decode cX8_rule 99 = .ok (.aload_n 0, 1) := by decide +kernel
theorem dX8_rule_100 : decode cX8_rule 100 = .ok (.getfield 50, 3) := by decide +kernel
theorem dX8_rule_103 : decode cX8_rule 103 = .ok (.aload_n 0, 1) := by decide +kernel
theorem dX8_rule_104 : decode cX8_rule 104 = .ok (.getfield 153, 3) := by decide +kernel
theorem dX8_rule_107 : decode cX8_rule 107 = .ok (.iload 4, 2) := by decide +kernel
theorem dX8_rule_109 : decode cX8_rule 109 = .ok (.iastore, 1) := by decide +kernel
theorem dX8_rule_110 : decode cX8_rule 110 = .ok (.aload_n 0, 1) := by decide +kernel
theorem dX8_rule_111 : decode cX8_rule 111 = .ok (.dup, 1) := by decide +kernel
theorem dX8_rule_112 : decode cX8_rule 112 = .ok (.getfield 153, 3) := by decide +kernel
theorem dX8_rule_115 : decode cX8_rule 115 = .ok (.iconst 1, 1) := by decide +kernel
theorem dX8_rule_116 : decode cX8_rule 116 = .ok (.iadd, 1) := by decide +kernel
theorem dX8_rule_117 : decode cX8_rule 117 = .ok (.putfield 153, 3) := by decide +kernel
theorem dX8_rule_120 : decode cX8_rule 120 = .ok (.aload_n 0, 1) := by decide +kernel
theorem dX8_rule_121 : decode cX8_rule 121 = .ok (.getfield 153, 3) := by decide +kernel
theorem dX8_rule_124 : decode cX8_rule 124 = .ok (.iconst 1, 1) := by decide +kernel
theorem dX8_rule_125 : decode cX8_rule 125 = .ok (.isub, 1) := by decide +kernel
theorem dX8_rule_126 : decode cX8_rule 126 = .ok (.ireturn, 1) := by decide +kernel
theorem dX8_shows_0 : decode cX8_shows 0 = .ok (.aload_n 0, 1) := by decide +kernel
theorem dX8_shows_1 : decode cX8_shows 1 = .ok (.getfield 7, 3) := by decide +kernel
theorem dX8_shows_4 : decode cX8_shows 4 = .ok (.iload_n 1, 1) := by decide +kernel
theorem dX8_shows_5 : decode cX8_shows 5 = .ok (.iload_n 2, 1) := by decide +kernel
theorem dX8_shows_6 : decode cX8_shows 6 = .ok (.iload_n 3, 1) := by decide +kernel
theorem dX8_shows_7 : decode cX8_shows 7 = .ok (.invokestatic 61, 3) := by decide +kernel
theorem dX8_shows_10 : decode cX8_shows 10 = .ok (.iaload, 1) := by decide +kernel
theorem dX8_shows_11 : decode cX8_shows 11 = .ok (.istore 5, 2) := by decide +kernel
theorem dX8_shows_13 : decode cX8_shows 13 = .ok (.iload 5, 2) := by decide +kernel
theorem dX8_shows_15 : decode cX8_shows 15 = .ok (.iload 4, 2) := by decide +kernel
theorem dX8_shows_17 : decode cX8_shows 17 = .ok (.invokestatic 115, 3) := by decide +kernel
theorem dX8_shows_20 : decode cX8_shows 20 = .ok (.istore 6, 2) := by decide +kernel
theorem dX8_shows_22 : decode cX8_shows 22 = .ok (.iload 6, 2) := by decide +kernel
theorem dX8_shows_24 : decode cX8_shows 24 = .ok (.ifCond .gt 11, 3) := by decide +kernel
theorem dX8_shows_27 : decode cX8_shows 27 = .ok (.iload 5, 2) := by decide +kernel
theorem dX8_shows_29 : decode cX8_shows 29 = .ok (.invokestatic 121, 3) := by decide +kernel
theorem dX8_shows_32 : decode cX8_shows 32 = .ok (.ifCond .ne 8, 3) := by decide +kernel
theorem dX8_shows_35 : decode cX8_shows 35 = .ok (.iload 6, 2) := by decide +kernel
theorem dX8_shows_37 : decode cX8_shows 37 = .ok (.goto 21, 3) := by decide +kernel
theorem dX8_shows_40 : decode cX8_shows 40 = .ok (.aload_n 0, 1) := by decide +kernel
theorem dX8_shows_41 : decode cX8_shows 41 = .ok (.getfield 7, 3) := by decide +kernel
theorem dX8_shows_44 : decode cX8_shows 44 = .ok (.iload_n 1, 1) := by decide +kernel
theorem dX8_shows_45 : decode cX8_shows 45 = .ok (.iload 5, 2) := by decide +kernel
theorem dX8_shows_47 : decode cX8_shows 47 = .ok (.invokestatic 121, 3) := by decide +kernel
theorem dX8_shows_50 : decode cX8_shows 50 = .ok (.iconst 1, 1) := by decide +kernel
theorem dX8_shows_51 : decode cX8_shows 51 = .ok (.isub, 1) := by decide +kernel
theorem dX8_shows_52 : decode cX8_shows 52 = .ok (.iload 4, 2) := by decide +kernel
theorem dX8_shows_54 : decode cX8_shows 54 = .ok (.invokestatic 127, 3) := by decide +kernel
theorem dX8_shows_57 : decode cX8_shows 57 = .ok (.iaload, 1) := by decide +kernel
theorem dX8_shows_58 : decode cX8_shows 58 = .ok (.iconst 1, 1) := by decide +kernel
theorem dX8_shows_59 : decode cX8_shows 59 = .ok (.isub, 1) := by decide +kernel
theorem dX8_shows_60 : decode cX8_shows 60 = .ok (.ireturn, 1) := by decide +kernel
theorem dX8_isKept_0 : decode cX8_isKept 0 = .ok (.aload_n 0, 1) := by decide +kernel
theorem dX8_isKept_1 : decode cX8_isKept 1 = .ok (.getfield 44, 3) := by decide +kernel
theorem dX8_isKept_4 : decode cX8_isKept 4 = .ok (.iload_n 2, 1) := by decide +kernel
theorem dX8_isKept_5 : decode cX8_isKept 5 = .ok (.iaload, 1) := by decide +kernel
theorem dX8_isKept_6 : decode cX8_isKept 6 = .ok (.istore_n 3, 1) := by decide +kernel
theorem dX8_isKept_7 : decode cX8_isKept 7 = .ok (.aload_n 0, 1) := by decide +kernel
theorem dX8_isKept_8 : decode cX8_isKept 8 = .ok (.getfield 47, 3) := by decide +kernel
theorem dX8_isKept_11 : decode cX8_isKept 11 = .ok (.iload_n 2, 1) := by decide +kernel
theorem dX8_isKept_12 : decode cX8_isKept 12 = .ok (.iaload, 1) := by decide +kernel
theorem dX8_isKept_13 : decode cX8_isKept 13 = .ok (.istore 4, 2) := by decide +kernel
theorem dX8_isKept_15 : decode cX8_isKept 15 = .ok (.aload_n 0, 1) := by decide +kernel
theorem dX8_isKept_16 : decode cX8_isKept 16 = .ok (.getfield 50, 3) := by decide +kernel
theorem dX8_isKept_19 : decode cX8_isKept 19 = .ok (.iload_n 2, 1) := by decide +kernel
theorem dX8_isKept_20 : decode cX8_isKept 20 = .ok (.iaload, 1) := by decide +kernel
theorem dX8_isKept_21 : decode cX8_isKept 21 = .ok (.istore 5, 2) := by decide +kernel
theorem dX8_isKept_23 : decode cX8_isKept 23 = .ok (.iconst 1, 1) := by decide +kernel
theorem dX8_isKept_24 : decode cX8_isKept 24 = .ok (.istore 6, 2) := by decide +kernel
theorem dX8_isKept_26 : decode cX8_isKept 26 = .ok (.iconst 0, 1) := by decide +kernel
theorem dX8_isKept_27 : decode cX8_isKept 27 = .ok (.istore 7, 2) := by decide +kernel
theorem dX8_isKept_29 : decode cX8_isKept 29 = .ok (.iload 7, 2) := by decide +kernel
theorem dX8_isKept_31 : decode cX8_isKept 31 = .ok (.aload_n 0, 1) := by decide +kernel
theorem dX8_isKept_32 : decode cX8_isKept 32 = .ok (.iload_n 1, 1) := by decide +kernel
theorem dX8_isKept_33 : decode cX8_isKept 33 = .ok (.iload_n 3, 1) := by decide +kernel
theorem dX8_isKept_34 : decode cX8_isKept 34 = .ok (.invokevirtual 57, 3) := by decide +kernel
theorem dX8_isKept_37 : decode cX8_isKept 37 = .ok (.if_icmp .ge 182, 3) := by decide +kernel
theorem dX8_isKept_40 : decode cX8_isKept 40 = .ok (.aload_n 0, 1) := by decide +kernel
theorem dX8_isKept_41 : decode cX8_isKept 41 = .ok (.iload_n 1, 1) := by decide +kernel
theorem dX8_isKept_42 : decode cX8_isKept 42 = .ok (.iload_n 3, 1) := by decide +kernel
theorem dX8_isKept_43 : decode cX8_isKept 43 = .ok (.iload 7, 2) := by decide +kernel
theorem dX8_isKept_45 : decode cX8_isKept 45 = .ok (.iload 4, 2) := by decide +kernel
theorem dX8_isKept_47 : decode cX8_isKept 47 = .ok (.invokevirtual 156, 3) := by decide +kernel
theorem dX8_isKept_50 : decode cX8_isKept 50 = .ok (.istore 8, 2) := by decide +kernel
theorem dX8_isKept_52 : decode cX8_isKept 52 = .ok (.aload_n 0, 1) := by decide +kernel
theorem dX8_isKept_53 : decode cX8_isKept 53 = .ok (.getfield 41, 3) := by decide +kernel
theorem dX8_isKept_56 : decode cX8_isKept 56 = .ok (.iload_n 2, 1) := by decide +kernel
theorem dX8_isKept_57 : decode cX8_isKept 57 = .ok (.iaload, 1) := by decide +kernel
theorem dX8_isKept_58 : decode cX8_isKept 58 = .ok (.ifCond .ne 24, 3) := by decide +kernel
theorem dX8_isKept_61 : decode cX8_isKept 61 = .ok (.iload 6, 2) := by decide +kernel
theorem dX8_isKept_63 : decode cX8_isKept 63 = .ok (.ifCond .eq 13, 3) := by decide +kernel
theorem dX8_isKept_66 : decode cX8_isKept 66 = .ok (.iload 8, 2) := by decide +kernel
theorem dX8_isKept_68 : decode cX8_isKept 68 = .ok (.iconst (-1), 1) := by decide +kernel
theorem dX8_isKept_69 : decode cX8_isKept 69 = .ok (.if_icmp .eq 7, 3) := by decide +kernel
theorem dX8_isKept_72 : decode cX8_isKept 72 = .ok (.iconst 1, 1) := by decide +kernel
theorem dX8_isKept_73 : decode cX8_isKept 73 = .ok (.goto 4, 3) := by decide +kernel
theorem dX8_isKept_76 : decode cX8_isKept 76 = .ok (.iconst 0, 1) := by decide +kernel
theorem dX8_isKept_77 : decode cX8_isKept 77 = .ok (.istore 6, 2) := by decide +kernel
theorem dX8_isKept_79 : decode cX8_isKept 79 = .ok (.goto 134, 3) := by decide +kernel
theorem dX8_isKept_82 : decode cX8_isKept 82 = .ok (.aload_n 0, 1) := by decide +kernel
theorem dX8_isKept_83 : decode cX8_isKept 83 = .ok (.getfield 41, 3) := by decide +kernel
theorem dX8_isKept_86 : decode cX8_isKept 86 = .ok (.iload_n 2, 1) := by decide +kernel
theorem dX8_isKept_87 : decode cX8_isKept 87 = .ok (.iaload, 1) := by decide +kernel
theorem dX8_isKept_88 : decode cX8_isKept 88 = .ok (.iconst 1, 1) := by decide +kernel
theorem dX8_isKept_89 : decode cX8_isKept 89 = .ok (.if_icmp .ne 25, 3) := by decide +kernel
theorem dX8_isKept_92 : decode cX8_isKept 92 = .ok (.iload 6, 2) := by decide +kernel
theorem dX8_isKept_94 : decode cX8_isKept 94 = .ok (.ifCond .eq 14, 3) := by decide +kernel
theorem dX8_isKept_97 : decode cX8_isKept 97 = .ok (.iload 8, 2) := by decide +kernel
theorem dX8_isKept_99 : decode cX8_isKept 99 = .ok (.iload 5, 2) := by decide +kernel
theorem dX8_isKept_101 : decode cX8_isKept 101 = .ok (.if_icmp .gt 7, 3) := by decide +kernel
theorem dX8_isKept_104 : decode cX8_isKept 104 = .ok (.iconst 1, 1) := by decide +kernel
theorem dX8_isKept_105 : decode cX8_isKept 105 = .ok (.goto 4, 3) := by decide +kernel
theorem dX8_isKept_108 : decode cX8_isKept 108 = .ok (.iconst 0, 1) := by decide +kernel
theorem dX8_isKept_109 : decode cX8_isKept 109 = .ok (.istore 6, 2) := by decide +kernel
theorem dX8_isKept_111 : decode cX8_isKept 111 = .ok (.goto 102, 3) := by decide +kernel
theorem dX8_isKept_114 : decode cX8_isKept 114 = .ok (.aload_n 0, 1) := by decide +kernel
theorem dX8_isKept_115 : decode cX8_isKept 115 = .ok (.getfield 41, 3) := by decide +kernel
theorem dX8_isKept_118 : decode cX8_isKept 118 = .ok (.iload_n 2, 1) := by decide +kernel
theorem dX8_isKept_119 : decode cX8_isKept 119 = .ok (.iaload, 1) := by decide +kernel
theorem dX8_isKept_120 : decode cX8_isKept 120 = .ok (.iconst 2, 1) := by decide +kernel
theorem dX8_isKept_121 : decode cX8_isKept 121 = .ok (.if_icmp .ne 43, 3) := by decide +kernel
theorem dX8_isKept_124 : decode cX8_isKept 124 = .ok (.iload 6, 2) := by decide +kernel
theorem dX8_isKept_126 : decode cX8_isKept 126 = .ok (.ifCond .eq 32, 3) := by decide +kernel
theorem dX8_isKept_129 : decode cX8_isKept 129 = .ok (.iload 8, 2) := by decide +kernel
theorem dX8_isKept_131 : decode cX8_isKept 131 = .ok (.iconst (-1), 1) := by decide +kernel
theorem dX8_isKept_132 : decode cX8_isKept 132 = .ok (.if_icmp .eq 22, 3) := by decide +kernel
theorem dX8_isKept_135 : decode cX8_isKept 135 = .ok (.iload 5, 2) := by decide +kernel
theorem dX8_isKept_137 : decode cX8_isKept 137 = .ok (.iconst 3, 1) := by decide +kernel
theorem dX8_isKept_138 : decode cX8_isKept 138 = .ok (.if_icmp .ge 20, 3) := by decide +kernel
theorem dX8_isKept_141 : decode cX8_isKept 141 = .ok (.aload_n 0, 1) := by decide +kernel
theorem dX8_isKept_142 : decode cX8_isKept 142 = .ok (.iload_n 1, 1) := by decide +kernel
theorem dX8_isKept_143 : decode cX8_isKept 143 = .ok (.iload 5, 2) := by decide +kernel
theorem dX8_isKept_145 : decode cX8_isKept 145 = .ok (.iload 8, 2) := by decide +kernel
theorem dX8_isKept_147 : decode cX8_isKept 147 = .ok (.invokevirtual 99, 3) := by decide +kernel
theorem dX8_isKept_150 : decode cX8_isKept 150 = .ok (.iconst (-1), 1) := by decide +kernel
theorem dX8_isKept_151 : decode cX8_isKept 151 = .ok (.if_icmp .eq 7, 3) := by decide +kernel
theorem dX8_isKept_154 : decode cX8_isKept 154 = .ok (.iconst 1, 1) := by decide +kernel
theorem dX8_isKept_155 : decode cX8_isKept 155 = .ok (.goto 4, 3) := by decide +kernel
theorem dX8_isKept_158 : decode cX8_isKept 158 = .ok (.iconst 0, 1) := by decide +kernel
theorem dX8_isKept_159 : decode cX8_isKept 159 = .ok (.istore 6, 2) := by decide +kernel
theorem dX8_isKept_161 : decode cX8_isKept 161 = .ok (.goto 52, 3) := by decide +kernel
theorem dX8_isKept_164 : decode cX8_isKept 164 = .ok (.iconst 0, 1) := by decide +kernel
theorem dX8_isKept_165 : decode cX8_isKept 165 = .ok (.istore 9, 2) := by decide +kernel
theorem dX8_isKept_167 : decode cX8_isKept 167 = .ok (.iload 9, 2) := by decide +kernel
theorem dX8_isKept_169 : decode cX8_isKept 169 = .ok (.iload 7, 2) := by decide +kernel
theorem dX8_isKept_171 : decode cX8_isKept 171 = .ok (.if_icmp .ge 42, 3) := by decide +kernel
theorem dX8_isKept_174 : decode cX8_isKept 174 = .ok (.iload 6, 2) := by decide +kernel
theorem dX8_isKept_176 : decode cX8_isKept 176 = .ok (.ifCond .eq 28, 3) := by decide +kernel
theorem dX8_isKept_179 : decode cX8_isKept 179 = .ok (.iload 8, 2) := by decide +kernel
theorem dX8_isKept_181 : decode cX8_isKept 181 = .ok (.iconst (-1), 1) := by decide +kernel
theorem dX8_isKept_182 : decode cX8_isKept 182 = .ok (.if_icmp .eq 18, 3) := by decide +kernel
theorem dX8_isKept_185 : decode cX8_isKept 185 = .ok (.aload_n 0, 1) := by decide +kernel
theorem dX8_isKept_186 : decode cX8_isKept 186 = .ok (.iload_n 1, 1) := by decide +kernel
theorem dX8_isKept_187 : decode cX8_isKept 187 = .ok (.iload_n 3, 1) := by decide +kernel
theorem dX8_isKept_188 : decode cX8_isKept 188 = .ok (.iload 9, 2) := by decide +kernel
theorem dX8_isKept_190 : decode cX8_isKept 190 = .ok (.iload 4, 2) := by decide +kernel
theorem dX8_isKept_192 : decode cX8_isKept 192 = .ok (.invokevirtual 156, 3) := by decide +kernel
theorem dX8_isKept_195 : decode cX8_isKept 195 = .ok (.iload 8, 2) := by decide +kernel
theorem dX8_isKept_197 : decode cX8_isKept 197 = .ok (.if_icmp .eq 7, 3) := by decide +kernel
theorem dX8_isKept_200 : decode cX8_isKept 200 = .ok (.iconst 1, 1) := by decide +kernel
theorem dX8_isKept_201 : decode cX8_isKept 201 = .ok (.goto 4, 3) := by decide +kernel
theorem dX8_isKept_204 : decode cX8_isKept 204 = .ok (.iconst 0, 1) := by decide +kernel
theorem dX8_isKept_205 : decode cX8_isKept 205 = .ok (.istore 6, 2) := by decide +kernel
theorem dX8_isKept_207 : decode cX8_isKept 207 = .ok (.iinc 9 1, 3) := by decide +kernel
theorem dX8_isKept_210 : decode cX8_isKept 210 = .ok (.goto (-43), 3) := by decide +kernel
theorem dX8_isKept_213 : decode cX8_isKept 213 = .ok (.iinc 7 1, 3) := by decide +kernel
theorem dX8_isKept_216 : decode cX8_isKept 216 = .ok (.goto (-187), 3) := by decide +kernel
theorem dX8_isKept_219 : decode cX8_isKept 219 = .ok (.iload 6, 2) := by decide +kernel
theorem dX8_isKept_221 : decode cX8_isKept 221 = .ok (.ireturn, 1) := by decide +kernel
theorem dX8_faultsOf_0 : decode cX8_faultsOf 0 = .ok (.iconst 0, 1) := by decide +kernel
theorem dX8_faultsOf_1 : decode cX8_faultsOf 1 = .ok (.istore_n 2, 1) := by decide +kernel
theorem dX8_faultsOf_2 : decode cX8_faultsOf 2 = .ok (.iconst 0, 1) := by decide +kernel
theorem dX8_faultsOf_3 : decode cX8_faultsOf 3 = .ok (.istore_n 3, 1) := by decide +kernel
theorem dX8_faultsOf_4 : decode cX8_faultsOf 4 = .ok (.iload_n 3, 1) := by decide +kernel
theorem dX8_faultsOf_5 : decode cX8_faultsOf 5 = .ok (.aload_n 0, 1) := by decide +kernel
theorem dX8_faultsOf_6 : decode cX8_faultsOf 6 = .ok (.getfield 153, 3) := by decide +kernel
theorem dX8_faultsOf_9 : decode cX8_faultsOf 9 = .ok (.if_icmp .ge 26, 3) := by decide +kernel
theorem dX8_faultsOf_12 : decode cX8_faultsOf 12 = .ok (.iload_n 2, 1) := by decide +kernel
theorem dX8_faultsOf_13 : decode cX8_faultsOf 13 = .ok (.aload_n 0, 1) := by decide +kernel
theorem dX8_faultsOf_14 : decode cX8_faultsOf 14 = .ok (.iload_n 1, 1) := by decide +kernel
theorem dX8_faultsOf_15 : decode cX8_faultsOf 15 = .ok (.iload_n 3, 1) := by decide +kernel
theorem dX8_faultsOf_16 : decode cX8_faultsOf 16 = .ok (.invokevirtual 159, 3) := by decide +kernel
theorem dX8_faultsOf_19 : decode cX8_faultsOf 19 = .ok (.ifCond .eq 7, 3) := by decide +kernel
theorem dX8_faultsOf_22 : decode cX8_faultsOf 22 = .ok (.iconst 0, 1) := by decide +kernel
theorem dX8_faultsOf_23 : decode cX8_faultsOf 23 = .ok (.goto 4, 3) := by decide +kernel
theorem dX8_faultsOf_26 : decode cX8_faultsOf 26 = .ok (.iconst 1, 1) := by decide +kernel
theorem dX8_faultsOf_27 : decode cX8_faultsOf 27 = .ok (.iadd, 1) := by decide +kernel
theorem dX8_faultsOf_28 : decode cX8_faultsOf 28 = .ok (.istore_n 2, 1) := by decide +kernel
theorem dX8_faultsOf_29 : decode cX8_faultsOf 29 = .ok (.iinc 3 1, 3) := by decide +kernel
theorem dX8_faultsOf_32 : decode cX8_faultsOf 32 = .ok (.goto (-28), 3) := by decide +kernel
theorem dX8_faultsOf_35 : decode cX8_faultsOf 35 = .ok (.iload_n 2, 1) := by decide +kernel
theorem dX8_faultsOf_36 : decode cX8_faultsOf 36 = .ok (.ireturn, 1) := by decide +kernel
theorem dX8_isThere_0 : decode cX8_isThere 0 = .ok (.aload_n 0, 1) := by decide +kernel
theorem dX8_isThere_1 : decode cX8_isThere 1 = .ok (.aload_n 0, 1) := by decide +kernel
theorem dX8_isThere_2 : decode cX8_isThere 2 = .ok (.iload_n 1, 1) := by decide +kernel
theorem dX8_isThere_3 : decode cX8_isThere 3 = .ok (.invokevirtual 143, 3) := by decide +kernel
theorem dX8_isThere_6 : decode cX8_isThere 6 = .ok (.iconst (-1), 1) := by decide +kernel
theorem dX8_isThere_7 : decode cX8_isThere 7 = .ok (.if_icmp .eq 7, 3) := by decide +kernel
theorem dX8_isThere_10 : decode cX8_isThere 10 = .ok (.iconst 0, 1) := by decide +kernel
theorem dX8_isThere_11 : decode cX8_isThere 11 = .ok (.goto 4, 3) := by decide +kernel
theorem dX8_isThere_14 : decode cX8_isThere 14 = .ok (.iconst 1, 1) := by decide +kernel
theorem dX8_isThere_15 : decode cX8_isThere 15 = .ok (.putfield 53, 3) := by decide +kernel
theorem dX8_isThere_18 : decode cX8_isThere 18 = .ok (.aload_n 0, 1) := by decide +kernel
theorem dX8_isThere_19 : decode cX8_isThere 19 = .ok (.getfield 53, 3) := by decide +kernel
theorem dX8_isThere_22 : decode cX8_isThere 22 = .ok (.ifCond .ne 7, 3) := by decide +kernel
theorem dX8_isThere_25 : decode cX8_isThere 25 = .ok (.iconst 1, 1) := by decide +kernel
theorem dX8_isThere_26 : decode cX8_isThere 26 = .ok (.goto 4, 3) := by decide +kernel
theorem dX8_isThere_29 : decode cX8_isThere 29 = .ok (.iconst 0, 1) := by decide +kernel
theorem dX8_isThere_30 : decode cX8_isThere 30 = .ok (.ireturn, 1) := by decide +kernel
theorem dX8_faults_0 : decode cX8_faults 0 = .ok (.aload_n 0, 1) := by decide +kernel
theorem dX8_faults_1 : decode cX8_faults 1 = .ok (.iload_n 1, 1) := by decide +kernel
theorem dX8_faults_2 : decode cX8_faults 2 = .ok (.invokevirtual 162, 3) := by decide +kernel
theorem dX8_faults_5 : decode cX8_faults 5 = .ok (.ifCond .eq 15, 3) := by decide +kernel
theorem dX8_faults_8 : decode cX8_faults 8 = .ok (.aload_n 0, 1) := by decide +kernel
theorem dX8_faults_9 : decode cX8_faults 9 = .ok (.aload_n 0, 1) := by decide +kernel
theorem dX8_faults_10 : decode cX8_faults 10 = .ok (.iload_n 1, 1) := by decide +kernel
theorem dX8_faults_11 : decode cX8_faults 11 = .ok (.invokevirtual 143, 3) := by decide +kernel
theorem dX8_faults_14 : decode cX8_faults 14 = .ok (.invokevirtual 165, 3) := by decide +kernel
theorem dX8_faults_17 : decode cX8_faults 17 = .ok (.goto 4, 3) := by decide +kernel
theorem dX8_faults_20 : decode cX8_faults 20 = .ok (.iconst 0, 1) := by decide +kernel
theorem dX8_faults_21 : decode cX8_faults 21 = .ok (.ireturn, 1) := by decide +kernel
theorem dX8_commit_0 : decode cX8_commit 0 = .ok (.aload_n 0, 1) := by decide +kernel
theorem dX8_commit_1 : decode cX8_commit 1 = .ok (.iload_n 1, 1) := by decide +kernel
theorem dX8_commit_2 : decode cX8_commit 2 = .ok (.invokestatic 88, 3) := by decide +kernel
theorem dX8_commit_5 : decode cX8_commit 5 = .ok (.ifCond .ne 7, 3) := by decide +kernel
theorem dX8_commit_8 : decode cX8_commit 8 = .ok (.iconst 1, 1) := by decide +kernel
theorem dX8_commit_9 : decode cX8_commit 9 = .ok (.goto 50, 3) := by decide +kernel
theorem dX8_commit_12 : decode cX8_commit 12 = .ok (.iload_n 2, 1) := by decide +kernel
theorem dX8_commit_13 : decode cX8_commit 13 = .ok (.iconst 0, 1) := by decide +kernel
theorem dX8_commit_14 : decode cX8_commit 14 = .ok (.bipush 100, 2) := by decide +kernel
theorem dX8_commit_16 : decode cX8_commit 16 = .ok (.invokestatic 77, 3) := by decide +kernel
theorem dX8_commit_19 : decode cX8_commit 19 = .ok (.ifCond .ne 7, 3) := by decide +kernel
theorem dX8_commit_22 : decode cX8_commit 22 = .ok (.iconst 2, 1) := by decide +kernel
theorem dX8_commit_23 : decode cX8_commit 23 = .ok (.goto 36, 3) := by decide +kernel
theorem dX8_commit_26 : decode cX8_commit 26 = .ok (.aload_n 0, 1) := by decide +kernel
theorem dX8_commit_27 : decode cX8_commit 27 = .ok (.getfield 13, 3) := by decide +kernel
theorem dX8_commit_30 : decode cX8_commit 30 = .ok (.iload_n 1, 1) := by decide +kernel
theorem dX8_commit_31 : decode cX8_commit 31 = .ok (.iaload, 1) := by decide +kernel
theorem dX8_commit_32 : decode cX8_commit 32 = .ok (.ifCond .eq 22, 3) := by decide +kernel
theorem dX8_commit_35 : decode cX8_commit 35 = .ok (.aload_n 0, 1) := by decide +kernel
theorem dX8_commit_36 : decode cX8_commit 36 = .ok (.getfield 19, 3) := by decide +kernel
theorem dX8_commit_39 : decode cX8_commit 39 = .ok (.iconst (-1), 1) := by decide +kernel
theorem dX8_commit_40 : decode cX8_commit 40 = .ok (.if_icmp .ne 14, 3) := by decide +kernel
theorem dX8_commit_43 : decode cX8_commit 43 = .ok (.aload_n 0, 1) := by decide +kernel
theorem dX8_commit_44 : decode cX8_commit 44 = .ok (.getfield 81, 3) := by decide +kernel
theorem dX8_commit_47 : decode cX8_commit 47 = .ok (.iconst 1, 1) := by decide +kernel
theorem dX8_commit_48 : decode cX8_commit 48 = .ok (.iadd, 1) := by decide +kernel
theorem dX8_commit_49 : decode cX8_commit 49 = .ok (.bipush 29, 2) := by decide +kernel
theorem dX8_commit_51 : decode cX8_commit 51 = .ok (.if_icmp .lt 7, 3) := by decide +kernel
theorem dX8_commit_54 : decode cX8_commit 54 = .ok (.iconst 3, 1) := by decide +kernel
theorem dX8_commit_55 : decode cX8_commit 55 = .ok (.goto 4, 3) := by decide +kernel
theorem dX8_commit_58 : decode cX8_commit 58 = .ok (.iconst 0, 1) := by decide +kernel
theorem dX8_commit_59 : decode cX8_commit 59 = .ok (.putfield 53, 3) := by decide +kernel
theorem dX8_commit_62 : decode cX8_commit 62 = .ok (.aload_n 0, 1) := by decide +kernel
theorem dX8_commit_63 : decode cX8_commit 63 = .ok (.getfield 53, 3) := by decide +kernel
theorem dX8_commit_66 : decode cX8_commit 66 = .ok (.ifCond .le 5, 3) := by decide +kernel
theorem dX8_commit_69 : decode cX8_commit 69 = .ok (.iconst 0, 1) := by decide +kernel
theorem dX8_commit_70 : decode cX8_commit 70 = .ok (.ireturn, 1) := by decide +kernel
theorem dX8_commit_71 : decode cX8_commit 71 = .ok (.aload_n 0, 1) := by decide +kernel
theorem dX8_commit_72 : decode cX8_commit 72 = .ok (.iconst 3, 1) := by decide +kernel
theorem dX8_commit_73 : decode cX8_commit 73 = .ok (.aload_n 0, 1) := by decide +kernel
theorem dX8_commit_74 : decode cX8_commit 74 = .ok (.getfield 16, 3) := by decide +kernel
theorem dX8_commit_77 : decode cX8_commit 77 = .ok (.iload_n 1, 1) := by decide +kernel
theorem dX8_commit_78 : decode cX8_commit 78 = .ok (.iaload, 1) := by decide +kernel
theorem dX8_commit_79 : decode cX8_commit 79 = .ok (.iadd, 1) := by decide +kernel
theorem dX8_commit_80 : decode cX8_commit 80 = .ok (.iload_n 1, 1) := by decide +kernel
theorem dX8_commit_81 : decode cX8_commit 81 = .ok (.invokevirtual 146, 3) := by decide +kernel
theorem dX8_commit_84 : decode cX8_commit 84 = .ok (.aload_n 0, 1) := by decide +kernel
theorem dX8_commit_85 : decode cX8_commit 85 = .ok (.iconst 3, 1) := by decide +kernel
theorem dX8_commit_86 : decode cX8_commit 86 = .ok (.aload_n 0, 1) := by decide +kernel
theorem dX8_commit_87 : decode cX8_commit 87 = .ok (.getfield 81, 3) := by decide +kernel
theorem dX8_commit_90 : decode cX8_commit 90 = .ok (.iadd, 1) := by decide +kernel
theorem dX8_commit_91 : decode cX8_commit 91 = .ok (.bipush 34, 2) := by decide +kernel
theorem dX8_commit_93 : decode cX8_commit 93 = .ok (.invokevirtual 91, 3) := by decide +kernel
theorem dX8_commit_96 : decode cX8_commit 96 = .ok (.aload_n 0, 1) := by decide +kernel
theorem dX8_commit_97 : decode cX8_commit 97 = .ok (.iconst 0, 1) := by decide +kernel
theorem dX8_commit_98 : decode cX8_commit 98 = .ok (.iconst 1, 1) := by decide +kernel
theorem dX8_commit_99 : decode cX8_commit 99 = .ok (.invokevirtual 149, 3) := by decide +kernel
theorem dX8_commit_102 : decode cX8_commit 102 = .ok (.ifCond .eq 12, 3) := by decide +kernel
theorem dX8_commit_105 : decode cX8_commit 105 = .ok (.aload_n 0, 1) := by decide +kernel
theorem dX8_commit_106 : decode cX8_commit 106 = .ok (.bipush 34, 2) := by decide +kernel
theorem dX8_commit_108 : decode cX8_commit 108 = .ok (.invokevirtual 165, 3) := by decide +kernel
theorem dX8_commit_111 : decode cX8_commit 111 = .ok (.ifCond .le 9, 3) := by decide +kernel
theorem dX8_commit_114 : decode cX8_commit 114 = .ok (.aload_n 0, 1) := by decide +kernel
theorem dX8_commit_115 : decode cX8_commit 115 = .ok (.iconst 3, 1) := by decide +kernel
theorem dX8_commit_116 : decode cX8_commit 116 = .ok (.invokevirtual 102, 3) := by decide +kernel
theorem dX8_commit_119 : decode cX8_commit 119 = .ok (.ireturn, 1) := by decide +kernel
theorem dX8_commit_120 : decode cX8_commit 120 = .ok (.aload_n 0, 1) := by decide +kernel
theorem dX8_commit_121 : decode cX8_commit 121 = .ok (.dup, 1) := by decide +kernel
theorem dX8_commit_122 : decode cX8_commit 122 = .ok (.getfield 81, 3) := by decide +kernel
theorem dX8_commit_125 : decode cX8_commit 125 = .ok (.iconst 1, 1) := by decide +kernel
theorem dX8_commit_126 : decode cX8_commit 126 = .ok (.iadd, 1) := by decide +kernel
theorem dX8_commit_127 : decode cX8_commit 127 = .ok (.putfield 81, 3) := by decide +kernel
theorem dX8_commit_130 : decode cX8_commit 130 = .ok (.aload_n 0, 1) := by decide +kernel
theorem dX8_commit_131 : decode cX8_commit 131 = .ok (.bipush 34, 2) := by decide +kernel
theorem dX8_commit_133 : decode cX8_commit 133 = .ok (.iconst 3, 1) := by decide +kernel
theorem dX8_commit_134 : decode cX8_commit 134 = .ok (.aload_n 0, 1) := by decide +kernel
theorem dX8_commit_135 : decode cX8_commit 135 = .ok (.getfield 81, 3) := by decide +kernel
theorem dX8_commit_138 : decode cX8_commit 138 = .ok (.iadd, 1) := by decide +kernel
theorem dX8_commit_139 : decode cX8_commit 139 = .ok (.invokevirtual 91, 3) := by decide +kernel
theorem dX8_commit_142 : decode cX8_commit 142 = .ok (.aload_n 0, 1) := by decide +kernel
theorem dX8_commit_143 : decode cX8_commit 143 = .ok (.getfield 13, 3) := by decide +kernel
theorem dX8_commit_146 : decode cX8_commit 146 = .ok (.iload_n 1, 1) := by decide +kernel
theorem dX8_commit_147 : decode cX8_commit 147 = .ok (.iconst 0, 1) := by decide +kernel
theorem dX8_commit_148 : decode cX8_commit 148 = .ok (.iastore, 1) := by decide +kernel
theorem dX8_commit_149 : decode cX8_commit 149 = .ok (.aload_n 0, 1) := by decide +kernel
theorem dX8_commit_150 : decode cX8_commit 150 = .ok (.iload_n 2, 1) := by decide +kernel
theorem dX8_commit_151 : decode cX8_commit 151 = .ok (.ifCond .ne 7, 3) := by decide +kernel
theorem dX8_commit_154 : decode cX8_commit 154 = .ok (.iconst (-1), 1) := by decide +kernel
theorem dX8_commit_155 : decode cX8_commit 155 = .ok (.goto 4, 3) := by decide +kernel
theorem dX8_commit_158 : decode cX8_commit 158 = .ok (.iload_n 2, 1) := by decide +kernel
theorem dX8_commit_159 : decode cX8_commit 159 = .ok (.putfield 19, 3) := by decide +kernel
theorem dX8_commit_162 : decode cX8_commit 162 = .ok (.aload_n 0, 1) := by decide +kernel
theorem dX8_commit_163 : decode cX8_commit 163 = .ok (.getfield 81, 3) := by decide +kernel
theorem dX8_commit_166 : decode cX8_commit 166 = .ok (.ireturn, 1) := by decide +kernel
theorem dX8_confirm_0 : decode cX8_confirm 0 = .ok (.aload_n 0, 1) := by decide +kernel
theorem dX8_confirm_1 : decode cX8_confirm 1 = .ok (.aload_n 0, 1) := by decide +kernel
theorem dX8_confirm_2 : decode cX8_confirm 2 = .ok (.getfield 19, 3) := by decide +kernel
theorem dX8_confirm_5 : decode cX8_confirm 5 = .ok (.iconst (-1), 1) := by decide +kernel
theorem dX8_confirm_6 : decode cX8_confirm 6 = .ok (.if_icmp .ne 7, 3) := by decide +kernel
theorem dX8_confirm_9 : decode cX8_confirm 9 = .ok (.iconst 1, 1) := by decide +kernel
theorem dX8_confirm_10 : decode cX8_confirm 10 = .ok (.goto 4, 3) := by decide +kernel
theorem dX8_confirm_13 : decode cX8_confirm 13 = .ok (.iconst 0, 1) := by decide +kernel
theorem dX8_confirm_14 : decode cX8_confirm 14 = .ok (.putfield 53, 3) := by decide +kernel
theorem dX8_confirm_17 : decode cX8_confirm 17 = .ok (.aload_n 0, 1) := by decide +kernel
theorem dX8_confirm_18 : decode cX8_confirm 18 = .ok (.getfield 19, 3) := by decide +kernel
theorem dX8_confirm_21 : decode cX8_confirm 21 = .ok (.istore_n 1, 1) := by decide +kernel
theorem dX8_confirm_22 : decode cX8_confirm 22 = .ok (.aload_n 0, 1) := by decide +kernel
theorem dX8_confirm_23 : decode cX8_confirm 23 = .ok (.iconst (-1), 1) := by decide +kernel
theorem dX8_confirm_24 : decode cX8_confirm 24 = .ok (.putfield 19, 3) := by decide +kernel
theorem dX8_confirm_27 : decode cX8_confirm 27 = .ok (.aload_n 0, 1) := by decide +kernel
theorem dX8_confirm_28 : decode cX8_confirm 28 = .ok (.getfield 53, 3) := by decide +kernel
theorem dX8_confirm_31 : decode cX8_confirm 31 = .ok (.ifCond .ne 7, 3) := by decide +kernel
theorem dX8_confirm_34 : decode cX8_confirm 34 = .ok (.iload_n 1, 1) := by decide +kernel
theorem dX8_confirm_35 : decode cX8_confirm 35 = .ok (.goto 4, 3) := by decide +kernel
theorem dX8_confirm_38 : decode cX8_confirm 38 = .ok (.iconst 0, 1) := by decide +kernel
theorem dX8_confirm_39 : decode cX8_confirm 39 = .ok (.ireturn, 1) := by decide +kernel
theorem dX8_advance_0 : decode cX8_advance 0 = .ok (.aload_n 0, 1) := by decide +kernel
theorem dX8_advance_1 : decode cX8_advance 1 = .ok (.iload_n 1, 1) := by decide +kernel
theorem dX8_advance_2 : decode cX8_advance 2 = .ok (.iconst 1, 1) := by decide +kernel
theorem dX8_advance_3 : decode cX8_advance 3 = .ok (.bipush 100, 2) := by decide +kernel
theorem dX8_advance_5 : decode cX8_advance 5 = .ok (.invokestatic 77, 3) := by decide +kernel
theorem dX8_advance_8 : decode cX8_advance 8 = .ok (.ifCond .eq 7, 3) := by decide +kernel
theorem dX8_advance_11 : decode cX8_advance 11 = .ok (.iconst 0, 1) := by decide +kernel
theorem dX8_advance_12 : decode cX8_advance 12 = .ok (.goto 4, 3) := by decide +kernel
theorem dX8_advance_15 : decode cX8_advance 15 = .ok (.iconst 1, 1) := by decide +kernel
theorem dX8_advance_16 : decode cX8_advance 16 = .ok (.putfield 53, 3) := by decide +kernel
theorem dX8_advance_19 : decode cX8_advance 19 = .ok (.aload_n 0, 1) := by decide +kernel
theorem dX8_advance_20 : decode cX8_advance 20 = .ok (.getfield 53, 3) := by decide +kernel
theorem dX8_advance_23 : decode cX8_advance 23 = .ok (.ifCond .le 5, 3) := by decide +kernel
theorem dX8_advance_26 : decode cX8_advance 26 = .ok (.iconst 0, 1) := by decide +kernel
theorem dX8_advance_27 : decode cX8_advance 27 = .ok (.ireturn, 1) := by decide +kernel
theorem dX8_advance_28 : decode cX8_advance 28 = .ok (.aload_n 0, 1) := by decide +kernel
theorem dX8_advance_29 : decode cX8_advance 29 = .ok (.getfield 19, 3) := by decide +kernel
theorem dX8_advance_32 : decode cX8_advance 32 = .ok (.iconst (-1), 1) := by decide +kernel
theorem dX8_advance_33 : decode cX8_advance 33 = .ok (.if_icmp .eq 47, 3) := by decide +kernel
theorem dX8_advance_36 : decode cX8_advance 36 = .ok (.aload_n 0, 1) := by decide +kernel
theorem dX8_advance_37 : decode cX8_advance 37 = .ok (.getfield 19, 3) := by decide +kernel
theorem dX8_advance_40 : decode cX8_advance 40 = .ok (.iload_n 1, 1) := by decide +kernel
theorem dX8_advance_41 : decode cX8_advance 41 = .ok (.if_icmp .gt 39, 3) := by decide +kernel
theorem dX8_advance_44 : decode cX8_advance 44 = .ok (.aload_n 0, 1) := by decide +kernel
theorem dX8_advance_45 : decode cX8_advance 45 = .ok (.iconst (-1), 1) := by decide +kernel
theorem dX8_advance_46 : decode cX8_advance 46 = .ok (.putfield 19, 3) := by decide +kernel
theorem dX8_advance_49 : decode cX8_advance 49 = .ok (.aload_n 0, 1) := by decide +kernel
theorem dX8_advance_50 : decode cX8_advance 50 = .ok (.dup, 1) := by decide +kernel
theorem dX8_advance_51 : decode cX8_advance 51 = .ok (.getfield 81, 3) := by decide +kernel
theorem dX8_advance_54 : decode cX8_advance 54 = .ok (.iconst 1, 1) := by decide +kernel
theorem dX8_advance_55 : decode cX8_advance 55 = .ok (.iadd, 1) := by decide +kernel
theorem dX8_advance_56 : decode cX8_advance 56 = .ok (.putfield 81, 3) := by decide +kernel
theorem dX8_advance_59 : decode cX8_advance 59 = .ok (.aload_n 0, 1) := by decide +kernel
theorem dX8_advance_60 : decode cX8_advance 60 = .ok (.iconst 3, 1) := by decide +kernel
theorem dX8_advance_61 : decode cX8_advance 61 = .ok (.aload_n 0, 1) := by decide +kernel
theorem dX8_advance_62 : decode cX8_advance 62 = .ok (.getfield 81, 3) := by decide +kernel
theorem dX8_advance_65 : decode cX8_advance 65 = .ok (.iadd, 1) := by decide +kernel
theorem dX8_advance_66 : decode cX8_advance 66 = .ok (.iconst 2, 1) := by decide +kernel
theorem dX8_advance_67 : decode cX8_advance 67 = .ok (.isub, 1) := by decide +kernel
theorem dX8_advance_68 : decode cX8_advance 68 = .ok (.iconst 3, 1) := by decide +kernel
theorem dX8_advance_69 : decode cX8_advance 69 = .ok (.aload_n 0, 1) := by decide +kernel
theorem dX8_advance_70 : decode cX8_advance 70 = .ok (.getfield 81, 3) := by decide +kernel
theorem dX8_advance_73 : decode cX8_advance 73 = .ok (.iadd, 1) := by decide +kernel
theorem dX8_advance_74 : decode cX8_advance 74 = .ok (.invokevirtual 91, 3) := by decide +kernel
theorem dX8_advance_77 : decode cX8_advance 77 = .ok (.goto 21, 3) := by decide +kernel
theorem dX8_advance_80 : decode cX8_advance 80 = .ok (.aload_n 0, 1) := by decide +kernel
theorem dX8_advance_81 : decode cX8_advance 81 = .ok (.getfield 19, 3) := by decide +kernel
theorem dX8_advance_84 : decode cX8_advance 84 = .ok (.iconst (-1), 1) := by decide +kernel
theorem dX8_advance_85 : decode cX8_advance 85 = .ok (.if_icmp .eq 13, 3) := by decide +kernel
theorem dX8_advance_88 : decode cX8_advance 88 = .ok (.aload_n 0, 1) := by decide +kernel
theorem dX8_advance_89 : decode cX8_advance 89 = .ok (.dup, 1) := by decide +kernel
theorem dX8_advance_90 : decode cX8_advance 90 = .ok (.getfield 19, 3) := by decide +kernel
theorem dX8_advance_93 : decode cX8_advance 93 = .ok (.iload_n 1, 1) := by decide +kernel
theorem dX8_advance_94 : decode cX8_advance 94 = .ok (.isub, 1) := by decide +kernel
theorem dX8_advance_95 : decode cX8_advance 95 = .ok (.putfield 19, 3) := by decide +kernel
theorem dX8_advance_98 : decode cX8_advance 98 = .ok (.aload_n 0, 1) := by decide +kernel
theorem dX8_advance_99 : decode cX8_advance 99 = .ok (.getfield 81, 3) := by decide +kernel
theorem dX8_advance_102 : decode cX8_advance 102 = .ok (.ireturn, 1) := by decide +kernel
theorem dX8_running_0 : decode cX8_running 0 = .ok (.aload_n 0, 1) := by decide +kernel
theorem dX8_running_1 : decode cX8_running 1 = .ok (.iconst 0, 1) := by decide +kernel
theorem dX8_running_2 : decode cX8_running 2 = .ok (.putfield 53, 3) := by decide +kernel
theorem dX8_running_5 : decode cX8_running 5 = .ok (.aload_n 0, 1) := by decide +kernel
theorem dX8_running_6 : decode cX8_running 6 = .ok (.getfield 81, 3) := by decide +kernel
theorem dX8_running_9 : decode cX8_running 9 = .ok (.ireturn, 1) := by decide +kernel
theorem dX8_waiting_0 : decode cX8_waiting 0 = .ok (.aload_n 0, 1) := by decide +kernel
theorem dX8_waiting_1 : decode cX8_waiting 1 = .ok (.iconst 0, 1) := by decide +kernel
theorem dX8_waiting_2 : decode cX8_waiting 2 = .ok (.putfield 53, 3) := by decide +kernel
theorem dX8_waiting_5 : decode cX8_waiting 5 = .ok (.aload_n 0, 1) := by decide +kernel
theorem dX8_waiting_6 : decode cX8_waiting 6 = .ok (.getfield 19, 3) := by decide +kernel
theorem dX8_waiting_9 : decode cX8_waiting 9 = .ok (.ireturn, 1) := by decide +kernel
theorem dX8_size_0 : decode cX8_size 0 = .ok (.aload_n 0, 1) := by decide +kernel
theorem dX8_size_1 : decode cX8_size 1 = .ok (.aload_n 0, 1) := by decide +kernel
theorem dX8_size_2 : decode cX8_size 2 = .ok (.iload_n 1, 1) := by decide +kernel
theorem dX8_size_3 : decode cX8_size 3 = .ok (.invokevirtual 143, 3) := by decide +kernel
theorem dX8_size_6 : decode cX8_size 6 = .ok (.iconst (-1), 1) := by decide +kernel
theorem dX8_size_7 : decode cX8_size 7 = .ok (.if_icmp .eq 14, 3) := by decide +kernel
theorem dX8_size_10 : decode cX8_size 10 = .ok (.iload_n 2, 1) := by decide +kernel
theorem dX8_size_11 : decode cX8_size 11 = .ok (.invokestatic 84, 3) := by decide +kernel
theorem dX8_size_14 : decode cX8_size 14 = .ok (.ifCond .eq 7, 3) := by decide +kernel
theorem dX8_size_17 : decode cX8_size 17 = .ok (.iconst 0, 1) := by decide +kernel
theorem dX8_size_18 : decode cX8_size 18 = .ok (.goto 4, 3) := by decide +kernel
theorem dX8_size_21 : decode cX8_size 21 = .ok (.iconst 1, 1) := by decide +kernel
theorem dX8_size_22 : decode cX8_size 22 = .ok (.putfield 53, 3) := by decide +kernel
theorem dX8_size_25 : decode cX8_size 25 = .ok (.aload_n 0, 1) := by decide +kernel
theorem dX8_size_26 : decode cX8_size 26 = .ok (.getfield 53, 3) := by decide +kernel
theorem dX8_size_29 : decode cX8_size 29 = .ok (.ifCond .ne 16, 3) := by decide +kernel
theorem dX8_size_32 : decode cX8_size 32 = .ok (.aload_n 0, 1) := by decide +kernel
theorem dX8_size_33 : decode cX8_size 33 = .ok (.aload_n 0, 1) := by decide +kernel
theorem dX8_size_34 : decode cX8_size 34 = .ok (.iload_n 1, 1) := by decide +kernel
theorem dX8_size_35 : decode cX8_size 35 = .ok (.invokevirtual 143, 3) := by decide +kernel
theorem dX8_size_38 : decode cX8_size 38 = .ok (.iload_n 2, 1) := by decide +kernel
theorem dX8_size_39 : decode cX8_size 39 = .ok (.invokevirtual 57, 3) := by decide +kernel
theorem dX8_size_42 : decode cX8_size 42 = .ok (.goto 4, 3) := by decide +kernel
theorem dX8_size_45 : decode cX8_size 45 = .ok (.iconst 0, 1) := by decide +kernel
theorem dX8_size_46 : decode cX8_size 46 = .ok (.ireturn, 1) := by decide +kernel
theorem dX8_isEntry_0 : decode cX8_isEntry 0 = .ok (.aload_n 0, 1) := by decide +kernel
theorem dX8_isEntry_1 : decode cX8_isEntry 1 = .ok (.aload_n 0, 1) := by decide +kernel
theorem dX8_isEntry_2 : decode cX8_isEntry 2 = .ok (.iload_n 1, 1) := by decide +kernel
theorem dX8_isEntry_3 : decode cX8_isEntry 3 = .ok (.invokevirtual 143, 3) := by decide +kernel
theorem dX8_isEntry_6 : decode cX8_isEntry 6 = .ok (.iconst (-1), 1) := by decide +kernel
theorem dX8_isEntry_7 : decode cX8_isEntry 7 = .ok (.if_icmp .eq 34, 3) := by decide +kernel
theorem dX8_isEntry_10 : decode cX8_isEntry 10 = .ok (.iload_n 2, 1) := by decide +kernel
theorem dX8_isEntry_11 : decode cX8_isEntry 11 = .ok (.invokestatic 84, 3) := by decide +kernel
theorem dX8_isEntry_14 : decode cX8_isEntry 14 = .ok (.ifCond .eq 27, 3) := by decide +kernel
theorem dX8_isEntry_17 : decode cX8_isEntry 17 = .ok (.iload_n 3, 1) := by decide +kernel
theorem dX8_isEntry_18 : decode cX8_isEntry 18 = .ok (.iconst 0, 1) := by decide +kernel
theorem dX8_isEntry_19 : decode cX8_isEntry 19 = .ok (.aload_n 0, 1) := by decide +kernel
theorem dX8_isEntry_20 : decode cX8_isEntry 20 = .ok (.aload_n 0, 1) := by decide +kernel
theorem dX8_isEntry_21 : decode cX8_isEntry 21 = .ok (.iload_n 1, 1) := by decide +kernel
theorem dX8_isEntry_22 : decode cX8_isEntry 22 = .ok (.invokevirtual 143, 3) := by decide +kernel
theorem dX8_isEntry_25 : decode cX8_isEntry 25 = .ok (.iload_n 2, 1) := by decide +kernel
theorem dX8_isEntry_26 : decode cX8_isEntry 26 = .ok (.invokevirtual 57, 3) := by decide +kernel
theorem dX8_isEntry_29 : decode cX8_isEntry 29 = .ok (.iconst 1, 1) := by decide +kernel
theorem dX8_isEntry_30 : decode cX8_isEntry 30 = .ok (.isub, 1) := by decide +kernel
theorem dX8_isEntry_31 : decode cX8_isEntry 31 = .ok (.invokestatic 77, 3) := by decide +kernel
theorem dX8_isEntry_34 : decode cX8_isEntry 34 = .ok (.ifCond .eq 7, 3) := by decide +kernel
theorem dX8_isEntry_37 : decode cX8_isEntry 37 = .ok (.iconst 0, 1) := by decide +kernel
theorem dX8_isEntry_38 : decode cX8_isEntry 38 = .ok (.goto 4, 3) := by decide +kernel
theorem dX8_isEntry_41 : decode cX8_isEntry 41 = .ok (.iconst 1, 1) := by decide +kernel
theorem dX8_isEntry_42 : decode cX8_isEntry 42 = .ok (.putfield 53, 3) := by decide +kernel
theorem dX8_isEntry_45 : decode cX8_isEntry 45 = .ok (.aload_n 0, 1) := by decide +kernel
theorem dX8_isEntry_46 : decode cX8_isEntry 46 = .ok (.getfield 53, 3) := by decide +kernel
theorem dX8_isEntry_49 : decode cX8_isEntry 49 = .ok (.ifCond .ne 7, 3) := by decide +kernel
theorem dX8_isEntry_52 : decode cX8_isEntry 52 = .ok (.iconst 1, 1) := by decide +kernel
theorem dX8_isEntry_53 : decode cX8_isEntry 53 = .ok (.goto 4, 3) := by decide +kernel
theorem dX8_isEntry_56 : decode cX8_isEntry 56 = .ok (.iconst 0, 1) := by decide +kernel
theorem dX8_isEntry_57 : decode cX8_isEntry 57 = .ok (.ireturn, 1) := by decide +kernel
theorem dX8_keyAt_0 : decode cX8_keyAt 0 = .ok (.aload_n 0, 1) := by decide +kernel
theorem dX8_keyAt_1 : decode cX8_keyAt 1 = .ok (.iload_n 1, 1) := by decide +kernel
theorem dX8_keyAt_2 : decode cX8_keyAt 2 = .ok (.iload_n 2, 1) := by decide +kernel
theorem dX8_keyAt_3 : decode cX8_keyAt 3 = .ok (.iload_n 3, 1) := by decide +kernel
theorem dX8_keyAt_4 : decode cX8_keyAt 4 = .ok (.invokevirtual 168, 3) := by decide +kernel
theorem dX8_keyAt_7 : decode cX8_keyAt 7 = .ok (.ifCond .eq 24, 3) := by decide +kernel
theorem dX8_keyAt_10 : decode cX8_keyAt 10 = .ok (.aload_n 0, 1) := by decide +kernel
theorem dX8_keyAt_11 : decode cX8_keyAt 11 = .ok (.getfield 7, 3) := by decide +kernel
theorem dX8_keyAt_14 : decode cX8_keyAt 14 = .ok (.aload_n 0, 1) := by decide +kernel
theorem dX8_keyAt_15 : decode cX8_keyAt 15 = .ok (.iload_n 1, 1) := by decide +kernel
theorem dX8_keyAt_16 : decode cX8_keyAt 16 = .ok (.invokevirtual 143, 3) := by decide +kernel
theorem dX8_keyAt_19 : decode cX8_keyAt 19 = .ok (.iload_n 2, 1) := by decide +kernel
theorem dX8_keyAt_20 : decode cX8_keyAt 20 = .ok (.iload_n 3, 1) := by decide +kernel
theorem dX8_keyAt_21 : decode cX8_keyAt 21 = .ok (.invokestatic 61, 3) := by decide +kernel
theorem dX8_keyAt_24 : decode cX8_keyAt 24 = .ok (.iaload, 1) := by decide +kernel
theorem dX8_keyAt_25 : decode cX8_keyAt 25 = .ok (.invokestatic 65, 3) := by decide +kernel
theorem dX8_keyAt_28 : decode cX8_keyAt 28 = .ok (.goto 4, 3) := by decide +kernel
theorem dX8_keyAt_31 : decode cX8_keyAt 31 = .ok (.iconst 0, 1) := by decide +kernel
theorem dX8_keyAt_32 : decode cX8_keyAt 32 = .ok (.ireturn, 1) := by decide +kernel
theorem dX8_shown_0 : decode cX8_shown 0 = .ok (.aload_n 0, 1) := by decide +kernel
theorem dX8_shown_1 : decode cX8_shown 1 = .ok (.aload_n 0, 1) := by decide +kernel
theorem dX8_shown_2 : decode cX8_shown 2 = .ok (.iload_n 1, 1) := by decide +kernel
theorem dX8_shown_3 : decode cX8_shown 3 = .ok (.iload_n 2, 1) := by decide +kernel
theorem dX8_shown_4 : decode cX8_shown 4 = .ok (.iload_n 3, 1) := by decide +kernel
theorem dX8_shown_5 : decode cX8_shown 5 = .ok (.invokevirtual 168, 3) := by decide +kernel
theorem dX8_shown_8 : decode cX8_shown 8 = .ok (.ifCond .eq 15, 3) := by decide +kernel
theorem dX8_shown_11 : decode cX8_shown 11 = .ok (.iload 4, 2) := by decide +kernel
theorem dX8_shown_13 : decode cX8_shown 13 = .ok (.invokestatic 112, 3) := by decide +kernel
theorem dX8_shown_16 : decode cX8_shown 16 = .ok (.ifCond .eq 7, 3) := by decide +kernel
theorem dX8_shown_19 : decode cX8_shown 19 = .ok (.iconst 0, 1) := by decide +kernel
theorem dX8_shown_20 : decode cX8_shown 20 = .ok (.goto 4, 3) := by decide +kernel
theorem dX8_shown_23 : decode cX8_shown 23 = .ok (.iconst 1, 1) := by decide +kernel
theorem dX8_shown_24 : decode cX8_shown 24 = .ok (.putfield 53, 3) := by decide +kernel
theorem dX8_shown_27 : decode cX8_shown 27 = .ok (.aload_n 0, 1) := by decide +kernel
theorem dX8_shown_28 : decode cX8_shown 28 = .ok (.getfield 53, 3) := by decide +kernel
theorem dX8_shown_31 : decode cX8_shown 31 = .ok (.ifCond .ne 19, 3) := by decide +kernel
theorem dX8_shown_34 : decode cX8_shown 34 = .ok (.aload_n 0, 1) := by decide +kernel
theorem dX8_shown_35 : decode cX8_shown 35 = .ok (.aload_n 0, 1) := by decide +kernel
theorem dX8_shown_36 : decode cX8_shown 36 = .ok (.iload_n 1, 1) := by decide +kernel
theorem dX8_shown_37 : decode cX8_shown 37 = .ok (.invokevirtual 143, 3) := by decide +kernel
theorem dX8_shown_40 : decode cX8_shown 40 = .ok (.iload_n 2, 1) := by decide +kernel
theorem dX8_shown_41 : decode cX8_shown 41 = .ok (.iload_n 3, 1) := by decide +kernel
theorem dX8_shown_42 : decode cX8_shown 42 = .ok (.iload 4, 2) := by decide +kernel
theorem dX8_shown_44 : decode cX8_shown 44 = .ok (.invokevirtual 156, 3) := by decide +kernel
theorem dX8_shown_47 : decode cX8_shown 47 = .ok (.goto 4, 3) := by decide +kernel
theorem dX8_shown_50 : decode cX8_shown 50 = .ok (.iconst 0, 1) := by decide +kernel
theorem dX8_shown_51 : decode cX8_shown 51 = .ok (.ireturn, 1) := by decide +kernel
theorem dX8_own_0 : decode cX8_own 0 = .ok (.aload_n 0, 1) := by decide +kernel
theorem dX8_own_1 : decode cX8_own 1 = .ok (.iload_n 1, 1) := by decide +kernel
theorem dX8_own_2 : decode cX8_own 2 = .ok (.iload_n 2, 1) := by decide +kernel
theorem dX8_own_3 : decode cX8_own 3 = .ok (.iload_n 3, 1) := by decide +kernel
theorem dX8_own_4 : decode cX8_own 4 = .ok (.invokevirtual 168, 3) := by decide +kernel
theorem dX8_own_7 : decode cX8_own 7 = .ok (.ifCond .ne 5, 3) := by decide +kernel
theorem dX8_own_10 : decode cX8_own 10 = .ok (.iconst 0, 1) := by decide +kernel
theorem dX8_own_11 : decode cX8_own 11 = .ok (.ireturn, 1) := by decide +kernel
theorem dX8_own_12 : decode cX8_own 12 = .ok (.aload_n 0, 1) := by decide +kernel
theorem dX8_own_13 : decode cX8_own 13 = .ok (.getfield 7, 3) := by decide +kernel
theorem dX8_own_16 : decode cX8_own 16 = .ok (.aload_n 0, 1) := by decide +kernel
theorem dX8_own_17 : decode cX8_own 17 = .ok (.iload_n 1, 1) := by decide +kernel
theorem dX8_own_18 : decode cX8_own 18 = .ok (.invokevirtual 143, 3) := by decide +kernel
theorem dX8_own_21 : decode cX8_own 21 = .ok (.iload_n 2, 1) := by decide +kernel
theorem dX8_own_22 : decode cX8_own 22 = .ok (.iload_n 3, 1) := by decide +kernel
theorem dX8_own_23 : decode cX8_own 23 = .ok (.invokestatic 61, 3) := by decide +kernel
theorem dX8_own_26 : decode cX8_own 26 = .ok (.iaload, 1) := by decide +kernel
theorem dX8_own_27 : decode cX8_own 27 = .ok (.istore 4, 2) := by decide +kernel
theorem dX8_own_29 : decode cX8_own 29 = .ok (.sipush 10000, 3) := by decide +kernel
theorem dX8_own_32 : decode cX8_own 32 = .ok (.iload 4, 2) := by decide +kernel
theorem dX8_own_34 : decode cX8_own 34 = .ok (.iconst 0, 1) := by decide +kernel
theorem dX8_own_35 : decode cX8_own 35 = .ok (.invokestatic 115, 3) := by decide +kernel
theorem dX8_own_38 : decode cX8_own 38 = .ok (.imul, 1) := by decide +kernel
theorem dX8_own_39 : decode cX8_own 39 = .ok (.bipush 10, 2) := by decide +kernel
theorem dX8_own_41 : decode cX8_own 41 = .ok (.iload 4, 2) := by decide +kernel
theorem dX8_own_43 : decode cX8_own 43 = .ok (.iconst 1, 1) := by decide +kernel
theorem dX8_own_44 : decode cX8_own 44 = .ok (.invokestatic 115, 3) := by decide +kernel
theorem dX8_own_47 : decode cX8_own 47 = .ok (.imul, 1) := by decide +kernel
theorem dX8_own_48 : decode cX8_own 48 = .ok (.iadd, 1) := by decide +kernel
theorem dX8_own_49 : decode cX8_own 49 = .ok (.iload 4, 2) := by decide +kernel
theorem dX8_own_51 : decode cX8_own 51 = .ok (.invokestatic 121, 3) := by decide +kernel
theorem dX8_own_54 : decode cX8_own 54 = .ok (.iadd, 1) := by decide +kernel
theorem dX8_own_55 : decode cX8_own 55 = .ok (.ireturn, 1) := by decide +kernel
theorem dX8_areThere_0 : decode cX8_areThere 0 = .ok (.aload_n 0, 1) := by decide +kernel
theorem dX8_areThere_1 : decode cX8_areThere 1 = .ok (.aload_n 0, 1) := by decide +kernel
theorem dX8_areThere_2 : decode cX8_areThere 2 = .ok (.iload_n 1, 1) := by decide +kernel
theorem dX8_areThere_3 : decode cX8_areThere 3 = .ok (.invokevirtual 143, 3) := by decide +kernel
theorem dX8_areThere_6 : decode cX8_areThere 6 = .ok (.iconst (-1), 1) := by decide +kernel
theorem dX8_areThere_7 : decode cX8_areThere 7 = .ok (.if_icmp .eq 16, 3) := by decide +kernel
theorem dX8_areThere_10 : decode cX8_areThere 10 = .ok (.aload_n 0, 1) := by decide +kernel
theorem dX8_areThere_11 : decode cX8_areThere 11 = .ok (.iload_n 2, 1) := by decide +kernel
theorem dX8_areThere_12 : decode cX8_areThere 12 = .ok (.invokevirtual 143, 3) := by decide +kernel
theorem dX8_areThere_15 : decode cX8_areThere 15 = .ok (.iconst (-1), 1) := by decide +kernel
theorem dX8_areThere_16 : decode cX8_areThere 16 = .ok (.if_icmp .eq 7, 3) := by decide +kernel
theorem dX8_areThere_19 : decode cX8_areThere 19 = .ok (.iconst 0, 1) := by decide +kernel
theorem dX8_areThere_20 : decode cX8_areThere 20 = .ok (.goto 4, 3) := by decide +kernel
theorem dX8_areThere_23 : decode cX8_areThere 23 = .ok (.iconst 1, 1) := by decide +kernel
theorem dX8_areThere_24 : decode cX8_areThere 24 = .ok (.putfield 53, 3) := by decide +kernel
theorem dX8_areThere_27 : decode cX8_areThere 27 = .ok (.aload_n 0, 1) := by decide +kernel
theorem dX8_areThere_28 : decode cX8_areThere 28 = .ok (.getfield 53, 3) := by decide +kernel
theorem dX8_areThere_31 : decode cX8_areThere 31 = .ok (.ifCond .ne 7, 3) := by decide +kernel
theorem dX8_areThere_34 : decode cX8_areThere 34 = .ok (.iconst 1, 1) := by decide +kernel
theorem dX8_areThere_35 : decode cX8_areThere 35 = .ok (.goto 4, 3) := by decide +kernel
theorem dX8_areThere_38 : decode cX8_areThere 38 = .ok (.iconst 0, 1) := by decide +kernel
theorem dX8_areThere_39 : decode cX8_areThere 39 = .ok (.ireturn, 1) := by decide +kernel
theorem dX8_same_0 : decode cX8_same 0 = .ok (.aload_n 0, 1) := by decide +kernel
theorem dX8_same_1 : decode cX8_same 1 = .ok (.iload_n 1, 1) := by decide +kernel
theorem dX8_same_2 : decode cX8_same 2 = .ok (.iload_n 2, 1) := by decide +kernel
theorem dX8_same_3 : decode cX8_same 3 = .ok (.invokevirtual 171, 3) := by decide +kernel
theorem dX8_same_6 : decode cX8_same 6 = .ok (.ifCond .ne 5, 3) := by decide +kernel
theorem dX8_same_9 : decode cX8_same 9 = .ok (.iconst 0, 1) := by decide +kernel
theorem dX8_same_10 : decode cX8_same 10 = .ok (.ireturn, 1) := by decide +kernel
theorem dX8_same_11 : decode cX8_same 11 = .ok (.aload_n 0, 1) := by decide +kernel
theorem dX8_same_12 : decode cX8_same 12 = .ok (.aload_n 0, 1) := by decide +kernel
theorem dX8_same_13 : decode cX8_same 13 = .ok (.iload_n 1, 1) := by decide +kernel
theorem dX8_same_14 : decode cX8_same 14 = .ok (.invokevirtual 143, 3) := by decide +kernel
theorem dX8_same_17 : decode cX8_same 17 = .ok (.aload_n 0, 1) := by decide +kernel
theorem dX8_same_18 : decode cX8_same 18 = .ok (.iload_n 2, 1) := by decide +kernel
theorem dX8_same_19 : decode cX8_same 19 = .ok (.invokevirtual 143, 3) := by decide +kernel
theorem dX8_same_22 : decode cX8_same 22 = .ok (.invokevirtual 146, 3) := by decide +kernel
theorem dX8_same_25 : decode cX8_same 25 = .ok (.aload_n 0, 1) := by decide +kernel
theorem dX8_same_26 : decode cX8_same 26 = .ok (.getfield 130, 3) := by decide +kernel
theorem dX8_same_29 : decode cX8_same 29 = .ok (.ifCond .ne 7, 3) := by decide +kernel
theorem dX8_same_32 : decode cX8_same 32 = .ok (.iconst 1, 1) := by decide +kernel
theorem dX8_same_33 : decode cX8_same 33 = .ok (.goto 4, 3) := by decide +kernel
theorem dX8_same_36 : decode cX8_same 36 = .ok (.iconst 0, 1) := by decide +kernel
theorem dX8_same_37 : decode cX8_same 37 = .ok (.ireturn, 1) := by decide +kernel
theorem dX8_edits_0 : decode cX8_edits 0 = .ok (.aload_n 0, 1) := by decide +kernel
theorem dX8_edits_1 : decode cX8_edits 1 = .ok (.iload_n 1, 1) := by decide +kernel
theorem dX8_edits_2 : decode cX8_edits 2 = .ok (.iload_n 2, 1) := by decide +kernel
theorem dX8_edits_3 : decode cX8_edits 3 = .ok (.invokevirtual 171, 3) := by decide +kernel
theorem dX8_edits_6 : decode cX8_edits 6 = .ok (.ifCond .ne 5, 3) := by decide +kernel
theorem dX8_edits_9 : decode cX8_edits 9 = .ok (.iconst 0, 1) := by decide +kernel
theorem dX8_edits_10 : decode cX8_edits 10 = .ok (.ireturn, 1) := by decide +kernel
theorem dX8_edits_11 : decode cX8_edits 11 = .ok (.aload_n 0, 1) := by decide +kernel
theorem dX8_edits_12 : decode cX8_edits 12 = .ok (.aload_n 0, 1) := by decide +kernel
theorem dX8_edits_13 : decode cX8_edits 13 = .ok (.iload_n 1, 1) := by decide +kernel
theorem dX8_edits_14 : decode cX8_edits 14 = .ok (.invokevirtual 143, 3) := by decide +kernel
theorem dX8_edits_17 : decode cX8_edits 17 = .ok (.aload_n 0, 1) := by decide +kernel
theorem dX8_edits_18 : decode cX8_edits 18 = .ok (.iload_n 2, 1) := by decide +kernel
theorem dX8_edits_19 : decode cX8_edits 19 = .ok (.invokevirtual 143, 3) := by decide +kernel
theorem dX8_edits_22 : decode cX8_edits 22 = .ok (.invokevirtual 146, 3) := by decide +kernel
theorem dX8_edits_25 : decode cX8_edits 25 = .ok (.aload_n 0, 1) := by decide +kernel
theorem dX8_edits_26 : decode cX8_edits 26 = .ok (.getfield 130, 3) := by decide +kernel
theorem dX8_edits_29 : decode cX8_edits 29 = .ok (.ireturn, 1) := by decide +kernel
theorem dX8_editAt_0 : decode cX8_editAt 0 = .ok (.aload_n 0, 1) := by decide +kernel
theorem dX8_editAt_1 : decode cX8_editAt 1 = .ok (.iload_n 1, 1) := by decide +kernel
theorem dX8_editAt_2 : decode cX8_editAt 2 = .ok (.iload_n 2, 1) := by decide +kernel
theorem dX8_editAt_3 : decode cX8_editAt 3 = .ok (.invokevirtual 171, 3) := by decide +kernel
theorem dX8_editAt_6 : decode cX8_editAt 6 = .ok (.ifCond .ne 5, 3) := by decide +kernel
theorem dX8_editAt_9 : decode cX8_editAt 9 = .ok (.iconst 0, 1) := by decide +kernel
theorem dX8_editAt_10 : decode cX8_editAt 10 = .ok (.ireturn, 1) := by decide +kernel
theorem dX8_editAt_11 : decode cX8_editAt 11 = .ok (.aload_n 0, 1) := by decide +kernel
theorem dX8_editAt_12 : decode cX8_editAt 12 = .ok (.aload_n 0, 1) := by decide +kernel
theorem dX8_editAt_13 : decode cX8_editAt 13 = .ok (.iload_n 1, 1) := by decide +kernel
theorem dX8_editAt_14 : decode cX8_editAt 14 = .ok (.invokevirtual 143, 3) := by decide +kernel
theorem dX8_editAt_17 : decode cX8_editAt 17 = .ok (.aload_n 0, 1) := by decide +kernel
theorem dX8_editAt_18 : decode cX8_editAt 18 = .ok (.iload_n 2, 1) := by decide +kernel
theorem dX8_editAt_19 : decode cX8_editAt 19 = .ok (.invokevirtual 143, 3) := by decide +kernel
theorem dX8_editAt_22 : decode cX8_editAt 22 = .ok (.invokevirtual 146, 3) := by decide +kernel
theorem dX8_editAt_25 : decode cX8_editAt 25 = .ok (.iload_n 3, 1) := by decide +kernel
theorem dX8_editAt_26 : decode cX8_editAt 26 = .ok (.iconst 0, 1) := by decide +kernel
theorem dX8_editAt_27 : decode cX8_editAt 27 = .ok (.aload_n 0, 1) := by decide +kernel
theorem dX8_editAt_28 : decode cX8_editAt 28 = .ok (.getfield 130, 3) := by decide +kernel
theorem dX8_editAt_31 : decode cX8_editAt 31 = .ok (.iconst 1, 1) := by decide +kernel
theorem dX8_editAt_32 : decode cX8_editAt 32 = .ok (.isub, 1) := by decide +kernel
theorem dX8_editAt_33 : decode cX8_editAt 33 = .ok (.invokestatic 77, 3) := by decide +kernel
theorem dX8_editAt_36 : decode cX8_editAt 36 = .ok (.ifCond .ne 9, 3) := by decide +kernel
theorem dX8_editAt_39 : decode cX8_editAt 39 = .ok (.aload_n 0, 1) := by decide +kernel
theorem dX8_editAt_40 : decode cX8_editAt 40 = .ok (.iconst 1, 1) := by decide +kernel
theorem dX8_editAt_41 : decode cX8_editAt 41 = .ok (.invokevirtual 102, 3) := by decide +kernel
theorem dX8_editAt_44 : decode cX8_editAt 44 = .ok (.ireturn, 1) := by decide +kernel
theorem dX8_editAt_45 : decode cX8_editAt 45 = .ok (.aload_n 0, 1) := by decide +kernel
theorem dX8_editAt_46 : decode cX8_editAt 46 = .ok (.getfield 23, 3) := by decide +kernel
theorem dX8_editAt_49 : decode cX8_editAt 49 = .ok (.iload_n 3, 1) := by decide +kernel
theorem dX8_editAt_50 : decode cX8_editAt 50 = .ok (.iaload, 1) := by decide +kernel
theorem dX8_editAt_51 : decode cX8_editAt 51 = .ok (.bipush 7, 2) := by decide +kernel
theorem dX8_editAt_53 : decode cX8_editAt 53 = .ok (.if_icmp .ne 26, 3) := by decide +kernel
theorem dX8_editAt_56 : decode cX8_editAt 56 = .ok (.sipush 900, 3) := by decide +kernel
theorem dX8_editAt_59 : decode cX8_editAt 59 = .ok (.bipush 10, 2) := by decide +kernel
theorem dX8_editAt_61 : decode cX8_editAt 61 = .ok (.aload_n 0, 1) := by decide +kernel
theorem dX8_editAt_62 : decode cX8_editAt 62 = .ok (.getfield 26, 3) := by decide +kernel
theorem dX8_editAt_65 : decode cX8_editAt 65 = .ok (.iload_n 3, 1) := by decide +kernel
theorem dX8_editAt_66 : decode cX8_editAt 66 = .ok (.iaload, 1) := by decide +kernel
theorem dX8_editAt_67 : decode cX8_editAt 67 = .ok (.imul, 1) := by decide +kernel
theorem dX8_editAt_68 : decode cX8_editAt 68 = .ok (.iadd, 1) := by decide +kernel
theorem dX8_editAt_69 : decode cX8_editAt 69 = .ok (.aload_n 0, 1) := by decide +kernel
theorem dX8_editAt_70 : decode cX8_editAt 70 = .ok (.getfield 29, 3) := by decide +kernel
theorem dX8_editAt_73 : decode cX8_editAt 73 = .ok (.iload_n 3, 1) := by decide +kernel
theorem dX8_editAt_74 : decode cX8_editAt 74 = .ok (.iaload, 1) := by decide +kernel
theorem dX8_editAt_75 : decode cX8_editAt 75 = .ok (.iadd, 1) := by decide +kernel
theorem dX8_editAt_76 : decode cX8_editAt 76 = .ok (.goto 29, 3) := by decide +kernel
theorem dX8_editAt_79 : decode cX8_editAt 79 = .ok (.bipush 100, 2) := by decide +kernel
theorem dX8_editAt_81 : decode cX8_editAt 81 = .ok (.aload_n 0, 1) := by decide +kernel
theorem dX8_editAt_82 : decode cX8_editAt 82 = .ok (.getfield 26, 3) := by decide +kernel
theorem dX8_editAt_85 : decode cX8_editAt 85 = .ok (.iload_n 3, 1) := by decide +kernel
theorem dX8_editAt_86 : decode cX8_editAt 86 = .ok (.iaload, 1) := by decide +kernel
theorem dX8_editAt_87 : decode cX8_editAt 87 = .ok (.imul, 1) := by decide +kernel
theorem dX8_editAt_88 : decode cX8_editAt 88 = .ok (.bipush 10, 2) := by decide +kernel
theorem dX8_editAt_90 : decode cX8_editAt 90 = .ok (.aload_n 0, 1) := by decide +kernel
theorem dX8_editAt_91 : decode cX8_editAt 91 = .ok (.getfield 29, 3) := by decide +kernel
theorem dX8_editAt_94 : decode cX8_editAt 94 = .ok (.iload_n 3, 1) := by decide +kernel
theorem dX8_editAt_95 : decode cX8_editAt 95 = .ok (.iaload, 1) := by decide +kernel
theorem dX8_editAt_96 : decode cX8_editAt 96 = .ok (.imul, 1) := by decide +kernel
theorem dX8_editAt_97 : decode cX8_editAt 97 = .ok (.iadd, 1) := by decide +kernel
theorem dX8_editAt_98 : decode cX8_editAt 98 = .ok (.aload_n 0, 1) := by decide +kernel
theorem dX8_editAt_99 : decode cX8_editAt 99 = .ok (.getfield 23, 3) := by decide +kernel
theorem dX8_editAt_102 : decode cX8_editAt 102 = .ok (.iload_n 3, 1) := by decide +kernel
theorem dX8_editAt_103 : decode cX8_editAt 103 = .ok (.iaload, 1) := by decide +kernel
theorem dX8_editAt_104 : decode cX8_editAt 104 = .ok (.iadd, 1) := by decide +kernel
theorem dX8_editAt_105 : decode cX8_editAt 105 = .ok (.ireturn, 1) := by decide +kernel
