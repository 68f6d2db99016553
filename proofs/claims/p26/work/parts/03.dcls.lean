theorem dX0_init_0 : decode cX0_init 0 = .ok (.aload_n 0, 1) := by decide +kernel
theorem dX0_init_1 : decode cX0_init 1 = .ok (.invokespecial 1, 3) := by decide +kernel
theorem dX0_init_4 : decode cX0_init 4 = .ok (.aload_n 0, 1) := by decide +kernel
theorem dX0_init_5 : decode cX0_init 5 = .ok (.new 7, 3) := by decide +kernel
theorem dX0_init_8 : decode cX0_init 8 = .ok (.dup, 1) := by decide +kernel
theorem dX0_init_9 : decode cX0_init 9 = .ok (.invokespecial 9, 3) := by decide +kernel
theorem dX0_init_12 : decode cX0_init 12 = .ok (.putfield 10, 3) := by decide +kernel
theorem dX0_init_15 : decode cX0_init 15 = .ok (.return_, 1) := by decide +kernel
theorem dX1_init_0 : decode cX1_init 0 = .ok (.aload_n 0, 1) := by decide +kernel
theorem dX1_init_1 : decode cX1_init 1 = .ok (.invokespecial 3, 3) := by decide +kernel
theorem dX1_init_4 : decode cX1_init 4 = .ok (.aload_n 0, 1) := by decide +kernel
theorem dX1_init_5 : decode cX1_init 5 = .ok (.iconst 3, 1) := by decide +kernel
theorem dX1_init_6 : decode cX1_init 6 = .ok (.anewarray 9, 3) := by decide +kernel
theorem dX1_init_9 : decode cX1_init 9 = .ok (.putfield 11, 3) := by decide +kernel
theorem dX1_init_12 : decode cX1_init 12 = .ok (.aload_n 0, 1) := by decide +kernel
theorem dX1_init_13 : decode cX1_init 13 = .ok (.iconst 3, 1) := by decide +kernel
theorem dX1_init_14 : decode cX1_init 14 = .ok (.iconst 2, 1) := by decide +kernel
theorem dX1_init_15 : decode cX1_init 15 = .ok (.multianewarray 17 2, 4) := by decide +kernel
theorem dX1_init_19 : decode cX1_init 19 = .ok (.putfield 19, 3) := by decide +kernel
theorem dX1_init_22 : decode cX1_init 22 = .ok (.iconst 0, 1) := by decide +kernel
theorem dX1_init_23 : decode cX1_init 23 = .ok (.istore_n 1, 1) := by decide +kernel
theorem dX1_init_24 : decode cX1_init 24 = .ok (.iload_n 1, 1) := by decide +kernel
theorem dX1_init_25 : decode cX1_init 25 = .ok (.iconst 3, 1) := by decide +kernel
theorem dX1_init_26 : decode cX1_init 26 = .ok (.if_icmp .ge 22, 3) := by decide +kernel
theorem dX1_init_29 : decode cX1_init 29 = .ok (.aload_n 0, 1) := by decide +kernel
theorem dX1_init_30 : decode cX1_init 30 = .ok (.getfield 11, 3) := by decide +kernel
theorem dX1_init_33 : decode cX1_init 33 = .ok (.iload_n 1, 1) := by decide +kernel
theorem dX1_init_34 : decode cX1_init 34 = .ok (.new 9, 3) := by decide +kernel
theorem dX1_init_37 : decode cX1_init 37 = .ok (.dup, 1) := by decide +kernel
theorem dX1_init_38 : decode cX1_init 38 = .ok (.invokespecial 22, 3) := by decide +kernel
theorem dX1_init_41 : decode cX1_init 41 = .ok (.aastore, 1) := by decide +kernel
theorem dX1_init_42 : decode cX1_init 42 = .ok (.iinc 1 1, 3) := by decide +kernel
theorem dX1_init_45 : decode cX1_init 45 = .ok (.goto (-21), 3) := by decide +kernel
theorem dX1_init_48 : decode cX1_init 48 = .ok (.iconst 0, 1) := by decide +kernel
theorem dX1_init_49 : decode cX1_init 49 = .ok (.istore_n 1, 1) := by decide +kernel
theorem dX1_init_50 : decode cX1_init 50 = .ok (.iload_n 1, 1) := by decide +kernel
theorem dX1_init_51 : decode cX1_init 51 = .ok (.iconst 3, 1) := by decide +kernel
theorem dX1_init_52 : decode cX1_init 52 = .ok (.if_icmp .ge 31, 3) := by decide +kernel
theorem dX1_init_55 : decode cX1_init 55 = .ok (.iconst 0, 1) := by decide +kernel
theorem dX1_init_56 : decode cX1_init 56 = .ok (.istore_n 2, 1) := by decide +kernel
theorem dX1_init_57 : decode cX1_init 57 = .ok (.iload_n 2, 1) := by decide +kernel
theorem dX1_init_58 : decode cX1_init 58 = .ok (.iconst 2, 1) := by decide +kernel
theorem dX1_init_59 : decode cX1_init 59 = .ok (.if_icmp .ge 18, 3) := by decide +kernel
theorem dX1_init_62 : decode cX1_init 62 = .ok (.aload_n 0, 1) := by decide +kernel
theorem dX1_init_63 : decode cX1_init 63 = .ok (.getfield 19, 3) := by decide +kernel
theorem dX1_init_66 : decode cX1_init 66 = .ok (.iload_n 1, 1) := by decide +kernel
theorem dX1_init_67 : decode cX1_init 67 = .ok (.aaload, 1) := by decide +kernel
theorem dX1_init_68 : decode cX1_init 68 = .ok (.iload_n 2, 1) := by decide +kernel
theorem dX1_init_69 : decode cX1_init 69 = .ok (.iconst (-1), 1) := by decide +kernel
theorem dX1_init_70 : decode cX1_init 70 = .ok (.iastore, 1) := by decide +kernel
theorem dX1_init_71 : decode cX1_init 71 = .ok (.iinc 2 1, 3) := by decide +kernel
theorem dX1_init_74 : decode cX1_init 74 = .ok (.goto (-17), 3) := by decide +kernel
theorem dX1_init_77 : decode cX1_init 77 = .ok (.iinc 1 1, 3) := by decide +kernel
theorem dX1_init_80 : decode cX1_init 80 = .ok (.goto (-30), 3) := by decide +kernel
theorem dX1_init_83 : decode cX1_init 83 = .ok (.return_, 1) := by decide +kernel
theorem dX1_valueShown_0 : decode cX1_valueShown 0 = .ok (.aload_n 1, 1) := by decide +kernel
theorem dX1_valueShown_1 : decode cX1_valueShown 1 = .ok (.getfield 23, 3) := by decide +kernel
theorem dX1_valueShown_4 : decode cX1_valueShown 4 = .ok (.iconst 2, 1) := by decide +kernel
theorem dX1_valueShown_5 : decode cX1_valueShown 5 = .ok (.iaload, 1) := by decide +kernel
theorem dX1_valueShown_6 : decode cX1_valueShown 6 = .ok (.istore_n 3, 1) := by decide +kernel
theorem dX1_valueShown_7 : decode cX1_valueShown 7 = .ok (.aload_n 1, 1) := by decide +kernel
theorem dX1_valueShown_8 : decode cX1_valueShown 8 = .ok (.getfield 23, 3) := by decide +kernel
theorem dX1_valueShown_11 : decode cX1_valueShown 11 = .ok (.iload_n 2, 1) := by decide +kernel
theorem dX1_valueShown_12 : decode cX1_valueShown 12 = .ok (.iaload, 1) := by decide +kernel
theorem dX1_valueShown_13 : decode cX1_valueShown 13 = .ok (.iconst (-1), 1) := by decide +kernel
theorem dX1_valueShown_14 : decode cX1_valueShown 14 = .ok (.if_icmp .ne 12, 3) := by decide +kernel
theorem dX1_valueShown_17 : decode cX1_valueShown 17 = .ok (.iload_n 3, 1) := by decide +kernel
theorem dX1_valueShown_18 : decode cX1_valueShown 18 = .ok (.ifCond .lt 8, 3) := by decide +kernel
theorem dX1_valueShown_21 : decode cX1_valueShown 21 = .ok (.iload_n 3, 1) := by decide +kernel
theorem dX1_valueShown_22 : decode cX1_valueShown 22 = .ok (.iconst 3, 1) := by decide +kernel
theorem dX1_valueShown_23 : decode cX1_valueShown 23 = .ok (.if_icmp .lt 10, 3) := by decide +kernel
theorem dX1_valueShown_26 : decode cX1_valueShown 26 = .ok (.aload_n 1, 1) := by decide +kernel
theorem dX1_valueShown_27 : decode cX1_valueShown 27 = .ok (.getfield 23, 3) := by decide +kernel
theorem dX1_valueShown_30 : decode cX1_valueShown 30 = .ok (.iload_n 2, 1) := by decide +kernel
theorem dX1_valueShown_31 : decode cX1_valueShown 31 = .ok (.iaload, 1) := by decide +kernel
theorem dX1_valueShown_32 : decode cX1_valueShown 32 = .ok (.ireturn, 1) := by decide +kernel
theorem dX1_valueShown_33 : decode cX1_valueShown 33 = .ok (.aload_n 0, 1) := by decide +kernel
theorem dX1_valueShown_34 : decode cX1_valueShown 34 = .ok (.getfield 19, 3) := by decide +kernel
theorem dX1_valueShown_37 : decode cX1_valueShown 37 = .ok (.iload_n 3, 1) := by decide +kernel
theorem dX1_valueShown_38 : decode cX1_valueShown 38 = .ok (.aaload, 1) := by decide +kernel
theorem dX1_valueShown_39 : decode cX1_valueShown 39 = .ok (.iload_n 2, 1) := by decide +kernel
theorem dX1_valueShown_40 : decode cX1_valueShown 40 = .ok (.iaload, 1) := by decide +kernel
theorem dX1_valueShown_41 : decode cX1_valueShown 41 = .ok (.ireturn, 1) := by decide +kernel
theorem dX1_copyFrom_0 : decode cX1_copyFrom 0 = .ok (.iconst 0, 1) := by decide +kernel
theorem dX1_copyFrom_1 : decode cX1_copyFrom 1 = .ok (.istore_n 2, 1) := by decide +kernel
theorem dX1_copyFrom_2 : decode cX1_copyFrom 2 = .ok (.iload_n 2, 1) := by decide +kernel
theorem dX1_copyFrom_3 : decode cX1_copyFrom 3 = .ok (.iconst 3, 1) := by decide +kernel
theorem dX1_copyFrom_4 : decode cX1_copyFrom 4 = .ok (.if_icmp .ge 24, 3) := by decide +kernel
theorem dX1_copyFrom_7 : decode cX1_copyFrom 7 = .ok (.aload_n 0, 1) := by decide +kernel
theorem dX1_copyFrom_8 : decode cX1_copyFrom 8 = .ok (.getfield 11, 3) := by decide +kernel
theorem dX1_copyFrom_11 : decode cX1_copyFrom 11 = .ok (.iload_n 2, 1) := by decide +kernel
theorem dX1_copyFrom_12 : decode cX1_copyFrom 12 = .ok (.aaload, 1) := by decide +kernel
theorem dX1_copyFrom_13 : decode cX1_copyFrom 13 = .ok (.aload_n 1, 1) := by decide +kernel
theorem dX1_copyFrom_14 : decode cX1_copyFrom 14 = .ok (.getfield 11, 3) := by decide +kernel
theorem dX1_copyFrom_17 : decode cX1_copyFrom 17 = .ok (.iload_n 2, 1) := by decide +kernel
theorem dX1_copyFrom_18 : decode cX1_copyFrom 18 = .ok (.aaload, 1) := by decide +kernel
theorem dX1_copyFrom_19 : decode cX1_copyFrom 19 = .ok (.invokevirtual 29, 3) := by decide +kernel
theorem dX1_copyFrom_22 : decode cX1_copyFrom 22 = .ok (.iinc 2 1, 3) := by decide +kernel
theorem dX1_copyFrom_25 : decode cX1_copyFrom 25 = .ok (.goto (-23), 3) := by decide +kernel
theorem dX1_copyFrom_28 : decode cX1_copyFrom 28 = .ok (.iconst 0, 1) := by decide +kernel
theorem dX1_copyFrom_29 : decode cX1_copyFrom 29 = .ok (.istore_n 2, 1) := by decide +kernel
theorem dX1_copyFrom_30 : decode cX1_copyFrom 30 = .ok (.iload_n 2, 1) := by decide +kernel
theorem dX1_copyFrom_31 : decode cX1_copyFrom 31 = .ok (.iconst 3, 1) := by decide +kernel
theorem dX1_copyFrom_32 : decode cX1_copyFrom 32 = .ok (.if_icmp .ge 38, 3) := by decide +kernel
theorem dX1_copyFrom_35 : decode cX1_copyFrom 35 = .ok (.iconst 0, 1) := by decide +kernel
theorem dX1_copyFrom_36 : decode cX1_copyFrom 36 = .ok (.istore_n 3, 1) := by decide +kernel
theorem dX1_copyFrom_37 : decode cX1_copyFrom 37 = .ok (.iload_n 3, 1) := by decide +kernel
theorem dX1_copyFrom_38 : decode cX1_copyFrom 38 = .ok (.iconst 2, 1) := by decide +kernel
theorem dX1_copyFrom_39 : decode cX1_copyFrom 39 = .ok (.if_icmp .ge 25, 3) := by decide +kernel
theorem dX1_copyFrom_42 : decode cX1_copyFrom 42 = .ok (.aload_n 0, 1) := by decide +kernel
theorem dX1_copyFrom_43 : decode cX1_copyFrom 43 = .ok (.getfield 19, 3) := by decide +kernel
theorem dX1_copyFrom_46 : decode cX1_copyFrom 46 = .ok (.iload_n 2, 1) := by decide +kernel
theorem dX1_copyFrom_47 : decode cX1_copyFrom 47 = .ok (.aaload, 1) := by decide +kernel
theorem dX1_copyFrom_48 : decode cX1_copyFrom 48 = .ok (.iload_n 3, 1) := by decide +kernel
theorem dX1_copyFrom_49 : decode cX1_copyFrom 49 = .ok (.aload_n 1, 1) := by decide +kernel
theorem dX1_copyFrom_50 : decode cX1_copyFrom 50 = .ok (.getfield 19, 3) := by decide +kernel
theorem dX1_copyFrom_53 : decode cX1_copyFrom 53 = .ok (.iload_n 2, 1) := by decide +kernel
theorem dX1_copyFrom_54 : decode cX1_copyFrom 54 = .ok (.aaload, 1) := by decide +kernel
theorem dX1_copyFrom_55 : decode cX1_copyFrom 55 = .ok (.iload_n 3, 1) := by decide +kernel
theorem dX1_copyFrom_56 : decode cX1_copyFrom 56 = .ok (.iaload, 1) := by decide +kernel
theorem dX1_copyFrom_57 : decode cX1_copyFrom 57 = .ok (.iastore, 1) := by decide +kernel
theorem dX1_copyFrom_58 : decode cX1_copyFrom 58 = .ok (.iinc 3 1, 3) := by decide +kernel
theorem dX1_copyFrom_61 : decode cX1_copyFrom 61 = .ok (.goto (-24), 3) := by decide +kernel
theorem dX1_copyFrom_64 : decode cX1_copyFrom 64 = .ok (.iinc 2 1, 3) := by decide +kernel
theorem dX1_copyFrom_67 : decode cX1_copyFrom 67 = .ok (.goto (-37), 3) := by decide +kernel
theorem dX1_copyFrom_70 : decode cX1_copyFrom 70 = .ok (.return_, 1) := by decide +kernel
theorem dX1_isLike_0 : decode cX1_isLike 0 = .ok (.iconst 0, 1) := by decide +kernel
theorem dX1_isLike_1 : decode cX1_isLike 1 = .ok (.istore_n 2, 1) := by decide +kernel
theorem dX1_isLike_2 : decode cX1_isLike 2 = .ok (.iload_n 2, 1) := by decide +kernel
theorem dX1_isLike_3 : decode cX1_isLike 3 = .ok (.iconst 3, 1) := by decide +kernel
theorem dX1_isLike_4 : decode cX1_isLike 4 = .ok (.if_icmp .ge 29, 3) := by decide +kernel
theorem dX1_isLike_7 : decode cX1_isLike 7 = .ok (.aload_n 0, 1) := by decide +kernel
theorem dX1_isLike_8 : decode cX1_isLike 8 = .ok (.getfield 11, 3) := by decide +kernel
theorem dX1_isLike_11 : decode cX1_isLike 11 = .ok (.iload_n 2, 1) := by decide +kernel
theorem dX1_isLike_12 : decode cX1_isLike 12 = .ok (.aaload, 1) := by decide +kernel
theorem dX1_isLike_13 : decode cX1_isLike 13 = .ok (.aload_n 1, 1) := by decide +kernel
theorem dX1_isLike_14 : decode cX1_isLike 14 = .ok (.getfield 11, 3) := by decide +kernel
theorem dX1_isLike_17 : decode cX1_isLike 17 = .ok (.iload_n 2, 1) := by decide +kernel
theorem dX1_isLike_18 : decode cX1_isLike 18 = .ok (.aaload, 1) := by decide +kernel
theorem dX1_isLike_19 : decode cX1_isLike 19 = .ok (.invokevirtual 33, 3) := by decide +kernel
theorem dX1_isLike_22 : decode cX1_isLike 22 = .ok (.ifCond .ne 5, 3) := by decide +kernel
theorem dX1_isLike_25 : decode cX1_isLike 25 = .ok (.iconst 0, 1) := by decide +kernel
theorem dX1_isLike_26 : decode cX1_isLike 26 = .ok (.ireturn, 1) := by decide +kernel
theorem dX1_isLike_27 : decode cX1_isLike 27 = .ok (.iinc 2 1, 3) := by decide +kernel
theorem dX1_isLike_30 : decode cX1_isLike 30 = .ok (.goto (-28), 3) := by decide +kernel
theorem dX1_isLike_33 : decode cX1_isLike 33 = .ok (.iconst 0, 1) := by decide +kernel
theorem dX1_isLike_34 : decode cX1_isLike 34 = .ok (.istore_n 2, 1) := by decide +kernel
theorem dX1_isLike_35 : decode cX1_isLike 35 = .ok (.iload_n 2, 1) := by decide +kernel
theorem dX1_isLike_36 : decode cX1_isLike 36 = .ok (.iconst 3, 1) := by decide +kernel
theorem dX1_isLike_37 : decode cX1_isLike 37 = .ok (.if_icmp .ge 43, 3) := by decide +kernel
theorem dX1_isLike_40 : decode cX1_isLike 40 = .ok (.iconst 0, 1) := by decide +kernel
theorem dX1_isLike_41 : decode cX1_isLike 41 = .ok (.istore_n 3, 1) := by decide +kernel
theorem dX1_isLike_42 : decode cX1_isLike 42 = .ok (.iload_n 3, 1) := by decide +kernel
theorem dX1_isLike_43 : decode cX1_isLike 43 = .ok (.iconst 2, 1) := by decide +kernel
theorem dX1_isLike_44 : decode cX1_isLike 44 = .ok (.if_icmp .ge 30, 3) := by decide +kernel
theorem dX1_isLike_47 : decode cX1_isLike 47 = .ok (.aload_n 0, 1) := by decide +kernel
theorem dX1_isLike_48 : decode cX1_isLike 48 = .ok (.getfield 19, 3) := by decide +kernel
theorem dX1_isLike_51 : decode cX1_isLike 51 = .ok (.iload_n 2, 1) := by decide +kernel
theorem dX1_isLike_52 : decode cX1_isLike 52 = .ok (.aaload, 1) := by decide +kernel
theorem dX1_isLike_53 : decode cX1_isLike 53 = .ok (.iload_n 3, 1) := by decide +kernel
theorem dX1_isLike_54 : decode cX1_isLike 54 = .ok (.iaload, 1) := by decide +kernel
theorem dX1_isLike_55 : decode cX1_isLike 55 = .ok (.aload_n 1, 1) := by decide +kernel
theorem dX1_isLike_56 : decode cX1_isLike 56 = .ok (.getfield 19, 3) := by decide +kernel
theorem dX1_isLike_59 : decode cX1_isLike 59 = .ok (.iload_n 2, 1) := by decide +kernel
theorem dX1_isLike_60 : decode cX1_isLike 60 = .ok (.aaload, 1) := by decide +kernel
theorem dX1_isLike_61 : decode cX1_isLike 61 = .ok (.iload_n 3, 1) := by decide +kernel
theorem dX1_isLike_62 : decode cX1_isLike 62 = .ok (.iaload, 1) := by decide +kernel
theorem dX1_isLike_63 : decode cX1_isLike 63 = .ok (.if_icmp .eq 5, 3) := by decide +kernel
theorem dX1_isLike_66 : decode cX1_isLike 66 = .ok (.iconst 0, 1) := by decide +kernel
theorem dX1_isLike_67 : decode cX1_isLike 67 = .ok (.ireturn, 1) := by decide +kernel
theorem dX1_isLike_68 : decode cX1_isLike 68 = .ok (.iinc 3 1, 3) := by decide +kernel
theorem dX1_isLike_71 : decode cX1_isLike 71 = .ok (.goto (-29), 3) := by decide +kernel
theorem dX1_isLike_74 : decode cX1_isLike 74 = .ok (.iinc 2 1, 3) := by decide +kernel
theorem dX1_isLike_77 : decode cX1_isLike 77 = .ok (.goto (-42), 3) := by decide +kernel
theorem dX1_isLike_80 : decode cX1_isLike 80 = .ok (.iconst 1, 1) := by decide +kernel
theorem dX1_isLike_81 : decode cX1_isLike 81 = .ok (.ireturn, 1) := by decide +kernel
theorem dX2_init_0 : decode cX2_init 0 = .ok (.aload_n 0, 1) := by decide +kernel
theorem dX2_init_1 : decode cX2_init 1 = .ok (.invokespecial 3, 3) := by decide +kernel
theorem dX2_init_4 : decode cX2_init 4 = .ok (.aload_n 0, 1) := by decide +kernel
theorem dX2_init_5 : decode cX2_init 5 = .ok (.new 9, 3) := by decide +kernel
theorem dX2_init_8 : decode cX2_init 8 = .ok (.dup, 1) := by decide +kernel
theorem dX2_init_9 : decode cX2_init 9 = .ok (.invokespecial 11, 3) := by decide +kernel
theorem dX2_init_12 : decode cX2_init 12 = .ok (.putfield 12, 3) := by decide +kernel
theorem dX2_init_15 : decode cX2_init 15 = .ok (.return_, 1) := by decide +kernel
theorem dX2_become_0 : decode cX2_become 0 = .ok (.aload_n 0, 1) := by decide +kernel
theorem dX2_become_1 : decode cX2_become 1 = .ok (.iload_n 1, 1) := by decide +kernel
theorem dX2_become_2 : decode cX2_become 2 = .ok (.putfield 18, 3) := by decide +kernel
theorem dX2_become_5 : decode cX2_become 5 = .ok (.aload_n 0, 1) := by decide +kernel
theorem dX2_become_6 : decode cX2_become 6 = .ok (.iload_n 2, 1) := by decide +kernel
theorem dX2_become_7 : decode cX2_become 7 = .ok (.putfield 22, 3) := by decide +kernel
theorem dX2_become_10 : decode cX2_become 10 = .ok (.aload_n 0, 1) := by decide +kernel
theorem dX2_become_11 : decode cX2_become 11 = .ok (.iload_n 3, 1) := by decide +kernel
theorem dX2_become_12 : decode cX2_become 12 = .ok (.putfield 25, 3) := by decide +kernel
theorem dX2_become_15 : decode cX2_become 15 = .ok (.aload_n 0, 1) := by decide +kernel
theorem dX2_become_16 : decode cX2_become 16 = .ok (.iload 4, 2) := by decide +kernel
theorem dX2_become_18 : decode cX2_become 18 = .ok (.putfield 28, 3) := by decide +kernel
theorem dX2_become_21 : decode cX2_become 21 = .ok (.aload_n 0, 1) := by decide +kernel
theorem dX2_become_22 : decode cX2_become 22 = .ok (.iload 5, 2) := by decide +kernel
theorem dX2_become_24 : decode cX2_become 24 = .ok (.putfield 31, 3) := by decide +kernel
theorem dX2_become_27 : decode cX2_become 27 = .ok (.return_, 1) := by decide +kernel
theorem dX2_invert_0 : decode cX2_invert 0 = .ok (.aload_n 0, 1) := by decide +kernel
theorem dX2_invert_1 : decode cX2_invert 1 = .ok (.getfield 18, 3) := by decide +kernel
theorem dX2_invert_4 : decode cX2_invert 4 = .ok (.iconst 1, 1) := by decide +kernel
theorem dX2_invert_5 : decode cX2_invert 5 = .ok (.if_icmp .ne 11, 3) := by decide +kernel
theorem dX2_invert_8 : decode cX2_invert 8 = .ok (.aload_n 0, 1) := by decide +kernel
theorem dX2_invert_9 : decode cX2_invert 9 = .ok (.iconst 2, 1) := by decide +kernel
theorem dX2_invert_10 : decode cX2_invert 10 = .ok (.putfield 18, 3) := by decide +kernel
theorem dX2_invert_13 : decode cX2_invert 13 = .ok (.goto 16, 3) := by decide +kernel
theorem dX2_invert_16 : decode cX2_invert 16 = .ok (.aload_n 0, 1) := by decide +kernel
theorem dX2_invert_17 : decode cX2_invert 17 = .ok (.getfield 18, 3) := by decide +kernel
theorem dX2_invert_20 : decode cX2_invert 20 = .ok (.iconst 2, 1) := by decide +kernel
theorem dX2_invert_21 : decode cX2_invert 21 = .ok (.if_icmp .ne 8, 3) := by decide +kernel
theorem dX2_invert_24 : decode cX2_invert 24 = .ok (.aload_n 0, 1) := by decide +kernel
theorem dX2_invert_25 : decode cX2_invert 25 = .ok (.iconst 1, 1) := by decide +kernel
theorem dX2_invert_26 : decode cX2_invert 26 = .ok (.putfield 18, 3) := by decide +kernel
theorem dX2_invert_29 : decode cX2_invert 29 = .ok (.aload_n 0, 1) := by decide +kernel
theorem dX2_invert_30 : decode cX2_invert 30 = .ok (.getfield 28, 3) := by decide +kernel
theorem dX2_invert_33 : decode cX2_invert 33 = .ok (.istore_n 1, 1) := by decide +kernel
theorem dX2_invert_34 : decode cX2_invert 34 = .ok (.aload_n 0, 1) := by decide +kernel
theorem dX2_invert_35 : decode cX2_invert 35 = .ok (.aload_n 0, 1) := by decide +kernel
theorem dX2_invert_36 : decode cX2_invert 36 = .ok (.getfield 31, 3) := by decide +kernel
theorem dX2_invert_39 : decode cX2_invert 39 = .ok (.putfield 28, 3) := by decide +kernel
theorem dX2_invert_42 : decode cX2_invert 42 = .ok (.aload_n 0, 1) := by decide +kernel
theorem dX2_invert_43 : decode cX2_invert 43 = .ok (.iload_n 1, 1) := by decide +kernel
theorem dX2_invert_44 : decode cX2_invert 44 = .ok (.putfield 31, 3) := by decide +kernel
theorem dX2_invert_47 : decode cX2_invert 47 = .ok (.return_, 1) := by decide +kernel
theorem dX2_applyTo_0 : decode cX2_applyTo 0 = .ok (.aload_n 0, 1) := by decide +kernel
theorem dX2_applyTo_1 : decode cX2_applyTo 1 = .ok (.getfield 18, 3) := by decide +kernel
theorem dX2_applyTo_4 : decode cX2_applyTo 4 = .ok (.bipush 7, 2) := by decide +kernel
theorem dX2_applyTo_6 : decode cX2_applyTo 6 = .ok (.if_icmp .lt 40, 3) := by decide +kernel
theorem dX2_applyTo_9 : decode cX2_applyTo 9 = .ok (.aload_n 0, 1) := by decide +kernel
theorem dX2_applyTo_10 : decode cX2_applyTo 10 = .ok (.getfield 25, 3) := by decide +kernel
theorem dX2_applyTo_13 : decode cX2_applyTo 13 = .ok (.iconst 3, 1) := by decide +kernel
theorem dX2_applyTo_14 : decode cX2_applyTo 14 = .ok (.if_icmp .ge 30, 3) := by decide +kernel
theorem dX2_applyTo_17 : decode cX2_applyTo 17 = .ok (.aload_n 0, 1) := by decide +kernel
theorem dX2_applyTo_18 : decode cX2_applyTo 18 = .ok (.aload_n 1, 1) := by decide +kernel
theorem dX2_applyTo_19 : decode cX2_applyTo 19 = .ok (.getfield 34, 3) := by decide +kernel
theorem dX2_applyTo_22 : decode cX2_applyTo 22 = .ok (.aload_n 0, 1) := by decide +kernel
theorem dX2_applyTo_23 : decode cX2_applyTo 23 = .ok (.getfield 25, 3) := by decide +kernel
theorem dX2_applyTo_26 : decode cX2_applyTo 26 = .ok (.aaload, 1) := by decide +kernel
theorem dX2_applyTo_27 : decode cX2_applyTo 27 = .ok (.aload_n 0, 1) := by decide +kernel
theorem dX2_applyTo_28 : decode cX2_applyTo 28 = .ok (.getfield 18, 3) := by decide +kernel
theorem dX2_applyTo_31 : decode cX2_applyTo 31 = .ok (.bipush 7, 2) := by decide +kernel
theorem dX2_applyTo_33 : decode cX2_applyTo 33 = .ok (.isub, 1) := by decide +kernel
theorem dX2_applyTo_34 : decode cX2_applyTo 34 = .ok (.invokevirtual 40, 3) := by decide +kernel
theorem dX2_applyTo_37 : decode cX2_applyTo 37 = .ok (.ifCond .eq 7, 3) := by decide +kernel
theorem dX2_applyTo_40 : decode cX2_applyTo 40 = .ok (.iconst 1, 1) := by decide +kernel
theorem dX2_applyTo_41 : decode cX2_applyTo 41 = .ok (.goto 4, 3) := by decide +kernel
theorem dX2_applyTo_44 : decode cX2_applyTo 44 = .ok (.iconst 0, 1) := by decide +kernel
theorem dX2_applyTo_45 : decode cX2_applyTo 45 = .ok (.ireturn, 1) := by decide +kernel
theorem dX2_applyTo_46 : decode cX2_applyTo 46 = .ok (.aload_n 1, 1) := by decide +kernel
theorem dX2_applyTo_47 : decode cX2_applyTo 47 = .ok (.getfield 44, 3) := by decide +kernel
theorem dX2_applyTo_50 : decode cX2_applyTo 50 = .ok (.aload_n 0, 1) := by decide +kernel
theorem dX2_applyTo_51 : decode cX2_applyTo 51 = .ok (.getfield 22, 3) := by decide +kernel
theorem dX2_applyTo_54 : decode cX2_applyTo 54 = .ok (.aaload, 1) := by decide +kernel
theorem dX2_applyTo_55 : decode cX2_applyTo 55 = .ok (.astore_n 3, 1) := by decide +kernel
theorem dX2_applyTo_56 : decode cX2_applyTo 56 = .ok (.aload_n 3, 1) := by decide +kernel
theorem dX2_applyTo_57 : decode cX2_applyTo 57 = .ok (.aload_n 0, 1) := by decide +kernel
theorem dX2_applyTo_58 : decode cX2_applyTo 58 = .ok (.getfield 25, 3) := by decide +kernel
theorem dX2_applyTo_61 : decode cX2_applyTo 61 = .ok (.invokevirtual 48, 3) := by decide +kernel
theorem dX2_applyTo_64 : decode cX2_applyTo 64 = .ok (.istore 4, 2) := by decide +kernel
theorem dX2_applyTo_66 : decode cX2_applyTo 66 = .ok (.aload_n 0, 1) := by decide +kernel
theorem dX2_applyTo_67 : decode cX2_applyTo 67 = .ok (.getfield 18, 3) := by decide +kernel
theorem dX2_applyTo_70 : decode cX2_applyTo 70 = .ok (.iconst 2, 1) := by decide +kernel
theorem dX2_applyTo_71 : decode cX2_applyTo 71 = .ok (.if_icmp .ne 24, 3) := by decide +kernel
theorem dX2_applyTo_74 : decode cX2_applyTo 74 = .ok (.iload 4, 2) := by decide +kernel
theorem dX2_applyTo_76 : decode cX2_applyTo 76 = .ok (.iconst (-1), 1) := by decide +kernel
theorem dX2_applyTo_77 : decode cX2_applyTo 77 = .ok (.if_icmp .ne 16, 3) := by decide +kernel
theorem dX2_applyTo_80 : decode cX2_applyTo 80 = .ok (.aload_n 0, 1) := by decide +kernel
theorem dX2_applyTo_81 : decode cX2_applyTo 81 = .ok (.aload_n 3, 1) := by decide +kernel
theorem dX2_applyTo_82 : decode cX2_applyTo 82 = .ok (.iload_n 2, 1) := by decide +kernel
theorem dX2_applyTo_83 : decode cX2_applyTo 83 = .ok (.invokevirtual 54, 3) := by decide +kernel
theorem dX2_applyTo_86 : decode cX2_applyTo 86 = .ok (.ifCond .eq 7, 3) := by decide +kernel
theorem dX2_applyTo_89 : decode cX2_applyTo 89 = .ok (.iconst 1, 1) := by decide +kernel
theorem dX2_applyTo_90 : decode cX2_applyTo 90 = .ok (.goto 4, 3) := by decide +kernel
theorem dX2_applyTo_93 : decode cX2_applyTo 93 = .ok (.iconst 0, 1) := by decide +kernel
theorem dX2_applyTo_94 : decode cX2_applyTo 94 = .ok (.ireturn, 1) := by decide +kernel
theorem dX2_applyTo_95 : decode cX2_applyTo 95 = .ok (.iload 4, 2) := by decide +kernel
theorem dX2_applyTo_97 : decode cX2_applyTo 97 = .ok (.iconst (-1), 1) := by decide +kernel
theorem dX2_applyTo_98 : decode cX2_applyTo 98 = .ok (.if_icmp .ne 5, 3) := by decide +kernel
theorem dX2_applyTo_101 : decode cX2_applyTo 101 = .ok (.iconst 0, 1) := by decide +kernel
theorem dX2_applyTo_102 : decode cX2_applyTo 102 = .ok (.ireturn, 1) := by decide +kernel
theorem dX2_applyTo_103 : decode cX2_applyTo 103 = .ok (.aload_n 0, 1) := by decide +kernel
theorem dX2_applyTo_104 : decode cX2_applyTo 104 = .ok (.getfield 18, 3) := by decide +kernel
theorem dX2_applyTo_107 : decode cX2_applyTo 107 = .ok (.iconst 1, 1) := by decide +kernel
theorem dX2_applyTo_108 : decode cX2_applyTo 108 = .ok (.if_icmp .ne 12, 3) := by decide +kernel
theorem dX2_applyTo_111 : decode cX2_applyTo 111 = .ok (.aload_n 0, 1) := by decide +kernel
theorem dX2_applyTo_112 : decode cX2_applyTo 112 = .ok (.aload_n 3, 1) := by decide +kernel
theorem dX2_applyTo_113 : decode cX2_applyTo 113 = .ok (.iload 4, 2) := by decide +kernel
theorem dX2_applyTo_115 : decode cX2_applyTo 115 = .ok (.iload_n 2, 1) := by decide +kernel
theorem dX2_applyTo_116 : decode cX2_applyTo 116 = .ok (.invokevirtual 58, 3) := by decide +kernel
theorem dX2_applyTo_119 : decode cX2_applyTo 119 = .ok (.ireturn, 1) := by decide +kernel
theorem dX2_applyTo_120 : decode cX2_applyTo 120 = .ok (.aload_n 0, 1) := by decide +kernel
theorem dX2_applyTo_121 : decode cX2_applyTo 121 = .ok (.getfield 18, 3) := by decide +kernel
theorem dX2_applyTo_124 : decode cX2_applyTo 124 = .ok (.iconst 3, 1) := by decide +kernel
theorem dX2_applyTo_125 : decode cX2_applyTo 125 = .ok (.if_icmp .ne 12, 3) := by decide +kernel
theorem dX2_applyTo_128 : decode cX2_applyTo 128 = .ok (.aload_n 0, 1) := by decide +kernel
theorem dX2_applyTo_129 : decode cX2_applyTo 129 = .ok (.aload_n 3, 1) := by decide +kernel
theorem dX2_applyTo_130 : decode cX2_applyTo 130 = .ok (.iload 4, 2) := by decide +kernel
theorem dX2_applyTo_132 : decode cX2_applyTo 132 = .ok (.iload_n 2, 1) := by decide +kernel
theorem dX2_applyTo_133 : decode cX2_applyTo 133 = .ok (.invokevirtual 62, 3) := by decide +kernel
theorem dX2_applyTo_136 : decode cX2_applyTo 136 = .ok (.ireturn, 1) := by decide +kernel
theorem dX2_applyTo_137 : decode cX2_applyTo 137 = .ok (.aload_n 0, 1) := by decide +kernel
theorem dX2_applyTo_138 : decode cX2_applyTo 138 = .ok (.aload_n 3, 1) := by decide +kernel
theorem dX2_applyTo_139 : decode cX2_applyTo 139 = .ok (.getfield 65, 3) := by decide +kernel
theorem dX2_applyTo_142 : decode cX2_applyTo 142 = .ok (.iload 4, 2) := by decide +kernel
theorem dX2_applyTo_144 : decode cX2_applyTo 144 = .ok (.aaload, 1) := by decide +kernel
theorem dX2_applyTo_145 : decode cX2_applyTo 145 = .ok (.getfield 69, 3) := by decide +kernel
theorem dX2_applyTo_148 : decode cX2_applyTo 148 = .ok (.aload_n 0, 1) := by decide +kernel
theorem dX2_applyTo_149 : decode cX2_applyTo 149 = .ok (.getfield 18, 3) := by decide +kernel
theorem dX2_applyTo_152 : decode cX2_applyTo 152 = .ok (.iconst 4, 1) := by decide +kernel
theorem dX2_applyTo_153 : decode cX2_applyTo 153 = .ok (.isub, 1) := by decide +kernel
theorem dX2_applyTo_154 : decode cX2_applyTo 154 = .ok (.invokevirtual 40, 3) := by decide +kernel
theorem dX2_applyTo_157 : decode cX2_applyTo 157 = .ok (.ireturn, 1) := by decide +kernel
theorem dX2_addTo_0 : decode cX2_addTo 0 = .ok (.aload_n 1, 1) := by decide +kernel
theorem dX2_addTo_1 : decode cX2_addTo 1 = .ok (.getfield 73, 3) := by decide +kernel
theorem dX2_addTo_4 : decode cX2_addTo 4 = .ok (.bipush 6, 2) := by decide +kernel
theorem dX2_addTo_6 : decode cX2_addTo 6 = .ok (.if_icmp .ge 18, 3) := by decide +kernel
theorem dX2_addTo_9 : decode cX2_addTo 9 = .ok (.iload_n 2, 1) := by decide +kernel
theorem dX2_addTo_10 : decode cX2_addTo 10 = .ok (.ifCond .ne 16, 3) := by decide +kernel
theorem dX2_addTo_13 : decode cX2_addTo 13 = .ok (.aload_n 0, 1) := by decide +kernel
theorem dX2_addTo_14 : decode cX2_addTo 14 = .ok (.getfield 31, 3) := by decide +kernel
theorem dX2_addTo_17 : decode cX2_addTo 17 = .ok (.aload_n 1, 1) := by decide +kernel
theorem dX2_addTo_18 : decode cX2_addTo 18 = .ok (.getfield 73, 3) := by decide +kernel
theorem dX2_addTo_21 : decode cX2_addTo 21 = .ok (.if_icmp .le 5, 3) := by decide +kernel
theorem dX2_addTo_24 : decode cX2_addTo 24 = .ok (.iconst 0, 1) := by decide +kernel
theorem dX2_addTo_25 : decode cX2_addTo 25 = .ok (.ireturn, 1) := by decide +kernel
theorem dX2_addTo_26 : decode cX2_addTo 26 = .ok (.aload_n 1, 1) := by decide +kernel
theorem dX2_addTo_27 : decode cX2_addTo 27 = .ok (.aload_n 0, 1) := by decide +kernel
theorem dX2_addTo_28 : decode cX2_addTo 28 = .ok (.getfield 31, 3) := by decide +kernel
theorem dX2_addTo_31 : decode cX2_addTo 31 = .ok (.aload_n 1, 1) := by decide +kernel
theorem dX2_addTo_32 : decode cX2_addTo 32 = .ok (.getfield 73, 3) := by decide +kernel
theorem dX2_addTo_35 : decode cX2_addTo 35 = .ok (.invokestatic 76, 3) := by decide +kernel
theorem dX2_addTo_38 : decode cX2_addTo 38 = .ok (.aload_n 0, 1) := by decide +kernel
theorem dX2_addTo_39 : decode cX2_addTo 39 = .ok (.getfield 12, 3) := by decide +kernel
theorem dX2_addTo_42 : decode cX2_addTo 42 = .ok (.invokevirtual 82, 3) := by decide +kernel
theorem dX2_addTo_45 : decode cX2_addTo 45 = .ok (.iconst 1, 1) := by decide +kernel
theorem dX2_addTo_46 : decode cX2_addTo 46 = .ok (.ireturn, 1) := by decide +kernel
theorem dX2_removeFrom_0 : decode cX2_removeFrom 0 = .ok (.iload_n 3, 1) := by decide +kernel
theorem dX2_removeFrom_1 : decode cX2_removeFrom 1 = .ok (.ifCond .ne 11, 3) := by decide +kernel
theorem dX2_removeFrom_4 : decode cX2_removeFrom 4 = .ok (.iload_n 2, 1) := by decide +kernel
theorem dX2_removeFrom_5 : decode cX2_removeFrom 5 = .ok (.aload_n 0, 1) := by decide +kernel
theorem dX2_removeFrom_6 : decode cX2_removeFrom 6 = .ok (.getfield 28, 3) := by decide +kernel
theorem dX2_removeFrom_9 : decode cX2_removeFrom 9 = .ok (.if_icmp .ne 19, 3) := by decide +kernel
theorem dX2_removeFrom_12 : decode cX2_removeFrom 12 = .ok (.aload_n 1, 1) := by decide +kernel
theorem dX2_removeFrom_13 : decode cX2_removeFrom 13 = .ok (.getfield 65, 3) := by decide +kernel
theorem dX2_removeFrom_16 : decode cX2_removeFrom 16 = .ok (.iload_n 2, 1) := by decide +kernel
theorem dX2_removeFrom_17 : decode cX2_removeFrom 17 = .ok (.aaload, 1) := by decide +kernel
theorem dX2_removeFrom_18 : decode cX2_removeFrom 18 = .ok (.aload_n 0, 1) := by decide +kernel
theorem dX2_removeFrom_19 : decode cX2_removeFrom 19 = .ok (.getfield 12, 3) := by decide +kernel
theorem dX2_removeFrom_22 : decode cX2_removeFrom 22 = .ok (.invokevirtual 86, 3) := by decide +kernel
theorem dX2_removeFrom_25 : decode cX2_removeFrom 25 = .ok (.ifCond .ne 5, 3) := by decide +kernel
theorem dX2_removeFrom_28 : decode cX2_removeFrom 28 = .ok (.iconst 0, 1) := by decide +kernel
theorem dX2_removeFrom_29 : decode cX2_removeFrom 29 = .ok (.ireturn, 1) := by decide +kernel
theorem dX2_removeFrom_30 : decode cX2_removeFrom 30 = .ok (.aload_n 1, 1) := by decide +kernel
theorem dX2_removeFrom_31 : decode cX2_removeFrom 31 = .ok (.iload_n 2, 1) := by decide +kernel
theorem dX2_removeFrom_32 : decode cX2_removeFrom 32 = .ok (.invokevirtual 90, 3) := by decide +kernel
theorem dX2_removeFrom_35 : decode cX2_removeFrom 35 = .ok (.iconst 1, 1) := by decide +kernel
theorem dX2_removeFrom_36 : decode cX2_removeFrom 36 = .ok (.ireturn, 1) := by decide +kernel
theorem dX2_moveIn_0 : decode cX2_moveIn 0 = .ok (.iload_n 3, 1) := by decide +kernel
theorem dX2_moveIn_1 : decode cX2_moveIn 1 = .ok (.ifCond .ne 24, 3) := by decide +kernel
theorem dX2_moveIn_4 : decode cX2_moveIn 4 = .ok (.iload_n 2, 1) := by decide +kernel
theorem dX2_moveIn_5 : decode cX2_moveIn 5 = .ok (.aload_n 0, 1) := by decide +kernel
theorem dX2_moveIn_6 : decode cX2_moveIn 6 = .ok (.getfield 28, 3) := by decide +kernel
theorem dX2_moveIn_9 : decode cX2_moveIn 9 = .ok (.if_icmp .ne 14, 3) := by decide +kernel
theorem dX2_moveIn_12 : decode cX2_moveIn 12 = .ok (.aload_n 0, 1) := by decide +kernel
theorem dX2_moveIn_13 : decode cX2_moveIn 13 = .ok (.getfield 31, 3) := by decide +kernel
theorem dX2_moveIn_16 : decode cX2_moveIn 16 = .ok (.aload_n 1, 1) := by decide +kernel
theorem dX2_moveIn_17 : decode cX2_moveIn 17 = .ok (.getfield 73, 3) := by decide +kernel
theorem dX2_moveIn_20 : decode cX2_moveIn 20 = .ok (.if_icmp .lt 5, 3) := by decide +kernel
theorem dX2_moveIn_23 : decode cX2_moveIn 23 = .ok (.iconst 0, 1) := by decide +kernel
theorem dX2_moveIn_24 : decode cX2_moveIn 24 = .ok (.ireturn, 1) := by decide +kernel
theorem dX2_moveIn_25 : decode cX2_moveIn 25 = .ok (.aload_n 1, 1) := by decide +kernel
theorem dX2_moveIn_26 : decode cX2_moveIn 26 = .ok (.iload_n 2, 1) := by decide +kernel
theorem dX2_moveIn_27 : decode cX2_moveIn 27 = .ok (.aload_n 0, 1) := by decide +kernel
theorem dX2_moveIn_28 : decode cX2_moveIn 28 = .ok (.getfield 31, 3) := by decide +kernel
theorem dX2_moveIn_31 : decode cX2_moveIn 31 = .ok (.aload_n 1, 1) := by decide +kernel
theorem dX2_moveIn_32 : decode cX2_moveIn 32 = .ok (.getfield 73, 3) := by decide +kernel
theorem dX2_moveIn_35 : decode cX2_moveIn 35 = .ok (.iconst 1, 1) := by decide +kernel
theorem dX2_moveIn_36 : decode cX2_moveIn 36 = .ok (.isub, 1) := by decide +kernel
theorem dX2_moveIn_37 : decode cX2_moveIn 37 = .ok (.invokestatic 76, 3) := by decide +kernel
theorem dX2_moveIn_40 : decode cX2_moveIn 40 = .ok (.invokevirtual 94, 3) := by decide +kernel
theorem dX2_moveIn_43 : decode cX2_moveIn 43 = .ok (.iconst 1, 1) := by decide +kernel
theorem dX2_moveIn_44 : decode cX2_moveIn 44 = .ok (.ireturn, 1) := by decide +kernel
theorem dX2_setIn_0 : decode cX2_setIn 0 = .ok (.iload_n 2, 1) := by decide +kernel
theorem dX2_setIn_1 : decode cX2_setIn 1 = .ok (.ifCond .lt 19, 3) := by decide +kernel
theorem dX2_setIn_4 : decode cX2_setIn 4 = .ok (.iload_n 2, 1) := by decide +kernel
theorem dX2_setIn_5 : decode cX2_setIn 5 = .ok (.aload_n 1, 1) := by decide +kernel
theorem dX2_setIn_6 : decode cX2_setIn 6 = .ok (.arraylength, 1) := by decide +kernel
theorem dX2_setIn_7 : decode cX2_setIn 7 = .ok (.if_icmp .ge 13, 3) := by decide +kernel
theorem dX2_setIn_10 : decode cX2_setIn 10 = .ok (.aload_n 1, 1) := by decide +kernel
theorem dX2_setIn_11 : decode cX2_setIn 11 = .ok (.iload_n 2, 1) := by decide +kernel
theorem dX2_setIn_12 : decode cX2_setIn 12 = .ok (.iaload, 1) := by decide +kernel
theorem dX2_setIn_13 : decode cX2_setIn 13 = .ok (.aload_n 0, 1) := by decide +kernel
theorem dX2_setIn_14 : decode cX2_setIn 14 = .ok (.getfield 28, 3) := by decide +kernel
theorem dX2_setIn_17 : decode cX2_setIn 17 = .ok (.if_icmp .eq 5, 3) := by decide +kernel
theorem dX2_setIn_20 : decode cX2_setIn 20 = .ok (.iconst 0, 1) := by decide +kernel
theorem dX2_setIn_21 : decode cX2_setIn 21 = .ok (.ireturn, 1) := by decide +kernel
theorem dX2_setIn_22 : decode cX2_setIn 22 = .ok (.aload_n 1, 1) := by decide +kernel
theorem dX2_setIn_23 : decode cX2_setIn 23 = .ok (.iload_n 2, 1) := by decide +kernel
theorem dX2_setIn_24 : decode cX2_setIn 24 = .ok (.aload_n 0, 1) := by decide +kernel
theorem dX2_setIn_25 : decode cX2_setIn 25 = .ok (.getfield 31, 3) := by decide +kernel
theorem dX2_setIn_28 : decode cX2_setIn 28 = .ok (.iastore, 1) := by decide +kernel
theorem dX2_setIn_29 : decode cX2_setIn 29 = .ok (.iconst 1, 1) := by decide +kernel
theorem dX2_setIn_30 : decode cX2_setIn 30 = .ok (.ireturn, 1) := by decide +kernel
theorem dX3_init_0 : decode cX3_init 0 = .ok (.aload_n 0, 1) := by decide +kernel
theorem dX3_init_1 : decode cX3_init 1 = .ok (.invokespecial 3, 3) := by decide +kernel
theorem dX3_init_4 : decode cX3_init 4 = .ok (.aload_n 0, 1) := by decide +kernel
theorem dX3_init_5 : decode cX3_init 5 = .ok (.bipush 78, 2) := by decide +kernel
theorem dX3_init_7 : decode cX3_init 7 = .ok (.anewarray 9, 3) := by decide +kernel
theorem dX3_init_10 : decode cX3_init 10 = .ok (.putfield 11, 3) := by decide +kernel
theorem dX3_init_13 : decode cX3_init 13 = .ok (.aload_n 0, 1) := by decide +kernel
theorem dX3_init_14 : decode cX3_init 14 = .ok (.new 17, 3) := by decide +kernel
theorem dX3_init_17 : decode cX3_init 17 = .ok (.dup, 1) := by decide +kernel
theorem dX3_init_18 : decode cX3_init 18 = .ok (.invokespecial 19, 3) := by decide +kernel
theorem dX3_init_21 : decode cX3_init 21 = .ok (.putfield 20, 3) := by decide +kernel
theorem dX3_init_24 : decode cX3_init 24 = .ok (.iconst 0, 1) := by decide +kernel
theorem dX3_init_25 : decode cX3_init 25 = .ok (.istore_n 1, 1) := by decide +kernel
theorem dX3_init_26 : decode cX3_init 26 = .ok (.iload_n 1, 1) := by decide +kernel
theorem dX3_init_27 : decode cX3_init 27 = .ok (.bipush 78, 2) := by decide +kernel
theorem dX3_init_29 : decode cX3_init 29 = .ok (.if_icmp .ge 22, 3) := by decide +kernel
theorem dX3_init_32 : decode cX3_init 32 = .ok (.aload_n 0, 1) := by decide +kernel
theorem dX3_init_33 : decode cX3_init 33 = .ok (.getfield 11, 3) := by decide +kernel
theorem dX3_init_36 : decode cX3_init 36 = .ok (.iload_n 1, 1) := by decide +kernel
theorem dX3_init_37 : decode cX3_init 37 = .ok (.new 9, 3) := by decide +kernel
theorem dX3_init_40 : decode cX3_init 40 = .ok (.dup, 1) := by decide +kernel
theorem dX3_init_41 : decode cX3_init 41 = .ok (.invokespecial 24, 3) := by decide +kernel
theorem dX3_init_44 : decode cX3_init 44 = .ok (.aastore, 1) := by decide +kernel
theorem dX3_init_45 : decode cX3_init 45 = .ok (.iinc 1 1, 3) := by decide +kernel
theorem dX3_init_48 : decode cX3_init 48 = .ok (.goto (-22), 3) := by decide +kernel
theorem dX3_init_51 : decode cX3_init 51 = .ok (.return_, 1) := by decide +kernel
theorem dX3_fill_0 : decode cX3_fill 0 = .ok (.aload_n 0, 1) := by decide +kernel
theorem dX3_fill_1 : decode cX3_fill 1 = .ok (.iconst 0, 1) := by decide +kernel
theorem dX3_fill_2 : decode cX3_fill 2 = .ok (.putfield 25, 3) := by decide +kernel
theorem dX3_fill_5 : decode cX3_fill 5 = .ok (.iconst 0, 1) := by decide +kernel
theorem dX3_fill_6 : decode cX3_fill 6 = .ok (.istore_n 3, 1) := by decide +kernel
theorem dX3_fill_7 : decode cX3_fill 7 = .ok (.iload_n 3, 1) := by decide +kernel
theorem dX3_fill_8 : decode cX3_fill 8 = .ok (.iconst 3, 1) := by decide +kernel
theorem dX3_fill_9 : decode cX3_fill 9 = .ok (.if_icmp .ge 61, 3) := by decide +kernel
theorem dX3_fill_12 : decode cX3_fill 12 = .ok (.aload_n 0, 1) := by decide +kernel
theorem dX3_fill_13 : decode cX3_fill 13 = .ok (.getfield 20, 3) := by decide +kernel
theorem dX3_fill_16 : decode cX3_fill 16 = .ok (.aload_n 1, 1) := by decide +kernel
theorem dX3_fill_17 : decode cX3_fill 17 = .ok (.getfield 29, 3) := by decide +kernel
theorem dX3_fill_20 : decode cX3_fill 20 = .ok (.iload_n 3, 1) := by decide +kernel
theorem dX3_fill_21 : decode cX3_fill 21 = .ok (.aaload, 1) := by decide +kernel
theorem dX3_fill_22 : decode cX3_fill 22 = .ok (.invokevirtual 35, 3) := by decide +kernel
theorem dX3_fill_25 : decode cX3_fill 25 = .ok (.aload_n 0, 1) := by decide +kernel
theorem dX3_fill_26 : decode cX3_fill 26 = .ok (.iload_n 3, 1) := by decide +kernel
theorem dX3_fill_27 : decode cX3_fill 27 = .ok (.aload_n 2, 1) := by decide +kernel
theorem dX3_fill_28 : decode cX3_fill 28 = .ok (.getfield 29, 3) := by decide +kernel
theorem dX3_fill_31 : decode cX3_fill 31 = .ok (.iload_n 3, 1) := by decide +kernel
theorem dX3_fill_32 : decode cX3_fill 32 = .ok (.aaload, 1) := by decide +kernel
theorem dX3_fill_33 : decode cX3_fill 33 = .ok (.invokevirtual 39, 3) := by decide +kernel
theorem dX3_fill_36 : decode cX3_fill 36 = .ok (.aload_n 0, 1) := by decide +kernel
theorem dX3_fill_37 : decode cX3_fill 37 = .ok (.iload_n 3, 1) := by decide +kernel
theorem dX3_fill_38 : decode cX3_fill 38 = .ok (.aload_n 2, 1) := by decide +kernel
theorem dX3_fill_39 : decode cX3_fill 39 = .ok (.getfield 29, 3) := by decide +kernel
theorem dX3_fill_42 : decode cX3_fill 42 = .ok (.iload_n 3, 1) := by decide +kernel
theorem dX3_fill_43 : decode cX3_fill 43 = .ok (.aaload, 1) := by decide +kernel
theorem dX3_fill_44 : decode cX3_fill 44 = .ok (.invokevirtual 43, 3) := by decide +kernel
theorem dX3_fill_47 : decode cX3_fill 47 = .ok (.aload_n 0, 1) := by decide +kernel
theorem dX3_fill_48 : decode cX3_fill 48 = .ok (.iload_n 3, 1) := by decide +kernel
theorem dX3_fill_49 : decode cX3_fill 49 = .ok (.aload_n 1, 1) := by decide +kernel
theorem dX3_fill_50 : decode cX3_fill 50 = .ok (.getfield 29, 3) := by decide +kernel
theorem dX3_fill_53 : decode cX3_fill 53 = .ok (.iload_n 3, 1) := by decide +kernel
theorem dX3_fill_54 : decode cX3_fill 54 = .ok (.aaload, 1) := by decide +kernel
theorem dX3_fill_55 : decode cX3_fill 55 = .ok (.aload_n 2, 1) := by decide +kernel
theorem dX3_fill_56 : decode cX3_fill 56 = .ok (.getfield 29, 3) := by decide +kernel
theorem dX3_fill_59 : decode cX3_fill 59 = .ok (.iload_n 3, 1) := by decide +kernel
theorem dX3_fill_60 : decode cX3_fill 60 = .ok (.aaload, 1) := by decide +kernel
theorem dX3_fill_61 : decode cX3_fill 61 = .ok (.invokevirtual 46, 3) := by decide +kernel
theorem dX3_fill_64 : decode cX3_fill 64 = .ok (.iinc 3 1, 3) := by decide +kernel
theorem dX3_fill_67 : decode cX3_fill 67 = .ok (.goto (-60), 3) := by decide +kernel
theorem dX3_fill_70 : decode cX3_fill 70 = .ok (.iconst 0, 1) := by decide +kernel
theorem dX3_fill_71 : decode cX3_fill 71 = .ok (.istore_n 3, 1) := by decide +kernel
theorem dX3_fill_72 : decode cX3_fill 72 = .ok (.iload_n 3, 1) := by decide +kernel
theorem dX3_fill_73 : decode cX3_fill 73 = .ok (.iconst 3, 1) := by decide +kernel
theorem dX3_fill_74 : decode cX3_fill 74 = .ok (.if_icmp .ge 53, 3) := by decide +kernel
theorem dX3_fill_77 : decode cX3_fill 77 = .ok (.iconst 0, 1) := by decide +kernel
theorem dX3_fill_78 : decode cX3_fill 78 = .ok (.istore 4, 2) := by decide +kernel
theorem dX3_fill_80 : decode cX3_fill 80 = .ok (.iload 4, 2) := by decide +kernel
theorem dX3_fill_82 : decode cX3_fill 82 = .ok (.iconst 2, 1) := by decide +kernel
theorem dX3_fill_83 : decode cX3_fill 83 = .ok (.if_icmp .ge 38, 3) := by decide +kernel
theorem dX3_fill_86 : decode cX3_fill 86 = .ok (.aload_n 0, 1) := by decide +kernel
theorem dX3_fill_87 : decode cX3_fill 87 = .ok (.bipush 7, 2) := by decide +kernel
theorem dX3_fill_89 : decode cX3_fill 89 = .ok (.iload 4, 2) := by decide +kernel
theorem dX3_fill_91 : decode cX3_fill 91 = .ok (.iadd, 1) := by decide +kernel
theorem dX3_fill_92 : decode cX3_fill 92 = .ok (.iconst 0, 1) := by decide +kernel
theorem dX3_fill_93 : decode cX3_fill 93 = .ok (.iload_n 3, 1) := by decide +kernel
theorem dX3_fill_94 : decode cX3_fill 94 = .ok (.aload_n 1, 1) := by decide +kernel
theorem dX3_fill_95 : decode cX3_fill 95 = .ok (.getfield 50, 3) := by decide +kernel
theorem dX3_fill_98 : decode cX3_fill 98 = .ok (.iload_n 3, 1) := by decide +kernel
theorem dX3_fill_99 : decode cX3_fill 99 = .ok (.aaload, 1) := by decide +kernel
theorem dX3_fill_100 : decode cX3_fill 100 = .ok (.iload 4, 2) := by decide +kernel
theorem dX3_fill_102 : decode cX3_fill 102 = .ok (.iaload, 1) := by decide +kernel
theorem dX3_fill_103 : decode cX3_fill 103 = .ok (.aload_n 2, 1) := by decide +kernel
theorem dX3_fill_104 : decode cX3_fill 104 = .ok (.getfield 50, 3) := by decide +kernel
theorem dX3_fill_107 : decode cX3_fill 107 = .ok (.iload_n 3, 1) := by decide +kernel
theorem dX3_fill_108 : decode cX3_fill 108 = .ok (.aaload, 1) := by decide +kernel
theorem dX3_fill_109 : decode cX3_fill 109 = .ok (.iload 4, 2) := by decide +kernel
theorem dX3_fill_111 : decode cX3_fill 111 = .ok (.iaload, 1) := by decide +kernel
theorem dX3_fill_112 : decode cX3_fill 112 = .ok (.invokevirtual 54, 3) := by decide +kernel
theorem dX3_fill_115 : decode cX3_fill 115 = .ok (.iinc 4 1, 3) := by decide +kernel
theorem dX3_fill_118 : decode cX3_fill 118 = .ok (.goto (-38), 3) := by decide +kernel
theorem dX3_fill_121 : decode cX3_fill 121 = .ok (.iinc 3 1, 3) := by decide +kernel
theorem dX3_fill_124 : decode cX3_fill 124 = .ok (.goto (-52), 3) := by decide +kernel
theorem dX3_fill_127 : decode cX3_fill 127 = .ok (.return_, 1) := by decide +kernel
theorem dX3_invert_0 : decode cX3_invert 0 = .ok (.iconst 0, 1) := by decide +kernel
theorem dX3_invert_1 : decode cX3_invert 1 = .ok (.istore_n 1, 1) := by decide +kernel
theorem dX3_invert_2 : decode cX3_invert 2 = .ok (.aload_n 0, 1) := by decide +kernel
theorem dX3_invert_3 : decode cX3_invert 3 = .ok (.getfield 25, 3) := by decide +kernel
theorem dX3_invert_6 : decode cX3_invert 6 = .ok (.iconst 1, 1) := by decide +kernel
theorem dX3_invert_7 : decode cX3_invert 7 = .ok (.isub, 1) := by decide +kernel
theorem dX3_invert_8 : decode cX3_invert 8 = .ok (.istore_n 2, 1) := by decide +kernel
theorem dX3_invert_9 : decode cX3_invert 9 = .ok (.iload_n 1, 1) := by decide +kernel
theorem dX3_invert_10 : decode cX3_invert 10 = .ok (.iload_n 2, 1) := by decide +kernel
theorem dX3_invert_11 : decode cX3_invert 11 = .ok (.if_icmp .ge 38, 3) := by decide +kernel
theorem dX3_invert_14 : decode cX3_invert 14 = .ok (.aload_n 0, 1) := by decide +kernel
theorem dX3_invert_15 : decode cX3_invert 15 = .ok (.getfield 11, 3) := by decide +kernel
theorem dX3_invert_18 : decode cX3_invert 18 = .ok (.iload_n 1, 1) := by decide +kernel
theorem dX3_invert_19 : decode cX3_invert 19 = .ok (.aaload, 1) := by decide +kernel
theorem dX3_invert_20 : decode cX3_invert 20 = .ok (.astore_n 3, 1) := by decide +kernel
theorem dX3_invert_21 : decode cX3_invert 21 = .ok (.aload_n 0, 1) := by decide +kernel
theorem dX3_invert_22 : decode cX3_invert 22 = .ok (.getfield 11, 3) := by decide +kernel
theorem dX3_invert_25 : decode cX3_invert 25 = .ok (.iload_n 1, 1) := by decide +kernel
theorem dX3_invert_26 : decode cX3_invert 26 = .ok (.aload_n 0, 1) := by decide +kernel
theorem dX3_invert_27 : decode cX3_invert 27 = .ok (.getfield 11, 3) := by decide +kernel
theorem dX3_invert_30 : decode cX3_invert 30 = .ok (.iload_n 2, 1) := by decide +kernel
theorem dX3_invert_31 : decode cX3_invert 31 = .ok (.aaload, 1) := by decide +kernel
theorem dX3_invert_32 : decode cX3_invert 32 = .ok (.aastore, 1) := by decide +kernel
theorem dX3_invert_33 : decode cX3_invert 33 = .ok (.aload_n 0, 1) := by decide +kernel
theorem dX3_invert_34 : decode cX3_invert 34 = .ok (.getfield 11, 3) := by decide +kernel
theorem dX3_invert_37 : decode cX3_invert 37 = .ok (.iload_n 2, 1) := by decide +kernel
theorem dX3_invert_38 : decode cX3_invert 38 = .ok (.aload_n 3, 1) := by decide +kernel
theorem dX3_invert_39 : decode cX3_invert 39 = .ok (.aastore, 1) := by decide +kernel
theorem dX3_invert_40 : decode cX3_invert 40 = .ok (.iinc 1 1, 3) := by decide +kernel
theorem dX3_invert_43 : decode cX3_invert 43 = .ok (.iinc 2 (-1), 3) := by decide +kernel
theorem dX3_invert_46 : decode cX3_invert 46 = .ok (.goto (-37), 3) := by decide +kernel
theorem dX3_invert_49 : decode cX3_invert 49 = .ok (.iconst 0, 1) := by decide +kernel
theorem dX3_invert_50 : decode cX3_invert 50 = .ok (.istore_n 1, 1) := by decide +kernel
theorem dX3_invert_51 : decode cX3_invert 51 = .ok (.iload_n 1, 1) := by decide +kernel
theorem dX3_invert_52 : decode cX3_invert 52 = .ok (.aload_n 0, 1) := by decide +kernel
theorem dX3_invert_53 : decode cX3_invert 53 = .ok (.getfield 25, 3) := by decide +kernel
theorem dX3_invert_56 : decode cX3_invert 56 = .ok (.if_icmp .ge 18, 3) := by decide +kernel
theorem dX3_invert_59 : decode cX3_invert 59 = .ok (.aload_n 0, 1) := by decide +kernel
theorem dX3_invert_60 : decode cX3_invert 60 = .ok (.getfield 11, 3) := by decide +kernel
theorem dX3_invert_63 : decode cX3_invert 63 = .ok (.iload_n 1, 1) := by decide +kernel
theorem dX3_invert_64 : decode cX3_invert 64 = .ok (.aaload, 1) := by decide +kernel
theorem dX3_invert_65 : decode cX3_invert 65 = .ok (.invokevirtual 58, 3) := by decide +kernel
theorem dX3_invert_68 : decode cX3_invert 68 = .ok (.iinc 1 1, 3) := by decide +kernel
theorem dX3_invert_71 : decode cX3_invert 71 = .ok (.goto (-20), 3) := by decide +kernel
theorem dX3_invert_74 : decode cX3_invert 74 = .ok (.return_, 1) := by decide +kernel
theorem dX3_applyTo_0 : decode cX3_applyTo 0 = .ok (.iconst 0, 1) := by decide +kernel
theorem dX3_applyTo_1 : decode cX3_applyTo 1 = .ok (.istore_n 3, 1) := by decide +kernel
theorem dX3_applyTo_2 : decode cX3_applyTo 2 = .ok (.iload_n 3, 1) := by decide +kernel
theorem dX3_applyTo_3 : decode cX3_applyTo 3 = .ok (.aload_n 0, 1) := by decide +kernel
theorem dX3_applyTo_4 : decode cX3_applyTo 4 = .ok (.getfield 25, 3) := by decide +kernel
theorem dX3_applyTo_7 : decode cX3_applyTo 7 = .ok (.if_icmp .ge 25, 3) := by decide +kernel
theorem dX3_applyTo_10 : decode cX3_applyTo 10 = .ok (.aload_n 0, 1) := by decide +kernel
theorem dX3_applyTo_11 : decode cX3_applyTo 11 = .ok (.getfield 11, 3) := by decide +kernel
theorem dX3_applyTo_14 : decode cX3_applyTo 14 = .ok (.iload_n 3, 1) := by decide +kernel
theorem dX3_applyTo_15 : decode cX3_applyTo 15 = .ok (.aaload, 1) := by decide +kernel
theorem dX3_applyTo_16 : decode cX3_applyTo 16 = .ok (.aload_n 1, 1) := by decide +kernel
theorem dX3_applyTo_17 : decode cX3_applyTo 17 = .ok (.iload_n 2, 1) := by decide +kernel
theorem dX3_applyTo_18 : decode cX3_applyTo 18 = .ok (.invokevirtual 61, 3) := by decide +kernel
theorem dX3_applyTo_21 : decode cX3_applyTo 21 = .ok (.ifCond .ne 5, 3) := by decide +kernel
theorem dX3_applyTo_24 : decode cX3_applyTo 24 = .ok (.iconst 0, 1) := by decide +kernel
theorem dX3_applyTo_25 : decode cX3_applyTo 25 = .ok (.ireturn, 1) := by decide +kernel
theorem dX3_applyTo_26 : decode cX3_applyTo 26 = .ok (.iinc 3 1, 3) := by decide +kernel
theorem dX3_applyTo_29 : decode cX3_applyTo 29 = .ok (.goto (-27), 3) := by decide +kernel
theorem dX3_applyTo_32 : decode cX3_applyTo 32 = .ok (.iconst 1, 1) := by decide +kernel
theorem dX3_applyTo_33 : decode cX3_applyTo 33 = .ok (.ireturn, 1) := by decide +kernel
theorem dX3_noteRemovals_0 : decode cX3_noteRemovals 0 = .ok (.aload_n 0, 1) := by decide +kernel
theorem dX3_noteRemovals_1 : decode cX3_noteRemovals 1 = .ok (.getfield 20, 3) := by decide +kernel
theorem dX3_noteRemovals_4 : decode cX3_noteRemovals 4 = .ok (.getfield 65, 3) := by decide +kernel
theorem dX3_noteRemovals_7 : decode cX3_noteRemovals 7 = .ok (.iconst 1, 1) := by decide +kernel
theorem dX3_noteRemovals_8 : decode cX3_noteRemovals 8 = .ok (.isub, 1) := by decide +kernel
theorem dX3_noteRemovals_9 : decode cX3_noteRemovals 9 = .ok (.istore_n 3, 1) := by decide +kernel
theorem dX3_noteRemovals_10 : decode cX3_noteRemovals 10 = .ok (.iload_n 3, 1) := by decide +kernel
theorem dX3_noteRemovals_11 : decode cX3_noteRemovals 11 = .ok (.ifCond .lt 51, 3) := by decide +kernel
theorem dX3_noteRemovals_14 : decode cX3_noteRemovals 14 = .ok (.aload_n 0, 1) := by decide +kernel
theorem dX3_noteRemovals_15 : decode cX3_noteRemovals 15 = .ok (.getfield 20, 3) := by decide +kernel
theorem dX3_noteRemovals_18 : decode cX3_noteRemovals 18 = .ok (.getfield 66, 3) := by decide +kernel
theorem dX3_noteRemovals_21 : decode cX3_noteRemovals 21 = .ok (.iload_n 3, 1) := by decide +kernel
theorem dX3_noteRemovals_22 : decode cX3_noteRemovals 22 = .ok (.aaload, 1) := by decide +kernel
theorem dX3_noteRemovals_23 : decode cX3_noteRemovals 23 = .ok (.astore 4, 2) := by decide +kernel
theorem dX3_noteRemovals_25 : decode cX3_noteRemovals 25 = .ok (.aload_n 2, 1) := by decide +kernel
theorem dX3_noteRemovals_26 : decode cX3_noteRemovals 26 = .ok (.aload 4, 2) := by decide +kernel
theorem dX3_noteRemovals_28 : decode cX3_noteRemovals 28 = .ok (.getfield 70, 3) := by decide +kernel
theorem dX3_noteRemovals_31 : decode cX3_noteRemovals 31 = .ok (.invokevirtual 75, 3) := by decide +kernel
theorem dX3_noteRemovals_34 : decode cX3_noteRemovals 34 = .ok (.iconst (-1), 1) := by decide +kernel
theorem dX3_noteRemovals_35 : decode cX3_noteRemovals 35 = .ok (.if_icmp .ne 21, 3) := by decide +kernel
theorem dX3_noteRemovals_38 : decode cX3_noteRemovals 38 = .ok (.aload_n 0, 1) := by decide +kernel
theorem dX3_noteRemovals_39 : decode cX3_noteRemovals 39 = .ok (.iconst 1, 1) := by decide +kernel
theorem dX3_noteRemovals_40 : decode cX3_noteRemovals 40 = .ok (.iload_n 1, 1) := by decide +kernel
theorem dX3_noteRemovals_41 : decode cX3_noteRemovals 41 = .ok (.aload 4, 2) := by decide +kernel
theorem dX3_noteRemovals_43 : decode cX3_noteRemovals 43 = .ok (.iload_n 3, 1) := by decide +kernel
theorem dX3_noteRemovals_44 : decode cX3_noteRemovals 44 = .ok (.iconst (-1), 1) := by decide +kernel
theorem dX3_noteRemovals_45 : decode cX3_noteRemovals 45 = .ok (.invokevirtual 79, 3) := by decide +kernel
theorem dX3_noteRemovals_48 : decode cX3_noteRemovals 48 = .ok (.aload_n 0, 1) := by decide +kernel
theorem dX3_noteRemovals_49 : decode cX3_noteRemovals 49 = .ok (.getfield 20, 3) := by decide +kernel
theorem dX3_noteRemovals_52 : decode cX3_noteRemovals 52 = .ok (.iload_n 3, 1) := by decide +kernel
theorem dX3_noteRemovals_53 : decode cX3_noteRemovals 53 = .ok (.invokevirtual 83, 3) := by decide +kernel
theorem dX3_noteRemovals_56 : decode cX3_noteRemovals 56 = .ok (.iinc 3 (-1), 3) := by decide +kernel
theorem dX3_noteRemovals_59 : decode cX3_noteRemovals 59 = .ok (.goto (-49), 3) := by decide +kernel
theorem dX3_noteRemovals_62 : decode cX3_noteRemovals 62 = .ok (.return_, 1) := by decide +kernel
theorem dX3_notePlaces_0 : decode cX3_notePlaces 0 = .ok (.iconst 0, 1) := by decide +kernel
theorem dX3_notePlaces_1 : decode cX3_notePlaces 1 = .ok (.istore_n 3, 1) := by decide +kernel
theorem dX3_notePlaces_2 : decode cX3_notePlaces 2 = .ok (.iload_n 3, 1) := by decide +kernel
theorem dX3_notePlaces_3 : decode cX3_notePlaces 3 = .ok (.aload_n 2, 1) := by decide +kernel
theorem dX3_notePlaces_4 : decode cX3_notePlaces 4 = .ok (.getfield 65, 3) := by decide +kernel
theorem dX3_notePlaces_7 : decode cX3_notePlaces 7 = .ok (.if_icmp .ge 90, 3) := by decide +kernel
theorem dX3_notePlaces_10 : decode cX3_notePlaces 10 = .ok (.aload_n 2, 1) := by decide +kernel
theorem dX3_notePlaces_11 : decode cX3_notePlaces 11 = .ok (.getfield 66, 3) := by decide +kernel
theorem dX3_notePlaces_14 : decode cX3_notePlaces 14 = .ok (.iload_n 3, 1) := by decide +kernel
theorem dX3_notePlaces_15 : decode cX3_notePlaces 15 = .ok (.aaload, 1) := by decide +kernel
theorem dX3_notePlaces_16 : decode cX3_notePlaces 16 = .ok (.astore 4, 2) := by decide +kernel
theorem dX3_notePlaces_18 : decode cX3_notePlaces 18 = .ok (.aload_n 0, 1) := by decide +kernel
theorem dX3_notePlaces_19 : decode cX3_notePlaces 19 = .ok (.getfield 20, 3) := by decide +kernel
theorem dX3_notePlaces_22 : decode cX3_notePlaces 22 = .ok (.aload 4, 2) := by decide +kernel
theorem dX3_notePlaces_24 : decode cX3_notePlaces 24 = .ok (.getfield 70, 3) := by decide +kernel
theorem dX3_notePlaces_27 : decode cX3_notePlaces 27 = .ok (.invokevirtual 75, 3) := by decide +kernel
theorem dX3_notePlaces_30 : decode cX3_notePlaces 30 = .ok (.istore 5, 2) := by decide +kernel
theorem dX3_notePlaces_32 : decode cX3_notePlaces 32 = .ok (.iload 5, 2) := by decide +kernel
theorem dX3_notePlaces_34 : decode cX3_notePlaces 34 = .ok (.iconst (-1), 1) := by decide +kernel
theorem dX3_notePlaces_35 : decode cX3_notePlaces 35 = .ok (.if_icmp .ne 26, 3) := by decide +kernel
theorem dX3_notePlaces_38 : decode cX3_notePlaces 38 = .ok (.aload_n 0, 1) := by decide +kernel
theorem dX3_notePlaces_39 : decode cX3_notePlaces 39 = .ok (.iconst 2, 1) := by decide +kernel
theorem dX3_notePlaces_40 : decode cX3_notePlaces 40 = .ok (.iload_n 1, 1) := by decide +kernel
theorem dX3_notePlaces_41 : decode cX3_notePlaces 41 = .ok (.aload 4, 2) := by decide +kernel
theorem dX3_notePlaces_43 : decode cX3_notePlaces 43 = .ok (.iconst (-1), 1) := by decide +kernel
theorem dX3_notePlaces_44 : decode cX3_notePlaces 44 = .ok (.iload_n 3, 1) := by decide +kernel
theorem dX3_notePlaces_45 : decode cX3_notePlaces 45 = .ok (.invokevirtual 79, 3) := by decide +kernel
theorem dX3_notePlaces_48 : decode cX3_notePlaces 48 = .ok (.aload_n 0, 1) := by decide +kernel
theorem dX3_notePlaces_49 : decode cX3_notePlaces 49 = .ok (.getfield 20, 3) := by decide +kernel
theorem dX3_notePlaces_52 : decode cX3_notePlaces 52 = .ok (.iload_n 3, 1) := by decide +kernel
theorem dX3_notePlaces_53 : decode cX3_notePlaces 53 = .ok (.aload 4, 2) := by decide +kernel
theorem dX3_notePlaces_55 : decode cX3_notePlaces 55 = .ok (.invokevirtual 87, 3) := by decide +kernel
theorem dX3_notePlaces_58 : decode cX3_notePlaces 58 = .ok (.goto 33, 3) := by decide +kernel
theorem dX3_notePlaces_61 : decode cX3_notePlaces 61 = .ok (.iload 5, 2) := by decide +kernel
theorem dX3_notePlaces_63 : decode cX3_notePlaces 63 = .ok (.iload_n 3, 1) := by decide +kernel
theorem dX3_notePlaces_64 : decode cX3_notePlaces 64 = .ok (.if_icmp .eq 27, 3) := by decide +kernel
theorem dX3_notePlaces_67 : decode cX3_notePlaces 67 = .ok (.aload_n 0, 1) := by decide +kernel
theorem dX3_notePlaces_68 : decode cX3_notePlaces 68 = .ok (.iconst 3, 1) := by decide +kernel
theorem dX3_notePlaces_69 : decode cX3_notePlaces 69 = .ok (.iload_n 1, 1) := by decide +kernel
theorem dX3_notePlaces_70 : decode cX3_notePlaces 70 = .ok (.aload 4, 2) := by decide +kernel
theorem dX3_notePlaces_72 : decode cX3_notePlaces 72 = .ok (.getfield 70, 3) := by decide +kernel
theorem dX3_notePlaces_75 : decode cX3_notePlaces 75 = .ok (.iload 5, 2) := by decide +kernel
theorem dX3_notePlaces_77 : decode cX3_notePlaces 77 = .ok (.iload_n 3, 1) := by decide +kernel
theorem dX3_notePlaces_78 : decode cX3_notePlaces 78 = .ok (.invokevirtual 91, 3) := by decide +kernel
theorem dX3_notePlaces_81 : decode cX3_notePlaces 81 = .ok (.aload_n 0, 1) := by decide +kernel
theorem dX3_notePlaces_82 : decode cX3_notePlaces 82 = .ok (.getfield 20, 3) := by decide +kernel
theorem dX3_notePlaces_85 : decode cX3_notePlaces 85 = .ok (.iload 5, 2) := by decide +kernel
theorem dX3_notePlaces_87 : decode cX3_notePlaces 87 = .ok (.iload_n 3, 1) := by decide +kernel
theorem dX3_notePlaces_88 : decode cX3_notePlaces 88 = .ok (.invokevirtual 94, 3) := by decide +kernel
theorem dX3_notePlaces_91 : decode cX3_notePlaces 91 = .ok (.iinc 3 1, 3) := by decide +kernel
theorem dX3_notePlaces_94 : decode cX3_notePlaces 94 = .ok (.goto (-92), 3) := by decide +kernel
theorem dX3_notePlaces_97 : decode cX3_notePlaces 97 = .ok (.return_, 1) := by decide +kernel
theorem dX3_noteSettings_0 : decode cX3_noteSettings 0 = .ok (.iconst 0, 1) := by decide +kernel
theorem dX3_noteSettings_1 : decode cX3_noteSettings 1 = .ok (.istore 4, 2) := by decide +kernel
theorem dX3_noteSettings_3 : decode cX3_noteSettings 3 = .ok (.iload 4, 2) := by decide +kernel
theorem dX3_noteSettings_5 : decode cX3_noteSettings 5 = .ok (.bipush 10, 2) := by decide +kernel
theorem dX3_noteSettings_7 : decode cX3_noteSettings 7 = .ok (.if_icmp .ge 97, 3) := by decide +kernel
theorem dX3_noteSettings_10 : decode cX3_noteSettings 10 = .ok (.aload_n 2, 1) := by decide +kernel
theorem dX3_noteSettings_11 : decode cX3_noteSettings 11 = .ok (.iload 4, 2) := by decide +kernel
theorem dX3_noteSettings_13 : decode cX3_noteSettings 13 = .ok (.invokevirtual 75, 3) := by decide +kernel
theorem dX3_noteSettings_16 : decode cX3_noteSettings 16 = .ok (.istore 5, 2) := by decide +kernel
theorem dX3_noteSettings_18 : decode cX3_noteSettings 18 = .ok (.aload_n 3, 1) := by decide +kernel
theorem dX3_noteSettings_19 : decode cX3_noteSettings 19 = .ok (.iload 4, 2) := by decide +kernel
theorem dX3_noteSettings_21 : decode cX3_noteSettings 21 = .ok (.invokevirtual 75, 3) := by decide +kernel
theorem dX3_noteSettings_24 : decode cX3_noteSettings 24 = .ok (.istore 6, 2) := by decide +kernel
theorem dX3_noteSettings_26 : decode cX3_noteSettings 26 = .ok (.iload 5, 2) := by decide +kernel
theorem dX3_noteSettings_28 : decode cX3_noteSettings 28 = .ok (.iconst (-1), 1) := by decide +kernel
theorem dX3_noteSettings_29 : decode cX3_noteSettings 29 = .ok (.if_icmp .eq 69, 3) := by decide +kernel
theorem dX3_noteSettings_32 : decode cX3_noteSettings 32 = .ok (.iload 6, 2) := by decide +kernel
theorem dX3_noteSettings_34 : decode cX3_noteSettings 34 = .ok (.iconst (-1), 1) := by decide +kernel
theorem dX3_noteSettings_35 : decode cX3_noteSettings 35 = .ok (.if_icmp .eq 63, 3) := by decide +kernel
theorem dX3_noteSettings_38 : decode cX3_noteSettings 38 = .ok (.aload_n 2, 1) := by decide +kernel
theorem dX3_noteSettings_39 : decode cX3_noteSettings 39 = .ok (.getfield 66, 3) := by decide +kernel
theorem dX3_noteSettings_42 : decode cX3_noteSettings 42 = .ok (.iload 5, 2) := by decide +kernel
theorem dX3_noteSettings_44 : decode cX3_noteSettings 44 = .ok (.aaload, 1) := by decide +kernel
theorem dX3_noteSettings_45 : decode cX3_noteSettings 45 = .ok (.getfield 98, 3) := by decide +kernel
theorem dX3_noteSettings_48 : decode cX3_noteSettings 48 = .ok (.astore 7, 2) := by decide +kernel
theorem dX3_noteSettings_50 : decode cX3_noteSettings 50 = .ok (.aload_n 3, 1) := by decide +kernel
theorem dX3_noteSettings_51 : decode cX3_noteSettings 51 = .ok (.getfield 66, 3) := by decide +kernel
theorem dX3_noteSettings_54 : decode cX3_noteSettings 54 = .ok (.iload 6, 2) := by decide +kernel
theorem dX3_noteSettings_56 : decode cX3_noteSettings 56 = .ok (.aaload, 1) := by decide +kernel
theorem dX3_noteSettings_57 : decode cX3_noteSettings 57 = .ok (.getfield 98, 3) := by decide +kernel
theorem dX3_noteSettings_60 : decode cX3_noteSettings 60 = .ok (.astore 8, 2) := by decide +kernel
theorem dX3_noteSettings_62 : decode cX3_noteSettings 62 = .ok (.iconst 0, 1) := by decide +kernel
theorem dX3_noteSettings_63 : decode cX3_noteSettings 63 = .ok (.istore 9, 2) := by decide +kernel
theorem dX3_noteSettings_65 : decode cX3_noteSettings 65 = .ok (.iload 9, 2) := by decide +kernel
theorem dX3_noteSettings_67 : decode cX3_noteSettings 67 = .ok (.iconst 3, 1) := by decide +kernel
theorem dX3_noteSettings_68 : decode cX3_noteSettings 68 = .ok (.if_icmp .ge 30, 3) := by decide +kernel
theorem dX3_noteSettings_71 : decode cX3_noteSettings 71 = .ok (.aload_n 0, 1) := by decide +kernel
theorem dX3_noteSettings_72 : decode cX3_noteSettings 72 = .ok (.iconst 4, 1) := by decide +kernel
theorem dX3_noteSettings_73 : decode cX3_noteSettings 73 = .ok (.iload 9, 2) := by decide +kernel
theorem dX3_noteSettings_75 : decode cX3_noteSettings 75 = .ok (.iadd, 1) := by decide +kernel
theorem dX3_noteSettings_76 : decode cX3_noteSettings 76 = .ok (.iload_n 1, 1) := by decide +kernel
theorem dX3_noteSettings_77 : decode cX3_noteSettings 77 = .ok (.iload 4, 2) := by decide +kernel
theorem dX3_noteSettings_79 : decode cX3_noteSettings 79 = .ok (.aload 7, 2) := by decide +kernel
theorem dX3_noteSettings_81 : decode cX3_noteSettings 81 = .ok (.iload 9, 2) := by decide +kernel
theorem dX3_noteSettings_83 : decode cX3_noteSettings 83 = .ok (.iaload, 1) := by decide +kernel
theorem dX3_noteSettings_84 : decode cX3_noteSettings 84 = .ok (.aload 8, 2) := by decide +kernel
theorem dX3_noteSettings_86 : decode cX3_noteSettings 86 = .ok (.iload 9, 2) := by decide +kernel
theorem dX3_noteSettings_88 : decode cX3_noteSettings 88 = .ok (.iaload, 1) := by decide +kernel
theorem dX3_noteSettings_89 : decode cX3_noteSettings 89 = .ok (.invokevirtual 54, 3) := by decide +kernel
theorem dX3_noteSettings_92 : decode cX3_noteSettings 92 = .ok (.iinc 9 1, 3) := by decide +kernel
theorem dX3_noteSettings_95 : decode cX3_noteSettings 95 = .ok (.goto (-30), 3) := by decide +kernel
theorem dX3_noteSettings_98 : decode cX3_noteSettings 98 = .ok (.iinc 4 1, 3) := by decide +kernel
theorem dX3_noteSettings_101 : decode cX3_noteSettings 101 = .ok (.goto (-98), 3) := by decide +kernel
theorem dX3_noteSettings_104 : decode cX3_noteSettings 104 = .ok (.return_, 1) := by decide +kernel
theorem dX3_noteIfUnlike_0 : decode cX3_noteIfUnlike 0 = .ok (.iload 4, 2) := by decide +kernel
theorem dX3_noteIfUnlike_2 : decode cX3_noteIfUnlike 2 = .ok (.iload 5, 2) := by decide +kernel
theorem dX3_noteIfUnlike_4 : decode cX3_noteIfUnlike 4 = .ok (.if_icmp .eq 14, 3) := by decide +kernel
theorem dX3_noteIfUnlike_7 : decode cX3_noteIfUnlike 7 = .ok (.aload_n 0, 1) := by decide +kernel
theorem dX3_noteIfUnlike_8 : decode cX3_noteIfUnlike 8 = .ok (.iload_n 1, 1) := by decide +kernel
theorem dX3_noteIfUnlike_9 : decode cX3_noteIfUnlike 9 = .ok (.iload_n 2, 1) := by decide +kernel
theorem dX3_noteIfUnlike_10 : decode cX3_noteIfUnlike 10 = .ok (.iload_n 3, 1) := by decide +kernel
theorem dX3_noteIfUnlike_11 : decode cX3_noteIfUnlike 11 = .ok (.iload 4, 2) := by decide +kernel
theorem dX3_noteIfUnlike_13 : decode cX3_noteIfUnlike 13 = .ok (.iload 5, 2) := by decide +kernel
theorem dX3_noteIfUnlike_15 : decode cX3_noteIfUnlike 15 = .ok (.invokevirtual 91, 3) := by decide +kernel
theorem dX3_noteIfUnlike_18 : decode cX3_noteIfUnlike 18 = .ok (.return_, 1) := by decide +kernel
theorem dX3_noteWhole_0 : decode cX3_noteWhole 0 = .ok (.aload_n 0, 1) := by decide +kernel
theorem dX3_noteWhole_1 : decode cX3_noteWhole 1 = .ok (.getfield 25, 3) := by decide +kernel
theorem dX3_noteWhole_4 : decode cX3_noteWhole 4 = .ok (.bipush 78, 2) := by decide +kernel
theorem dX3_noteWhole_6 : decode cX3_noteWhole 6 = .ok (.if_icmp .ge 33, 3) := by decide +kernel
theorem dX3_noteWhole_9 : decode cX3_noteWhole 9 = .ok (.aload_n 0, 1) := by decide +kernel
theorem dX3_noteWhole_10 : decode cX3_noteWhole 10 = .ok (.getfield 11, 3) := by decide +kernel
theorem dX3_noteWhole_13 : decode cX3_noteWhole 13 = .ok (.aload_n 0, 1) := by decide +kernel
theorem dX3_noteWhole_14 : decode cX3_noteWhole 14 = .ok (.getfield 25, 3) := by decide +kernel
theorem dX3_noteWhole_17 : decode cX3_noteWhole 17 = .ok (.aaload, 1) := by decide +kernel
theorem dX3_noteWhole_18 : decode cX3_noteWhole 18 = .ok (.getfield 102, 3) := by decide +kernel
theorem dX3_noteWhole_21 : decode cX3_noteWhole 21 = .ok (.aload_n 3, 1) := by decide +kernel
theorem dX3_noteWhole_22 : decode cX3_noteWhole 22 = .ok (.invokevirtual 106, 3) := by decide +kernel
theorem dX3_noteWhole_25 : decode cX3_noteWhole 25 = .ok (.aload_n 0, 1) := by decide +kernel
theorem dX3_noteWhole_26 : decode cX3_noteWhole 26 = .ok (.iload_n 1, 1) := by decide +kernel
theorem dX3_noteWhole_27 : decode cX3_noteWhole 27 = .ok (.iload_n 2, 1) := by decide +kernel
theorem dX3_noteWhole_28 : decode cX3_noteWhole 28 = .ok (.aload_n 3, 1) := by decide +kernel
theorem dX3_noteWhole_29 : decode cX3_noteWhole 29 = .ok (.getfield 70, 3) := by decide +kernel
theorem dX3_noteWhole_32 : decode cX3_noteWhole 32 = .ok (.iload 4, 2) := by decide +kernel
theorem dX3_noteWhole_34 : decode cX3_noteWhole 34 = .ok (.iload 5, 2) := by decide +kernel
theorem dX3_noteWhole_36 : decode cX3_noteWhole 36 = .ok (.invokevirtual 91, 3) := by decide +kernel
theorem dX3_noteWhole_39 : decode cX3_noteWhole 39 = .ok (.return_, 1) := by decide +kernel
theorem dX3_note_0 : decode cX3_note 0 = .ok (.aload_n 0, 1) := by decide +kernel
theorem dX3_note_1 : decode cX3_note 1 = .ok (.getfield 25, 3) := by decide +kernel
theorem dX3_note_4 : decode cX3_note 4 = .ok (.bipush 78, 2) := by decide +kernel
theorem dX3_note_6 : decode cX3_note 6 = .ok (.if_icmp .ge 32, 3) := by decide +kernel
theorem dX3_note_9 : decode cX3_note 9 = .ok (.aload_n 0, 1) := by decide +kernel
theorem dX3_note_10 : decode cX3_note 10 = .ok (.getfield 11, 3) := by decide +kernel
theorem dX3_note_13 : decode cX3_note 13 = .ok (.aload_n 0, 1) := by decide +kernel
theorem dX3_note_14 : decode cX3_note 14 = .ok (.getfield 25, 3) := by decide +kernel
theorem dX3_note_17 : decode cX3_note 17 = .ok (.aaload, 1) := by decide +kernel
theorem dX3_note_18 : decode cX3_note 18 = .ok (.iload_n 1, 1) := by decide +kernel
theorem dX3_note_19 : decode cX3_note 19 = .ok (.iload_n 2, 1) := by decide +kernel
theorem dX3_note_20 : decode cX3_note 20 = .ok (.iload_n 3, 1) := by decide +kernel
theorem dX3_note_21 : decode cX3_note 21 = .ok (.iload 4, 2) := by decide +kernel
theorem dX3_note_23 : decode cX3_note 23 = .ok (.iload 5, 2) := by decide +kernel
theorem dX3_note_25 : decode cX3_note 25 = .ok (.invokevirtual 109, 3) := by decide +kernel
theorem dX3_note_28 : decode cX3_note 28 = .ok (.aload_n 0, 1) := by decide +kernel
theorem dX3_note_29 : decode cX3_note 29 = .ok (.dup, 1) := by decide +kernel
theorem dX3_note_30 : decode cX3_note 30 = .ok (.getfield 25, 3) := by decide +kernel
theorem dX3_note_33 : decode cX3_note 33 = .ok (.iconst 1, 1) := by decide +kernel
theorem dX3_note_34 : decode cX3_note 34 = .ok (.iadd, 1) := by decide +kernel
theorem dX3_note_35 : decode cX3_note 35 = .ok (.putfield 25, 3) := by decide +kernel
theorem dX3_note_38 : decode cX3_note 38 = .ok (.return_, 1) := by decide +kernel
theorem dX4_init_0 : decode cX4_init 0 = .ok (.aload_n 0, 1) := by decide +kernel
theorem dX4_init_1 : decode cX4_init 1 = .ok (.invokespecial 3, 3) := by decide +kernel
theorem dX4_init_4 : decode cX4_init 4 = .ok (.aload_n 0, 1) := by decide +kernel
theorem dX4_init_5 : decode cX4_init 5 = .ok (.iconst 3, 1) := by decide +kernel
theorem dX4_init_6 : decode cX4_init 6 = .ok (.newarray .int, 2) := by decide +kernel
theorem dX4_init_8 : decode cX4_init 8 = .ok (.putfield 9, 3) := by decide +kernel
theorem dX4_init_11 : decode cX4_init 11 = .ok (.return_, 1) := by decide +kernel
theorem dX4_clear_0 : decode cX4_clear 0 = .ok (.aload_n 0, 1) := by decide +kernel
theorem dX4_clear_1 : decode cX4_clear 1 = .ok (.iload_n 1, 1) := by decide +kernel
theorem dX4_clear_2 : decode cX4_clear 2 = .ok (.putfield 15, 3) := by decide +kernel
theorem dX4_clear_5 : decode cX4_clear 5 = .ok (.iconst 0, 1) := by decide +kernel
theorem dX4_clear_6 : decode cX4_clear 6 = .ok (.istore_n 2, 1) := by decide +kernel
theorem dX4_clear_7 : decode cX4_clear 7 = .ok (.iload_n 2, 1) := by decide +kernel
theorem dX4_clear_8 : decode cX4_clear 8 = .ok (.iconst 3, 1) := by decide +kernel
theorem dX4_clear_9 : decode cX4_clear 9 = .ok (.if_icmp .ge 16, 3) := by decide +kernel
theorem dX4_clear_12 : decode cX4_clear 12 = .ok (.aload_n 0, 1) := by decide +kernel
theorem dX4_clear_13 : decode cX4_clear 13 = .ok (.getfield 9, 3) := by decide +kernel
theorem dX4_clear_16 : decode cX4_clear 16 = .ok (.iload_n 2, 1) := by decide +kernel
theorem dX4_clear_17 : decode cX4_clear 17 = .ok (.iconst (-1), 1) := by decide +kernel
theorem dX4_clear_18 : decode cX4_clear 18 = .ok (.iastore, 1) := by decide +kernel
theorem dX4_clear_19 : decode cX4_clear 19 = .ok (.iinc 2 1, 3) := by decide +kernel
theorem dX4_clear_22 : decode cX4_clear 22 = .ok (.goto (-15), 3) := by decide +kernel
theorem dX4_clear_25 : decode cX4_clear 25 = .ok (.return_, 1) := by decide +kernel
theorem dX4_copyFrom_0 : decode cX4_copyFrom 0 = .ok (.aload_n 0, 1) := by decide +kernel
theorem dX4_copyFrom_1 : decode cX4_copyFrom 1 = .ok (.aload_n 1, 1) := by decide +kernel
theorem dX4_copyFrom_2 : decode cX4_copyFrom 2 = .ok (.getfield 15, 3) := by decide +kernel
theorem dX4_copyFrom_5 : decode cX4_copyFrom 5 = .ok (.putfield 15, 3) := by decide +kernel
theorem dX4_copyFrom_8 : decode cX4_copyFrom 8 = .ok (.iconst 0, 1) := by decide +kernel
theorem dX4_copyFrom_9 : decode cX4_copyFrom 9 = .ok (.istore_n 2, 1) := by decide +kernel
theorem dX4_copyFrom_10 : decode cX4_copyFrom 10 = .ok (.iload_n 2, 1) := by decide +kernel
theorem dX4_copyFrom_11 : decode cX4_copyFrom 11 = .ok (.iconst 3, 1) := by decide +kernel
theorem dX4_copyFrom_12 : decode cX4_copyFrom 12 = .ok (.if_icmp .ge 21, 3) := by decide +kernel
theorem dX4_copyFrom_15 : decode cX4_copyFrom 15 = .ok (.aload_n 0, 1) := by decide +kernel
theorem dX4_copyFrom_16 : decode cX4_copyFrom 16 = .ok (.getfield 9, 3) := by decide +kernel
theorem dX4_copyFrom_19 : decode cX4_copyFrom 19 = .ok (.iload_n 2, 1) := by decide +kernel
theorem dX4_copyFrom_20 : decode cX4_copyFrom 20 = .ok (.aload_n 1, 1) := by decide +kernel
theorem dX4_copyFrom_21 : decode cX4_copyFrom 21 = .ok (.getfield 9, 3) := by decide +kernel
theorem dX4_copyFrom_24 : decode cX4_copyFrom 24 = .ok (.iload_n 2, 1) := by decide +kernel
theorem dX4_copyFrom_25 : decode cX4_copyFrom 25 = .ok (.iaload, 1) := by decide +kernel
theorem dX4_copyFrom_26 : decode cX4_copyFrom 26 = .ok (.iastore, 1) := by decide +kernel
theorem dX4_copyFrom_27 : decode cX4_copyFrom 27 = .ok (.iinc 2 1, 3) := by decide +kernel
theorem dX4_copyFrom_30 : decode cX4_copyFrom 30 = .ok (.goto (-20), 3) := by decide +kernel
theorem dX4_copyFrom_33 : decode cX4_copyFrom 33 = .ok (.return_, 1) := by decide +kernel
theorem dX4_isLike_0 : decode cX4_isLike 0 = .ok (.iconst 0, 1) := by decide +kernel
theorem dX4_isLike_1 : decode cX4_isLike 1 = .ok (.istore_n 2, 1) := by decide +kernel
theorem dX4_isLike_2 : decode cX4_isLike 2 = .ok (.iload_n 2, 1) := by decide +kernel
theorem dX4_isLike_3 : decode cX4_isLike 3 = .ok (.iconst 3, 1) := by decide +kernel
theorem dX4_isLike_4 : decode cX4_isLike 4 = .ok (.if_icmp .ge 26, 3) := by decide +kernel
theorem dX4_isLike_7 : decode cX4_isLike 7 = .ok (.aload_n 0, 1) := by decide +kernel
theorem dX4_isLike_8 : decode cX4_isLike 8 = .ok (.getfield 9, 3) := by decide +kernel
theorem dX4_isLike_11 : decode cX4_isLike 11 = .ok (.iload_n 2, 1) := by decide +kernel
theorem dX4_isLike_12 : decode cX4_isLike 12 = .ok (.iaload, 1) := by decide +kernel
theorem dX4_isLike_13 : decode cX4_isLike 13 = .ok (.aload_n 1, 1) := by decide +kernel
theorem dX4_isLike_14 : decode cX4_isLike 14 = .ok (.getfield 9, 3) := by decide +kernel
theorem dX4_isLike_17 : decode cX4_isLike 17 = .ok (.iload_n 2, 1) := by decide +kernel
theorem dX4_isLike_18 : decode cX4_isLike 18 = .ok (.iaload, 1) := by decide +kernel
theorem dX4_isLike_19 : decode cX4_isLike 19 = .ok (.if_icmp .eq 5, 3) := by decide +kernel
theorem dX4_isLike_22 : decode cX4_isLike 22 = .ok (.iconst 0, 1) := by decide +kernel
theorem dX4_isLike_23 : decode cX4_isLike 23 = .ok (.ireturn, 1) := by decide +kernel
theorem dX4_isLike_24 : decode cX4_isLike 24 = .ok (.iinc 2 1, 3) := by decide +kernel
theorem dX4_isLike_27 : decode cX4_isLike 27 = .ok (.goto (-25), 3) := by decide +kernel
theorem dX4_isLike_30 : decode cX4_isLike 30 = .ok (.aload_n 0, 1) := by decide +kernel
theorem dX4_isLike_31 : decode cX4_isLike 31 = .ok (.getfield 15, 3) := by decide +kernel
theorem dX4_isLike_34 : decode cX4_isLike 34 = .ok (.aload_n 1, 1) := by decide +kernel
theorem dX4_isLike_35 : decode cX4_isLike 35 = .ok (.getfield 15, 3) := by decide +kernel
theorem dX4_isLike_38 : decode cX4_isLike 38 = .ok (.if_icmp .ne 7, 3) := by decide +kernel
theorem dX4_isLike_41 : decode cX4_isLike 41 = .ok (.iconst 1, 1) := by decide +kernel
theorem dX4_isLike_42 : decode cX4_isLike 42 = .ok (.goto 4, 3) := by decide +kernel
theorem dX4_isLike_45 : decode cX4_isLike 45 = .ok (.iconst 0, 1) := by decide +kernel
theorem dX4_isLike_46 : decode cX4_isLike 46 = .ok (.ireturn, 1) := by decide +kernel
theorem dX5_init_0 : decode cX5_init 0 = .ok (.aload_n 0, 1) := by decide +kernel
theorem dX5_init_1 : decode cX5_init 1 = .ok (.invokespecial 3, 3) := by decide +kernel
theorem dX5_init_4 : decode cX5_init 4 = .ok (.return_, 1) := by decide +kernel
theorem dX5_isKeptBy_0 : decode cX5_isKeptBy 0 = .ok (.aload_n 1, 1) := by decide +kernel
theorem dX5_isKeptBy_1 : decode cX5_isKeptBy 1 = .ok (.getfield 9, 3) := by decide +kernel
theorem dX5_isKeptBy_4 : decode cX5_isKeptBy 4 = .ok (.aload_n 0, 1) := by decide +kernel
theorem dX5_isKeptBy_5 : decode cX5_isKeptBy 5 = .ok (.getfield 15, 3) := by decide +kernel
theorem dX5_isKeptBy_8 : decode cX5_isKeptBy 8 = .ok (.aaload, 1) := by decide +kernel
theorem dX5_isKeptBy_9 : decode cX5_isKeptBy 9 = .ok (.getfield 21, 3) := by decide +kernel
theorem dX5_isKeptBy_12 : decode cX5_isKeptBy 12 = .ok (.istore_n 2, 1) := by decide +kernel
theorem dX5_isKeptBy_13 : decode cX5_isKeptBy 13 = .ok (.iconst 0, 1) := by decide +kernel
theorem dX5_isKeptBy_14 : decode cX5_isKeptBy 14 = .ok (.istore_n 3, 1) := by decide +kernel
theorem dX5_isKeptBy_15 : decode cX5_isKeptBy 15 = .ok (.iload_n 3, 1) := by decide +kernel
theorem dX5_isKeptBy_16 : decode cX5_isKeptBy 16 = .ok (.iload_n 2, 1) := by decide +kernel
theorem dX5_isKeptBy_17 : decode cX5_isKeptBy 17 = .ok (.if_icmp .ge 20, 3) := by decide +kernel
theorem dX5_isKeptBy_20 : decode cX5_isKeptBy 20 = .ok (.aload_n 0, 1) := by decide +kernel
theorem dX5_isKeptBy_21 : decode cX5_isKeptBy 21 = .ok (.aload_n 1, 1) := by decide +kernel
theorem dX5_isKeptBy_22 : decode cX5_isKeptBy 22 = .ok (.iload_n 3, 1) := by decide +kernel
theorem dX5_isKeptBy_23 : decode cX5_isKeptBy 23 = .ok (.invokevirtual 26, 3) := by decide +kernel
theorem dX5_isKeptBy_26 : decode cX5_isKeptBy 26 = .ok (.ifCond .ne 5, 3) := by decide +kernel
theorem dX5_isKeptBy_29 : decode cX5_isKeptBy 29 = .ok (.iconst 0, 1) := by decide +kernel
theorem dX5_isKeptBy_30 : decode cX5_isKeptBy 30 = .ok (.ireturn, 1) := by decide +kernel
theorem dX5_isKeptBy_31 : decode cX5_isKeptBy 31 = .ok (.iinc 3 1, 3) := by decide +kernel
theorem dX5_isKeptBy_34 : decode cX5_isKeptBy 34 = .ok (.goto (-19), 3) := by decide +kernel
theorem dX5_isKeptBy_37 : decode cX5_isKeptBy 37 = .ok (.iconst 1, 1) := by decide +kernel
theorem dX5_isKeptBy_38 : decode cX5_isKeptBy 38 = .ok (.ireturn, 1) := by decide +kernel
theorem dX5_isKeptAt_0 : decode cX5_isKeptAt 0 = .ok (.aload_n 0, 1) := by decide +kernel
theorem dX5_isKeptAt_1 : decode cX5_isKeptAt 1 = .ok (.aload_n 1, 1) := by decide +kernel
theorem dX5_isKeptAt_2 : decode cX5_isKeptAt 2 = .ok (.iload_n 2, 1) := by decide +kernel
theorem dX5_isKeptAt_3 : decode cX5_isKeptAt 3 = .ok (.invokevirtual 30, 3) := by decide +kernel
theorem dX5_isKeptAt_6 : decode cX5_isKeptAt 6 = .ok (.istore_n 3, 1) := by decide +kernel
theorem dX5_isKeptAt_7 : decode cX5_isKeptAt 7 = .ok (.iload_n 3, 1) := by decide +kernel
theorem dX5_isKeptAt_8 : decode cX5_isKeptAt 8 = .ok (.iconst (-1), 1) := by decide +kernel
theorem dX5_isKeptAt_9 : decode cX5_isKeptAt 9 = .ok (.if_icmp .ne 16, 3) := by decide +kernel
theorem dX5_isKeptAt_12 : decode cX5_isKeptAt 12 = .ok (.aload_n 0, 1) := by decide +kernel
theorem dX5_isKeptAt_13 : decode cX5_isKeptAt 13 = .ok (.getfield 34, 3) := by decide +kernel
theorem dX5_isKeptAt_16 : decode cX5_isKeptAt 16 = .ok (.ifCond .eq 7, 3) := by decide +kernel
theorem dX5_isKeptAt_19 : decode cX5_isKeptAt 19 = .ok (.iconst 1, 1) := by decide +kernel
theorem dX5_isKeptAt_20 : decode cX5_isKeptAt 20 = .ok (.goto 4, 3) := by decide +kernel
theorem dX5_isKeptAt_23 : decode cX5_isKeptAt 23 = .ok (.iconst 0, 1) := by decide +kernel
theorem dX5_isKeptAt_24 : decode cX5_isKeptAt 24 = .ok (.ireturn, 1) := by decide +kernel
theorem dX5_isKeptAt_25 : decode cX5_isKeptAt 25 = .ok (.aload_n 0, 1) := by decide +kernel
theorem dX5_isKeptAt_26 : decode cX5_isKeptAt 26 = .ok (.getfield 34, 3) := by decide +kernel
theorem dX5_isKeptAt_29 : decode cX5_isKeptAt 29 = .ok (.iconst 1, 1) := by decide +kernel
theorem dX5_isKeptAt_30 : decode cX5_isKeptAt 30 = .ok (.if_icmp .ne 17, 3) := by decide +kernel
theorem dX5_isKeptAt_33 : decode cX5_isKeptAt 33 = .ok (.iload_n 3, 1) := by decide +kernel
theorem dX5_isKeptAt_34 : decode cX5_isKeptAt 34 = .ok (.aload_n 0, 1) := by decide +kernel
theorem dX5_isKeptAt_35 : decode cX5_isKeptAt 35 = .ok (.getfield 37, 3) := by decide +kernel
theorem dX5_isKeptAt_38 : decode cX5_isKeptAt 38 = .ok (.if_icmp .gt 7, 3) := by decide +kernel
theorem dX5_isKeptAt_41 : decode cX5_isKeptAt 41 = .ok (.iconst 1, 1) := by decide +kernel
theorem dX5_isKeptAt_42 : decode cX5_isKeptAt 42 = .ok (.goto 4, 3) := by decide +kernel
theorem dX5_isKeptAt_45 : decode cX5_isKeptAt 45 = .ok (.iconst 0, 1) := by decide +kernel
theorem dX5_isKeptAt_46 : decode cX5_isKeptAt 46 = .ok (.ireturn, 1) := by decide +kernel
theorem dX5_isKeptAt_47 : decode cX5_isKeptAt 47 = .ok (.aload_n 0, 1) := by decide +kernel
theorem dX5_isKeptAt_48 : decode cX5_isKeptAt 48 = .ok (.getfield 34, 3) := by decide +kernel
theorem dX5_isKeptAt_51 : decode cX5_isKeptAt 51 = .ok (.iconst 2, 1) := by decide +kernel
theorem dX5_isKeptAt_52 : decode cX5_isKeptAt 52 = .ok (.if_icmp .ne 34, 3) := by decide +kernel
theorem dX5_isKeptAt_55 : decode cX5_isKeptAt 55 = .ok (.aload_n 0, 1) := by decide +kernel
theorem dX5_isKeptAt_56 : decode cX5_isKeptAt 56 = .ok (.getfield 37, 3) := by decide +kernel
theorem dX5_isKeptAt_59 : decode cX5_isKeptAt 59 = .ok (.iconst 3, 1) := by decide +kernel
theorem dX5_isKeptAt_60 : decode cX5_isKeptAt 60 = .ok (.if_icmp .ge 24, 3) := by decide +kernel
theorem dX5_isKeptAt_63 : decode cX5_isKeptAt 63 = .ok (.aload_n 1, 1) := by decide +kernel
theorem dX5_isKeptAt_64 : decode cX5_isKeptAt 64 = .ok (.getfield 9, 3) := by decide +kernel
theorem dX5_isKeptAt_67 : decode cX5_isKeptAt 67 = .ok (.aload_n 0, 1) := by decide +kernel
theorem dX5_isKeptAt_68 : decode cX5_isKeptAt 68 = .ok (.getfield 37, 3) := by decide +kernel
theorem dX5_isKeptAt_71 : decode cX5_isKeptAt 71 = .ok (.aaload, 1) := by decide +kernel
theorem dX5_isKeptAt_72 : decode cX5_isKeptAt 72 = .ok (.iload_n 3, 1) := by decide +kernel
theorem dX5_isKeptAt_73 : decode cX5_isKeptAt 73 = .ok (.invokevirtual 40, 3) := by decide +kernel
theorem dX5_isKeptAt_76 : decode cX5_isKeptAt 76 = .ok (.iconst (-1), 1) := by decide +kernel
theorem dX5_isKeptAt_77 : decode cX5_isKeptAt 77 = .ok (.if_icmp .eq 7, 3) := by decide +kernel
theorem dX5_isKeptAt_80 : decode cX5_isKeptAt 80 = .ok (.iconst 1, 1) := by decide +kernel
theorem dX5_isKeptAt_81 : decode cX5_isKeptAt 81 = .ok (.goto 4, 3) := by decide +kernel
theorem dX5_isKeptAt_84 : decode cX5_isKeptAt 84 = .ok (.iconst 0, 1) := by decide +kernel
theorem dX5_isKeptAt_85 : decode cX5_isKeptAt 85 = .ok (.ireturn, 1) := by decide +kernel
theorem dX5_isKeptAt_86 : decode cX5_isKeptAt 86 = .ok (.aload_n 0, 1) := by decide +kernel
theorem dX5_isKeptAt_87 : decode cX5_isKeptAt 87 = .ok (.getfield 34, 3) := by decide +kernel
theorem dX5_isKeptAt_90 : decode cX5_isKeptAt 90 = .ok (.iconst 3, 1) := by decide +kernel
theorem dX5_isKeptAt_91 : decode cX5_isKeptAt 91 = .ok (.if_icmp .ne 13, 3) := by decide +kernel
theorem dX5_isKeptAt_94 : decode cX5_isKeptAt 94 = .ok (.aload_n 0, 1) := by decide +kernel
theorem dX5_isKeptAt_95 : decode cX5_isKeptAt 95 = .ok (.aload_n 1, 1) := by decide +kernel
theorem dX5_isKeptAt_96 : decode cX5_isKeptAt 96 = .ok (.iload_n 2, 1) := by decide +kernel
theorem dX5_isKeptAt_97 : decode cX5_isKeptAt 97 = .ok (.iload_n 3, 1) := by decide +kernel
theorem dX5_isKeptAt_98 : decode cX5_isKeptAt 98 = .ok (.invokevirtual 44, 3) := by decide +kernel
theorem dX5_isKeptAt_101 : decode cX5_isKeptAt 101 = .ok (.ifCond .ne 7, 3) := by decide +kernel
theorem dX5_isKeptAt_104 : decode cX5_isKeptAt 104 = .ok (.iconst 1, 1) := by decide +kernel
theorem dX5_isKeptAt_105 : decode cX5_isKeptAt 105 = .ok (.goto 4, 3) := by decide +kernel
theorem dX5_isKeptAt_108 : decode cX5_isKeptAt 108 = .ok (.iconst 0, 1) := by decide +kernel
theorem dX5_isKeptAt_109 : decode cX5_isKeptAt 109 = .ok (.ireturn, 1) := by decide +kernel
theorem dX5_isShownAhead_0 : decode cX5_isShownAhead 0 = .ok (.iconst 0, 1) := by decide +kernel
theorem dX5_isShownAhead_1 : decode cX5_isShownAhead 1 = .ok (.istore 4, 2) := by decide +kernel
theorem dX5_isShownAhead_3 : decode cX5_isShownAhead 3 = .ok (.iload 4, 2) := by decide +kernel
theorem dX5_isShownAhead_5 : decode cX5_isShownAhead 5 = .ok (.iload_n 2, 1) := by decide +kernel
theorem dX5_isShownAhead_6 : decode cX5_isShownAhead 6 = .ok (.if_icmp .ge 22, 3) := by decide +kernel
theorem dX5_isShownAhead_9 : decode cX5_isShownAhead 9 = .ok (.aload_n 0, 1) := by decide +kernel
theorem dX5_isShownAhead_10 : decode cX5_isShownAhead 10 = .ok (.aload_n 1, 1) := by decide +kernel
theorem dX5_isShownAhead_11 : decode cX5_isShownAhead 11 = .ok (.iload 4, 2) := by decide +kernel
theorem dX5_isShownAhead_13 : decode cX5_isShownAhead 13 = .ok (.invokevirtual 30, 3) := by decide +kernel
theorem dX5_isShownAhead_16 : decode cX5_isShownAhead 16 = .ok (.iload_n 3, 1) := by decide +kernel
theorem dX5_isShownAhead_17 : decode cX5_isShownAhead 17 = .ok (.if_icmp .ne 5, 3) := by decide +kernel
theorem dX5_isShownAhead_20 : decode cX5_isShownAhead 20 = .ok (.iconst 1, 1) := by decide +kernel
theorem dX5_isShownAhead_21 : decode cX5_isShownAhead 21 = .ok (.ireturn, 1) := by decide +kernel
theorem dX5_isShownAhead_22 : decode cX5_isShownAhead 22 = .ok (.iinc 4 1, 3) := by decide +kernel
theorem dX5_isShownAhead_25 : decode cX5_isShownAhead 25 = .ok (.goto (-22), 3) := by decide +kernel
theorem dX5_isShownAhead_28 : decode cX5_isShownAhead 28 = .ok (.iconst 0, 1) := by decide +kernel
theorem dX5_isShownAhead_29 : decode cX5_isShownAhead 29 = .ok (.ireturn, 1) := by decide +kernel
theorem dX5_shownAt_0 : decode cX5_shownAt 0 = .ok (.aload_n 1, 1) := by decide +kernel
theorem dX5_shownAt_1 : decode cX5_shownAt 1 = .ok (.aload_n 1, 1) := by decide +kernel
theorem dX5_shownAt_2 : decode cX5_shownAt 2 = .ok (.getfield 9, 3) := by decide +kernel
theorem dX5_shownAt_5 : decode cX5_shownAt 5 = .ok (.aload_n 0, 1) := by decide +kernel
theorem dX5_shownAt_6 : decode cX5_shownAt 6 = .ok (.getfield 15, 3) := by decide +kernel
theorem dX5_shownAt_9 : decode cX5_shownAt 9 = .ok (.aaload, 1) := by decide +kernel
theorem dX5_shownAt_10 : decode cX5_shownAt 10 = .ok (.getfield 48, 3) := by decide +kernel
theorem dX5_shownAt_13 : decode cX5_shownAt 13 = .ok (.iload_n 2, 1) := by decide +kernel
theorem dX5_shownAt_14 : decode cX5_shownAt 14 = .ok (.aaload, 1) := by decide +kernel
theorem dX5_shownAt_15 : decode cX5_shownAt 15 = .ok (.aload_n 0, 1) := by decide +kernel
theorem dX5_shownAt_16 : decode cX5_shownAt 16 = .ok (.getfield 52, 3) := by decide +kernel
theorem dX5_shownAt_19 : decode cX5_shownAt 19 = .ok (.invokevirtual 55, 3) := by decide +kernel
theorem dX5_shownAt_22 : decode cX5_shownAt 22 = .ok (.ireturn, 1) := by decide +kernel
theorem dX6_init_0 : decode cX6_init 0 = .ok (.aload_n 0, 1) := by decide +kernel
theorem dX6_init_1 : decode cX6_init 1 = .ok (.invokespecial 3, 3) := by decide +kernel
theorem dX6_init_4 : decode cX6_init 4 = .ok (.aload_n 0, 1) := by decide +kernel
theorem dX6_init_5 : decode cX6_init 5 = .ok (.bipush 6, 2) := by decide +kernel
theorem dX6_init_7 : decode cX6_init 7 = .ok (.anewarray 9, 3) := by decide +kernel
theorem dX6_init_10 : decode cX6_init 10 = .ok (.putfield 11, 3) := by decide +kernel
theorem dX6_init_13 : decode cX6_init 13 = .ok (.iconst 0, 1) := by decide +kernel
theorem dX6_init_14 : decode cX6_init 14 = .ok (.istore_n 1, 1) := by decide +kernel
theorem dX6_init_15 : decode cX6_init 15 = .ok (.iload_n 1, 1) := by decide +kernel
theorem dX6_init_16 : decode cX6_init 16 = .ok (.bipush 6, 2) := by decide +kernel
theorem dX6_init_18 : decode cX6_init 18 = .ok (.if_icmp .ge 22, 3) := by decide +kernel
theorem dX6_init_21 : decode cX6_init 21 = .ok (.aload_n 0, 1) := by decide +kernel
theorem dX6_init_22 : decode cX6_init 22 = .ok (.getfield 11, 3) := by decide +kernel
theorem dX6_init_25 : decode cX6_init 25 = .ok (.iload_n 1, 1) := by decide +kernel
theorem dX6_init_26 : decode cX6_init 26 = .ok (.new 9, 3) := by decide +kernel
theorem dX6_init_29 : decode cX6_init 29 = .ok (.dup, 1) := by decide +kernel
theorem dX6_init_30 : decode cX6_init 30 = .ok (.invokespecial 17, 3) := by decide +kernel
theorem dX6_init_33 : decode cX6_init 33 = .ok (.aastore, 1) := by decide +kernel
theorem dX6_init_34 : decode cX6_init 34 = .ok (.iinc 1 1, 3) := by decide +kernel
theorem dX6_init_37 : decode cX6_init 37 = .ok (.goto (-22), 3) := by decide +kernel
theorem dX6_init_40 : decode cX6_init 40 = .ok (.return_, 1) := by decide +kernel
theorem dX6_placeOf_0 : decode cX6_placeOf 0 = .ok (.iconst 0, 1) := by decide +kernel
theorem dX6_placeOf_1 : decode cX6_placeOf 1 = .ok (.istore_n 2, 1) := by decide +kernel
theorem dX6_placeOf_2 : decode cX6_placeOf 2 = .ok (.iload_n 2, 1) := by decide +kernel
theorem dX6_placeOf_3 : decode cX6_placeOf 3 = .ok (.aload_n 0, 1) := by decide +kernel
theorem dX6_placeOf_4 : decode cX6_placeOf 4 = .ok (.getfield 18, 3) := by decide +kernel
theorem dX6_placeOf_7 : decode cX6_placeOf 7 = .ok (.if_icmp .ge 24, 3) := by decide +kernel
theorem dX6_placeOf_10 : decode cX6_placeOf 10 = .ok (.aload_n 0, 1) := by decide +kernel
theorem dX6_placeOf_11 : decode cX6_placeOf 11 = .ok (.getfield 11, 3) := by decide +kernel
theorem dX6_placeOf_14 : decode cX6_placeOf 14 = .ok (.iload_n 2, 1) := by decide +kernel
theorem dX6_placeOf_15 : decode cX6_placeOf 15 = .ok (.aaload, 1) := by decide +kernel
theorem dX6_placeOf_16 : decode cX6_placeOf 16 = .ok (.getfield 22, 3) := by decide +kernel
theorem dX6_placeOf_19 : decode cX6_placeOf 19 = .ok (.iload_n 1, 1) := by decide +kernel
theorem dX6_placeOf_20 : decode cX6_placeOf 20 = .ok (.if_icmp .ne 5, 3) := by decide +kernel
theorem dX6_placeOf_23 : decode cX6_placeOf 23 = .ok (.iload_n 2, 1) := by decide +kernel
theorem dX6_placeOf_24 : decode cX6_placeOf 24 = .ok (.ireturn, 1) := by decide +kernel
theorem dX6_placeOf_25 : decode cX6_placeOf 25 = .ok (.iinc 2 1, 3) := by decide +kernel
theorem dX6_placeOf_28 : decode cX6_placeOf 28 = .ok (.goto (-26), 3) := by decide +kernel
theorem dX6_placeOf_31 : decode cX6_placeOf 31 = .ok (.iconst (-1), 1) := by decide +kernel
theorem dX6_placeOf_32 : decode cX6_placeOf 32 = .ok (.ireturn, 1) := by decide +kernel
theorem dX6_hasPlace_0 : decode cX6_hasPlace 0 = .ok (.iload_n 1, 1) := by decide +kernel
theorem dX6_hasPlace_1 : decode cX6_hasPlace 1 = .ok (.ifCond .lt 15, 3) := by decide +kernel
theorem dX6_hasPlace_4 : decode cX6_hasPlace 4 = .ok (.iload_n 1, 1) := by decide +kernel
theorem dX6_hasPlace_5 : decode cX6_hasPlace 5 = .ok (.aload_n 0, 1) := by decide +kernel
theorem dX6_hasPlace_6 : decode cX6_hasPlace 6 = .ok (.getfield 18, 3) := by decide +kernel
theorem dX6_hasPlace_9 : decode cX6_hasPlace 9 = .ok (.if_icmp .ge 7, 3) := by decide +kernel
theorem dX6_hasPlace_12 : decode cX6_hasPlace 12 = .ok (.iconst 1, 1) := by decide +kernel
theorem dX6_hasPlace_13 : decode cX6_hasPlace 13 = .ok (.goto 4, 3) := by decide +kernel
theorem dX6_hasPlace_16 : decode cX6_hasPlace 16 = .ok (.iconst 0, 1) := by decide +kernel
theorem dX6_hasPlace_17 : decode cX6_hasPlace 17 = .ok (.ireturn, 1) := by decide +kernel
theorem dX6_insert_0 : decode cX6_insert 0 = .ok (.aload_n 0, 1) := by decide +kernel
theorem dX6_insert_1 : decode cX6_insert 1 = .ok (.getfield 18, 3) := by decide +kernel
theorem dX6_insert_4 : decode cX6_insert 4 = .ok (.bipush 6, 2) := by decide +kernel
theorem dX6_insert_6 : decode cX6_insert 6 = .ok (.if_icmp .ge 46, 3) := by decide +kernel
theorem dX6_insert_9 : decode cX6_insert 9 = .ok (.iload_n 1, 1) := by decide +kernel
theorem dX6_insert_10 : decode cX6_insert 10 = .ok (.ifCond .lt 42, 3) := by decide +kernel
theorem dX6_insert_13 : decode cX6_insert 13 = .ok (.iload_n 1, 1) := by decide +kernel
theorem dX6_insert_14 : decode cX6_insert 14 = .ok (.aload_n 0, 1) := by decide +kernel
theorem dX6_insert_15 : decode cX6_insert 15 = .ok (.getfield 18, 3) := by decide +kernel
theorem dX6_insert_18 : decode cX6_insert 18 = .ok (.if_icmp .gt 34, 3) := by decide +kernel
theorem dX6_insert_21 : decode cX6_insert 21 = .ok (.aload_n 0, 1) := by decide +kernel
theorem dX6_insert_22 : decode cX6_insert 22 = .ok (.dup, 1) := by decide +kernel
theorem dX6_insert_23 : decode cX6_insert 23 = .ok (.getfield 18, 3) := by decide +kernel
theorem dX6_insert_26 : decode cX6_insert 26 = .ok (.iconst 1, 1) := by decide +kernel
theorem dX6_insert_27 : decode cX6_insert 27 = .ok (.iadd, 1) := by decide +kernel
theorem dX6_insert_28 : decode cX6_insert 28 = .ok (.putfield 18, 3) := by decide +kernel
theorem dX6_insert_31 : decode cX6_insert 31 = .ok (.aload_n 0, 1) := by decide +kernel
theorem dX6_insert_32 : decode cX6_insert 32 = .ok (.aload_n 0, 1) := by decide +kernel
theorem dX6_insert_33 : decode cX6_insert 33 = .ok (.getfield 18, 3) := by decide +kernel
theorem dX6_insert_36 : decode cX6_insert 36 = .ok (.iconst 1, 1) := by decide +kernel
theorem dX6_insert_37 : decode cX6_insert 37 = .ok (.isub, 1) := by decide +kernel
theorem dX6_insert_38 : decode cX6_insert 38 = .ok (.iload_n 1, 1) := by decide +kernel
theorem dX6_insert_39 : decode cX6_insert 39 = .ok (.invokevirtual 25, 3) := by decide +kernel
theorem dX6_insert_42 : decode cX6_insert 42 = .ok (.aload_n 0, 1) := by decide +kernel
theorem dX6_insert_43 : decode cX6_insert 43 = .ok (.getfield 11, 3) := by decide +kernel
theorem dX6_insert_46 : decode cX6_insert 46 = .ok (.iload_n 1, 1) := by decide +kernel
theorem dX6_insert_47 : decode cX6_insert 47 = .ok (.aaload, 1) := by decide +kernel
theorem dX6_insert_48 : decode cX6_insert 48 = .ok (.aload_n 2, 1) := by decide +kernel
theorem dX6_insert_49 : decode cX6_insert 49 = .ok (.invokevirtual 29, 3) := by decide +kernel
theorem dX6_insert_52 : decode cX6_insert 52 = .ok (.return_, 1) := by decide +kernel
theorem dX6_takeOut_0 : decode cX6_takeOut 0 = .ok (.aload_n 0, 1) := by decide +kernel
theorem dX6_takeOut_1 : decode cX6_takeOut 1 = .ok (.iload_n 1, 1) := by decide +kernel
theorem dX6_takeOut_2 : decode cX6_takeOut 2 = .ok (.invokevirtual 33, 3) := by decide +kernel
theorem dX6_takeOut_5 : decode cX6_takeOut 5 = .ok (.ifCond .eq 24, 3) := by decide +kernel
theorem dX6_takeOut_8 : decode cX6_takeOut 8 = .ok (.aload_n 0, 1) := by decide +kernel
theorem dX6_takeOut_9 : decode cX6_takeOut 9 = .ok (.iload_n 1, 1) := by decide +kernel
theorem dX6_takeOut_10 : decode cX6_takeOut 10 = .ok (.aload_n 0, 1) := by decide +kernel
theorem dX6_takeOut_11 : decode cX6_takeOut 11 = .ok (.getfield 18, 3) := by decide +kernel
theorem dX6_takeOut_14 : decode cX6_takeOut 14 = .ok (.iconst 1, 1) := by decide +kernel
theorem dX6_takeOut_15 : decode cX6_takeOut 15 = .ok (.isub, 1) := by decide +kernel
theorem dX6_takeOut_16 : decode cX6_takeOut 16 = .ok (.invokevirtual 25, 3) := by decide +kernel
theorem dX6_takeOut_19 : decode cX6_takeOut 19 = .ok (.aload_n 0, 1) := by decide +kernel
theorem dX6_takeOut_20 : decode cX6_takeOut 20 = .ok (.dup, 1) := by decide +kernel
theorem dX6_takeOut_21 : decode cX6_takeOut 21 = .ok (.getfield 18, 3) := by decide +kernel
theorem dX6_takeOut_24 : decode cX6_takeOut 24 = .ok (.iconst 1, 1) := by decide +kernel
theorem dX6_takeOut_25 : decode cX6_takeOut 25 = .ok (.isub, 1) := by decide +kernel
theorem dX6_takeOut_26 : decode cX6_takeOut 26 = .ok (.putfield 18, 3) := by decide +kernel
theorem dX6_takeOut_29 : decode cX6_takeOut 29 = .ok (.return_, 1) := by decide +kernel
theorem dX6_shift_0 : decode cX6_shift 0 = .ok (.aload_n 0, 1) := by decide +kernel
theorem dX6_shift_1 : decode cX6_shift 1 = .ok (.iload_n 1, 1) := by decide +kernel
theorem dX6_shift_2 : decode cX6_shift 2 = .ok (.invokevirtual 33, 3) := by decide +kernel
theorem dX6_shift_5 : decode cX6_shift 5 = .ok (.ifCond .eq 11, 3) := by decide +kernel
theorem dX6_shift_8 : decode cX6_shift 8 = .ok (.aload_n 0, 1) := by decide +kernel
theorem dX6_shift_9 : decode cX6_shift 9 = .ok (.iload_n 2, 1) := by decide +kernel
theorem dX6_shift_10 : decode cX6_shift 10 = .ok (.invokevirtual 33, 3) := by decide +kernel
theorem dX6_shift_13 : decode cX6_shift 13 = .ok (.ifCond .ne 4, 3) := by decide +kernel
theorem dX6_shift_16 : decode cX6_shift 16 = .ok (.return_, 1) := by decide +kernel
theorem dX6_shift_17 : decode cX6_shift 17 = .ok (.aload_n 0, 1) := by decide +kernel
theorem dX6_shift_18 : decode cX6_shift 18 = .ok (.getfield 11, 3) := by decide +kernel
theorem dX6_shift_21 : decode cX6_shift 21 = .ok (.iload_n 1, 1) := by decide +kernel
theorem dX6_shift_22 : decode cX6_shift 22 = .ok (.aaload, 1) := by decide +kernel
theorem dX6_shift_23 : decode cX6_shift 23 = .ok (.astore_n 3, 1) := by decide +kernel
theorem dX6_shift_24 : decode cX6_shift 24 = .ok (.iload_n 1, 1) := by decide +kernel
theorem dX6_shift_25 : decode cX6_shift 25 = .ok (.istore 4, 2) := by decide +kernel
theorem dX6_shift_27 : decode cX6_shift 27 = .ok (.iload 4, 2) := by decide +kernel
theorem dX6_shift_29 : decode cX6_shift 29 = .ok (.iload_n 2, 1) := by decide +kernel
theorem dX6_shift_30 : decode cX6_shift 30 = .ok (.if_icmp .ge 25, 3) := by decide +kernel
theorem dX6_shift_33 : decode cX6_shift 33 = .ok (.aload_n 0, 1) := by decide +kernel
theorem dX6_shift_34 : decode cX6_shift 34 = .ok (.getfield 11, 3) := by decide +kernel
theorem dX6_shift_37 : decode cX6_shift 37 = .ok (.iload 4, 2) := by decide +kernel
theorem dX6_shift_39 : decode cX6_shift 39 = .ok (.aload_n 0, 1) := by decide +kernel
theorem dX6_shift_40 : decode cX6_shift 40 = .ok (.getfield 11, 3) := by decide +kernel
theorem dX6_shift_43 : decode cX6_shift 43 = .ok (.iload 4, 2) := by decide +kernel
theorem dX6_shift_45 : decode cX6_shift 45 = .ok (.iconst 1, 1) := by decide +kernel
theorem dX6_shift_46 : decode cX6_shift 46 = .ok (.iadd, 1) := by decide +kernel
theorem dX6_shift_47 : decode cX6_shift 47 = .ok (.aaload, 1) := by decide +kernel
theorem dX6_shift_48 : decode cX6_shift 48 = .ok (.aastore, 1) := by decide +kernel
theorem dX6_shift_49 : decode cX6_shift 49 = .ok (.iinc 4 1, 3) := by decide +kernel
theorem dX6_shift_52 : decode cX6_shift 52 = .ok (.goto (-25), 3) := by decide +kernel
theorem dX6_shift_55 : decode cX6_shift 55 = .ok (.iload_n 1, 1) := by decide +kernel
theorem dX6_shift_56 : decode cX6_shift 56 = .ok (.istore 4, 2) := by decide +kernel
theorem dX6_shift_58 : decode cX6_shift 58 = .ok (.iload 4, 2) := by decide +kernel
theorem dX6_shift_60 : decode cX6_shift 60 = .ok (.iload_n 2, 1) := by decide +kernel
theorem dX6_shift_61 : decode cX6_shift 61 = .ok (.if_icmp .le 25, 3) := by decide +kernel
theorem dX6_shift_64 : decode cX6_shift 64 = .ok (.aload_n 0, 1) := by decide +kernel
theorem dX6_shift_65 : decode cX6_shift 65 = .ok (.getfield 11, 3) := by decide +kernel
theorem dX6_shift_68 : decode cX6_shift 68 = .ok (.iload 4, 2) := by decide +kernel
theorem dX6_shift_70 : decode cX6_shift 70 = .ok (.aload_n 0, 1) := by decide +kernel
theorem dX6_shift_71 : decode cX6_shift 71 = .ok (.getfield 11, 3) := by decide +kernel
theorem dX6_shift_74 : decode cX6_shift 74 = .ok (.iload 4, 2) := by decide +kernel
theorem dX6_shift_76 : decode cX6_shift 76 = .ok (.iconst 1, 1) := by decide +kernel
theorem dX6_shift_77 : decode cX6_shift 77 = .ok (.isub, 1) := by decide +kernel
theorem dX6_shift_78 : decode cX6_shift 78 = .ok (.aaload, 1) := by decide +kernel
theorem dX6_shift_79 : decode cX6_shift 79 = .ok (.aastore, 1) := by decide +kernel
theorem dX6_shift_80 : decode cX6_shift 80 = .ok (.iinc 4 (-1), 3) := by decide +kernel
theorem dX6_shift_83 : decode cX6_shift 83 = .ok (.goto (-25), 3) := by decide +kernel
theorem dX6_shift_86 : decode cX6_shift 86 = .ok (.aload_n 0, 1) := by decide +kernel
theorem dX6_shift_87 : decode cX6_shift 87 = .ok (.getfield 11, 3) := by decide +kernel
theorem dX6_shift_90 : decode cX6_shift 90 = .ok (.iload_n 2, 1) := by decide +kernel
theorem dX6_shift_91 : decode cX6_shift 91 = .ok (.aload_n 3, 1) := by decide +kernel
theorem dX6_shift_92 : decode cX6_shift 92 = .ok (.aastore, 1) := by decide +kernel
theorem dX6_shift_93 : decode cX6_shift 93 = .ok (.return_, 1) := by decide +kernel
theorem dX6_copyFrom_0 : decode cX6_copyFrom 0 = .ok (.aload_n 0, 1) := by decide +kernel
theorem dX6_copyFrom_1 : decode cX6_copyFrom 1 = .ok (.aload_n 1, 1) := by decide +kernel
theorem dX6_copyFrom_2 : decode cX6_copyFrom 2 = .ok (.getfield 18, 3) := by decide +kernel
theorem dX6_copyFrom_5 : decode cX6_copyFrom 5 = .ok (.putfield 18, 3) := by decide +kernel
theorem dX6_copyFrom_8 : decode cX6_copyFrom 8 = .ok (.iconst 0, 1) := by decide +kernel
theorem dX6_copyFrom_9 : decode cX6_copyFrom 9 = .ok (.istore_n 2, 1) := by decide +kernel
theorem dX6_copyFrom_10 : decode cX6_copyFrom 10 = .ok (.iload_n 2, 1) := by decide +kernel
theorem dX6_copyFrom_11 : decode cX6_copyFrom 11 = .ok (.aload_n 0, 1) := by decide +kernel
theorem dX6_copyFrom_12 : decode cX6_copyFrom 12 = .ok (.getfield 18, 3) := by decide +kernel
theorem dX6_copyFrom_15 : decode cX6_copyFrom 15 = .ok (.if_icmp .ge 24, 3) := by decide +kernel
theorem dX6_copyFrom_18 : decode cX6_copyFrom 18 = .ok (.aload_n 0, 1) := by decide +kernel
theorem dX6_copyFrom_19 : decode cX6_copyFrom 19 = .ok (.getfield 11, 3) := by decide +kernel
theorem dX6_copyFrom_22 : decode cX6_copyFrom 22 = .ok (.iload_n 2, 1) := by decide +kernel
theorem dX6_copyFrom_23 : decode cX6_copyFrom 23 = .ok (.aaload, 1) := by decide +kernel
theorem dX6_copyFrom_24 : decode cX6_copyFrom 24 = .ok (.aload_n 1, 1) := by decide +kernel
theorem dX6_copyFrom_25 : decode cX6_copyFrom 25 = .ok (.getfield 11, 3) := by decide +kernel
theorem dX6_copyFrom_28 : decode cX6_copyFrom 28 = .ok (.iload_n 2, 1) := by decide +kernel
theorem dX6_copyFrom_29 : decode cX6_copyFrom 29 = .ok (.aaload, 1) := by decide +kernel
theorem dX6_copyFrom_30 : decode cX6_copyFrom 30 = .ok (.invokevirtual 29, 3) := by decide +kernel
theorem dX6_copyFrom_33 : decode cX6_copyFrom 33 = .ok (.iinc 2 1, 3) := by decide +kernel
theorem dX6_copyFrom_36 : decode cX6_copyFrom 36 = .ok (.goto (-26), 3) := by decide +kernel
theorem dX6_copyFrom_39 : decode cX6_copyFrom 39 = .ok (.return_, 1) := by decide +kernel
theorem dX6_isLike_0 : decode cX6_isLike 0 = .ok (.aload_n 0, 1) := by decide +kernel
theorem dX6_isLike_1 : decode cX6_isLike 1 = .ok (.getfield 18, 3) := by decide +kernel
theorem dX6_isLike_4 : decode cX6_isLike 4 = .ok (.aload_n 1, 1) := by decide +kernel
theorem dX6_isLike_5 : decode cX6_isLike 5 = .ok (.getfield 18, 3) := by decide +kernel
theorem dX6_isLike_8 : decode cX6_isLike 8 = .ok (.if_icmp .eq 5, 3) := by decide +kernel
theorem dX6_isLike_11 : decode cX6_isLike 11 = .ok (.iconst 0, 1) := by decide +kernel
theorem dX6_isLike_12 : decode cX6_isLike 12 = .ok (.ireturn, 1) := by decide +kernel
theorem dX6_isLike_13 : decode cX6_isLike 13 = .ok (.iconst 0, 1) := by decide +kernel
theorem dX6_isLike_14 : decode cX6_isLike 14 = .ok (.istore_n 2, 1) := by decide +kernel
theorem dX6_isLike_15 : decode cX6_isLike 15 = .ok (.iload_n 2, 1) := by decide +kernel
theorem dX6_isLike_16 : decode cX6_isLike 16 = .ok (.aload_n 0, 1) := by decide +kernel
theorem dX6_isLike_17 : decode cX6_isLike 17 = .ok (.getfield 18, 3) := by decide +kernel
theorem dX6_isLike_20 : decode cX6_isLike 20 = .ok (.if_icmp .ge 29, 3) := by decide +kernel
theorem dX6_isLike_23 : decode cX6_isLike 23 = .ok (.aload_n 0, 1) := by decide +kernel
theorem dX6_isLike_24 : decode cX6_isLike 24 = .ok (.getfield 11, 3) := by decide +kernel
theorem dX6_isLike_27 : decode cX6_isLike 27 = .ok (.iload_n 2, 1) := by decide +kernel
theorem dX6_isLike_28 : decode cX6_isLike 28 = .ok (.aaload, 1) := by decide +kernel
theorem dX6_isLike_29 : decode cX6_isLike 29 = .ok (.aload_n 1, 1) := by decide +kernel
theorem dX6_isLike_30 : decode cX6_isLike 30 = .ok (.getfield 11, 3) := by decide +kernel
theorem dX6_isLike_33 : decode cX6_isLike 33 = .ok (.iload_n 2, 1) := by decide +kernel
theorem dX6_isLike_34 : decode cX6_isLike 34 = .ok (.aaload, 1) := by decide +kernel
theorem dX6_isLike_35 : decode cX6_isLike 35 = .ok (.invokevirtual 37, 3) := by decide +kernel
theorem dX6_isLike_38 : decode cX6_isLike 38 = .ok (.ifCond .ne 5, 3) := by decide +kernel
theorem dX6_isLike_41 : decode cX6_isLike 41 = .ok (.iconst 0, 1) := by decide +kernel
theorem dX6_isLike_42 : decode cX6_isLike 42 = .ok (.ireturn, 1) := by decide +kernel
theorem dX6_isLike_43 : decode cX6_isLike 43 = .ok (.iinc 2 1, 3) := by decide +kernel
theorem dX6_isLike_46 : decode cX6_isLike 46 = .ok (.goto (-31), 3) := by decide +kernel
theorem dX6_isLike_49 : decode cX6_isLike 49 = .ok (.iconst 1, 1) := by decide +kernel
theorem dX6_isLike_50 : decode cX6_isLike 50 = .ok (.ireturn, 1) := by decide +kernel
theorem dX7_init_0 : decode cX7_init 0 = .ok (.aload_n 0, 1) := by decide +kernel
theorem dX7_init_1 : decode cX7_init 1 = .ok (.invokespecial 3, 3) := by decide +kernel
theorem dX7_init_4 : decode cX7_init 4 = .ok (.aload_n 0, 1) := by decide +kernel
theorem dX7_init_5 : decode cX7_init 5 = .ok (.iconst 3, 1) := by decide +kernel
theorem dX7_init_6 : decode cX7_init 6 = .ok (.anewarray 9, 3) := by decide +kernel
theorem dX7_init_9 : decode cX7_init 9 = .ok (.putfield 11, 3) := by decide +kernel
theorem dX7_init_12 : decode cX7_init 12 = .ok (.aload_n 0, 1) := by decide +kernel
theorem dX7_init_13 : decode cX7_init 13 = .ok (.bipush 30, 2) := by decide +kernel
theorem dX7_init_15 : decode cX7_init 15 = .ok (.anewarray 15, 3) := by decide +kernel
theorem dX7_init_18 : decode cX7_init 18 = .ok (.putfield 17, 3) := by decide +kernel
theorem dX7_init_21 : decode cX7_init 21 = .ok (.aload_n 0, 1) := by decide +kernel
theorem dX7_init_22 : decode cX7_init 22 = .ok (.bipush 8, 2) := by decide +kernel
theorem dX7_init_24 : decode cX7_init 24 = .ok (.anewarray 21, 3) := by decide +kernel
theorem dX7_init_27 : decode cX7_init 27 = .ok (.putfield 23, 3) := by decide +kernel
theorem dX7_init_30 : decode cX7_init 30 = .ok (.aload_n 0, 1) := by decide +kernel
theorem dX7_init_31 : decode cX7_init 31 = .ok (.new 27, 3) := by decide +kernel
theorem dX7_init_34 : decode cX7_init 34 = .ok (.dup, 1) := by decide +kernel
theorem dX7_init_35 : decode cX7_init 35 = .ok (.invokespecial 29, 3) := by decide +kernel
theorem dX7_init_38 : decode cX7_init 38 = .ok (.putfield 30, 3) := by decide +kernel
theorem dX7_init_41 : decode cX7_init 41 = .ok (.aload_n 0, 1) := by decide +kernel
theorem dX7_init_42 : decode cX7_init 42 = .ok (.new 15, 3) := by decide +kernel
theorem dX7_init_45 : decode cX7_init 45 = .ok (.dup, 1) := by decide +kernel
theorem dX7_init_46 : decode cX7_init 46 = .ok (.invokespecial 34, 3) := by decide +kernel
theorem dX7_init_49 : decode cX7_init 49 = .ok (.putfield 35, 3) := by decide +kernel
theorem dX7_init_52 : decode cX7_init 52 = .ok (.aload_n 0, 1) := by decide +kernel
theorem dX7_init_53 : decode cX7_init 53 = .ok (.new 39, 3) := by decide +kernel
theorem dX7_init_56 : decode cX7_init 56 = .ok (.dup, 1) := by decide +kernel
theorem dX7_init_57 : decode cX7_init 57 = .ok (.invokespecial 41, 3) := by decide +kernel
theorem dX7_init_60 : decode cX7_init 60 = .ok (.putfield 42, 3) := by decide +kernel
theorem dX7_init_63 : decode cX7_init 63 = .ok (.iconst 0, 1) := by decide +kernel
theorem dX7_init_64 : decode cX7_init 64 = .ok (.istore_n 1, 1) := by decide +kernel
theorem dX7_init_65 : decode cX7_init 65 = .ok (.iload_n 1, 1) := by decide +kernel
theorem dX7_init_66 : decode cX7_init 66 = .ok (.iconst 3, 1) := by decide +kernel
theorem dX7_init_67 : decode cX7_init 67 = .ok (.if_icmp .ge 22, 3) := by decide +kernel
theorem dX7_init_70 : decode cX7_init 70 = .ok (.aload_n 0, 1) := by decide +kernel
theorem dX7_init_71 : decode cX7_init 71 = .ok (.getfield 11, 3) := by decide +kernel
theorem dX7_init_74 : decode cX7_init 74 = .ok (.iload_n 1, 1) := by decide +kernel
theorem dX7_init_75 : decode cX7_init 75 = .ok (.new 9, 3) := by decide +kernel
theorem dX7_init_78 : decode cX7_init 78 = .ok (.dup, 1) := by decide +kernel
theorem dX7_init_79 : decode cX7_init 79 = .ok (.invokespecial 46, 3) := by decide +kernel
theorem dX7_init_82 : decode cX7_init 82 = .ok (.aastore, 1) := by decide +kernel
theorem dX7_init_83 : decode cX7_init 83 = .ok (.iinc 1 1, 3) := by decide +kernel
theorem dX7_init_86 : decode cX7_init 86 = .ok (.goto (-21), 3) := by decide +kernel
theorem dX7_init_89 : decode cX7_init 89 = .ok (.iconst 0, 1) := by decide +kernel
theorem dX7_init_90 : decode cX7_init 90 = .ok (.istore_n 1, 1) := by decide +kernel
theorem dX7_init_91 : decode cX7_init 91 = .ok (.iload_n 1, 1) := by decide +kernel
theorem dX7_init_92 : decode cX7_init 92 = .ok (.bipush 30, 2) := by decide +kernel
theorem dX7_init_94 : decode cX7_init 94 = .ok (.if_icmp .ge 22, 3) := by decide +kernel
theorem dX7_init_97 : decode cX7_init 97 = .ok (.aload_n 0, 1) := by decide +kernel
theorem dX7_init_98 : decode cX7_init 98 = .ok (.getfield 17, 3) := by decide +kernel
theorem dX7_init_101 : decode cX7_init 101 = .ok (.iload_n 1, 1) := by decide +kernel
theorem dX7_init_102 : decode cX7_init 102 = .ok (.new 15, 3) := by decide +kernel
theorem dX7_init_105 : decode cX7_init 105 = .ok (.dup, 1) := by decide +kernel
theorem dX7_init_106 : decode cX7_init 106 = .ok (.invokespecial 34, 3) := by decide +kernel
theorem dX7_init_109 : decode cX7_init 109 = .ok (.aastore, 1) := by decide +kernel
theorem dX7_init_110 : decode cX7_init 110 = .ok (.iinc 1 1, 3) := by decide +kernel
theorem dX7_init_113 : decode cX7_init 113 = .ok (.goto (-22), 3) := by decide +kernel
theorem dX7_init_116 : decode cX7_init 116 = .ok (.iconst 0, 1) := by decide +kernel
theorem dX7_init_117 : decode cX7_init 117 = .ok (.istore_n 1, 1) := by decide +kernel
theorem dX7_init_118 : decode cX7_init 118 = .ok (.iload_n 1, 1) := by decide +kernel
theorem dX7_init_119 : decode cX7_init 119 = .ok (.bipush 8, 2) := by decide +kernel
theorem dX7_init_121 : decode cX7_init 121 = .ok (.if_icmp .ge 22, 3) := by decide +kernel
theorem dX7_init_124 : decode cX7_init 124 = .ok (.aload_n 0, 1) := by decide +kernel
theorem dX7_init_125 : decode cX7_init 125 = .ok (.getfield 23, 3) := by decide +kernel
theorem dX7_init_128 : decode cX7_init 128 = .ok (.iload_n 1, 1) := by decide +kernel
theorem dX7_init_129 : decode cX7_init 129 = .ok (.new 21, 3) := by decide +kernel
theorem dX7_init_132 : decode cX7_init 132 = .ok (.dup, 1) := by decide +kernel
theorem dX7_init_133 : decode cX7_init 133 = .ok (.invokespecial 47, 3) := by decide +kernel
theorem dX7_init_136 : decode cX7_init 136 = .ok (.aastore, 1) := by decide +kernel
theorem dX7_init_137 : decode cX7_init 137 = .ok (.iinc 1 1, 3) := by decide +kernel
theorem dX7_init_140 : decode cX7_init 140 = .ok (.goto (-22), 3) := by decide +kernel
theorem dX7_init_143 : decode cX7_init 143 = .ok (.aload_n 0, 1) := by decide +kernel
theorem dX7_init_144 : decode cX7_init 144 = .ok (.iconst 1, 1) := by decide +kernel
theorem dX7_init_145 : decode cX7_init 145 = .ok (.putfield 48, 3) := by decide +kernel
theorem dX7_init_148 : decode cX7_init 148 = .ok (.return_, 1) := by decide +kernel
theorem dX7_open_0 : decode cX7_open 0 = .ok (.iload_n 1, 1) := by decide +kernel
theorem dX7_open_1 : decode cX7_open 1 = .ok (.iconst 3, 1) := by decide +kernel
theorem dX7_open_2 : decode cX7_open 2 = .ok (.invokestatic 52, 3) := by decide +kernel
theorem dX7_open_5 : decode cX7_open 5 = .ok (.aload_n 0, 1) := by decide +kernel
theorem dX7_open_6 : decode cX7_open 6 = .ok (.getfield 11, 3) := by decide +kernel
theorem dX7_open_9 : decode cX7_open 9 = .ok (.iload_n 1, 1) := by decide +kernel
theorem dX7_open_10 : decode cX7_open 10 = .ok (.aaload, 1) := by decide +kernel
theorem dX7_open_11 : decode cX7_open 11 = .ok (.astore_n 2, 1) := by decide +kernel
theorem dX7_open_12 : decode cX7_open 12 = .ok (.aload_n 2, 1) := by decide +kernel
theorem dX7_open_13 : decode cX7_open 13 = .ok (.iconst 1, 1) := by decide +kernel
theorem dX7_open_14 : decode cX7_open 14 = .ok (.putfield 56, 3) := by decide +kernel
theorem dX7_open_17 : decode cX7_open 17 = .ok (.aload_n 2, 1) := by decide +kernel
theorem dX7_open_18 : decode cX7_open 18 = .ok (.aload_n 0, 1) := by decide +kernel
theorem dX7_open_19 : decode cX7_open 19 = .ok (.getfield 48, 3) := by decide +kernel
theorem dX7_open_22 : decode cX7_open 22 = .ok (.iconst 1, 1) := by decide +kernel
theorem dX7_open_23 : decode cX7_open 23 = .ok (.isub, 1) := by decide +kernel
theorem dX7_open_24 : decode cX7_open 24 = .ok (.putfield 60, 3) := by decide +kernel
theorem dX7_open_27 : decode cX7_open 27 = .ok (.aload_n 2, 1) := by decide +kernel
theorem dX7_open_28 : decode cX7_open 28 = .ok (.getfield 63, 3) := by decide +kernel
theorem dX7_open_31 : decode cX7_open 31 = .ok (.aload_n 0, 1) := by decide +kernel
theorem dX7_open_32 : decode cX7_open 32 = .ok (.getfield 17, 3) := by decide +kernel
theorem dX7_open_35 : decode cX7_open 35 = .ok (.aload_n 2, 1) := by decide +kernel
theorem dX7_open_36 : decode cX7_open 36 = .ok (.getfield 60, 3) := by decide +kernel
theorem dX7_open_39 : decode cX7_open 39 = .ok (.aaload, 1) := by decide +kernel
theorem dX7_open_40 : decode cX7_open 40 = .ok (.invokevirtual 66, 3) := by decide +kernel
theorem dX7_open_43 : decode cX7_open 43 = .ok (.aload_n 2, 1) := by decide +kernel
theorem dX7_open_44 : decode cX7_open 44 = .ok (.getfield 60, 3) := by decide +kernel
theorem dX7_open_47 : decode cX7_open 47 = .ok (.ireturn, 1) := by decide +kernel
theorem dX7_add_0 : decode cX7_add 0 = .ok (.iload_n 1, 1) := by decide +kernel
theorem dX7_add_1 : decode cX7_add 1 = .ok (.iload_n 2, 1) := by decide +kernel
theorem dX7_add_2 : decode cX7_add 2 = .ok (.iload_n 3, 1) := by decide +kernel
theorem dX7_add_3 : decode cX7_add 3 = .ok (.invokestatic 70, 3) := by decide +kernel
theorem dX7_add_6 : decode cX7_add 6 = .ok (.aload_n 0, 1) := by decide +kernel
theorem dX7_add_7 : decode cX7_add 7 = .ok (.iload_n 1, 1) := by decide +kernel
theorem dX7_add_8 : decode cX7_add 8 = .ok (.invokevirtual 74, 3) := by decide +kernel
theorem dX7_add_11 : decode cX7_add 11 = .ok (.getfield 78, 3) := by decide +kernel
theorem dX7_add_14 : decode cX7_add 14 = .ok (.iload_n 2, 1) := by decide +kernel
theorem dX7_add_15 : decode cX7_add 15 = .ok (.aaload, 1) := by decide +kernel
theorem dX7_add_16 : decode cX7_add 16 = .ok (.astore 5, 2) := by decide +kernel
theorem dX7_add_18 : decode cX7_add 18 = .ok (.aload 5, 2) := by decide +kernel
theorem dX7_add_20 : decode cX7_add 20 = .ok (.iload_n 3, 1) := by decide +kernel
theorem dX7_add_21 : decode cX7_add 21 = .ok (.invokevirtual 82, 3) := by decide +kernel
theorem dX7_add_24 : decode cX7_add 24 = .ok (.iconst (-1), 1) := by decide +kernel
theorem dX7_add_25 : decode cX7_add 25 = .ok (.if_icmp .ne 13, 3) := by decide +kernel
theorem dX7_add_28 : decode cX7_add 28 = .ok (.aload 5, 2) := by decide +kernel
theorem dX7_add_30 : decode cX7_add 30 = .ok (.getfield 88, 3) := by decide +kernel
theorem dX7_add_33 : decode cX7_add 33 = .ok (.bipush 6, 2) := by decide +kernel
theorem dX7_add_35 : decode cX7_add 35 = .ok (.if_icmp .lt 13, 3) := by decide +kernel
theorem dX7_add_38 : decode cX7_add 38 = .ok (.new 91, 3) := by decide +kernel
theorem dX7_add_41 : decode cX7_add 41 = .ok (.dup, 1) := by decide +kernel
theorem dX7_add_42 : decode cX7_add 42 = .ok (.ldc 93, 2) := by decide +kernel
theorem dX7_add_44 : decode cX7_add 44 = .ok (.invokespecial 95, 3) := by decide +kernel
theorem dX7_add_47 : decode cX7_add 47 = .ok (.athrow, 1) := by decide +kernel
theorem dX7_add_48 : decode cX7_add 48 = .ok (.iload 4, 2) := by decide +kernel
theorem dX7_add_50 : decode cX7_add 50 = .ok (.iconst 0, 1) := by decide +kernel
theorem dX7_add_51 : decode cX7_add 51 = .ok (.aload 5, 2) := by decide +kernel
theorem dX7_add_53 : decode cX7_add 53 = .ok (.getfield 88, 3) := by decide +kernel
theorem dX7_add_56 : decode cX7_add 56 = .ok (.invokestatic 98, 3) := by decide +kernel
theorem dX7_add_59 : decode cX7_add 59 = .ok (.aload_n 0, 1) := by decide +kernel
theorem dX7_add_60 : decode cX7_add 60 = .ok (.getfield 42, 3) := by decide +kernel
theorem dX7_add_63 : decode cX7_add 63 = .ok (.iload_n 3, 1) := by decide +kernel
theorem dX7_add_64 : decode cX7_add 64 = .ok (.invokevirtual 101, 3) := by decide +kernel
theorem dX7_add_67 : decode cX7_add 67 = .ok (.aload 5, 2) := by decide +kernel
theorem dX7_add_69 : decode cX7_add 69 = .ok (.iload 4, 2) := by decide +kernel
theorem dX7_add_71 : decode cX7_add 71 = .ok (.aload_n 0, 1) := by decide +kernel
theorem dX7_add_72 : decode cX7_add 72 = .ok (.getfield 42, 3) := by decide +kernel
theorem dX7_add_75 : decode cX7_add 75 = .ok (.invokevirtual 105, 3) := by decide +kernel
theorem dX7_add_78 : decode cX7_add 78 = .ok (.aload 5, 2) := by decide +kernel
theorem dX7_add_80 : decode cX7_add 80 = .ok (.getfield 88, 3) := by decide +kernel
theorem dX7_add_83 : decode cX7_add 83 = .ok (.ireturn, 1) := by decide +kernel
theorem dX7_remove_0 : decode cX7_remove 0 = .ok (.iload_n 1, 1) := by decide +kernel
theorem dX7_remove_1 : decode cX7_remove 1 = .ok (.iload_n 2, 1) := by decide +kernel
theorem dX7_remove_2 : decode cX7_remove 2 = .ok (.iload_n 3, 1) := by decide +kernel
theorem dX7_remove_3 : decode cX7_remove 3 = .ok (.invokestatic 70, 3) := by decide +kernel
theorem dX7_remove_6 : decode cX7_remove 6 = .ok (.aload_n 0, 1) := by decide +kernel
theorem dX7_remove_7 : decode cX7_remove 7 = .ok (.iload_n 1, 1) := by decide +kernel
theorem dX7_remove_8 : decode cX7_remove 8 = .ok (.invokevirtual 74, 3) := by decide +kernel
theorem dX7_remove_11 : decode cX7_remove 11 = .ok (.getfield 78, 3) := by decide +kernel
theorem dX7_remove_14 : decode cX7_remove 14 = .ok (.iload_n 2, 1) := by decide +kernel
theorem dX7_remove_15 : decode cX7_remove 15 = .ok (.aaload, 1) := by decide +kernel
theorem dX7_remove_16 : decode cX7_remove 16 = .ok (.astore 4, 2) := by decide +kernel
theorem dX7_remove_18 : decode cX7_remove 18 = .ok (.aload 4, 2) := by decide +kernel
theorem dX7_remove_20 : decode cX7_remove 20 = .ok (.iload_n 3, 1) := by decide +kernel
theorem dX7_remove_21 : decode cX7_remove 21 = .ok (.invokestatic 109, 3) := by decide +kernel
theorem dX7_remove_24 : decode cX7_remove 24 = .ok (.istore 5, 2) := by decide +kernel
theorem dX7_remove_26 : decode cX7_remove 26 = .ok (.aload 4, 2) := by decide +kernel
theorem dX7_remove_28 : decode cX7_remove 28 = .ok (.iload 5, 2) := by decide +kernel
theorem dX7_remove_30 : decode cX7_remove 30 = .ok (.invokevirtual 113, 3) := by decide +kernel
theorem dX7_remove_33 : decode cX7_remove 33 = .ok (.iload 5, 2) := by decide +kernel
theorem dX7_remove_35 : decode cX7_remove 35 = .ok (.ireturn, 1) := by decide +kernel
theorem dX7_set_0 : decode cX7_set 0 = .ok (.iload_n 1, 1) := by decide +kernel
theorem dX7_set_1 : decode cX7_set 1 = .ok (.iload_n 2, 1) := by decide +kernel
theorem dX7_set_2 : decode cX7_set 2 = .ok (.iload_n 3, 1) := by decide +kernel
theorem dX7_set_3 : decode cX7_set 3 = .ok (.invokestatic 70, 3) := by decide +kernel
theorem dX7_set_6 : decode cX7_set 6 = .ok (.iload 4, 2) := by decide +kernel
theorem dX7_set_8 : decode cX7_set 8 = .ok (.iconst 2, 1) := by decide +kernel
theorem dX7_set_9 : decode cX7_set 9 = .ok (.invokestatic 52, 3) := by decide +kernel
theorem dX7_set_12 : decode cX7_set 12 = .ok (.iload 5, 2) := by decide +kernel
theorem dX7_set_14 : decode cX7_set 14 = .ok (.iconst (-1), 1) := by decide +kernel
theorem dX7_set_15 : decode cX7_set 15 = .ok (.bipush 99, 2) := by decide +kernel
theorem dX7_set_17 : decode cX7_set 17 = .ok (.invokestatic 98, 3) := by decide +kernel
theorem dX7_set_20 : decode cX7_set 20 = .ok (.aload_n 0, 1) := by decide +kernel
theorem dX7_set_21 : decode cX7_set 21 = .ok (.iload_n 1, 1) := by decide +kernel
theorem dX7_set_22 : decode cX7_set 22 = .ok (.iload_n 2, 1) := by decide +kernel
theorem dX7_set_23 : decode cX7_set 23 = .ok (.iload_n 3, 1) := by decide +kernel
theorem dX7_set_24 : decode cX7_set 24 = .ok (.iload 4, 2) := by decide +kernel
theorem dX7_set_26 : decode cX7_set 26 = .ok (.iload 5, 2) := by decide +kernel
theorem dX7_set_28 : decode cX7_set 28 = .ok (.invokevirtual 119, 3) := by decide +kernel
theorem dX7_set_31 : decode cX7_set 31 = .ok (.ireturn, 1) := by decide +kernel
theorem dX7_join_0 : decode cX7_join 0 = .ok (.iload_n 1, 1) := by decide +kernel
theorem dX7_join_1 : decode cX7_join 1 = .ok (.iload_n 2, 1) := by decide +kernel
theorem dX7_join_2 : decode cX7_join 2 = .ok (.iload_n 3, 1) := by decide +kernel
theorem dX7_join_3 : decode cX7_join 3 = .ok (.invokestatic 70, 3) := by decide +kernel
theorem dX7_join_6 : decode cX7_join 6 = .ok (.iload 4, 2) := by decide +kernel
theorem dX7_join_8 : decode cX7_join 8 = .ok (.iconst (-1), 1) := by decide +kernel
theorem dX7_join_9 : decode cX7_join 9 = .ok (.iconst 2, 1) := by decide +kernel
theorem dX7_join_10 : decode cX7_join 10 = .ok (.invokestatic 98, 3) := by decide +kernel
theorem dX7_join_13 : decode cX7_join 13 = .ok (.aload_n 0, 1) := by decide +kernel
theorem dX7_join_14 : decode cX7_join 14 = .ok (.iload_n 1, 1) := by decide +kernel
theorem dX7_join_15 : decode cX7_join 15 = .ok (.iload_n 2, 1) := by decide +kernel
theorem dX7_join_16 : decode cX7_join 16 = .ok (.iload_n 3, 1) := by decide +kernel
theorem dX7_join_17 : decode cX7_join 17 = .ok (.iconst 2, 1) := by decide +kernel
theorem dX7_join_18 : decode cX7_join 18 = .ok (.iload 4, 2) := by decide +kernel
theorem dX7_join_20 : decode cX7_join 20 = .ok (.invokevirtual 119, 3) := by decide +kernel
theorem dX7_join_23 : decode cX7_join 23 = .ok (.ireturn, 1) := by decide +kernel
theorem dX7_setGroup_0 : decode cX7_setGroup 0 = .ok (.iload_n 1, 1) := by decide +kernel
theorem dX7_setGroup_1 : decode cX7_setGroup 1 = .ok (.iconst 3, 1) := by decide +kernel
theorem dX7_setGroup_2 : decode cX7_setGroup 2 = .ok (.invokestatic 52, 3) := by decide +kernel
theorem dX7_setGroup_5 : decode cX7_setGroup 5 = .ok (.iload_n 2, 1) := by decide +kernel
theorem dX7_setGroup_6 : decode cX7_setGroup 6 = .ok (.iconst 3, 1) := by decide +kernel
theorem dX7_setGroup_7 : decode cX7_setGroup 7 = .ok (.invokestatic 52, 3) := by decide +kernel
theorem dX7_setGroup_10 : decode cX7_setGroup 10 = .ok (.iload_n 3, 1) := by decide +kernel
theorem dX7_setGroup_11 : decode cX7_setGroup 11 = .ok (.iconst 2, 1) := by decide +kernel
theorem dX7_setGroup_12 : decode cX7_setGroup 12 = .ok (.invokestatic 52, 3) := by decide +kernel
theorem dX7_setGroup_15 : decode cX7_setGroup 15 = .ok (.iload 4, 2) := by decide +kernel
theorem dX7_setGroup_17 : decode cX7_setGroup 17 = .ok (.iconst (-1), 1) := by decide +kernel
theorem dX7_setGroup_18 : decode cX7_setGroup 18 = .ok (.bipush 99, 2) := by decide +kernel
theorem dX7_setGroup_20 : decode cX7_setGroup 20 = .ok (.invokestatic 98, 3) := by decide +kernel
theorem dX7_setGroup_23 : decode cX7_setGroup 23 = .ok (.aload_n 0, 1) := by decide +kernel
theorem dX7_setGroup_24 : decode cX7_setGroup 24 = .ok (.iload_n 1, 1) := by decide +kernel
theorem dX7_setGroup_25 : decode cX7_setGroup 25 = .ok (.invokevirtual 74, 3) := by decide +kernel
theorem dX7_setGroup_28 : decode cX7_setGroup 28 = .ok (.getfield 123, 3) := by decide +kernel
theorem dX7_setGroup_31 : decode cX7_setGroup 31 = .ok (.iload_n 2, 1) := by decide +kernel
theorem dX7_setGroup_32 : decode cX7_setGroup 32 = .ok (.aaload, 1) := by decide +kernel
theorem dX7_setGroup_33 : decode cX7_setGroup 33 = .ok (.astore 5, 2) := by decide +kernel
theorem dX7_setGroup_35 : decode cX7_setGroup 35 = .ok (.aload 5, 2) := by decide +kernel
theorem dX7_setGroup_37 : decode cX7_setGroup 37 = .ok (.iload_n 3, 1) := by decide +kernel
theorem dX7_setGroup_38 : decode cX7_setGroup 38 = .ok (.iaload, 1) := by decide +kernel
theorem dX7_setGroup_39 : decode cX7_setGroup 39 = .ok (.istore 6, 2) := by decide +kernel
theorem dX7_setGroup_41 : decode cX7_setGroup 41 = .ok (.aload 5, 2) := by decide +kernel
theorem dX7_setGroup_43 : decode cX7_setGroup 43 = .ok (.iload_n 3, 1) := by decide +kernel
theorem dX7_setGroup_44 : decode cX7_setGroup 44 = .ok (.iload 4, 2) := by decide +kernel
theorem dX7_setGroup_46 : decode cX7_setGroup 46 = .ok (.iastore, 1) := by decide +kernel
theorem dX7_setGroup_47 : decode cX7_setGroup 47 = .ok (.iload 6, 2) := by decide +kernel
theorem dX7_setGroup_49 : decode cX7_setGroup 49 = .ok (.ireturn, 1) := by decide +kernel
theorem dX7_load_0 : decode cX7_load 0 = .ok (.iload_n 1, 1) := by decide +kernel
theorem dX7_load_1 : decode cX7_load 1 = .ok (.iconst 3, 1) := by decide +kernel
theorem dX7_load_2 : decode cX7_load 2 = .ok (.invokestatic 52, 3) := by decide +kernel
theorem dX7_load_5 : decode cX7_load 5 = .ok (.iload_n 2, 1) := by decide +kernel
theorem dX7_load_6 : decode cX7_load 6 = .ok (.aload_n 0, 1) := by decide +kernel
theorem dX7_load_7 : decode cX7_load 7 = .ok (.getfield 48, 3) := by decide +kernel
theorem dX7_load_10 : decode cX7_load 10 = .ok (.invokestatic 52, 3) := by decide +kernel
theorem dX7_load_13 : decode cX7_load 13 = .ok (.aload_n 0, 1) := by decide +kernel
theorem dX7_load_14 : decode cX7_load 14 = .ok (.iload_n 1, 1) := by decide +kernel
theorem dX7_load_15 : decode cX7_load 15 = .ok (.invokevirtual 74, 3) := by decide +kernel
theorem dX7_load_18 : decode cX7_load 18 = .ok (.aload_n 0, 1) := by decide +kernel
theorem dX7_load_19 : decode cX7_load 19 = .ok (.getfield 17, 3) := by decide +kernel
theorem dX7_load_22 : decode cX7_load 22 = .ok (.iload_n 2, 1) := by decide +kernel
theorem dX7_load_23 : decode cX7_load 23 = .ok (.aaload, 1) := by decide +kernel
theorem dX7_load_24 : decode cX7_load 24 = .ok (.invokevirtual 66, 3) := by decide +kernel
theorem dX7_load_27 : decode cX7_load 27 = .ok (.return_, 1) := by decide +kernel
theorem dX7_apply_0 : decode cX7_apply 0 = .ok (.iload_n 1, 1) := by decide +kernel
theorem dX7_apply_1 : decode cX7_apply 1 = .ok (.iconst 3, 1) := by decide +kernel
theorem dX7_apply_2 : decode cX7_apply 2 = .ok (.invokestatic 52, 3) := by decide +kernel
theorem dX7_apply_5 : decode cX7_apply 5 = .ok (.aload_n 0, 1) := by decide +kernel
theorem dX7_apply_6 : decode cX7_apply 6 = .ok (.getfield 30, 3) := by decide +kernel
theorem dX7_apply_9 : decode cX7_apply 9 = .ok (.aload_n 0, 1) := by decide +kernel
theorem dX7_apply_10 : decode cX7_apply 10 = .ok (.iload_n 2, 1) := by decide +kernel
theorem dX7_apply_11 : decode cX7_apply 11 = .ok (.invokevirtual 127, 3) := by decide +kernel
theorem dX7_apply_14 : decode cX7_apply 14 = .ok (.aload_n 0, 1) := by decide +kernel
theorem dX7_apply_15 : decode cX7_apply 15 = .ok (.iload_n 3, 1) := by decide +kernel
theorem dX7_apply_16 : decode cX7_apply 16 = .ok (.invokevirtual 127, 3) := by decide +kernel
theorem dX7_apply_19 : decode cX7_apply 19 = .ok (.invokevirtual 130, 3) := by decide +kernel
theorem dX7_apply_22 : decode cX7_apply 22 = .ok (.iload 4, 2) := by decide +kernel
theorem dX7_apply_24 : decode cX7_apply 24 = .ok (.ifCond .eq 10, 3) := by decide +kernel
theorem dX7_apply_27 : decode cX7_apply 27 = .ok (.aload_n 0, 1) := by decide +kernel
theorem dX7_apply_28 : decode cX7_apply 28 = .ok (.getfield 30, 3) := by decide +kernel
theorem dX7_apply_31 : decode cX7_apply 31 = .ok (.invokevirtual 134, 3) := by decide +kernel
theorem dX7_apply_34 : decode cX7_apply 34 = .ok (.aload_n 0, 1) := by decide +kernel
theorem dX7_apply_35 : decode cX7_apply 35 = .ok (.iload_n 1, 1) := by decide +kernel
theorem dX7_apply_36 : decode cX7_apply 36 = .ok (.invokevirtual 74, 3) := by decide +kernel
theorem dX7_apply_39 : decode cX7_apply 39 = .ok (.astore 5, 2) := by decide +kernel
theorem dX7_apply_41 : decode cX7_apply 41 = .ok (.aload_n 0, 1) := by decide +kernel
theorem dX7_apply_42 : decode cX7_apply 42 = .ok (.getfield 35, 3) := by decide +kernel
theorem dX7_apply_45 : decode cX7_apply 45 = .ok (.aload 5, 2) := by decide +kernel
theorem dX7_apply_47 : decode cX7_apply 47 = .ok (.invokevirtual 66, 3) := by decide +kernel
theorem dX7_apply_50 : decode cX7_apply 50 = .ok (.aload_n 0, 1) := by decide +kernel
theorem dX7_apply_51 : decode cX7_apply 51 = .ok (.getfield 30, 3) := by decide +kernel
theorem dX7_apply_54 : decode cX7_apply 54 = .ok (.aload_n 0, 1) := by decide +kernel
theorem dX7_apply_55 : decode cX7_apply 55 = .ok (.getfield 35, 3) := by decide +kernel
theorem dX7_apply_58 : decode cX7_apply 58 = .ok (.iconst 0, 1) := by decide +kernel
theorem dX7_apply_59 : decode cX7_apply 59 = .ok (.invokevirtual 137, 3) := by decide +kernel
theorem dX7_apply_62 : decode cX7_apply 62 = .ok (.ifCond .ne 13, 3) := by decide +kernel
theorem dX7_apply_65 : decode cX7_apply 65 = .ok (.new 91, 3) := by decide +kernel
theorem dX7_apply_68 : decode cX7_apply 68 = .ok (.dup, 1) := by decide +kernel
theorem dX7_apply_69 : decode cX7_apply 69 = .ok (.ldc 141, 2) := by decide +kernel
theorem dX7_apply_71 : decode cX7_apply 71 = .ok (.invokespecial 95, 3) := by decide +kernel
theorem dX7_apply_74 : decode cX7_apply 74 = .ok (.athrow, 1) := by decide +kernel
theorem dX7_apply_75 : decode cX7_apply 75 = .ok (.aload 5, 2) := by decide +kernel
theorem dX7_apply_77 : decode cX7_apply 77 = .ok (.aload_n 0, 1) := by decide +kernel
theorem dX7_apply_78 : decode cX7_apply 78 = .ok (.getfield 35, 3) := by decide +kernel
theorem dX7_apply_81 : decode cX7_apply 81 = .ok (.invokevirtual 66, 3) := by decide +kernel
theorem dX7_apply_84 : decode cX7_apply 84 = .ok (.aload_n 0, 1) := by decide +kernel
theorem dX7_apply_85 : decode cX7_apply 85 = .ok (.getfield 30, 3) := by decide +kernel
theorem dX7_apply_88 : decode cX7_apply 88 = .ok (.getfield 143, 3) := by decide +kernel
theorem dX7_apply_91 : decode cX7_apply 91 = .ok (.ireturn, 1) := by decide +kernel
theorem dX7_rule_0 : decode cX7_rule 0 = .ok (.iload_n 2, 1) := by decide +kernel
theorem dX7_rule_1 : decode cX7_rule 1 = .ok (.iconst 3, 1) := by decide +kernel
theorem dX7_rule_2 : decode cX7_rule 2 = .ok (.invokestatic 52, 3) := by decide +kernel
theorem dX7_rule_5 : decode cX7_rule 5 = .ok (.iload_n 3, 1) := by decide +kernel
theorem dX7_rule_6 : decode cX7_rule 6 = .ok (.iconst 2, 1) := by decide +kernel
theorem dX7_rule_7 : decode cX7_rule 7 = .ok (.invokestatic 52, 3) := by decide +kernel
theorem dX7_rule_10 : decode cX7_rule 10 = .ok (.iload_n 1, 1) := by decide +kernel
theorem dX7_rule_11 : decode cX7_rule 11 = .ok (.iconst 0, 1) := by decide +kernel
theorem dX7_rule_12 : decode cX7_rule 12 = .ok (.iconst 3, 1) := by decide +kernel
theorem dX7_rule_13 : decode cX7_rule 13 = .ok (.invokestatic 98, 3) := by decide +kernel
theorem dX7_rule_16 : decode cX7_rule 16 = .ok (.iload 4, 2) := by decide +kernel
theorem dX7_rule_18 : decode cX7_rule 18 = .ok (.iconst 0, 1) := by decide +kernel
theorem dX7_rule_19 : decode cX7_rule 19 = .ok (.bipush 99, 2) := by decide +kernel
theorem dX7_rule_21 : decode cX7_rule 21 = .ok (.invokestatic 98, 3) := by decide +kernel
theorem dX7_rule_24 : decode cX7_rule 24 = .ok (.aload_n 0, 1) := by decide +kernel
theorem dX7_rule_25 : decode cX7_rule 25 = .ok (.getfield 144, 3) := by decide +kernel
theorem dX7_rule_28 : decode cX7_rule 28 = .ok (.bipush 8, 2) := by decide +kernel
theorem dX7_rule_30 : decode cX7_rule 30 = .ok (.if_icmp .lt 13, 3) := by decide +kernel
theorem dX7_rule_33 : decode cX7_rule 33 = .ok (.new 91, 3) := by decide +kernel
theorem dX7_rule_36 : decode cX7_rule 36 = .ok (.dup, 1) := by decide +kernel
theorem dX7_rule_37 : decode cX7_rule 37 = .ok (.ldc 147, 2) := by decide +kernel
theorem dX7_rule_39 : decode cX7_rule 39 = .ok (.invokespecial 95, 3) := by decide +kernel
theorem dX7_rule_42 : decode cX7_rule 42 = .ok (.athrow, 1) := by decide +kernel
theorem dX7_rule_43 : decode cX7_rule 43 = .ok (.aload_n 0, 1) := by decide +kernel
theorem dX7_rule_44 : decode cX7_rule 44 = .ok (.getfield 23, 3) := by decide +kernel
theorem dX7_rule_47 : decode cX7_rule 47 = .ok (.aload_n 0, 1) := by decide +kernel
theorem dX7_rule_48 : decode cX7_rule 48 = .ok (.getfield 144, 3) := by decide +kernel
theorem dX7_rule_51 : decode cX7_rule 51 = .ok (.aaload, 1) := by decide +kernel
theorem dX7_rule_52 : decode cX7_rule 52 = .ok (.astore 5, 2) := by decide +kernel
theorem dX7_rule_54 : decode cX7_rule 54 = .ok (.aload 5, 2) := by decide +kernel
theorem dX7_rule_56 : decode cX7_rule 56 = .ok (.iload_n 1, 1) := by decide +kernel
theorem dX7_rule_57 : decode cX7_rule 57 = .ok (.putfield 149, 3) := by decide +kernel
theorem dX7_rule_60 : decode cX7_rule 60 = .ok (.aload 5, 2) := by decide +kernel
theorem dX7_rule_62 : decode cX7_rule 62 = .ok (.iload_n 2, 1) := by decide +kernel
theorem dX7_rule_63 : decode cX7_rule 63 = .ok (.putfield 152, 3) := by decide +kernel
theorem dX7_rule_66 : decode cX7_rule 66 = .ok (.aload 5, 2) := by decide +kernel
theorem dX7_rule_68 : decode cX7_rule 68 = .ok (.iload_n 3, 1) := by decide +kernel
theorem dX7_rule_69 : decode cX7_rule 69 = .ok (.putfield 155, 3) := by decide +kernel
theorem dX7_rule_72 : decode cX7_rule 72 = .ok (.aload 5, 2) := by decide +kernel
theorem dX7_rule_74 : decode cX7_rule 74 = .ok (.iload 4, 2) := by decide +kernel
theorem dX7_rule_76 : decode cX7_rule 76 = .ok (.putfield 158, 3) := by decide +kernel
theorem dX7_rule_79 : decode cX7_rule 79 = .ok (.aload_n 0, 1) := by decide +kernel
theorem dX7_rule_80 : decode cX7_rule 80 = .ok (.dup, 1) := by decide +kernel
theorem dX7_rule_81 : decode cX7_rule 81 = .ok (.getfield 144, 3) := by decide +kernel
theorem dX7_rule_84 : decode cX7_rule 84 = .ok (.iconst 1, 1) := by decide +kernel
theorem dX7_rule_85 : decode cX7_rule 85 = .ok (.iadd, 1) := by decide +kernel
theorem dX7_rule_86 : decode cX7_rule 86 = .ok (.putfield 144, 3) := by decide +kernel
theorem dX7_rule_89 : decode cX7_rule 89 = .ok (.aload_n 0, 1) := by decide +kernel
theorem dX7_rule_90 : decode cX7_rule 90 = .ok (.getfield 144, 3) := by decide +kernel
theorem dX7_rule_93 : decode cX7_rule 93 = .ok (.iconst 1, 1) := by decide +kernel
theorem dX7_rule_94 : decode cX7_rule 94 = .ok (.isub, 1) := by decide +kernel
theorem dX7_rule_95 : decode cX7_rule 95 = .ok (.ireturn, 1) := by decide +kernel
theorem dX7_faults_0 : decode cX7_faults 0 = .ok (.aload_n 0, 1) := by decide +kernel
theorem dX7_faults_1 : decode cX7_faults 1 = .ok (.aload_n 0, 1) := by decide +kernel
theorem dX7_faults_2 : decode cX7_faults 2 = .ok (.iload_n 1, 1) := by decide +kernel
theorem dX7_faults_3 : decode cX7_faults 3 = .ok (.invokevirtual 127, 3) := by decide +kernel
theorem dX7_faults_6 : decode cX7_faults 6 = .ok (.invokevirtual 161, 3) := by decide +kernel
theorem dX7_faults_9 : decode cX7_faults 9 = .ok (.ireturn, 1) := by decide +kernel
theorem dX7_commit_0 : decode cX7_commit 0 = .ok (.iload_n 1, 1) := by decide +kernel
theorem dX7_commit_1 : decode cX7_commit 1 = .ok (.iconst 3, 1) := by decide +kernel
theorem dX7_commit_2 : decode cX7_commit 2 = .ok (.invokestatic 52, 3) := by decide +kernel
theorem dX7_commit_5 : decode cX7_commit 5 = .ok (.iload_n 2, 1) := by decide +kernel
theorem dX7_commit_6 : decode cX7_commit 6 = .ok (.iconst 0, 1) := by decide +kernel
theorem dX7_commit_7 : decode cX7_commit 7 = .ok (.bipush 100, 2) := by decide +kernel
theorem dX7_commit_9 : decode cX7_commit 9 = .ok (.invokestatic 98, 3) := by decide +kernel
theorem dX7_commit_12 : decode cX7_commit 12 = .ok (.aload_n 0, 1) := by decide +kernel
theorem dX7_commit_13 : decode cX7_commit 13 = .ok (.iload_n 1, 1) := by decide +kernel
theorem dX7_commit_14 : decode cX7_commit 14 = .ok (.invokevirtual 74, 3) := by decide +kernel
theorem dX7_commit_17 : decode cX7_commit 17 = .ok (.astore_n 3, 1) := by decide +kernel
theorem dX7_commit_18 : decode cX7_commit 18 = .ok (.aload_n 0, 1) := by decide +kernel
theorem dX7_commit_19 : decode cX7_commit 19 = .ok (.getfield 165, 3) := by decide +kernel
theorem dX7_commit_22 : decode cX7_commit 22 = .ok (.ifCond .gt 12, 3) := by decide +kernel
theorem dX7_commit_25 : decode cX7_commit 25 = .ok (.aload_n 0, 1) := by decide +kernel
theorem dX7_commit_26 : decode cX7_commit 26 = .ok (.getfield 48, 3) := by decide +kernel
theorem dX7_commit_29 : decode cX7_commit 29 = .ok (.bipush 29, 2) := by decide +kernel
theorem dX7_commit_31 : decode cX7_commit 31 = .ok (.if_icmp .lt 13, 3) := by decide +kernel
theorem dX7_commit_34 : decode cX7_commit 34 = .ok (.new 91, 3) := by decide +kernel
theorem dX7_commit_37 : decode cX7_commit 37 = .ok (.dup, 1) := by decide +kernel
theorem dX7_commit_38 : decode cX7_commit 38 = .ok (.ldc 168, 2) := by decide +kernel
theorem dX7_commit_40 : decode cX7_commit 40 = .ok (.invokespecial 95, 3) := by decide +kernel
theorem dX7_commit_43 : decode cX7_commit 43 = .ok (.athrow, 1) := by decide +kernel
theorem dX7_commit_44 : decode cX7_commit 44 = .ok (.aload_n 0, 1) := by decide +kernel
theorem dX7_commit_45 : decode cX7_commit 45 = .ok (.getfield 11, 3) := by decide +kernel
theorem dX7_commit_48 : decode cX7_commit 48 = .ok (.iload_n 1, 1) := by decide +kernel
theorem dX7_commit_49 : decode cX7_commit 49 = .ok (.aaload, 1) := by decide +kernel
theorem dX7_commit_50 : decode cX7_commit 50 = .ok (.astore 4, 2) := by decide +kernel
theorem dX7_commit_52 : decode cX7_commit 52 = .ok (.aload_n 0, 1) := by decide +kernel
theorem dX7_commit_53 : decode cX7_commit 53 = .ok (.getfield 30, 3) := by decide +kernel
theorem dX7_commit_56 : decode cX7_commit 56 = .ok (.aload_n 0, 1) := by decide +kernel
theorem dX7_commit_57 : decode cX7_commit 57 = .ok (.getfield 17, 3) := by decide +kernel
theorem dX7_commit_60 : decode cX7_commit 60 = .ok (.aload 4, 2) := by decide +kernel
theorem dX7_commit_62 : decode cX7_commit 62 = .ok (.getfield 60, 3) := by decide +kernel
theorem dX7_commit_65 : decode cX7_commit 65 = .ok (.aaload, 1) := by decide +kernel
theorem dX7_commit_66 : decode cX7_commit 66 = .ok (.aload_n 3, 1) := by decide +kernel
theorem dX7_commit_67 : decode cX7_commit 67 = .ok (.invokevirtual 130, 3) := by decide +kernel
theorem dX7_commit_70 : decode cX7_commit 70 = .ok (.aload_n 0, 1) := by decide +kernel
theorem dX7_commit_71 : decode cX7_commit 71 = .ok (.getfield 35, 3) := by decide +kernel
theorem dX7_commit_74 : decode cX7_commit 74 = .ok (.aload_n 0, 1) := by decide +kernel
theorem dX7_commit_75 : decode cX7_commit 75 = .ok (.getfield 17, 3) := by decide +kernel
theorem dX7_commit_78 : decode cX7_commit 78 = .ok (.aload_n 0, 1) := by decide +kernel
theorem dX7_commit_79 : decode cX7_commit 79 = .ok (.getfield 48, 3) := by decide +kernel
theorem dX7_commit_82 : decode cX7_commit 82 = .ok (.iconst 1, 1) := by decide +kernel
theorem dX7_commit_83 : decode cX7_commit 83 = .ok (.isub, 1) := by decide +kernel
theorem dX7_commit_84 : decode cX7_commit 84 = .ok (.aaload, 1) := by decide +kernel
theorem dX7_commit_85 : decode cX7_commit 85 = .ok (.invokevirtual 66, 3) := by decide +kernel
theorem dX7_commit_88 : decode cX7_commit 88 = .ok (.aload_n 0, 1) := by decide +kernel
theorem dX7_commit_89 : decode cX7_commit 89 = .ok (.getfield 30, 3) := by decide +kernel
theorem dX7_commit_92 : decode cX7_commit 92 = .ok (.aload_n 0, 1) := by decide +kernel
theorem dX7_commit_93 : decode cX7_commit 93 = .ok (.getfield 35, 3) := by decide +kernel
theorem dX7_commit_96 : decode cX7_commit 96 = .ok (.iconst 1, 1) := by decide +kernel
theorem dX7_commit_97 : decode cX7_commit 97 = .ok (.invokevirtual 137, 3) := by decide +kernel
theorem dX7_commit_100 : decode cX7_commit 100 = .ok (.ifCond .ne 13, 3) := by decide +kernel
theorem dX7_commit_103 : decode cX7_commit 103 = .ok (.new 91, 3) := by decide +kernel
theorem dX7_commit_106 : decode cX7_commit 106 = .ok (.dup, 1) := by decide +kernel
theorem dX7_commit_107 : decode cX7_commit 107 = .ok (.ldc 170, 2) := by decide +kernel
theorem dX7_commit_109 : decode cX7_commit 109 = .ok (.invokespecial 95, 3) := by decide +kernel
theorem dX7_commit_112 : decode cX7_commit 112 = .ok (.athrow, 1) := by decide +kernel
theorem dX7_commit_113 : decode cX7_commit 113 = .ok (.aload_n 0, 1) := by decide +kernel
theorem dX7_commit_114 : decode cX7_commit 114 = .ok (.aload_n 0, 1) := by decide +kernel
theorem dX7_commit_115 : decode cX7_commit 115 = .ok (.getfield 35, 3) := by decide +kernel
theorem dX7_commit_118 : decode cX7_commit 118 = .ok (.invokevirtual 161, 3) := by decide +kernel
theorem dX7_commit_121 : decode cX7_commit 121 = .ok (.ifCond .le 13, 3) := by decide +kernel
theorem dX7_commit_124 : decode cX7_commit 124 = .ok (.new 91, 3) := by decide +kernel
theorem dX7_commit_127 : decode cX7_commit 127 = .ok (.dup, 1) := by decide +kernel
theorem dX7_commit_128 : decode cX7_commit 128 = .ok (.ldc 172, 2) := by decide +kernel
theorem dX7_commit_130 : decode cX7_commit 130 = .ok (.invokespecial 95, 3) := by decide +kernel
theorem dX7_commit_133 : decode cX7_commit 133 = .ok (.athrow, 1) := by decide +kernel
theorem dX7_commit_134 : decode cX7_commit 134 = .ok (.aload_n 0, 1) := by decide +kernel
theorem dX7_commit_135 : decode cX7_commit 135 = .ok (.aload_n 0, 1) := by decide +kernel
theorem dX7_commit_136 : decode cX7_commit 136 = .ok (.getfield 48, 3) := by decide +kernel
theorem dX7_commit_139 : decode cX7_commit 139 = .ok (.iconst 1, 1) := by decide +kernel
theorem dX7_commit_140 : decode cX7_commit 140 = .ok (.isub, 1) := by decide +kernel
theorem dX7_commit_141 : decode cX7_commit 141 = .ok (.putfield 174, 3) := by decide +kernel
theorem dX7_commit_144 : decode cX7_commit 144 = .ok (.aload_n 0, 1) := by decide +kernel
theorem dX7_commit_145 : decode cX7_commit 145 = .ok (.iload_n 2, 1) := by decide +kernel
theorem dX7_commit_146 : decode cX7_commit 146 = .ok (.putfield 165, 3) := by decide +kernel
theorem dX7_commit_149 : decode cX7_commit 149 = .ok (.aload 4, 2) := by decide +kernel
theorem dX7_commit_151 : decode cX7_commit 151 = .ok (.iconst 0, 1) := by decide +kernel
theorem dX7_commit_152 : decode cX7_commit 152 = .ok (.putfield 56, 3) := by decide +kernel
theorem dX7_commit_155 : decode cX7_commit 155 = .ok (.aload_n 0, 1) := by decide +kernel
theorem dX7_commit_156 : decode cX7_commit 156 = .ok (.aload_n 0, 1) := by decide +kernel
theorem dX7_commit_157 : decode cX7_commit 157 = .ok (.getfield 35, 3) := by decide +kernel
theorem dX7_commit_160 : decode cX7_commit 160 = .ok (.invokevirtual 177, 3) := by decide +kernel
theorem dX7_commit_163 : decode cX7_commit 163 = .ok (.aload_n 0, 1) := by decide +kernel
theorem dX7_commit_164 : decode cX7_commit 164 = .ok (.getfield 48, 3) := by decide +kernel
theorem dX7_commit_167 : decode cX7_commit 167 = .ok (.iconst 1, 1) := by decide +kernel
theorem dX7_commit_168 : decode cX7_commit 168 = .ok (.isub, 1) := by decide +kernel
theorem dX7_commit_169 : decode cX7_commit 169 = .ok (.ireturn, 1) := by decide +kernel
theorem dX7_confirm_0 : decode cX7_confirm 0 = .ok (.aload_n 0, 1) := by decide +kernel
theorem dX7_confirm_1 : decode cX7_confirm 1 = .ok (.getfield 165, 3) := by decide +kernel
theorem dX7_confirm_4 : decode cX7_confirm 4 = .ok (.ifCond .gt 13, 3) := by decide +kernel
theorem dX7_confirm_7 : decode cX7_confirm 7 = .ok (.new 91, 3) := by decide +kernel
theorem dX7_confirm_10 : decode cX7_confirm 10 = .ok (.dup, 1) := by decide +kernel
theorem dX7_confirm_11 : decode cX7_confirm 11 = .ok (.ldc 180, 2) := by decide +kernel
theorem dX7_confirm_13 : decode cX7_confirm 13 = .ok (.invokespecial 95, 3) := by decide +kernel
theorem dX7_confirm_16 : decode cX7_confirm 16 = .ok (.athrow, 1) := by decide +kernel
theorem dX7_confirm_17 : decode cX7_confirm 17 = .ok (.aload_n 0, 1) := by decide +kernel
theorem dX7_confirm_18 : decode cX7_confirm 18 = .ok (.getfield 165, 3) := by decide +kernel
theorem dX7_confirm_21 : decode cX7_confirm 21 = .ok (.istore_n 1, 1) := by decide +kernel
theorem dX7_confirm_22 : decode cX7_confirm 22 = .ok (.aload_n 0, 1) := by decide +kernel
theorem dX7_confirm_23 : decode cX7_confirm 23 = .ok (.iconst 0, 1) := by decide +kernel
theorem dX7_confirm_24 : decode cX7_confirm 24 = .ok (.putfield 165, 3) := by decide +kernel
theorem dX7_confirm_27 : decode cX7_confirm 27 = .ok (.iload_n 1, 1) := by decide +kernel
theorem dX7_confirm_28 : decode cX7_confirm 28 = .ok (.ireturn, 1) := by decide +kernel
theorem dX7_advance_0 : decode cX7_advance 0 = .ok (.iload_n 1, 1) := by decide +kernel
theorem dX7_advance_1 : decode cX7_advance 1 = .ok (.iconst 1, 1) := by decide +kernel
theorem dX7_advance_2 : decode cX7_advance 2 = .ok (.bipush 100, 2) := by decide +kernel
theorem dX7_advance_4 : decode cX7_advance 4 = .ok (.invokestatic 98, 3) := by decide +kernel
theorem dX7_advance_7 : decode cX7_advance 7 = .ok (.aload_n 0, 1) := by decide +kernel
theorem dX7_advance_8 : decode cX7_advance 8 = .ok (.getfield 165, 3) := by decide +kernel
theorem dX7_advance_11 : decode cX7_advance 11 = .ok (.iload_n 1, 1) := by decide +kernel
theorem dX7_advance_12 : decode cX7_advance 12 = .ok (.if_icmp .le 16, 3) := by decide +kernel
theorem dX7_advance_15 : decode cX7_advance 15 = .ok (.aload_n 0, 1) := by decide +kernel
theorem dX7_advance_16 : decode cX7_advance 16 = .ok (.dup, 1) := by decide +kernel
theorem dX7_advance_17 : decode cX7_advance 17 = .ok (.getfield 165, 3) := by decide +kernel
theorem dX7_advance_20 : decode cX7_advance 20 = .ok (.iload_n 1, 1) := by decide +kernel
theorem dX7_advance_21 : decode cX7_advance 21 = .ok (.isub, 1) := by decide +kernel
theorem dX7_advance_22 : decode cX7_advance 22 = .ok (.putfield 165, 3) := by decide +kernel
theorem dX7_advance_25 : decode cX7_advance 25 = .ok (.goto 28, 3) := by decide +kernel
theorem dX7_advance_28 : decode cX7_advance 28 = .ok (.aload_n 0, 1) := by decide +kernel
theorem dX7_advance_29 : decode cX7_advance 29 = .ok (.getfield 165, 3) := by decide +kernel
theorem dX7_advance_32 : decode cX7_advance 32 = .ok (.ifCond .le 21, 3) := by decide +kernel
theorem dX7_advance_35 : decode cX7_advance 35 = .ok (.aload_n 0, 1) := by decide +kernel
theorem dX7_advance_36 : decode cX7_advance 36 = .ok (.iconst 0, 1) := by decide +kernel
theorem dX7_advance_37 : decode cX7_advance 37 = .ok (.putfield 165, 3) := by decide +kernel
theorem dX7_advance_40 : decode cX7_advance 40 = .ok (.aload_n 0, 1) := by decide +kernel
theorem dX7_advance_41 : decode cX7_advance 41 = .ok (.aload_n 0, 1) := by decide +kernel
theorem dX7_advance_42 : decode cX7_advance 42 = .ok (.getfield 17, 3) := by decide +kernel
theorem dX7_advance_45 : decode cX7_advance 45 = .ok (.aload_n 0, 1) := by decide +kernel
theorem dX7_advance_46 : decode cX7_advance 46 = .ok (.getfield 174, 3) := by decide +kernel
theorem dX7_advance_49 : decode cX7_advance 49 = .ok (.aaload, 1) := by decide +kernel
theorem dX7_advance_50 : decode cX7_advance 50 = .ok (.invokevirtual 177, 3) := by decide +kernel
theorem dX7_advance_53 : decode cX7_advance 53 = .ok (.aload_n 0, 1) := by decide +kernel
theorem dX7_advance_54 : decode cX7_advance 54 = .ok (.getfield 48, 3) := by decide +kernel
theorem dX7_advance_57 : decode cX7_advance 57 = .ok (.iconst 1, 1) := by decide +kernel
theorem dX7_advance_58 : decode cX7_advance 58 = .ok (.isub, 1) := by decide +kernel
theorem dX7_advance_59 : decode cX7_advance 59 = .ok (.ireturn, 1) := by decide +kernel
theorem dX7_running_0 : decode cX7_running 0 = .ok (.aload_n 0, 1) := by decide +kernel
theorem dX7_running_1 : decode cX7_running 1 = .ok (.getfield 48, 3) := by decide +kernel
theorem dX7_running_4 : decode cX7_running 4 = .ok (.iconst 1, 1) := by decide +kernel
theorem dX7_running_5 : decode cX7_running 5 = .ok (.isub, 1) := by decide +kernel
theorem dX7_running_6 : decode cX7_running 6 = .ok (.ireturn, 1) := by decide +kernel
theorem dX7_waiting_0 : decode cX7_waiting 0 = .ok (.aload_n 0, 1) := by decide +kernel
theorem dX7_waiting_1 : decode cX7_waiting 1 = .ok (.getfield 165, 3) := by decide +kernel
theorem dX7_waiting_4 : decode cX7_waiting 4 = .ok (.ifCond .le 10, 3) := by decide +kernel
theorem dX7_waiting_7 : decode cX7_waiting 7 = .ok (.aload_n 0, 1) := by decide +kernel
theorem dX7_waiting_8 : decode cX7_waiting 8 = .ok (.getfield 165, 3) := by decide +kernel
theorem dX7_waiting_11 : decode cX7_waiting 11 = .ok (.goto 4, 3) := by decide +kernel
theorem dX7_waiting_14 : decode cX7_waiting 14 = .ok (.iconst (-1), 1) := by decide +kernel
theorem dX7_waiting_15 : decode cX7_waiting 15 = .ok (.ireturn, 1) := by decide +kernel
theorem dX7_size_0 : decode cX7_size 0 = .ok (.aload_n 0, 1) := by decide +kernel
theorem dX7_size_1 : decode cX7_size 1 = .ok (.iload_n 1, 1) := by decide +kernel
theorem dX7_size_2 : decode cX7_size 2 = .ok (.iload_n 2, 1) := by decide +kernel
theorem dX7_size_3 : decode cX7_size 3 = .ok (.invokevirtual 182, 3) := by decide +kernel
theorem dX7_size_6 : decode cX7_size 6 = .ok (.getfield 88, 3) := by decide +kernel
theorem dX7_size_9 : decode cX7_size 9 = .ok (.ireturn, 1) := by decide +kernel
theorem dX7_keyAt_0 : decode cX7_keyAt 0 = .ok (.aload_n 0, 1) := by decide +kernel
theorem dX7_keyAt_1 : decode cX7_keyAt 1 = .ok (.iload_n 1, 1) := by decide +kernel
theorem dX7_keyAt_2 : decode cX7_keyAt 2 = .ok (.iload_n 2, 1) := by decide +kernel
theorem dX7_keyAt_3 : decode cX7_keyAt 3 = .ok (.iload_n 3, 1) := by decide +kernel
theorem dX7_keyAt_4 : decode cX7_keyAt 4 = .ok (.invokevirtual 186, 3) := by decide +kernel
theorem dX7_keyAt_7 : decode cX7_keyAt 7 = .ok (.getfield 190, 3) := by decide +kernel
theorem dX7_keyAt_10 : decode cX7_keyAt 10 = .ok (.ireturn, 1) := by decide +kernel
theorem dX7_shown_0 : decode cX7_shown 0 = .ok (.aload_n 0, 1) := by decide +kernel
theorem dX7_shown_1 : decode cX7_shown 1 = .ok (.iload_n 1, 1) := by decide +kernel
theorem dX7_shown_2 : decode cX7_shown 2 = .ok (.iload_n 2, 1) := by decide +kernel
theorem dX7_shown_3 : decode cX7_shown 3 = .ok (.iload_n 3, 1) := by decide +kernel
theorem dX7_shown_4 : decode cX7_shown 4 = .ok (.invokevirtual 186, 3) := by decide +kernel
theorem dX7_shown_7 : decode cX7_shown 7 = .ok (.astore 5, 2) := by decide +kernel
theorem dX7_shown_9 : decode cX7_shown 9 = .ok (.iload 4, 2) := by decide +kernel
theorem dX7_shown_11 : decode cX7_shown 11 = .ok (.iconst 2, 1) := by decide +kernel
theorem dX7_shown_12 : decode cX7_shown 12 = .ok (.invokestatic 52, 3) := by decide +kernel
theorem dX7_shown_15 : decode cX7_shown 15 = .ok (.aload_n 0, 1) := by decide +kernel
theorem dX7_shown_16 : decode cX7_shown 16 = .ok (.iload_n 1, 1) := by decide +kernel
theorem dX7_shown_17 : decode cX7_shown 17 = .ok (.invokevirtual 127, 3) := by decide +kernel
theorem dX7_shown_20 : decode cX7_shown 20 = .ok (.aload 5, 2) := by decide +kernel
theorem dX7_shown_22 : decode cX7_shown 22 = .ok (.iload 4, 2) := by decide +kernel
theorem dX7_shown_24 : decode cX7_shown 24 = .ok (.invokevirtual 193, 3) := by decide +kernel
theorem dX7_shown_27 : decode cX7_shown 27 = .ok (.ireturn, 1) := by decide +kernel
theorem dX7_own_0 : decode cX7_own 0 = .ok (.aload_n 0, 1) := by decide +kernel
theorem dX7_own_1 : decode cX7_own 1 = .ok (.iload_n 1, 1) := by decide +kernel
theorem dX7_own_2 : decode cX7_own 2 = .ok (.iload_n 2, 1) := by decide +kernel
theorem dX7_own_3 : decode cX7_own 3 = .ok (.iload_n 3, 1) := by decide +kernel
theorem dX7_own_4 : decode cX7_own 4 = .ok (.invokevirtual 186, 3) := by decide +kernel
theorem dX7_own_7 : decode cX7_own 7 = .ok (.getfield 197, 3) := by decide +kernel
theorem dX7_own_10 : decode cX7_own 10 = .ok (.astore 4, 2) := by decide +kernel
theorem dX7_own_12 : decode cX7_own 12 = .ok (.sipush 10000, 3) := by decide +kernel
theorem dX7_own_15 : decode cX7_own 15 = .ok (.aload 4, 2) := by decide +kernel
theorem dX7_own_17 : decode cX7_own 17 = .ok (.iconst 0, 1) := by decide +kernel
theorem dX7_own_18 : decode cX7_own 18 = .ok (.iaload, 1) := by decide +kernel
theorem dX7_own_19 : decode cX7_own 19 = .ok (.iconst 1, 1) := by decide +kernel
theorem dX7_own_20 : decode cX7_own 20 = .ok (.iadd, 1) := by decide +kernel
theorem dX7_own_21 : decode cX7_own 21 = .ok (.imul, 1) := by decide +kernel
theorem dX7_own_22 : decode cX7_own 22 = .ok (.bipush 10, 2) := by decide +kernel
theorem dX7_own_24 : decode cX7_own 24 = .ok (.aload 4, 2) := by decide +kernel
theorem dX7_own_26 : decode cX7_own 26 = .ok (.iconst 1, 1) := by decide +kernel
theorem dX7_own_27 : decode cX7_own 27 = .ok (.iaload, 1) := by decide +kernel
theorem dX7_own_28 : decode cX7_own 28 = .ok (.iconst 1, 1) := by decide +kernel
theorem dX7_own_29 : decode cX7_own 29 = .ok (.iadd, 1) := by decide +kernel
theorem dX7_own_30 : decode cX7_own 30 = .ok (.imul, 1) := by decide +kernel
theorem dX7_own_31 : decode cX7_own 31 = .ok (.iadd, 1) := by decide +kernel
theorem dX7_own_32 : decode cX7_own 32 = .ok (.aload 4, 2) := by decide +kernel
theorem dX7_own_34 : decode cX7_own 34 = .ok (.iconst 2, 1) := by decide +kernel
theorem dX7_own_35 : decode cX7_own 35 = .ok (.iaload, 1) := by decide +kernel
theorem dX7_own_36 : decode cX7_own 36 = .ok (.iadd, 1) := by decide +kernel
theorem dX7_own_37 : decode cX7_own 37 = .ok (.iconst 1, 1) := by decide +kernel
theorem dX7_own_38 : decode cX7_own 38 = .ok (.iadd, 1) := by decide +kernel
theorem dX7_own_39 : decode cX7_own 39 = .ok (.ireturn, 1) := by decide +kernel
theorem dX7_same_0 : decode cX7_same 0 = .ok (.aload_n 0, 1) := by decide +kernel
theorem dX7_same_1 : decode cX7_same 1 = .ok (.iload_n 1, 1) := by decide +kernel
theorem dX7_same_2 : decode cX7_same 2 = .ok (.invokevirtual 127, 3) := by decide +kernel
theorem dX7_same_5 : decode cX7_same 5 = .ok (.aload_n 0, 1) := by decide +kernel
theorem dX7_same_6 : decode cX7_same 6 = .ok (.iload_n 2, 1) := by decide +kernel
theorem dX7_same_7 : decode cX7_same 7 = .ok (.invokevirtual 127, 3) := by decide +kernel
theorem dX7_same_10 : decode cX7_same 10 = .ok (.invokevirtual 201, 3) := by decide +kernel
theorem dX7_same_13 : decode cX7_same 13 = .ok (.ireturn, 1) := by decide +kernel
theorem dX7_edits_0 : decode cX7_edits 0 = .ok (.aload_n 0, 1) := by decide +kernel
theorem dX7_edits_1 : decode cX7_edits 1 = .ok (.getfield 30, 3) := by decide +kernel
theorem dX7_edits_4 : decode cX7_edits 4 = .ok (.aload_n 0, 1) := by decide +kernel
theorem dX7_edits_5 : decode cX7_edits 5 = .ok (.iload_n 1, 1) := by decide +kernel
theorem dX7_edits_6 : decode cX7_edits 6 = .ok (.invokevirtual 127, 3) := by decide +kernel
theorem dX7_edits_9 : decode cX7_edits 9 = .ok (.aload_n 0, 1) := by decide +kernel
theorem dX7_edits_10 : decode cX7_edits 10 = .ok (.iload_n 2, 1) := by decide +kernel
theorem dX7_edits_11 : decode cX7_edits 11 = .ok (.invokevirtual 127, 3) := by decide +kernel
theorem dX7_edits_14 : decode cX7_edits 14 = .ok (.invokevirtual 130, 3) := by decide +kernel
theorem dX7_edits_17 : decode cX7_edits 17 = .ok (.aload_n 0, 1) := by decide +kernel
theorem dX7_edits_18 : decode cX7_edits 18 = .ok (.getfield 30, 3) := by decide +kernel
theorem dX7_edits_21 : decode cX7_edits 21 = .ok (.getfield 143, 3) := by decide +kernel
theorem dX7_edits_24 : decode cX7_edits 24 = .ok (.ireturn, 1) := by decide +kernel
theorem dX7_needIndex_0 : decode cX7_needIndex 0 = .ok (.iload_n 0, 1) := by decide +kernel
theorem dX7_needIndex_1 : decode cX7_needIndex 1 = .ok (.ifCond .lt 8, 3) := by decide +kernel
theorem dX7_needIndex_4 : decode cX7_needIndex 4 = .ok (.iload_n 0, 1) := by decide +kernel
theorem dX7_needIndex_5 : decode cX7_needIndex 5 = .ok (.iload_n 1, 1) := by decide +kernel
theorem dX7_needIndex_6 : decode cX7_needIndex 6 = .ok (.if_icmp .lt 13, 3) := by decide +kernel
theorem dX7_needIndex_9 : decode cX7_needIndex 9 = .ok (.new 215, 3) := by decide +kernel
theorem dX7_needIndex_12 : decode cX7_needIndex 12 = .ok (.dup, 1) := by decide +kernel
theorem dX7_needIndex_13 : decode cX7_needIndex 13 = .ok (.ldc 217, 2) := by decide +kernel
theorem dX7_needIndex_15 : decode cX7_needIndex 15 = .ok (.invokespecial 219, 3) := by decide +kernel
theorem dX7_needIndex_18 : decode cX7_needIndex 18 = .ok (.athrow, 1) := by decide +kernel
theorem dX7_needIndex_19 : decode cX7_needIndex 19 = .ok (.return_, 1) := by decide +kernel
theorem dX7_needArgument_0 : decode cX7_needArgument 0 = .ok (.iload_n 0, 1) := by decide +kernel
theorem dX7_needArgument_1 : decode cX7_needArgument 1 = .ok (.iload_n 1, 1) := by decide +kernel
theorem dX7_needArgument_2 : decode cX7_needArgument 2 = .ok (.if_icmp .lt 8, 3) := by decide +kernel
theorem dX7_needArgument_5 : decode cX7_needArgument 5 = .ok (.iload_n 0, 1) := by decide +kernel
theorem dX7_needArgument_6 : decode cX7_needArgument 6 = .ok (.iload_n 2, 1) := by decide +kernel
theorem dX7_needArgument_7 : decode cX7_needArgument 7 = .ok (.if_icmp .le 13, 3) := by decide +kernel
theorem dX7_needArgument_10 : decode cX7_needArgument 10 = .ok (.new 220, 3) := by decide +kernel
theorem dX7_needArgument_13 : decode cX7_needArgument 13 = .ok (.dup, 1) := by decide +kernel
theorem dX7_needArgument_14 : decode cX7_needArgument 14 = .ok (.ldc 222, 2) := by decide +kernel
theorem dX7_needArgument_16 : decode cX7_needArgument 16 = .ok (.invokespecial 224, 3) := by decide +kernel
theorem dX7_needArgument_19 : decode cX7_needArgument 19 = .ok (.athrow, 1) := by decide +kernel
theorem dX7_needArgument_20 : decode cX7_needArgument 20 = .ok (.return_, 1) := by decide +kernel
theorem dX7_needEntryName_0 : decode cX7_needEntryName 0 = .ok (.iload_n 0, 1) := by decide +kernel
theorem dX7_needEntryName_1 : decode cX7_needEntryName 1 = .ok (.iconst 3, 1) := by decide +kernel
theorem dX7_needEntryName_2 : decode cX7_needEntryName 2 = .ok (.invokestatic 52, 3) := by decide +kernel
theorem dX7_needEntryName_5 : decode cX7_needEntryName 5 = .ok (.iload_n 1, 1) := by decide +kernel
theorem dX7_needEntryName_6 : decode cX7_needEntryName 6 = .ok (.iconst 3, 1) := by decide +kernel
theorem dX7_needEntryName_7 : decode cX7_needEntryName 7 = .ok (.invokestatic 52, 3) := by decide +kernel
theorem dX7_needEntryName_10 : decode cX7_needEntryName 10 = .ok (.iload_n 2, 1) := by decide +kernel
theorem dX7_needEntryName_11 : decode cX7_needEntryName 11 = .ok (.bipush 10, 2) := by decide +kernel
theorem dX7_needEntryName_13 : decode cX7_needEntryName 13 = .ok (.invokestatic 52, 3) := by decide +kernel
theorem dX7_needEntryName_16 : decode cX7_needEntryName 16 = .ok (.return_, 1) := by decide +kernel
theorem dX7_openConfiguration_0 : decode cX7_openConfiguration 0 = .ok (.aload_n 0, 1) := by decide +kernel
theorem dX7_openConfiguration_1 : decode cX7_openConfiguration 1 = .ok (.getfield 11, 3) := by decide +kernel
theorem dX7_openConfiguration_4 : decode cX7_openConfiguration 4 = .ok (.iload_n 1, 1) := by decide +kernel
theorem dX7_openConfiguration_5 : decode cX7_openConfiguration 5 = .ok (.aaload, 1) := by decide +kernel
theorem dX7_openConfiguration_6 : decode cX7_openConfiguration 6 = .ok (.astore_n 2, 1) := by decide +kernel
theorem dX7_openConfiguration_7 : decode cX7_openConfiguration 7 = .ok (.aload_n 2, 1) := by decide +kernel
theorem dX7_openConfiguration_8 : decode cX7_openConfiguration 8 = .ok (.getfield 56, 3) := by decide +kernel
theorem dX7_openConfiguration_11 : decode cX7_openConfiguration 11 = .ok (.ifCond .ne 13, 3) := by decide +kernel
theorem dX7_openConfiguration_14 : decode cX7_openConfiguration 14 = .ok (.new 91, 3) := by decide +kernel
theorem dX7_openConfiguration_17 : decode cX7_openConfiguration 17 = .ok (.dup, 1) := by decide +kernel
theorem dX7_openConfiguration_18 : decode cX7_openConfiguration 18 = .ok (.ldc 225, 2) := by decide +kernel
theorem dX7_openConfiguration_20 : decode cX7_openConfiguration 20 = .ok (.invokespecial 95, 3) := by decide +kernel
theorem dX7_openConfiguration_23 : decode cX7_openConfiguration 23 = .ok (.athrow, 1) := by decide +kernel
theorem dX7_openConfiguration_24 : decode cX7_openConfiguration 24 = .ok (.aload_n 2, 1) := by decide +kernel
theorem dX7_openConfiguration_25 : decode cX7_openConfiguration 25 = .ok (.getfield 63, 3) := by decide +kernel
theorem dX7_openConfiguration_28 : decode cX7_openConfiguration 28 = .ok (.areturn, 1) := by decide +kernel
theorem dX7_placeOfEntry_0 : decode cX7_placeOfEntry 0 = .ok (.aload_n 0, 1) := by decide +kernel
theorem dX7_placeOfEntry_1 : decode cX7_placeOfEntry 1 = .ok (.iload_n 1, 1) := by decide +kernel
theorem dX7_placeOfEntry_2 : decode cX7_placeOfEntry 2 = .ok (.invokevirtual 82, 3) := by decide +kernel
theorem dX7_placeOfEntry_5 : decode cX7_placeOfEntry 5 = .ok (.istore_n 2, 1) := by decide +kernel
theorem dX7_placeOfEntry_6 : decode cX7_placeOfEntry 6 = .ok (.iload_n 2, 1) := by decide +kernel
theorem dX7_placeOfEntry_7 : decode cX7_placeOfEntry 7 = .ok (.iconst (-1), 1) := by decide +kernel
theorem dX7_placeOfEntry_8 : decode cX7_placeOfEntry 8 = .ok (.if_icmp .ne 13, 3) := by decide +kernel
theorem dX7_placeOfEntry_11 : decode cX7_placeOfEntry 11 = .ok (.new 91, 3) := by decide +kernel
theorem dX7_placeOfEntry_14 : decode cX7_placeOfEntry 14 = .ok (.dup, 1) := by decide +kernel
theorem dX7_placeOfEntry_15 : decode cX7_placeOfEntry 15 = .ok (.ldc 227, 2) := by decide +kernel
theorem dX7_placeOfEntry_17 : decode cX7_placeOfEntry 17 = .ok (.invokespecial 95, 3) := by decide +kernel
theorem dX7_placeOfEntry_20 : decode cX7_placeOfEntry 20 = .ok (.athrow, 1) := by decide +kernel
theorem dX7_placeOfEntry_21 : decode cX7_placeOfEntry 21 = .ok (.iload_n 2, 1) := by decide +kernel
theorem dX7_placeOfEntry_22 : decode cX7_placeOfEntry 22 = .ok (.ireturn, 1) := by decide +kernel
theorem dX7_exchange_0 : decode cX7_exchange 0 = .ok (.aload_n 0, 1) := by decide +kernel
theorem dX7_exchange_1 : decode cX7_exchange 1 = .ok (.iload_n 1, 1) := by decide +kernel
theorem dX7_exchange_2 : decode cX7_exchange 2 = .ok (.invokevirtual 74, 3) := by decide +kernel
theorem dX7_exchange_5 : decode cX7_exchange 5 = .ok (.getfield 78, 3) := by decide +kernel
theorem dX7_exchange_8 : decode cX7_exchange 8 = .ok (.iload_n 2, 1) := by decide +kernel
theorem dX7_exchange_9 : decode cX7_exchange 9 = .ok (.aaload, 1) := by decide +kernel
theorem dX7_exchange_10 : decode cX7_exchange 10 = .ok (.astore 6, 2) := by decide +kernel
theorem dX7_exchange_12 : decode cX7_exchange 12 = .ok (.aload 6, 2) := by decide +kernel
theorem dX7_exchange_14 : decode cX7_exchange 14 = .ok (.getfield 229, 3) := by decide +kernel
theorem dX7_exchange_17 : decode cX7_exchange 17 = .ok (.aload 6, 2) := by decide +kernel
theorem dX7_exchange_19 : decode cX7_exchange 19 = .ok (.iload_n 3, 1) := by decide +kernel
theorem dX7_exchange_20 : decode cX7_exchange 20 = .ok (.invokestatic 109, 3) := by decide +kernel
theorem dX7_exchange_23 : decode cX7_exchange 23 = .ok (.aaload, 1) := by decide +kernel
theorem dX7_exchange_24 : decode cX7_exchange 24 = .ok (.getfield 197, 3) := by decide +kernel
theorem dX7_exchange_27 : decode cX7_exchange 27 = .ok (.astore 7, 2) := by decide +kernel
theorem dX7_exchange_29 : decode cX7_exchange 29 = .ok (.aload 7, 2) := by decide +kernel
theorem dX7_exchange_31 : decode cX7_exchange 31 = .ok (.iload 4, 2) := by decide +kernel
theorem dX7_exchange_33 : decode cX7_exchange 33 = .ok (.iaload, 1) := by decide +kernel
theorem dX7_exchange_34 : decode cX7_exchange 34 = .ok (.istore 8, 2) := by decide +kernel
theorem dX7_exchange_36 : decode cX7_exchange 36 = .ok (.aload 7, 2) := by decide +kernel
theorem dX7_exchange_38 : decode cX7_exchange 38 = .ok (.iload 4, 2) := by decide +kernel
theorem dX7_exchange_40 : decode cX7_exchange 40 = .ok (.iload 5, 2) := by decide +kernel
theorem dX7_exchange_42 : decode cX7_exchange 42 = .ok (.iastore, 1) := by decide +kernel
theorem dX7_exchange_43 : decode cX7_exchange 43 = .ok (.iload 8, 2) := by decide +kernel
theorem dX7_exchange_45 : decode cX7_exchange 45 = .ok (.ireturn, 1) := by decide +kernel
theorem dX7_configurationOf_0 : decode cX7_configurationOf 0 = .ok (.iload_n 1, 1) := by decide +kernel
theorem dX7_configurationOf_1 : decode cX7_configurationOf 1 = .ok (.bipush 10, 2) := by decide +kernel
theorem dX7_configurationOf_3 : decode cX7_configurationOf 3 = .ok (.if_icmp .lt 24, 3) := by decide +kernel
theorem dX7_configurationOf_6 : decode cX7_configurationOf 6 = .ok (.iload_n 1, 1) := by decide +kernel
theorem dX7_configurationOf_7 : decode cX7_configurationOf 7 = .ok (.bipush 10, 2) := by decide +kernel
theorem dX7_configurationOf_9 : decode cX7_configurationOf 9 = .ok (.isub, 1) := by decide +kernel
theorem dX7_configurationOf_10 : decode cX7_configurationOf 10 = .ok (.aload_n 0, 1) := by decide +kernel
theorem dX7_configurationOf_11 : decode cX7_configurationOf 11 = .ok (.getfield 48, 3) := by decide +kernel
theorem dX7_configurationOf_14 : decode cX7_configurationOf 14 = .ok (.invokestatic 52, 3) := by decide +kernel
theorem dX7_configurationOf_17 : decode cX7_configurationOf 17 = .ok (.aload_n 0, 1) := by decide +kernel
theorem dX7_configurationOf_18 : decode cX7_configurationOf 18 = .ok (.getfield 17, 3) := by decide +kernel
theorem dX7_configurationOf_21 : decode cX7_configurationOf 21 = .ok (.iload_n 1, 1) := by decide +kernel
theorem dX7_configurationOf_22 : decode cX7_configurationOf 22 = .ok (.bipush 10, 2) := by decide +kernel
theorem dX7_configurationOf_24 : decode cX7_configurationOf 24 = .ok (.isub, 1) := by decide +kernel
theorem dX7_configurationOf_25 : decode cX7_configurationOf 25 = .ok (.aaload, 1) := by decide +kernel
theorem dX7_configurationOf_26 : decode cX7_configurationOf 26 = .ok (.areturn, 1) := by decide +kernel
theorem dX7_configurationOf_27 : decode cX7_configurationOf 27 = .ok (.iload_n 1, 1) := by decide +kernel
theorem dX7_configurationOf_28 : decode cX7_configurationOf 28 = .ok (.iconst 3, 1) := by decide +kernel
theorem dX7_configurationOf_29 : decode cX7_configurationOf 29 = .ok (.invokestatic 52, 3) := by decide +kernel
theorem dX7_configurationOf_32 : decode cX7_configurationOf 32 = .ok (.aload_n 0, 1) := by decide +kernel
theorem dX7_configurationOf_33 : decode cX7_configurationOf 33 = .ok (.getfield 11, 3) := by decide +kernel
theorem dX7_configurationOf_36 : decode cX7_configurationOf 36 = .ok (.iload_n 1, 1) := by decide +kernel
theorem dX7_configurationOf_37 : decode cX7_configurationOf 37 = .ok (.aaload, 1) := by decide +kernel
theorem dX7_configurationOf_38 : decode cX7_configurationOf 38 = .ok (.getfield 56, 3) := by decide +kernel
theorem dX7_configurationOf_41 : decode cX7_configurationOf 41 = .ok (.ifCond .ne 13, 3) := by decide +kernel
theorem dX7_configurationOf_44 : decode cX7_configurationOf 44 = .ok (.new 215, 3) := by decide +kernel
theorem dX7_configurationOf_47 : decode cX7_configurationOf 47 = .ok (.dup, 1) := by decide +kernel
theorem dX7_configurationOf_48 : decode cX7_configurationOf 48 = .ok (.ldc 225, 2) := by decide +kernel
theorem dX7_configurationOf_50 : decode cX7_configurationOf 50 = .ok (.invokespecial 219, 3) := by decide +kernel
theorem dX7_configurationOf_53 : decode cX7_configurationOf 53 = .ok (.athrow, 1) := by decide +kernel
theorem dX7_configurationOf_54 : decode cX7_configurationOf 54 = .ok (.aload_n 0, 1) := by decide +kernel
theorem dX7_configurationOf_55 : decode cX7_configurationOf 55 = .ok (.getfield 11, 3) := by decide +kernel
theorem dX7_configurationOf_58 : decode cX7_configurationOf 58 = .ok (.iload_n 1, 1) := by decide +kernel
theorem dX7_configurationOf_59 : decode cX7_configurationOf 59 = .ok (.aaload, 1) := by decide +kernel
theorem dX7_configurationOf_60 : decode cX7_configurationOf 60 = .ok (.getfield 63, 3) := by decide +kernel
theorem dX7_configurationOf_63 : decode cX7_configurationOf 63 = .ok (.areturn, 1) := by decide +kernel
theorem dX7_sectionOf_0 : decode cX7_sectionOf 0 = .ok (.aload_n 0, 1) := by decide +kernel
theorem dX7_sectionOf_1 : decode cX7_sectionOf 1 = .ok (.iload_n 1, 1) := by decide +kernel
theorem dX7_sectionOf_2 : decode cX7_sectionOf 2 = .ok (.invokevirtual 127, 3) := by decide +kernel
theorem dX7_sectionOf_5 : decode cX7_sectionOf 5 = .ok (.astore_n 3, 1) := by decide +kernel
theorem dX7_sectionOf_6 : decode cX7_sectionOf 6 = .ok (.iload_n 2, 1) := by decide +kernel
theorem dX7_sectionOf_7 : decode cX7_sectionOf 7 = .ok (.iconst 3, 1) := by decide +kernel
theorem dX7_sectionOf_8 : decode cX7_sectionOf 8 = .ok (.invokestatic 52, 3) := by decide +kernel
theorem dX7_sectionOf_11 : decode cX7_sectionOf 11 = .ok (.aload_n 3, 1) := by decide +kernel
theorem dX7_sectionOf_12 : decode cX7_sectionOf 12 = .ok (.getfield 78, 3) := by decide +kernel
theorem dX7_sectionOf_15 : decode cX7_sectionOf 15 = .ok (.iload_n 2, 1) := by decide +kernel
theorem dX7_sectionOf_16 : decode cX7_sectionOf 16 = .ok (.aaload, 1) := by decide +kernel
theorem dX7_sectionOf_17 : decode cX7_sectionOf 17 = .ok (.areturn, 1) := by decide +kernel
theorem dX7_entryOf_0 : decode cX7_entryOf 0 = .ok (.aload_n 0, 1) := by decide +kernel
theorem dX7_entryOf_1 : decode cX7_entryOf 1 = .ok (.iload_n 1, 1) := by decide +kernel
theorem dX7_entryOf_2 : decode cX7_entryOf 2 = .ok (.iload_n 2, 1) := by decide +kernel
theorem dX7_entryOf_3 : decode cX7_entryOf 3 = .ok (.invokevirtual 182, 3) := by decide +kernel
theorem dX7_entryOf_6 : decode cX7_entryOf 6 = .ok (.astore 4, 2) := by decide +kernel
theorem dX7_entryOf_8 : decode cX7_entryOf 8 = .ok (.iload_n 3, 1) := by decide +kernel
theorem dX7_entryOf_9 : decode cX7_entryOf 9 = .ok (.aload 4, 2) := by decide +kernel
theorem dX7_entryOf_11 : decode cX7_entryOf 11 = .ok (.getfield 88, 3) := by decide +kernel
theorem dX7_entryOf_14 : decode cX7_entryOf 14 = .ok (.invokestatic 52, 3) := by decide +kernel
theorem dX7_entryOf_17 : decode cX7_entryOf 17 = .ok (.aload 4, 2) := by decide +kernel
theorem dX7_entryOf_19 : decode cX7_entryOf 19 = .ok (.getfield 229, 3) := by decide +kernel
theorem dX7_entryOf_22 : decode cX7_entryOf 22 = .ok (.iload_n 3, 1) := by decide +kernel
theorem dX7_entryOf_23 : decode cX7_entryOf 23 = .ok (.aaload, 1) := by decide +kernel
theorem dX7_entryOf_24 : decode cX7_entryOf 24 = .ok (.areturn, 1) := by decide +kernel
theorem dX7_brokenRules_0 : decode cX7_brokenRules 0 = .ok (.iconst 0, 1) := by decide +kernel
theorem dX7_brokenRules_1 : decode cX7_brokenRules 1 = .ok (.istore_n 2, 1) := by decide +kernel
theorem dX7_brokenRules_2 : decode cX7_brokenRules 2 = .ok (.iconst 0, 1) := by decide +kernel
theorem dX7_brokenRules_3 : decode cX7_brokenRules 3 = .ok (.istore_n 3, 1) := by decide +kernel
theorem dX7_brokenRules_4 : decode cX7_brokenRules 4 = .ok (.iload_n 3, 1) := by decide +kernel
theorem dX7_brokenRules_5 : decode cX7_brokenRules 5 = .ok (.aload_n 0, 1) := by decide +kernel
theorem dX7_brokenRules_6 : decode cX7_brokenRules 6 = .ok (.getfield 144, 3) := by decide +kernel
theorem dX7_brokenRules_9 : decode cX7_brokenRules 9 = .ok (.if_icmp .ge 25, 3) := by decide +kernel
theorem dX7_brokenRules_12 : decode cX7_brokenRules 12 = .ok (.aload_n 0, 1) := by decide +kernel
theorem dX7_brokenRules_13 : decode cX7_brokenRules 13 = .ok (.getfield 23, 3) := by decide +kernel
theorem dX7_brokenRules_16 : decode cX7_brokenRules 16 = .ok (.iload_n 3, 1) := by decide +kernel
theorem dX7_brokenRules_17 : decode cX7_brokenRules 17 = .ok (.aaload, 1) := by decide +kernel
theorem dX7_brokenRules_18 : decode cX7_brokenRules 18 = .ok (.aload_n 1, 1) := by decide +kernel
theorem dX7_brokenRules_19 : decode cX7_brokenRules 19 = .ok (.invokevirtual 233, 3) := by decide +kernel
theorem dX7_brokenRules_22 : decode cX7_brokenRules 22 = .ok (.ifCond .ne 6, 3) := by decide +kernel
theorem dX7_brokenRules_25 : decode cX7_brokenRules 25 = .ok (.iinc 2 1, 3) := by decide +kernel
theorem dX7_brokenRules_28 : decode cX7_brokenRules 28 = .ok (.iinc 3 1, 3) := by decide +kernel
theorem dX7_brokenRules_31 : decode cX7_brokenRules 31 = .ok (.goto (-27), 3) := by decide +kernel
theorem dX7_brokenRules_34 : decode cX7_brokenRules 34 = .ok (.iload_n 2, 1) := by decide +kernel
theorem dX7_brokenRules_35 : decode cX7_brokenRules 35 = .ok (.ireturn, 1) := by decide +kernel
theorem dX7_addVersion_0 : decode cX7_addVersion 0 = .ok (.aload_n 0, 1) := by decide +kernel
theorem dX7_addVersion_1 : decode cX7_addVersion 1 = .ok (.getfield 48, 3) := by decide +kernel
theorem dX7_addVersion_4 : decode cX7_addVersion 4 = .ok (.bipush 30, 2) := by decide +kernel
theorem dX7_addVersion_6 : decode cX7_addVersion 6 = .ok (.if_icmp .ge 26, 3) := by decide +kernel
theorem dX7_addVersion_9 : decode cX7_addVersion 9 = .ok (.aload_n 0, 1) := by decide +kernel
theorem dX7_addVersion_10 : decode cX7_addVersion 10 = .ok (.getfield 17, 3) := by decide +kernel
theorem dX7_addVersion_13 : decode cX7_addVersion 13 = .ok (.aload_n 0, 1) := by decide +kernel
theorem dX7_addVersion_14 : decode cX7_addVersion 14 = .ok (.getfield 48, 3) := by decide +kernel
theorem dX7_addVersion_17 : decode cX7_addVersion 17 = .ok (.aaload, 1) := by decide +kernel
theorem dX7_addVersion_18 : decode cX7_addVersion 18 = .ok (.aload_n 1, 1) := by decide +kernel
theorem dX7_addVersion_19 : decode cX7_addVersion 19 = .ok (.invokevirtual 66, 3) := by decide +kernel
theorem dX7_addVersion_22 : decode cX7_addVersion 22 = .ok (.aload_n 0, 1) := by decide +kernel
theorem dX7_addVersion_23 : decode cX7_addVersion 23 = .ok (.dup, 1) := by decide +kernel
theorem dX7_addVersion_24 : decode cX7_addVersion 24 = .ok (.getfield 48, 3) := by decide +kernel
theorem dX7_addVersion_27 : decode cX7_addVersion 27 = .ok (.iconst 1, 1) := by decide +kernel
theorem dX7_addVersion_28 : decode cX7_addVersion 28 = .ok (.iadd, 1) := by decide +kernel
theorem dX7_addVersion_29 : decode cX7_addVersion 29 = .ok (.putfield 48, 3) := by decide +kernel
theorem dX7_addVersion_32 : decode cX7_addVersion 32 = .ok (.return_, 1) := by decide +kernel
theorem dJ9_min_7cf53_0 : decode cJ9_min_7cf53 0 = .ok (.iload_n 0, 1) := by decide +kernel
theorem dJ9_min_7cf53_1 : decode cJ9_min_7cf53 1 = .ok (.iload_n 1, 1) := by decide +kernel
theorem dJ9_min_7cf53_2 : decode cJ9_min_7cf53 2 = .ok (.if_icmp .gt 7, 3) := by decide +kernel
theorem dJ9_min_7cf53_5 : decode cJ9_min_7cf53 5 = .ok (.iload_n 0, 1) := by decide +kernel
theorem dJ9_min_7cf53_6 : decode cJ9_min_7cf53 6 = .ok (.goto 4, 3) := by decide +kernel
theorem dJ9_min_7cf53_9 : decode cJ9_min_7cf53 9 = .ok (.iload_n 1, 1) := by decide +kernel
theorem dJ9_min_7cf53_10 : decode cJ9_min_7cf53 10 = .ok (.ireturn, 1) := by decide +kernel
