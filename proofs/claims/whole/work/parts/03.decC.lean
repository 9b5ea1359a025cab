-- names, fields, the words of the tables by their places: by program (wip/whole/gen01.py) out of the claim's printed texts
theorem dX0_init_0 : decode cX0_init 0 = .ok (.aload_n 0, 1) := by decide +kernel
theorem dX0_init_1 : decode cX0_init 1 = .ok (.invokespecial 1, 3) := by decide +kernel
theorem dX0_init_4 : decode cX0_init 4 = .ok (.return_, 1) := by decide +kernel
theorem dX1_init_0 : decode cX1_init 0 = .ok (.aload_n 0, 1) := by decide +kernel
theorem dX1_init_1 : decode cX1_init 1 = .ok (.invokespecial 1, 3) := by decide +kernel
theorem dX1_init_4 : decode cX1_init 4 = .ok (.return_, 1) := by decide +kernel
theorem dX2_init_0 : decode cX2_init 0 = .ok (.aload_n 0, 1) := by decide +kernel
theorem dX2_init_1 : decode cX2_init 1 = .ok (.invokespecial 3, 3) := by decide +kernel
theorem dX2_init_4 : decode cX2_init 4 = .ok (.aload_n 0, 1) := by decide +kernel
theorem dX2_init_5 : decode cX2_init 5 = .ok (.bipush 10, 2) := by decide +kernel
theorem dX2_init_7 : decode cX2_init 7 = .ok (.anewarray 9, 3) := by decide +kernel
theorem dX2_init_10 : decode cX2_init 10 = .ok (.putfield 11, 3) := by decide +kernel
theorem dX2_init_13 : decode cX2_init 13 = .ok (.aload_n 0, 1) := by decide +kernel
theorem dX2_init_14 : decode cX2_init 14 = .ok (.sipush 4096, 3) := by decide +kernel
theorem dX2_init_17 : decode cX2_init 17 = .ok (.newarray .int, 2) := by decide +kernel
theorem dX2_init_19 : decode cX2_init 19 = .ok (.putfield 17, 3) := by decide +kernel
theorem dX2_init_22 : decode cX2_init 22 = .ok (.aload_n 0, 1) := by decide +kernel
theorem dX2_init_23 : decode cX2_init 23 = .ok (.aload_n 1, 1) := by decide +kernel
theorem dX2_init_24 : decode cX2_init 24 = .ok (.putfield 21, 3) := by decide +kernel
theorem dX2_init_27 : decode cX2_init 27 = .ok (.iconst 0, 1) := by decide +kernel
theorem dX2_init_28 : decode cX2_init 28 = .ok (.istore_n 2, 1) := by decide +kernel
theorem dX2_init_29 : decode cX2_init 29 = .ok (.iload_n 2, 1) := by decide +kernel
theorem dX2_init_30 : decode cX2_init 30 = .ok (.bipush 10, 2) := by decide +kernel
theorem dX2_init_32 : decode cX2_init 32 = .ok (.if_icmp .ge 22, 3) := by decide +kernel
theorem dX2_init_35 : decode cX2_init 35 = .ok (.aload_n 0, 1) := by decide +kernel
theorem dX2_init_36 : decode cX2_init 36 = .ok (.getfield 11, 3) := by decide +kernel
theorem dX2_init_39 : decode cX2_init 39 = .ok (.iload_n 2, 1) := by decide +kernel
theorem dX2_init_40 : decode cX2_init 40 = .ok (.new 9, 3) := by decide +kernel
theorem dX2_init_43 : decode cX2_init 43 = .ok (.dup, 1) := by decide +kernel
theorem dX2_init_44 : decode cX2_init 44 = .ok (.invokespecial 25, 3) := by decide +kernel
theorem dX2_init_47 : decode cX2_init 47 = .ok (.aastore, 1) := by decide +kernel
theorem dX2_init_48 : decode cX2_init 48 = .ok (.iinc 2 1, 3) := by decide +kernel
theorem dX2_init_51 : decode cX2_init 51 = .ok (.goto (-22), 3) := by decide +kernel
theorem dX2_init_54 : decode cX2_init 54 = .ok (.return_, 1) := by decide +kernel
theorem dX2_add_0 : decode cX2_add 0 = .ok (.aload_n 0, 1) := by decide +kernel
theorem dX2_add_1 : decode cX2_add 1 = .ok (.getfield 11, 3) := by decide +kernel
theorem dX2_add_4 : decode cX2_add 4 = .ok (.aload_n 0, 1) := by decide +kernel
theorem dX2_add_5 : decode cX2_add 5 = .ok (.getfield 26, 3) := by decide +kernel
theorem dX2_add_8 : decode cX2_add 8 = .ok (.aaload, 1) := by decide +kernel
theorem dX2_add_9 : decode cX2_add 9 = .ok (.astore_n 3, 1) := by decide +kernel
theorem dX2_add_10 : decode cX2_add 10 = .ok (.aload_n 3, 1) := by decide +kernel
theorem dX2_add_11 : decode cX2_add 11 = .ok (.iload_n 1, 1) := by decide +kernel
theorem dX2_add_12 : decode cX2_add 12 = .ok (.putfield 30, 3) := by decide +kernel
theorem dX2_add_15 : decode cX2_add 15 = .ok (.aload_n 3, 1) := by decide +kernel
theorem dX2_add_16 : decode cX2_add 16 = .ok (.iload_n 2, 1) := by decide +kernel
theorem dX2_add_17 : decode cX2_add 17 = .ok (.putfield 33, 3) := by decide +kernel
theorem dX2_add_20 : decode cX2_add 20 = .ok (.aload_n 3, 1) := by decide +kernel
theorem dX2_add_21 : decode cX2_add 21 = .ok (.iconst 1, 1) := by decide +kernel
theorem dX2_add_22 : decode cX2_add 22 = .ok (.putfield 36, 3) := by decide +kernel
theorem dX2_add_25 : decode cX2_add 25 = .ok (.aload_n 0, 1) := by decide +kernel
theorem dX2_add_26 : decode cX2_add 26 = .ok (.dup, 1) := by decide +kernel
theorem dX2_add_27 : decode cX2_add 27 = .ok (.getfield 26, 3) := by decide +kernel
theorem dX2_add_30 : decode cX2_add 30 = .ok (.iconst 1, 1) := by decide +kernel
theorem dX2_add_31 : decode cX2_add 31 = .ok (.iadd, 1) := by decide +kernel
theorem dX2_add_32 : decode cX2_add 32 = .ok (.putfield 26, 3) := by decide +kernel
theorem dX2_add_35 : decode cX2_add 35 = .ok (.aload_n 3, 1) := by decide +kernel
theorem dX2_add_36 : decode cX2_add 36 = .ok (.areturn, 1) := by decide +kernel
theorem dX2_leastBroken_0 : decode cX2_leastBroken 0 = .ok (.iconst 0, 1) := by decide +kernel
theorem dX2_leastBroken_1 : decode cX2_leastBroken 1 = .ok (.istore_n 2, 1) := by decide +kernel
theorem dX2_leastBroken_2 : decode cX2_leastBroken 2 = .ok (.iload_n 2, 1) := by decide +kernel
theorem dX2_leastBroken_3 : decode cX2_leastBroken 3 = .ok (.aload_n 0, 1) := by decide +kernel
theorem dX2_leastBroken_4 : decode cX2_leastBroken 4 = .ok (.getfield 26, 3) := by decide +kernel
theorem dX2_leastBroken_7 : decode cX2_leastBroken 7 = .ok (.if_icmp .ge 41, 3) := by decide +kernel
theorem dX2_leastBroken_10 : decode cX2_leastBroken 10 = .ok (.aload_n 0, 1) := by decide +kernel
theorem dX2_leastBroken_11 : decode cX2_leastBroken 11 = .ok (.getfield 11, 3) := by decide +kernel
theorem dX2_leastBroken_14 : decode cX2_leastBroken 14 = .ok (.iload_n 2, 1) := by decide +kernel
theorem dX2_leastBroken_15 : decode cX2_leastBroken 15 = .ok (.aaload, 1) := by decide +kernel
theorem dX2_leastBroken_16 : decode cX2_leastBroken 16 = .ok (.getfield 36, 3) := by decide +kernel
theorem dX2_leastBroken_19 : decode cX2_leastBroken 19 = .ok (.ifCond .eq 23, 3) := by decide +kernel
theorem dX2_leastBroken_22 : decode cX2_leastBroken 22 = .ok (.aload_n 0, 1) := by decide +kernel
theorem dX2_leastBroken_23 : decode cX2_leastBroken 23 = .ok (.aload_n 0, 1) := by decide +kernel
theorem dX2_leastBroken_24 : decode cX2_leastBroken 24 = .ok (.getfield 11, 3) := by decide +kernel
theorem dX2_leastBroken_27 : decode cX2_leastBroken 27 = .ok (.iload_n 2, 1) := by decide +kernel
theorem dX2_leastBroken_28 : decode cX2_leastBroken 28 = .ok (.aaload, 1) := by decide +kernel
theorem dX2_leastBroken_29 : decode cX2_leastBroken 29 = .ok (.iload_n 1, 1) := by decide +kernel
theorem dX2_leastBroken_30 : decode cX2_leastBroken 30 = .ok (.invokevirtual 40, 3) := by decide +kernel
theorem dX2_leastBroken_33 : decode cX2_leastBroken 33 = .ok (.aload_n 0, 1) := by decide +kernel
theorem dX2_leastBroken_34 : decode cX2_leastBroken 34 = .ok (.getfield 44, 3) := by decide +kernel
theorem dX2_leastBroken_37 : decode cX2_leastBroken 37 = .ok (.ifCond .le 5, 3) := by decide +kernel
theorem dX2_leastBroken_40 : decode cX2_leastBroken 40 = .ok (.iload_n 2, 1) := by decide +kernel
theorem dX2_leastBroken_41 : decode cX2_leastBroken 41 = .ok (.ireturn, 1) := by decide +kernel
theorem dX2_leastBroken_42 : decode cX2_leastBroken 42 = .ok (.iinc 2 1, 3) := by decide +kernel
theorem dX2_leastBroken_45 : decode cX2_leastBroken 45 = .ok (.goto (-43), 3) := by decide +kernel
theorem dX2_leastBroken_48 : decode cX2_leastBroken 48 = .ok (.bipush (-9), 2) := by decide +kernel
theorem dX2_leastBroken_50 : decode cX2_leastBroken 50 = .ok (.ireturn, 1) := by decide +kernel
theorem dX2_find_0 : decode cX2_find 0 = .ok (.aload_n 0, 1) := by decide +kernel
theorem dX2_find_1 : decode cX2_find 1 = .ok (.iconst 0, 1) := by decide +kernel
theorem dX2_find_2 : decode cX2_find 2 = .ok (.putfield 44, 3) := by decide +kernel
theorem dX2_find_5 : decode cX2_find 5 = .ok (.aload_n 1, 1) := by decide +kernel
theorem dX2_find_6 : decode cX2_find 6 = .ok (.getfield 30, 3) := by decide +kernel
theorem dX2_find_9 : decode cX2_find 9 = .ok (.tableswitch 66 0 5 #[39, 66, 39, 66, 48, 57], 39) := by decide +kernel
theorem dX2_find_48 : decode cX2_find 48 = .ok (.aload_n 0, 1) := by decide +kernel
theorem dX2_find_49 : decode cX2_find 49 = .ok (.aload_n 1, 1) := by decide +kernel
theorem dX2_find_50 : decode cX2_find 50 = .ok (.iload_n 2, 1) := by decide +kernel
theorem dX2_find_51 : decode cX2_find 51 = .ok (.invokevirtual 47, 3) := by decide +kernel
theorem dX2_find_54 : decode cX2_find 54 = .ok (.goto 27, 3) := by decide +kernel
theorem dX2_find_57 : decode cX2_find 57 = .ok (.aload_n 0, 1) := by decide +kernel
theorem dX2_find_58 : decode cX2_find 58 = .ok (.aload_n 1, 1) := by decide +kernel
theorem dX2_find_59 : decode cX2_find 59 = .ok (.iload_n 2, 1) := by decide +kernel
theorem dX2_find_60 : decode cX2_find 60 = .ok (.invokevirtual 50, 3) := by decide +kernel
theorem dX2_find_63 : decode cX2_find 63 = .ok (.goto 18, 3) := by decide +kernel
theorem dX2_find_66 : decode cX2_find 66 = .ok (.aload_n 0, 1) := by decide +kernel
theorem dX2_find_67 : decode cX2_find 67 = .ok (.aload_n 1, 1) := by decide +kernel
theorem dX2_find_68 : decode cX2_find 68 = .ok (.iload_n 2, 1) := by decide +kernel
theorem dX2_find_69 : decode cX2_find 69 = .ok (.invokevirtual 53, 3) := by decide +kernel
theorem dX2_find_72 : decode cX2_find 72 = .ok (.goto 9, 3) := by decide +kernel
theorem dX2_find_75 : decode cX2_find 75 = .ok (.aload_n 0, 1) := by decide +kernel
theorem dX2_find_76 : decode cX2_find 76 = .ok (.aload_n 1, 1) := by decide +kernel
theorem dX2_find_77 : decode cX2_find 77 = .ok (.iload_n 2, 1) := by decide +kernel
theorem dX2_find_78 : decode cX2_find 78 = .ok (.invokevirtual 56, 3) := by decide +kernel
theorem dX2_find_81 : decode cX2_find 81 = .ok (.return_, 1) := by decide +kernel
theorem dX2_addFound_0 : decode cX2_addFound 0 = .ok (.aload_n 0, 1) := by decide +kernel
theorem dX2_addFound_1 : decode cX2_addFound 1 = .ok (.getfield 44, 3) := by decide +kernel
theorem dX2_addFound_4 : decode cX2_addFound 4 = .ok (.aload_n 0, 1) := by decide +kernel
theorem dX2_addFound_5 : decode cX2_addFound 5 = .ok (.getfield 17, 3) := by decide +kernel
theorem dX2_addFound_8 : decode cX2_addFound 8 = .ok (.arraylength, 1) := by decide +kernel
theorem dX2_addFound_9 : decode cX2_addFound 9 = .ok (.if_icmp .ge 23, 3) := by decide +kernel
theorem dX2_addFound_12 : decode cX2_addFound 12 = .ok (.aload_n 0, 1) := by decide +kernel
theorem dX2_addFound_13 : decode cX2_addFound 13 = .ok (.getfield 17, 3) := by decide +kernel
theorem dX2_addFound_16 : decode cX2_addFound 16 = .ok (.aload_n 0, 1) := by decide +kernel
theorem dX2_addFound_17 : decode cX2_addFound 17 = .ok (.getfield 44, 3) := by decide +kernel
theorem dX2_addFound_20 : decode cX2_addFound 20 = .ok (.iload_n 1, 1) := by decide +kernel
theorem dX2_addFound_21 : decode cX2_addFound 21 = .ok (.iastore, 1) := by decide +kernel
theorem dX2_addFound_22 : decode cX2_addFound 22 = .ok (.aload_n 0, 1) := by decide +kernel
theorem dX2_addFound_23 : decode cX2_addFound 23 = .ok (.dup, 1) := by decide +kernel
theorem dX2_addFound_24 : decode cX2_addFound 24 = .ok (.getfield 44, 3) := by decide +kernel
theorem dX2_addFound_27 : decode cX2_addFound 27 = .ok (.iconst 1, 1) := by decide +kernel
theorem dX2_addFound_28 : decode cX2_addFound 28 = .ok (.iadd, 1) := by decide +kernel
theorem dX2_addFound_29 : decode cX2_addFound 29 = .ok (.putfield 44, 3) := by decide +kernel
theorem dX2_addFound_32 : decode cX2_addFound 32 = .ok (.return_, 1) := by decide +kernel
theorem dX2_findSingles_0 : decode cX2_findSingles 0 = .ok (.iconst 0, 1) := by decide +kernel
theorem dX2_findSingles_1 : decode cX2_findSingles 1 = .ok (.istore_n 3, 1) := by decide +kernel
theorem dX2_findSingles_2 : decode cX2_findSingles 2 = .ok (.iload_n 3, 1) := by decide +kernel
theorem dX2_findSingles_3 : decode cX2_findSingles 3 = .ok (.aload_n 0, 1) := by decide +kernel
theorem dX2_findSingles_4 : decode cX2_findSingles 4 = .ok (.getfield 21, 3) := by decide +kernel
theorem dX2_findSingles_7 : decode cX2_findSingles 7 = .ok (.getfield 59, 3) := by decide +kernel
theorem dX2_findSingles_10 : decode cX2_findSingles 10 = .ok (.if_icmp .ge 60, 3) := by decide +kernel
theorem dX2_findSingles_13 : decode cX2_findSingles 13 = .ok (.iload_n 2, 1) := by decide +kernel
theorem dX2_findSingles_14 : decode cX2_findSingles 14 = .ok (.iload_n 3, 1) := by decide +kernel
theorem dX2_findSingles_15 : decode cX2_findSingles 15 = .ok (.invokestatic 62, 3) := by decide +kernel
theorem dX2_findSingles_18 : decode cX2_findSingles 18 = .ok (.ifCond .eq 46, 3) := by decide +kernel
theorem dX2_findSingles_21 : decode cX2_findSingles 21 = .ok (.aload_n 0, 1) := by decide +kernel
theorem dX2_findSingles_22 : decode cX2_findSingles 22 = .ok (.getfield 21, 3) := by decide +kernel
theorem dX2_findSingles_25 : decode cX2_findSingles 25 = .ok (.getfield 66, 3) := by decide +kernel
theorem dX2_findSingles_28 : decode cX2_findSingles 28 = .ok (.iload_n 3, 1) := by decide +kernel
theorem dX2_findSingles_29 : decode cX2_findSingles 29 = .ok (.aaload, 1) := by decide +kernel
theorem dX2_findSingles_30 : decode cX2_findSingles 30 = .ok (.getfield 69, 3) := by decide +kernel
theorem dX2_findSingles_33 : decode cX2_findSingles 33 = .ok (.aload_n 1, 1) := by decide +kernel
theorem dX2_findSingles_34 : decode cX2_findSingles 34 = .ok (.getfield 33, 3) := by decide +kernel
theorem dX2_findSingles_37 : decode cX2_findSingles 37 = .ok (.if_icmp .ne 27, 3) := by decide +kernel
theorem dX2_findSingles_40 : decode cX2_findSingles 40 = .ok (.aload_n 0, 1) := by decide +kernel
theorem dX2_findSingles_41 : decode cX2_findSingles 41 = .ok (.aload_n 1, 1) := by decide +kernel
theorem dX2_findSingles_42 : decode cX2_findSingles 42 = .ok (.aload_n 0, 1) := by decide +kernel
theorem dX2_findSingles_43 : decode cX2_findSingles 43 = .ok (.getfield 21, 3) := by decide +kernel
theorem dX2_findSingles_46 : decode cX2_findSingles 46 = .ok (.getfield 66, 3) := by decide +kernel
theorem dX2_findSingles_49 : decode cX2_findSingles 49 = .ok (.iload_n 3, 1) := by decide +kernel
theorem dX2_findSingles_50 : decode cX2_findSingles 50 = .ok (.aaload, 1) := by decide +kernel
theorem dX2_findSingles_51 : decode cX2_findSingles 51 = .ok (.invokevirtual 72, 3) := by decide +kernel
theorem dX2_findSingles_54 : decode cX2_findSingles 54 = .ok (.ifCond .eq 10, 3) := by decide +kernel
theorem dX2_findSingles_57 : decode cX2_findSingles 57 = .ok (.aload_n 0, 1) := by decide +kernel
theorem dX2_findSingles_58 : decode cX2_findSingles 58 = .ok (.iconst 1, 1) := by decide +kernel
theorem dX2_findSingles_59 : decode cX2_findSingles 59 = .ok (.iload_n 3, 1) := by decide +kernel
theorem dX2_findSingles_60 : decode cX2_findSingles 60 = .ok (.ishl, 1) := by decide +kernel
theorem dX2_findSingles_61 : decode cX2_findSingles 61 = .ok (.invokevirtual 76, 3) := by decide +kernel
theorem dX2_findSingles_64 : decode cX2_findSingles 64 = .ok (.iinc 3 1, 3) := by decide +kernel
theorem dX2_findSingles_67 : decode cX2_findSingles 67 = .ok (.goto (-65), 3) := by decide +kernel
theorem dX2_findSingles_70 : decode cX2_findSingles 70 = .ok (.return_, 1) := by decide +kernel
theorem dX2_quarrelsAlone_0 : decode cX2_quarrelsAlone 0 = .ok (.aload_n 1, 1) := by decide +kernel
theorem dX2_quarrelsAlone_1 : decode cX2_quarrelsAlone 1 = .ok (.getfield 30, 3) := by decide +kernel
theorem dX2_quarrelsAlone_4 : decode cX2_quarrelsAlone 4 = .ok (.iconst 3, 1) := by decide +kernel
theorem dX2_quarrelsAlone_5 : decode cX2_quarrelsAlone 5 = .ok (.if_icmp .ne 21, 3) := by decide +kernel
theorem dX2_quarrelsAlone_8 : decode cX2_quarrelsAlone 8 = .ok (.aload_n 2, 1) := by decide +kernel
theorem dX2_quarrelsAlone_9 : decode cX2_quarrelsAlone 9 = .ok (.getfield 80, 3) := by decide +kernel
theorem dX2_quarrelsAlone_12 : decode cX2_quarrelsAlone 12 = .ok (.aload_n 1, 1) := by decide +kernel
theorem dX2_quarrelsAlone_13 : decode cX2_quarrelsAlone 13 = .ok (.getfield 84, 3) := by decide +kernel
theorem dX2_quarrelsAlone_16 : decode cX2_quarrelsAlone 16 = .ok (.baload, 1) := by decide +kernel
theorem dX2_quarrelsAlone_17 : decode cX2_quarrelsAlone 17 = .ok (.ifCond .ne 7, 3) := by decide +kernel
theorem dX2_quarrelsAlone_20 : decode cX2_quarrelsAlone 20 = .ok (.iconst 1, 1) := by decide +kernel
theorem dX2_quarrelsAlone_21 : decode cX2_quarrelsAlone 21 = .ok (.goto 4, 3) := by decide +kernel
theorem dX2_quarrelsAlone_24 : decode cX2_quarrelsAlone 24 = .ok (.iconst 0, 1) := by decide +kernel
theorem dX2_quarrelsAlone_25 : decode cX2_quarrelsAlone 25 = .ok (.ireturn, 1) := by decide +kernel
theorem dX2_quarrelsAlone_26 : decode cX2_quarrelsAlone 26 = .ok (.aload_n 2, 1) := by decide +kernel
theorem dX2_quarrelsAlone_27 : decode cX2_quarrelsAlone 27 = .ok (.getfield 87, 3) := by decide +kernel
theorem dX2_quarrelsAlone_30 : decode cX2_quarrelsAlone 30 = .ok (.aload_n 1, 1) := by decide +kernel
theorem dX2_quarrelsAlone_31 : decode cX2_quarrelsAlone 31 = .ok (.getfield 84, 3) := by decide +kernel
theorem dX2_quarrelsAlone_34 : decode cX2_quarrelsAlone 34 = .ok (.laload, 1) := by decide +kernel
theorem dX2_quarrelsAlone_35 : decode cX2_quarrelsAlone 35 = .ok (.lstore_n 3, 1) := by decide +kernel
theorem dX2_quarrelsAlone_36 : decode cX2_quarrelsAlone 36 = .ok (.aload_n 2, 1) := by decide +kernel
theorem dX2_quarrelsAlone_37 : decode cX2_quarrelsAlone 37 = .ok (.getfield 80, 3) := by decide +kernel
theorem dX2_quarrelsAlone_40 : decode cX2_quarrelsAlone 40 = .ok (.aload_n 1, 1) := by decide +kernel
theorem dX2_quarrelsAlone_41 : decode cX2_quarrelsAlone 41 = .ok (.getfield 84, 3) := by decide +kernel
theorem dX2_quarrelsAlone_44 : decode cX2_quarrelsAlone 44 = .ok (.baload, 1) := by decide +kernel
theorem dX2_quarrelsAlone_45 : decode cX2_quarrelsAlone 45 = .ok (.ifCond .eq 25, 3) := by decide +kernel
theorem dX2_quarrelsAlone_48 : decode cX2_quarrelsAlone 48 = .ok (.lload_n 3, 1) := by decide +kernel
theorem dX2_quarrelsAlone_49 : decode cX2_quarrelsAlone 49 = .ok (.aload_n 1, 1) := by decide +kernel
theorem dX2_quarrelsAlone_50 : decode cX2_quarrelsAlone 50 = .ok (.getfield 91, 3) := by decide +kernel
theorem dX2_quarrelsAlone_53 : decode cX2_quarrelsAlone 53 = .ok (.lcmp, 1) := by decide +kernel
theorem dX2_quarrelsAlone_54 : decode cX2_quarrelsAlone 54 = .ok (.ifCond .lt 12, 3) := by decide +kernel
theorem dX2_quarrelsAlone_57 : decode cX2_quarrelsAlone 57 = .ok (.lload_n 3, 1) := by decide +kernel
theorem dX2_quarrelsAlone_58 : decode cX2_quarrelsAlone 58 = .ok (.aload_n 1, 1) := by decide +kernel
theorem dX2_quarrelsAlone_59 : decode cX2_quarrelsAlone 59 = .ok (.getfield 95, 3) := by decide +kernel
theorem dX2_quarrelsAlone_62 : decode cX2_quarrelsAlone 62 = .ok (.lcmp, 1) := by decide +kernel
theorem dX2_quarrelsAlone_63 : decode cX2_quarrelsAlone 63 = .ok (.ifCond .le 7, 3) := by decide +kernel
theorem dX2_quarrelsAlone_66 : decode cX2_quarrelsAlone 66 = .ok (.iconst 1, 1) := by decide +kernel
theorem dX2_quarrelsAlone_67 : decode cX2_quarrelsAlone 67 = .ok (.goto 4, 3) := by decide +kernel
theorem dX2_quarrelsAlone_70 : decode cX2_quarrelsAlone 70 = .ok (.iconst 0, 1) := by decide +kernel
theorem dX2_quarrelsAlone_71 : decode cX2_quarrelsAlone 71 = .ok (.ireturn, 1) := by decide +kernel
theorem dX2_findUnhelped_0 : decode cX2_findUnhelped 0 = .ok (.aload_n 0, 1) := by decide +kernel
theorem dX2_findUnhelped_1 : decode cX2_findUnhelped 1 = .ok (.getfield 21, 3) := by decide +kernel
theorem dX2_findUnhelped_4 : decode cX2_findUnhelped 4 = .ok (.aload_n 1, 1) := by decide +kernel
theorem dX2_findUnhelped_5 : decode cX2_findUnhelped 5 = .ok (.getfield 33, 3) := by decide +kernel
theorem dX2_findUnhelped_8 : decode cX2_findUnhelped 8 = .ok (.aload_n 1, 1) := by decide +kernel
theorem dX2_findUnhelped_9 : decode cX2_findUnhelped 9 = .ok (.getfield 84, 3) := by decide +kernel
theorem dX2_findUnhelped_12 : decode cX2_findUnhelped 12 = .ok (.iload_n 2, 1) := by decide +kernel
theorem dX2_findUnhelped_13 : decode cX2_findUnhelped 13 = .ok (.invokevirtual 98, 3) := by decide +kernel
theorem dX2_findUnhelped_16 : decode cX2_findUnhelped 16 = .ok (.istore_n 3, 1) := by decide +kernel
theorem dX2_findUnhelped_17 : decode cX2_findUnhelped 17 = .ok (.iconst 0, 1) := by decide +kernel
theorem dX2_findUnhelped_18 : decode cX2_findUnhelped 18 = .ok (.istore 4, 2) := by decide +kernel
theorem dX2_findUnhelped_20 : decode cX2_findUnhelped 20 = .ok (.iload 4, 2) := by decide +kernel
theorem dX2_findUnhelped_22 : decode cX2_findUnhelped 22 = .ok (.aload_n 0, 1) := by decide +kernel
theorem dX2_findUnhelped_23 : decode cX2_findUnhelped 23 = .ok (.getfield 21, 3) := by decide +kernel
theorem dX2_findUnhelped_26 : decode cX2_findUnhelped 26 = .ok (.getfield 59, 3) := by decide +kernel
theorem dX2_findUnhelped_29 : decode cX2_findUnhelped 29 = .ok (.if_icmp .ge 67, 3) := by decide +kernel
theorem dX2_findUnhelped_32 : decode cX2_findUnhelped 32 = .ok (.iload_n 3, 1) := by decide +kernel
theorem dX2_findUnhelped_33 : decode cX2_findUnhelped 33 = .ok (.iload 4, 2) := by decide +kernel
theorem dX2_findUnhelped_35 : decode cX2_findUnhelped 35 = .ok (.invokestatic 62, 3) := by decide +kernel
theorem dX2_findUnhelped_38 : decode cX2_findUnhelped 38 = .ok (.ifCond .eq 52, 3) := by decide +kernel
theorem dX2_findUnhelped_41 : decode cX2_findUnhelped 41 = .ok (.aload_n 0, 1) := by decide +kernel
theorem dX2_findUnhelped_42 : decode cX2_findUnhelped 42 = .ok (.getfield 21, 3) := by decide +kernel
theorem dX2_findUnhelped_45 : decode cX2_findUnhelped 45 = .ok (.getfield 66, 3) := by decide +kernel
theorem dX2_findUnhelped_48 : decode cX2_findUnhelped 48 = .ok (.iload 4, 2) := by decide +kernel
theorem dX2_findUnhelped_50 : decode cX2_findUnhelped 50 = .ok (.aaload, 1) := by decide +kernel
theorem dX2_findUnhelped_51 : decode cX2_findUnhelped 51 = .ok (.getfield 87, 3) := by decide +kernel
theorem dX2_findUnhelped_54 : decode cX2_findUnhelped 54 = .ok (.aload_n 1, 1) := by decide +kernel
theorem dX2_findUnhelped_55 : decode cX2_findUnhelped 55 = .ok (.getfield 84, 3) := by decide +kernel
theorem dX2_findUnhelped_58 : decode cX2_findUnhelped 58 = .ok (.laload, 1) := by decide +kernel
theorem dX2_findUnhelped_59 : decode cX2_findUnhelped 59 = .ok (.lstore 5, 2) := by decide +kernel
theorem dX2_findUnhelped_61 : decode cX2_findUnhelped 61 = .ok (.aload_n 0, 1) := by decide +kernel
theorem dX2_findUnhelped_62 : decode cX2_findUnhelped 62 = .ok (.getfield 21, 3) := by decide +kernel
theorem dX2_findUnhelped_65 : decode cX2_findUnhelped 65 = .ok (.aload_n 1, 1) := by decide +kernel
theorem dX2_findUnhelped_66 : decode cX2_findUnhelped 66 = .ok (.getfield 102, 3) := by decide +kernel
theorem dX2_findUnhelped_69 : decode cX2_findUnhelped 69 = .ok (.aload_n 1, 1) := by decide +kernel
theorem dX2_findUnhelped_70 : decode cX2_findUnhelped 70 = .ok (.getfield 105, 3) := by decide +kernel
theorem dX2_findUnhelped_73 : decode cX2_findUnhelped 73 = .ok (.lload 5, 2) := by decide +kernel
theorem dX2_findUnhelped_75 : decode cX2_findUnhelped 75 = .ok (.iload_n 2, 1) := by decide +kernel
theorem dX2_findUnhelped_76 : decode cX2_findUnhelped 76 = .ok (.invokevirtual 108, 3) := by decide +kernel
theorem dX2_findUnhelped_79 : decode cX2_findUnhelped 79 = .ok (.ifCond .ne 11, 3) := by decide +kernel
theorem dX2_findUnhelped_82 : decode cX2_findUnhelped 82 = .ok (.aload_n 0, 1) := by decide +kernel
theorem dX2_findUnhelped_83 : decode cX2_findUnhelped 83 = .ok (.iconst 1, 1) := by decide +kernel
theorem dX2_findUnhelped_84 : decode cX2_findUnhelped 84 = .ok (.iload 4, 2) := by decide +kernel
theorem dX2_findUnhelped_86 : decode cX2_findUnhelped 86 = .ok (.ishl, 1) := by decide +kernel
theorem dX2_findUnhelped_87 : decode cX2_findUnhelped 87 = .ok (.invokevirtual 76, 3) := by decide +kernel
theorem dX2_findUnhelped_90 : decode cX2_findUnhelped 90 = .ok (.iinc 4 1, 3) := by decide +kernel
theorem dX2_findUnhelped_93 : decode cX2_findUnhelped 93 = .ok (.goto (-73), 3) := by decide +kernel
theorem dX2_findUnhelped_96 : decode cX2_findUnhelped 96 = .ok (.return_, 1) := by decide +kernel
theorem dX2_findPairs_0 : decode cX2_findPairs 0 = .ok (.aload_n 0, 1) := by decide +kernel
theorem dX2_findPairs_1 : decode cX2_findPairs 1 = .ok (.getfield 21, 3) := by decide +kernel
theorem dX2_findPairs_4 : decode cX2_findPairs 4 = .ok (.aload_n 1, 1) := by decide +kernel
theorem dX2_findPairs_5 : decode cX2_findPairs 5 = .ok (.getfield 33, 3) := by decide +kernel
theorem dX2_findPairs_8 : decode cX2_findPairs 8 = .ok (.aload_n 1, 1) := by decide +kernel
theorem dX2_findPairs_9 : decode cX2_findPairs 9 = .ok (.getfield 84, 3) := by decide +kernel
theorem dX2_findPairs_12 : decode cX2_findPairs 12 = .ok (.iload_n 2, 1) := by decide +kernel
theorem dX2_findPairs_13 : decode cX2_findPairs 13 = .ok (.invokevirtual 98, 3) := by decide +kernel
theorem dX2_findPairs_16 : decode cX2_findPairs 16 = .ok (.aload_n 0, 1) := by decide +kernel
theorem dX2_findPairs_17 : decode cX2_findPairs 17 = .ok (.getfield 21, 3) := by decide +kernel
theorem dX2_findPairs_20 : decode cX2_findPairs 20 = .ok (.aload_n 1, 1) := by decide +kernel
theorem dX2_findPairs_21 : decode cX2_findPairs 21 = .ok (.getfield 33, 3) := by decide +kernel
theorem dX2_findPairs_24 : decode cX2_findPairs 24 = .ok (.aload_n 1, 1) := by decide +kernel
theorem dX2_findPairs_25 : decode cX2_findPairs 25 = .ok (.getfield 105, 3) := by decide +kernel
theorem dX2_findPairs_28 : decode cX2_findPairs 28 = .ok (.iload_n 2, 1) := by decide +kernel
theorem dX2_findPairs_29 : decode cX2_findPairs 29 = .ok (.invokevirtual 98, 3) := by decide +kernel
theorem dX2_findPairs_32 : decode cX2_findPairs 32 = .ok (.iand, 1) := by decide +kernel
theorem dX2_findPairs_33 : decode cX2_findPairs 33 = .ok (.istore_n 3, 1) := by decide +kernel
theorem dX2_findPairs_34 : decode cX2_findPairs 34 = .ok (.iconst 1, 1) := by decide +kernel
theorem dX2_findPairs_35 : decode cX2_findPairs 35 = .ok (.istore 4, 2) := by decide +kernel
theorem dX2_findPairs_37 : decode cX2_findPairs 37 = .ok (.iload 4, 2) := by decide +kernel
theorem dX2_findPairs_39 : decode cX2_findPairs 39 = .ok (.aload_n 0, 1) := by decide +kernel
theorem dX2_findPairs_40 : decode cX2_findPairs 40 = .ok (.getfield 21, 3) := by decide +kernel
theorem dX2_findPairs_43 : decode cX2_findPairs 43 = .ok (.getfield 59, 3) := by decide +kernel
theorem dX2_findPairs_46 : decode cX2_findPairs 46 = .ok (.if_icmp .ge 84, 3) := by decide +kernel
theorem dX2_findPairs_49 : decode cX2_findPairs 49 = .ok (.iconst 0, 1) := by decide +kernel
theorem dX2_findPairs_50 : decode cX2_findPairs 50 = .ok (.istore 5, 2) := by decide +kernel
theorem dX2_findPairs_52 : decode cX2_findPairs 52 = .ok (.iload 5, 2) := by decide +kernel
theorem dX2_findPairs_54 : decode cX2_findPairs 54 = .ok (.iload 4, 2) := by decide +kernel
theorem dX2_findPairs_56 : decode cX2_findPairs 56 = .ok (.if_icmp .ge 68, 3) := by decide +kernel
theorem dX2_findPairs_59 : decode cX2_findPairs 59 = .ok (.iload_n 3, 1) := by decide +kernel
theorem dX2_findPairs_60 : decode cX2_findPairs 60 = .ok (.iload 4, 2) := by decide +kernel
theorem dX2_findPairs_62 : decode cX2_findPairs 62 = .ok (.invokestatic 62, 3) := by decide +kernel
theorem dX2_findPairs_65 : decode cX2_findPairs 65 = .ok (.ifCond .eq 53, 3) := by decide +kernel
theorem dX2_findPairs_68 : decode cX2_findPairs 68 = .ok (.iload_n 3, 1) := by decide +kernel
theorem dX2_findPairs_69 : decode cX2_findPairs 69 = .ok (.iload 5, 2) := by decide +kernel
theorem dX2_findPairs_71 : decode cX2_findPairs 71 = .ok (.invokestatic 62, 3) := by decide +kernel
theorem dX2_findPairs_74 : decode cX2_findPairs 74 = .ok (.ifCond .eq 44, 3) := by decide +kernel
theorem dX2_findPairs_77 : decode cX2_findPairs 77 = .ok (.aload_n 0, 1) := by decide +kernel
theorem dX2_findPairs_78 : decode cX2_findPairs 78 = .ok (.aload_n 1, 1) := by decide +kernel
theorem dX2_findPairs_79 : decode cX2_findPairs 79 = .ok (.aload_n 0, 1) := by decide +kernel
theorem dX2_findPairs_80 : decode cX2_findPairs 80 = .ok (.getfield 21, 3) := by decide +kernel
theorem dX2_findPairs_83 : decode cX2_findPairs 83 = .ok (.getfield 66, 3) := by decide +kernel
theorem dX2_findPairs_86 : decode cX2_findPairs 86 = .ok (.iload 5, 2) := by decide +kernel
theorem dX2_findPairs_88 : decode cX2_findPairs 88 = .ok (.aaload, 1) := by decide +kernel
theorem dX2_findPairs_89 : decode cX2_findPairs 89 = .ok (.aload_n 0, 1) := by decide +kernel
theorem dX2_findPairs_90 : decode cX2_findPairs 90 = .ok (.getfield 21, 3) := by decide +kernel
theorem dX2_findPairs_93 : decode cX2_findPairs 93 = .ok (.getfield 66, 3) := by decide +kernel
theorem dX2_findPairs_96 : decode cX2_findPairs 96 = .ok (.iload 4, 2) := by decide +kernel
theorem dX2_findPairs_98 : decode cX2_findPairs 98 = .ok (.aaload, 1) := by decide +kernel
theorem dX2_findPairs_99 : decode cX2_findPairs 99 = .ok (.invokevirtual 112, 3) := by decide +kernel
theorem dX2_findPairs_102 : decode cX2_findPairs 102 = .ok (.ifCond .eq 16, 3) := by decide +kernel
theorem dX2_findPairs_105 : decode cX2_findPairs 105 = .ok (.aload_n 0, 1) := by decide +kernel
theorem dX2_findPairs_106 : decode cX2_findPairs 106 = .ok (.iconst 1, 1) := by decide +kernel
theorem dX2_findPairs_107 : decode cX2_findPairs 107 = .ok (.iload 4, 2) := by decide +kernel
theorem dX2_findPairs_109 : decode cX2_findPairs 109 = .ok (.ishl, 1) := by decide +kernel
theorem dX2_findPairs_110 : decode cX2_findPairs 110 = .ok (.iconst 1, 1) := by decide +kernel
theorem dX2_findPairs_111 : decode cX2_findPairs 111 = .ok (.iload 5, 2) := by decide +kernel
theorem dX2_findPairs_113 : decode cX2_findPairs 113 = .ok (.ishl, 1) := by decide +kernel
theorem dX2_findPairs_114 : decode cX2_findPairs 114 = .ok (.ior, 1) := by decide +kernel
theorem dX2_findPairs_115 : decode cX2_findPairs 115 = .ok (.invokevirtual 76, 3) := by decide +kernel
theorem dX2_findPairs_118 : decode cX2_findPairs 118 = .ok (.iinc 5 1, 3) := by decide +kernel
theorem dX2_findPairs_121 : decode cX2_findPairs 121 = .ok (.goto (-69), 3) := by decide +kernel
theorem dX2_findPairs_124 : decode cX2_findPairs 124 = .ok (.iinc 4 1, 3) := by decide +kernel
theorem dX2_findPairs_127 : decode cX2_findPairs 127 = .ok (.goto (-90), 3) := by decide +kernel
theorem dX2_findPairs_130 : decode cX2_findPairs 130 = .ok (.return_, 1) := by decide +kernel
theorem dX2_quarrelTogether_0 : decode cX2_quarrelTogether 0 = .ok (.aload_n 2, 1) := by decide +kernel
theorem dX2_quarrelTogether_1 : decode cX2_quarrelTogether 1 = .ok (.getfield 87, 3) := by decide +kernel
theorem dX2_quarrelTogether_4 : decode cX2_quarrelTogether 4 = .ok (.aload_n 1, 1) := by decide +kernel
theorem dX2_quarrelTogether_5 : decode cX2_quarrelTogether 5 = .ok (.getfield 84, 3) := by decide +kernel
theorem dX2_quarrelTogether_8 : decode cX2_quarrelTogether 8 = .ok (.laload, 1) := by decide +kernel
theorem dX2_quarrelTogether_9 : decode cX2_quarrelTogether 9 = .ok (.aload_n 3, 1) := by decide +kernel
theorem dX2_quarrelTogether_10 : decode cX2_quarrelTogether 10 = .ok (.getfield 87, 3) := by decide +kernel
theorem dX2_quarrelTogether_13 : decode cX2_quarrelTogether 13 = .ok (.aload_n 1, 1) := by decide +kernel
theorem dX2_quarrelTogether_14 : decode cX2_quarrelTogether 14 = .ok (.getfield 84, 3) := by decide +kernel
theorem dX2_quarrelTogether_17 : decode cX2_quarrelTogether 17 = .ok (.laload, 1) := by decide +kernel
theorem dX2_quarrelTogether_18 : decode cX2_quarrelTogether 18 = .ok (.lcmp, 1) := by decide +kernel
theorem dX2_quarrelTogether_19 : decode cX2_quarrelTogether 19 = .ok (.ifCond .eq 5, 3) := by decide +kernel
theorem dX2_quarrelTogether_22 : decode cX2_quarrelTogether 22 = .ok (.iconst 0, 1) := by decide +kernel
theorem dX2_quarrelTogether_23 : decode cX2_quarrelTogether 23 = .ok (.ireturn, 1) := by decide +kernel
theorem dX2_quarrelTogether_24 : decode cX2_quarrelTogether 24 = .ok (.aload_n 2, 1) := by decide +kernel
theorem dX2_quarrelTogether_25 : decode cX2_quarrelTogether 25 = .ok (.getfield 87, 3) := by decide +kernel
theorem dX2_quarrelTogether_28 : decode cX2_quarrelTogether 28 = .ok (.aload_n 1, 1) := by decide +kernel
theorem dX2_quarrelTogether_29 : decode cX2_quarrelTogether 29 = .ok (.getfield 105, 3) := by decide +kernel
theorem dX2_quarrelTogether_32 : decode cX2_quarrelTogether 32 = .ok (.laload, 1) := by decide +kernel
theorem dX2_quarrelTogether_33 : decode cX2_quarrelTogether 33 = .ok (.lstore 4, 2) := by decide +kernel
theorem dX2_quarrelTogether_35 : decode cX2_quarrelTogether 35 = .ok (.aload_n 3, 1) := by decide +kernel
theorem dX2_quarrelTogether_36 : decode cX2_quarrelTogether 36 = .ok (.getfield 87, 3) := by decide +kernel
theorem dX2_quarrelTogether_39 : decode cX2_quarrelTogether 39 = .ok (.aload_n 1, 1) := by decide +kernel
theorem dX2_quarrelTogether_40 : decode cX2_quarrelTogether 40 = .ok (.getfield 105, 3) := by decide +kernel
theorem dX2_quarrelTogether_43 : decode cX2_quarrelTogether 43 = .ok (.laload, 1) := by decide +kernel
theorem dX2_quarrelTogether_44 : decode cX2_quarrelTogether 44 = .ok (.lstore 6, 2) := by decide +kernel
theorem dX2_quarrelTogether_46 : decode cX2_quarrelTogether 46 = .ok (.aload_n 1, 1) := by decide +kernel
theorem dX2_quarrelTogether_47 : decode cX2_quarrelTogether 47 = .ok (.getfield 30, 3) := by decide +kernel
theorem dX2_quarrelTogether_50 : decode cX2_quarrelTogether 50 = .ok (.ifCond .ne 19, 3) := by decide +kernel
theorem dX2_quarrelTogether_53 : decode cX2_quarrelTogether 53 = .ok (.lload 4, 2) := by decide +kernel
theorem dX2_quarrelTogether_55 : decode cX2_quarrelTogether 55 = .ok (.lload 6, 2) := by decide +kernel
theorem dX2_quarrelTogether_57 : decode cX2_quarrelTogether 57 = .ok (.lcmp, 1) := by decide +kernel
theorem dX2_quarrelTogether_58 : decode cX2_quarrelTogether 58 = .ok (.ifCond .eq 7, 3) := by decide +kernel
theorem dX2_quarrelTogether_61 : decode cX2_quarrelTogether 61 = .ok (.iconst 1, 1) := by decide +kernel
theorem dX2_quarrelTogether_62 : decode cX2_quarrelTogether 62 = .ok (.goto 19, 3) := by decide +kernel
theorem dX2_quarrelTogether_65 : decode cX2_quarrelTogether 65 = .ok (.iconst 0, 1) := by decide +kernel
theorem dX2_quarrelTogether_66 : decode cX2_quarrelTogether 66 = .ok (.goto 15, 3) := by decide +kernel
theorem dX2_quarrelTogether_69 : decode cX2_quarrelTogether 69 = .ok (.aload_n 0, 1) := by decide +kernel
theorem dX2_quarrelTogether_70 : decode cX2_quarrelTogether 70 = .ok (.lload 4, 2) := by decide +kernel
theorem dX2_quarrelTogether_72 : decode cX2_quarrelTogether 72 = .ok (.lload 6, 2) := by decide +kernel
theorem dX2_quarrelTogether_74 : decode cX2_quarrelTogether 74 = .ok (.aload_n 1, 1) := by decide +kernel
theorem dX2_quarrelTogether_75 : decode cX2_quarrelTogether 75 = .ok (.getfield 91, 3) := by decide +kernel
theorem dX2_quarrelTogether_78 : decode cX2_quarrelTogether 78 = .ok (.invokevirtual 116, 3) := by decide +kernel
theorem dX2_quarrelTogether_81 : decode cX2_quarrelTogether 81 = .ok (.ireturn, 1) := by decide +kernel
theorem dX2_areNearer_0 : decode cX2_areNearer 0 = .ok (.lload_n 1, 1) := by decide +kernel
theorem dX2_areNearer_1 : decode cX2_areNearer 1 = .ok (.lload_n 3, 1) := by decide +kernel
theorem dX2_areNearer_2 : decode cX2_areNearer 2 = .ok (.lcmp, 1) := by decide +kernel
theorem dX2_areNearer_3 : decode cX2_areNearer 3 = .ok (.ifCond .le 9, 3) := by decide +kernel
theorem dX2_areNearer_6 : decode cX2_areNearer 6 = .ok (.lload_n 1, 1) := by decide +kernel
theorem dX2_areNearer_7 : decode cX2_areNearer 7 = .ok (.lload_n 3, 1) := by decide +kernel
theorem dX2_areNearer_8 : decode cX2_areNearer 8 = .ok (.lsub, 1) := by decide +kernel
theorem dX2_areNearer_9 : decode cX2_areNearer 9 = .ok (.goto 6, 3) := by decide +kernel
theorem dX2_areNearer_12 : decode cX2_areNearer 12 = .ok (.lload_n 3, 1) := by decide +kernel
theorem dX2_areNearer_13 : decode cX2_areNearer 13 = .ok (.lload_n 1, 1) := by decide +kernel
theorem dX2_areNearer_14 : decode cX2_areNearer 14 = .ok (.lsub, 1) := by decide +kernel
theorem dX2_areNearer_15 : decode cX2_areNearer 15 = .ok (.lstore 7, 2) := by decide +kernel
theorem dX2_areNearer_17 : decode cX2_areNearer 17 = .ok (.lload 7, 2) := by decide +kernel
theorem dX2_areNearer_19 : decode cX2_areNearer 19 = .ok (.lconst 0, 1) := by decide +kernel
theorem dX2_areNearer_20 : decode cX2_areNearer 20 = .ok (.lcmp, 1) := by decide +kernel
theorem dX2_areNearer_21 : decode cX2_areNearer 21 = .ok (.ifCond .lt 15, 3) := by decide +kernel
theorem dX2_areNearer_24 : decode cX2_areNearer 24 = .ok (.lload 7, 2) := by decide +kernel
theorem dX2_areNearer_26 : decode cX2_areNearer 26 = .ok (.lload 5, 2) := by decide +kernel
theorem dX2_areNearer_28 : decode cX2_areNearer 28 = .ok (.lcmp, 1) := by decide +kernel
theorem dX2_areNearer_29 : decode cX2_areNearer 29 = .ok (.ifCond .ge 7, 3) := by decide +kernel
theorem dX2_areNearer_32 : decode cX2_areNearer 32 = .ok (.iconst 1, 1) := by decide +kernel
theorem dX2_areNearer_33 : decode cX2_areNearer 33 = .ok (.goto 4, 3) := by decide +kernel
theorem dX2_areNearer_36 : decode cX2_areNearer 36 = .ok (.iconst 0, 1) := by decide +kernel
theorem dX2_areNearer_37 : decode cX2_areNearer 37 = .ok (.ireturn, 1) := by decide +kernel
theorem dX2_findSums_0 : decode cX2_findSums 0 = .ok (.aload_n 0, 1) := by decide +kernel
theorem dX2_findSums_1 : decode cX2_findSums 1 = .ok (.getfield 21, 3) := by decide +kernel
theorem dX2_findSums_4 : decode cX2_findSums 4 = .ok (.aload_n 1, 1) := by decide +kernel
theorem dX2_findSums_5 : decode cX2_findSums 5 = .ok (.getfield 33, 3) := by decide +kernel
theorem dX2_findSums_8 : decode cX2_findSums 8 = .ok (.aload_n 1, 1) := by decide +kernel
theorem dX2_findSums_9 : decode cX2_findSums 9 = .ok (.getfield 84, 3) := by decide +kernel
theorem dX2_findSums_12 : decode cX2_findSums 12 = .ok (.iload_n 2, 1) := by decide +kernel
theorem dX2_findSums_13 : decode cX2_findSums 13 = .ok (.invokevirtual 98, 3) := by decide +kernel
theorem dX2_findSums_16 : decode cX2_findSums 16 = .ok (.aload_n 0, 1) := by decide +kernel
theorem dX2_findSums_17 : decode cX2_findSums 17 = .ok (.getfield 21, 3) := by decide +kernel
theorem dX2_findSums_20 : decode cX2_findSums 20 = .ok (.aload_n 1, 1) := by decide +kernel
theorem dX2_findSums_21 : decode cX2_findSums 21 = .ok (.getfield 33, 3) := by decide +kernel
theorem dX2_findSums_24 : decode cX2_findSums 24 = .ok (.aload_n 1, 1) := by decide +kernel
theorem dX2_findSums_25 : decode cX2_findSums 25 = .ok (.getfield 105, 3) := by decide +kernel
theorem dX2_findSums_28 : decode cX2_findSums 28 = .ok (.iload_n 2, 1) := by decide +kernel
theorem dX2_findSums_29 : decode cX2_findSums 29 = .ok (.invokevirtual 98, 3) := by decide +kernel
theorem dX2_findSums_32 : decode cX2_findSums 32 = .ok (.iand, 1) := by decide +kernel
theorem dX2_findSums_33 : decode cX2_findSums 33 = .ok (.istore_n 3, 1) := by decide +kernel
theorem dX2_findSums_34 : decode cX2_findSums 34 = .ok (.aload_n 0, 1) := by decide +kernel
theorem dX2_findSums_35 : decode cX2_findSums 35 = .ok (.getfield 21, 3) := by decide +kernel
theorem dX2_findSums_38 : decode cX2_findSums 38 = .ok (.aload_n 1, 1) := by decide +kernel
theorem dX2_findSums_39 : decode cX2_findSums 39 = .ok (.getfield 105, 3) := by decide +kernel
theorem dX2_findSums_42 : decode cX2_findSums 42 = .ok (.iload_n 3, 1) := by decide +kernel
theorem dX2_findSums_43 : decode cX2_findSums 43 = .ok (.invokevirtual 120, 3) := by decide +kernel
theorem dX2_findSums_46 : decode cX2_findSums 46 = .ok (.istore_n 3, 1) := by decide +kernel
theorem dX2_findSums_47 : decode cX2_findSums 47 = .ok (.iconst 0, 1) := by decide +kernel
theorem dX2_findSums_48 : decode cX2_findSums 48 = .ok (.istore 4, 2) := by decide +kernel
theorem dX2_findSums_50 : decode cX2_findSums 50 = .ok (.iload 4, 2) := by decide +kernel
theorem dX2_findSums_52 : decode cX2_findSums 52 = .ok (.aload_n 0, 1) := by decide +kernel
theorem dX2_findSums_53 : decode cX2_findSums 53 = .ok (.getfield 21, 3) := by decide +kernel
theorem dX2_findSums_56 : decode cX2_findSums 56 = .ok (.getfield 59, 3) := by decide +kernel
theorem dX2_findSums_59 : decode cX2_findSums 59 = .ok (.if_icmp .ge 114, 3) := by decide +kernel
theorem dX2_findSums_62 : decode cX2_findSums 62 = .ok (.iload_n 3, 1) := by decide +kernel
theorem dX2_findSums_63 : decode cX2_findSums 63 = .ok (.iload 4, 2) := by decide +kernel
theorem dX2_findSums_65 : decode cX2_findSums 65 = .ok (.invokestatic 62, 3) := by decide +kernel
theorem dX2_findSums_68 : decode cX2_findSums 68 = .ok (.ifCond .eq 99, 3) := by decide +kernel
theorem dX2_findSums_71 : decode cX2_findSums 71 = .ok (.aload_n 0, 1) := by decide +kernel
theorem dX2_findSums_72 : decode cX2_findSums 72 = .ok (.getfield 21, 3) := by decide +kernel
theorem dX2_findSums_75 : decode cX2_findSums 75 = .ok (.getfield 66, 3) := by decide +kernel
theorem dX2_findSums_78 : decode cX2_findSums 78 = .ok (.iload 4, 2) := by decide +kernel
theorem dX2_findSums_80 : decode cX2_findSums 80 = .ok (.aaload, 1) := by decide +kernel
theorem dX2_findSums_81 : decode cX2_findSums 81 = .ok (.getfield 87, 3) := by decide +kernel
theorem dX2_findSums_84 : decode cX2_findSums 84 = .ok (.aload_n 1, 1) := by decide +kernel
theorem dX2_findSums_85 : decode cX2_findSums 85 = .ok (.getfield 84, 3) := by decide +kernel
theorem dX2_findSums_88 : decode cX2_findSums 88 = .ok (.laload, 1) := by decide +kernel
theorem dX2_findSums_89 : decode cX2_findSums 89 = .ok (.lstore 5, 2) := by decide +kernel
theorem dX2_findSums_91 : decode cX2_findSums 91 = .ok (.aload_n 0, 1) := by decide +kernel
theorem dX2_findSums_92 : decode cX2_findSums 92 = .ok (.getfield 21, 3) := by decide +kernel
theorem dX2_findSums_95 : decode cX2_findSums 95 = .ok (.aload_n 1, 1) := by decide +kernel
theorem dX2_findSums_96 : decode cX2_findSums 96 = .ok (.getfield 33, 3) := by decide +kernel
theorem dX2_findSums_99 : decode cX2_findSums 99 = .ok (.aload_n 1, 1) := by decide +kernel
theorem dX2_findSums_100 : decode cX2_findSums 100 = .ok (.getfield 84, 3) := by decide +kernel
theorem dX2_findSums_103 : decode cX2_findSums 103 = .ok (.lload 5, 2) := by decide +kernel
theorem dX2_findSums_105 : decode cX2_findSums 105 = .ok (.iload_n 3, 1) := by decide +kernel
theorem dX2_findSums_106 : decode cX2_findSums 106 = .ok (.invokevirtual 108, 3) := by decide +kernel
theorem dX2_findSums_109 : decode cX2_findSums 109 = .ok (.iconst 1, 1) := by decide +kernel
theorem dX2_findSums_110 : decode cX2_findSums 110 = .ok (.iload 4, 2) := by decide +kernel
theorem dX2_findSums_112 : decode cX2_findSums 112 = .ok (.ishl, 1) := by decide +kernel
theorem dX2_findSums_113 : decode cX2_findSums 113 = .ok (.iconst 1, 1) := by decide +kernel
theorem dX2_findSums_114 : decode cX2_findSums 114 = .ok (.isub, 1) := by decide +kernel
theorem dX2_findSums_115 : decode cX2_findSums 115 = .ok (.iand, 1) := by decide +kernel
theorem dX2_findSums_116 : decode cX2_findSums 116 = .ok (.istore 7, 2) := by decide +kernel
theorem dX2_findSums_118 : decode cX2_findSums 118 = .ok (.iconst 0, 1) := by decide +kernel
theorem dX2_findSums_119 : decode cX2_findSums 119 = .ok (.istore 8, 2) := by decide +kernel
theorem dX2_findSums_121 : decode cX2_findSums 121 = .ok (.iload 8, 2) := by decide +kernel
theorem dX2_findSums_123 : decode cX2_findSums 123 = .ok (.iload 7, 2) := by decide +kernel
theorem dX2_findSums_125 : decode cX2_findSums 125 = .ok (.if_icmp .gt 42, 3) := by decide +kernel
theorem dX2_findSums_128 : decode cX2_findSums 128 = .ok (.iload 8, 2) := by decide +kernel
theorem dX2_findSums_130 : decode cX2_findSums 130 = .ok (.iload 7, 2) := by decide +kernel
theorem dX2_findSums_132 : decode cX2_findSums 132 = .ok (.iconst (-1), 1) := by decide +kernel
theorem dX2_findSums_133 : decode cX2_findSums 133 = .ok (.ixor, 1) := by decide +kernel
theorem dX2_findSums_134 : decode cX2_findSums 134 = .ok (.iand, 1) := by decide +kernel
theorem dX2_findSums_135 : decode cX2_findSums 135 = .ok (.ifCond .ne 26, 3) := by decide +kernel
theorem dX2_findSums_138 : decode cX2_findSums 138 = .ok (.aload_n 0, 1) := by decide +kernel
theorem dX2_findSums_139 : decode cX2_findSums 139 = .ok (.aload_n 1, 1) := by decide +kernel
theorem dX2_findSums_140 : decode cX2_findSums 140 = .ok (.iload 4, 2) := by decide +kernel
theorem dX2_findSums_142 : decode cX2_findSums 142 = .ok (.iload 8, 2) := by decide +kernel
theorem dX2_findSums_144 : decode cX2_findSums 144 = .ok (.invokevirtual 124, 3) := by decide +kernel
theorem dX2_findSums_147 : decode cX2_findSums 147 = .ok (.ifCond .eq 14, 3) := by decide +kernel
theorem dX2_findSums_150 : decode cX2_findSums 150 = .ok (.aload_n 0, 1) := by decide +kernel
theorem dX2_findSums_151 : decode cX2_findSums 151 = .ok (.iconst 1, 1) := by decide +kernel
theorem dX2_findSums_152 : decode cX2_findSums 152 = .ok (.iload 4, 2) := by decide +kernel
theorem dX2_findSums_154 : decode cX2_findSums 154 = .ok (.ishl, 1) := by decide +kernel
theorem dX2_findSums_155 : decode cX2_findSums 155 = .ok (.iload 8, 2) := by decide +kernel
theorem dX2_findSums_157 : decode cX2_findSums 157 = .ok (.ior, 1) := by decide +kernel
theorem dX2_findSums_158 : decode cX2_findSums 158 = .ok (.invokevirtual 76, 3) := by decide +kernel
theorem dX2_findSums_161 : decode cX2_findSums 161 = .ok (.iinc 8 1, 3) := by decide +kernel
theorem dX2_findSums_164 : decode cX2_findSums 164 = .ok (.goto (-43), 3) := by decide +kernel
theorem dX2_findSums_167 : decode cX2_findSums 167 = .ok (.iinc 4 1, 3) := by decide +kernel
theorem dX2_findSums_170 : decode cX2_findSums 170 = .ok (.goto (-120), 3) := by decide +kernel
theorem dX2_findSums_173 : decode cX2_findSums 173 = .ok (.return_, 1) := by decide +kernel
theorem dX2_isLeastSum_0 : decode cX2_isLeastSum 0 = .ok (.aload_n 1, 1) := by decide +kernel
theorem dX2_isLeastSum_1 : decode cX2_isLeastSum 1 = .ok (.getfield 91, 3) := by decide +kernel
theorem dX2_isLeastSum_4 : decode cX2_isLeastSum 4 = .ok (.lstore 4, 2) := by decide +kernel
theorem dX2_isLeastSum_6 : decode cX2_isLeastSum 6 = .ok (.aload_n 0, 1) := by decide +kernel
theorem dX2_isLeastSum_7 : decode cX2_isLeastSum 7 = .ok (.getfield 21, 3) := by decide +kernel
theorem dX2_isLeastSum_10 : decode cX2_isLeastSum 10 = .ok (.getfield 66, 3) := by decide +kernel
theorem dX2_isLeastSum_13 : decode cX2_isLeastSum 13 = .ok (.iload_n 2, 1) := by decide +kernel
theorem dX2_isLeastSum_14 : decode cX2_isLeastSum 14 = .ok (.aaload, 1) := by decide +kernel
theorem dX2_isLeastSum_15 : decode cX2_isLeastSum 15 = .ok (.getfield 87, 3) := by decide +kernel
theorem dX2_isLeastSum_18 : decode cX2_isLeastSum 18 = .ok (.aload_n 1, 1) := by decide +kernel
theorem dX2_isLeastSum_19 : decode cX2_isLeastSum 19 = .ok (.getfield 105, 3) := by decide +kernel
theorem dX2_isLeastSum_22 : decode cX2_isLeastSum 22 = .ok (.laload, 1) := by decide +kernel
theorem dX2_isLeastSum_23 : decode cX2_isLeastSum 23 = .ok (.lstore 6, 2) := by decide +kernel
theorem dX2_isLeastSum_25 : decode cX2_isLeastSum 25 = .ok (.iconst 0, 1) := by decide +kernel
theorem dX2_isLeastSum_26 : decode cX2_isLeastSum 26 = .ok (.istore 8, 2) := by decide +kernel
theorem dX2_isLeastSum_28 : decode cX2_isLeastSum 28 = .ok (.iload 8, 2) := by decide +kernel
theorem dX2_isLeastSum_30 : decode cX2_isLeastSum 30 = .ok (.iload_n 2, 1) := by decide +kernel
theorem dX2_isLeastSum_31 : decode cX2_isLeastSum 31 = .ok (.if_icmp .ge 89, 3) := by decide +kernel
theorem dX2_isLeastSum_34 : decode cX2_isLeastSum 34 = .ok (.iload_n 3, 1) := by decide +kernel
theorem dX2_isLeastSum_35 : decode cX2_isLeastSum 35 = .ok (.iload 8, 2) := by decide +kernel
theorem dX2_isLeastSum_37 : decode cX2_isLeastSum 37 = .ok (.invokestatic 62, 3) := by decide +kernel
theorem dX2_isLeastSum_40 : decode cX2_isLeastSum 40 = .ok (.ifCond .eq 74, 3) := by decide +kernel
theorem dX2_isLeastSum_43 : decode cX2_isLeastSum 43 = .ok (.aload_n 0, 1) := by decide +kernel
theorem dX2_isLeastSum_44 : decode cX2_isLeastSum 44 = .ok (.getfield 21, 3) := by decide +kernel
theorem dX2_isLeastSum_47 : decode cX2_isLeastSum 47 = .ok (.getfield 66, 3) := by decide +kernel
theorem dX2_isLeastSum_50 : decode cX2_isLeastSum 50 = .ok (.iload 8, 2) := by decide +kernel
theorem dX2_isLeastSum_52 : decode cX2_isLeastSum 52 = .ok (.aaload, 1) := by decide +kernel
theorem dX2_isLeastSum_53 : decode cX2_isLeastSum 53 = .ok (.getfield 87, 3) := by decide +kernel
theorem dX2_isLeastSum_56 : decode cX2_isLeastSum 56 = .ok (.aload_n 1, 1) := by decide +kernel
theorem dX2_isLeastSum_57 : decode cX2_isLeastSum 57 = .ok (.getfield 105, 3) := by decide +kernel
theorem dX2_isLeastSum_60 : decode cX2_isLeastSum 60 = .ok (.laload, 1) := by decide +kernel
theorem dX2_isLeastSum_61 : decode cX2_isLeastSum 61 = .ok (.lstore 9, 2) := by decide +kernel
theorem dX2_isLeastSum_63 : decode cX2_isLeastSum 63 = .ok (.lload 9, 2) := by decide +kernel
theorem dX2_isLeastSum_65 : decode cX2_isLeastSum 65 = .ok (.lload 6, 2) := by decide +kernel
theorem dX2_isLeastSum_67 : decode cX2_isLeastSum 67 = .ok (.lcmp, 1) := by decide +kernel
theorem dX2_isLeastSum_68 : decode cX2_isLeastSum 68 = .ok (.ifCond .le 8, 3) := by decide +kernel
theorem dX2_isLeastSum_71 : decode cX2_isLeastSum 71 = .ok (.lload 9, 2) := by decide +kernel
theorem dX2_isLeastSum_73 : decode cX2_isLeastSum 73 = .ok (.goto 5, 3) := by decide +kernel
theorem dX2_isLeastSum_76 : decode cX2_isLeastSum 76 = .ok (.lload 6, 2) := by decide +kernel
theorem dX2_isLeastSum_78 : decode cX2_isLeastSum 78 = .ok (.lstore 11, 2) := by decide +kernel
theorem dX2_isLeastSum_80 : decode cX2_isLeastSum 80 = .ok (.lload 9, 2) := by decide +kernel
theorem dX2_isLeastSum_82 : decode cX2_isLeastSum 82 = .ok (.lload 6, 2) := by decide +kernel
theorem dX2_isLeastSum_84 : decode cX2_isLeastSum 84 = .ok (.lcmp, 1) := by decide +kernel
theorem dX2_isLeastSum_85 : decode cX2_isLeastSum 85 = .ok (.ifCond .le 8, 3) := by decide +kernel
theorem dX2_isLeastSum_88 : decode cX2_isLeastSum 88 = .ok (.lload 6, 2) := by decide +kernel
theorem dX2_isLeastSum_90 : decode cX2_isLeastSum 90 = .ok (.goto 5, 3) := by decide +kernel
theorem dX2_isLeastSum_93 : decode cX2_isLeastSum 93 = .ok (.lload 9, 2) := by decide +kernel
theorem dX2_isLeastSum_95 : decode cX2_isLeastSum 95 = .ok (.lstore 6, 2) := by decide +kernel
theorem dX2_isLeastSum_97 : decode cX2_isLeastSum 97 = .ok (.lload 11, 2) := by decide +kernel
theorem dX2_isLeastSum_99 : decode cX2_isLeastSum 99 = .ok (.lload 4, 2) := by decide +kernel
theorem dX2_isLeastSum_101 : decode cX2_isLeastSum 101 = .ok (.lcmp, 1) := by decide +kernel
theorem dX2_isLeastSum_102 : decode cX2_isLeastSum 102 = .ok (.ifCond .le 5, 3) := by decide +kernel
theorem dX2_isLeastSum_105 : decode cX2_isLeastSum 105 = .ok (.iconst 0, 1) := by decide +kernel
theorem dX2_isLeastSum_106 : decode cX2_isLeastSum 106 = .ok (.ireturn, 1) := by decide +kernel
theorem dX2_isLeastSum_107 : decode cX2_isLeastSum 107 = .ok (.lload 4, 2) := by decide +kernel
theorem dX2_isLeastSum_109 : decode cX2_isLeastSum 109 = .ok (.lload 11, 2) := by decide +kernel
theorem dX2_isLeastSum_111 : decode cX2_isLeastSum 111 = .ok (.lsub, 1) := by decide +kernel
theorem dX2_isLeastSum_112 : decode cX2_isLeastSum 112 = .ok (.lstore 4, 2) := by decide +kernel
theorem dX2_isLeastSum_114 : decode cX2_isLeastSum 114 = .ok (.iinc 8 1, 3) := by decide +kernel
theorem dX2_isLeastSum_117 : decode cX2_isLeastSum 117 = .ok (.goto (-89), 3) := by decide +kernel
theorem dX2_isLeastSum_120 : decode cX2_isLeastSum 120 = .ok (.lload 6, 2) := by decide +kernel
theorem dX2_isLeastSum_122 : decode cX2_isLeastSum 122 = .ok (.lload 4, 2) := by decide +kernel
theorem dX2_isLeastSum_124 : decode cX2_isLeastSum 124 = .ok (.lcmp, 1) := by decide +kernel
theorem dX2_isLeastSum_125 : decode cX2_isLeastSum 125 = .ok (.ifCond .le 7, 3) := by decide +kernel
theorem dX2_isLeastSum_128 : decode cX2_isLeastSum 128 = .ok (.iconst 1, 1) := by decide +kernel
theorem dX2_isLeastSum_129 : decode cX2_isLeastSum 129 = .ok (.goto 4, 3) := by decide +kernel
theorem dX2_isLeastSum_132 : decode cX2_isLeastSum 132 = .ok (.iconst 0, 1) := by decide +kernel
theorem dX2_isLeastSum_133 : decode cX2_isLeastSum 133 = .ok (.ireturn, 1) := by decide +kernel
theorem dX3_init_0 : decode cX3_init 0 = .ok (.aload_n 0, 1) := by decide +kernel
theorem dX3_init_1 : decode cX3_init 1 = .ok (.invokespecial 3, 3) := by decide +kernel
theorem dX3_init_4 : decode cX3_init 4 = .ok (.aload_n 0, 1) := by decide +kernel
theorem dX3_init_5 : decode cX3_init 5 = .ok (.sipush 4096, 3) := by decide +kernel
theorem dX3_init_8 : decode cX3_init 8 = .ok (.newarray .int, 2) := by decide +kernel
theorem dX3_init_10 : decode cX3_init 10 = .ok (.putfield 9, 3) := by decide +kernel
theorem dX3_init_13 : decode cX3_init 13 = .ok (.aload_n 0, 1) := by decide +kernel
theorem dX3_init_14 : decode cX3_init 14 = .ok (.sipush 4096, 3) := by decide +kernel
theorem dX3_init_17 : decode cX3_init 17 = .ok (.newarray .boolean, 2) := by decide +kernel
theorem dX3_init_19 : decode cX3_init 19 = .ok (.putfield 15, 3) := by decide +kernel
theorem dX3_init_22 : decode cX3_init 22 = .ok (.aload_n 0, 1) := by decide +kernel
theorem dX3_init_23 : decode cX3_init 23 = .ok (.sipush 4096, 3) := by decide +kernel
theorem dX3_init_26 : decode cX3_init 26 = .ok (.newarray .boolean, 2) := by decide +kernel
theorem dX3_init_28 : decode cX3_init 28 = .ok (.putfield 19, 3) := by decide +kernel
theorem dX3_init_31 : decode cX3_init 31 = .ok (.aload_n 0, 1) := by decide +kernel
theorem dX3_init_32 : decode cX3_init 32 = .ok (.aload_n 1, 1) := by decide +kernel
theorem dX3_init_33 : decode cX3_init 33 = .ok (.putfield 22, 3) := by decide +kernel
theorem dX3_init_36 : decode cX3_init 36 = .ok (.aload_n 0, 1) := by decide +kernel
theorem dX3_init_37 : decode cX3_init 37 = .ok (.aload_n 2, 1) := by decide +kernel
theorem dX3_init_38 : decode cX3_init 38 = .ok (.putfield 26, 3) := by decide +kernel
theorem dX3_init_41 : decode cX3_init 41 = .ok (.return_, 1) := by decide +kernel
theorem dX3_find_0 : decode cX3_find 0 = .ok (.aload_n 0, 1) := by decide +kernel
theorem dX3_find_1 : decode cX3_find 1 = .ok (.aload_n 0, 1) := by decide +kernel
theorem dX3_find_2 : decode cX3_find 2 = .ok (.getfield 22, 3) := by decide +kernel
theorem dX3_find_5 : decode cX3_find 5 = .ok (.invokevirtual 30, 3) := by decide +kernel
theorem dX3_find_8 : decode cX3_find 8 = .ok (.putfield 36, 3) := by decide +kernel
theorem dX3_find_11 : decode cX3_find 11 = .ok (.aload_n 0, 1) := by decide +kernel
theorem dX3_find_12 : decode cX3_find 12 = .ok (.invokevirtual 39, 3) := by decide +kernel
theorem dX3_find_15 : decode cX3_find 15 = .ok (.aload_n 0, 1) := by decide +kernel
theorem dX3_find_16 : decode cX3_find 16 = .ok (.iconst 0, 1) := by decide +kernel
theorem dX3_find_17 : decode cX3_find 17 = .ok (.putfield 42, 3) := by decide +kernel
theorem dX3_find_20 : decode cX3_find 20 = .ok (.iconst 0, 1) := by decide +kernel
theorem dX3_find_21 : decode cX3_find 21 = .ok (.istore_n 1, 1) := by decide +kernel
theorem dX3_find_22 : decode cX3_find 22 = .ok (.iload_n 1, 1) := by decide +kernel
theorem dX3_find_23 : decode cX3_find 23 = .ok (.aload_n 0, 1) := by decide +kernel
theorem dX3_find_24 : decode cX3_find 24 = .ok (.getfield 36, 3) := by decide +kernel
theorem dX3_find_27 : decode cX3_find 27 = .ok (.if_icmp .gt 105, 3) := by decide +kernel
theorem dX3_find_30 : decode cX3_find 30 = .ok (.iload_n 1, 1) := by decide +kernel
theorem dX3_find_31 : decode cX3_find 31 = .ok (.aload_n 0, 1) := by decide +kernel
theorem dX3_find_32 : decode cX3_find 32 = .ok (.getfield 36, 3) := by decide +kernel
theorem dX3_find_35 : decode cX3_find 35 = .ok (.iconst (-1), 1) := by decide +kernel
theorem dX3_find_36 : decode cX3_find 36 = .ok (.ixor, 1) := by decide +kernel
theorem dX3_find_37 : decode cX3_find 37 = .ok (.iand, 1) := by decide +kernel
theorem dX3_find_38 : decode cX3_find 38 = .ok (.ifCond .ne 88, 3) := by decide +kernel
theorem dX3_find_41 : decode cX3_find 41 = .ok (.aload_n 0, 1) := by decide +kernel
theorem dX3_find_42 : decode cX3_find 42 = .ok (.iload_n 1, 1) := by decide +kernel
theorem dX3_find_43 : decode cX3_find 43 = .ok (.invokevirtual 45, 3) := by decide +kernel
theorem dX3_find_46 : decode cX3_find 46 = .ok (.istore_n 2, 1) := by decide +kernel
theorem dX3_find_47 : decode cX3_find 47 = .ok (.aload_n 0, 1) := by decide +kernel
theorem dX3_find_48 : decode cX3_find 48 = .ok (.getfield 15, 3) := by decide +kernel
theorem dX3_find_51 : decode cX3_find 51 = .ok (.aload_n 0, 1) := by decide +kernel
theorem dX3_find_52 : decode cX3_find 52 = .ok (.getfield 36, 3) := by decide +kernel
theorem dX3_find_55 : decode cX3_find 55 = .ok (.iload_n 1, 1) := by decide +kernel
theorem dX3_find_56 : decode cX3_find 56 = .ok (.ixor, 1) := by decide +kernel
theorem dX3_find_57 : decode cX3_find 57 = .ok (.baload, 1) := by decide +kernel
theorem dX3_find_58 : decode cX3_find 58 = .ok (.ifCond .ne 7, 3) := by decide +kernel
theorem dX3_find_61 : decode cX3_find 61 = .ok (.iconst 1, 1) := by decide +kernel
theorem dX3_find_62 : decode cX3_find 62 = .ok (.goto 4, 3) := by decide +kernel
theorem dX3_find_65 : decode cX3_find 65 = .ok (.iconst 0, 1) := by decide +kernel
theorem dX3_find_66 : decode cX3_find 66 = .ok (.istore_n 3, 1) := by decide +kernel
theorem dX3_find_67 : decode cX3_find 67 = .ok (.aload_n 0, 1) := by decide +kernel
theorem dX3_find_68 : decode cX3_find 68 = .ok (.getfield 19, 3) := by decide +kernel
theorem dX3_find_71 : decode cX3_find 71 = .ok (.iload_n 1, 1) := by decide +kernel
theorem dX3_find_72 : decode cX3_find 72 = .ok (.iload_n 2, 1) := by decide +kernel
theorem dX3_find_73 : decode cX3_find 73 = .ok (.ifCond .ne 7, 3) := by decide +kernel
theorem dX3_find_76 : decode cX3_find 76 = .ok (.iload_n 3, 1) := by decide +kernel
theorem dX3_find_77 : decode cX3_find 77 = .ok (.ifCond .eq 7, 3) := by decide +kernel
theorem dX3_find_80 : decode cX3_find 80 = .ok (.iconst 1, 1) := by decide +kernel
theorem dX3_find_81 : decode cX3_find 81 = .ok (.goto 4, 3) := by decide +kernel
theorem dX3_find_84 : decode cX3_find 84 = .ok (.iconst 0, 1) := by decide +kernel
theorem dX3_find_85 : decode cX3_find 85 = .ok (.bastore, 1) := by decide +kernel
theorem dX3_find_86 : decode cX3_find 86 = .ok (.iload_n 3, 1) := by decide +kernel
theorem dX3_find_87 : decode cX3_find 87 = .ok (.ifCond .eq 39, 3) := by decide +kernel
theorem dX3_find_90 : decode cX3_find 90 = .ok (.iload_n 2, 1) := by decide +kernel
theorem dX3_find_91 : decode cX3_find 91 = .ok (.ifCond .ne 35, 3) := by decide +kernel
theorem dX3_find_94 : decode cX3_find 94 = .ok (.aload_n 0, 1) := by decide +kernel
theorem dX3_find_95 : decode cX3_find 95 = .ok (.getfield 42, 3) := by decide +kernel
theorem dX3_find_98 : decode cX3_find 98 = .ok (.aload_n 0, 1) := by decide +kernel
theorem dX3_find_99 : decode cX3_find 99 = .ok (.getfield 9, 3) := by decide +kernel
theorem dX3_find_102 : decode cX3_find 102 = .ok (.arraylength, 1) := by decide +kernel
theorem dX3_find_103 : decode cX3_find 103 = .ok (.if_icmp .ge 23, 3) := by decide +kernel
theorem dX3_find_106 : decode cX3_find 106 = .ok (.aload_n 0, 1) := by decide +kernel
theorem dX3_find_107 : decode cX3_find 107 = .ok (.getfield 9, 3) := by decide +kernel
theorem dX3_find_110 : decode cX3_find 110 = .ok (.aload_n 0, 1) := by decide +kernel
theorem dX3_find_111 : decode cX3_find 111 = .ok (.getfield 42, 3) := by decide +kernel
theorem dX3_find_114 : decode cX3_find 114 = .ok (.iload_n 1, 1) := by decide +kernel
theorem dX3_find_115 : decode cX3_find 115 = .ok (.iastore, 1) := by decide +kernel
theorem dX3_find_116 : decode cX3_find 116 = .ok (.aload_n 0, 1) := by decide +kernel
theorem dX3_find_117 : decode cX3_find 117 = .ok (.dup, 1) := by decide +kernel
theorem dX3_find_118 : decode cX3_find 118 = .ok (.getfield 42, 3) := by decide +kernel
theorem dX3_find_121 : decode cX3_find 121 = .ok (.iconst 1, 1) := by decide +kernel
theorem dX3_find_122 : decode cX3_find 122 = .ok (.iadd, 1) := by decide +kernel
theorem dX3_find_123 : decode cX3_find 123 = .ok (.putfield 42, 3) := by decide +kernel
theorem dX3_find_126 : decode cX3_find 126 = .ok (.iinc 1 1, 3) := by decide +kernel
theorem dX3_find_129 : decode cX3_find 129 = .ok (.goto (-107), 3) := by decide +kernel
theorem dX3_find_132 : decode cX3_find 132 = .ok (.return_, 1) := by decide +kernel
theorem dX3_isMoreThanOne_0 : decode cX3_isMoreThanOne 0 = .ok (.iconst 0, 1) := by decide +kernel
theorem dX3_isMoreThanOne_1 : decode cX3_isMoreThanOne 1 = .ok (.istore_n 2, 1) := by decide +kernel
theorem dX3_isMoreThanOne_2 : decode cX3_isMoreThanOne 2 = .ok (.iload_n 2, 1) := by decide +kernel
theorem dX3_isMoreThanOne_3 : decode cX3_isMoreThanOne 3 = .ok (.aload_n 0, 1) := by decide +kernel
theorem dX3_isMoreThanOne_4 : decode cX3_isMoreThanOne 4 = .ok (.getfield 22, 3) := by decide +kernel
theorem dX3_isMoreThanOne_7 : decode cX3_isMoreThanOne 7 = .ok (.getfield 49, 3) := by decide +kernel
theorem dX3_isMoreThanOne_10 : decode cX3_isMoreThanOne 10 = .ok (.if_icmp .ge 32, 3) := by decide +kernel
theorem dX3_isMoreThanOne_13 : decode cX3_isMoreThanOne 13 = .ok (.iload_n 1, 1) := by decide +kernel
theorem dX3_isMoreThanOne_14 : decode cX3_isMoreThanOne 14 = .ok (.iload_n 2, 1) := by decide +kernel
theorem dX3_isMoreThanOne_15 : decode cX3_isMoreThanOne 15 = .ok (.invokestatic 50, 3) := by decide +kernel
theorem dX3_isMoreThanOne_18 : decode cX3_isMoreThanOne 18 = .ok (.ifCond .eq 18, 3) := by decide +kernel
theorem dX3_isMoreThanOne_21 : decode cX3_isMoreThanOne 21 = .ok (.aload_n 0, 1) := by decide +kernel
theorem dX3_isMoreThanOne_22 : decode cX3_isMoreThanOne 22 = .ok (.getfield 19, 3) := by decide +kernel
theorem dX3_isMoreThanOne_25 : decode cX3_isMoreThanOne 25 = .ok (.iload_n 1, 1) := by decide +kernel
theorem dX3_isMoreThanOne_26 : decode cX3_isMoreThanOne 26 = .ok (.iconst 1, 1) := by decide +kernel
theorem dX3_isMoreThanOne_27 : decode cX3_isMoreThanOne 27 = .ok (.iload_n 2, 1) := by decide +kernel
theorem dX3_isMoreThanOne_28 : decode cX3_isMoreThanOne 28 = .ok (.ishl, 1) := by decide +kernel
theorem dX3_isMoreThanOne_29 : decode cX3_isMoreThanOne 29 = .ok (.ixor, 1) := by decide +kernel
theorem dX3_isMoreThanOne_30 : decode cX3_isMoreThanOne 30 = .ok (.baload, 1) := by decide +kernel
theorem dX3_isMoreThanOne_31 : decode cX3_isMoreThanOne 31 = .ok (.ifCond .eq 5, 3) := by decide +kernel
theorem dX3_isMoreThanOne_34 : decode cX3_isMoreThanOne 34 = .ok (.iconst 1, 1) := by decide +kernel
theorem dX3_isMoreThanOne_35 : decode cX3_isMoreThanOne 35 = .ok (.ireturn, 1) := by decide +kernel
theorem dX3_isMoreThanOne_36 : decode cX3_isMoreThanOne 36 = .ok (.iinc 2 1, 3) := by decide +kernel
theorem dX3_isMoreThanOne_39 : decode cX3_isMoreThanOne 39 = .ok (.goto (-37), 3) := by decide +kernel
theorem dX3_isMoreThanOne_42 : decode cX3_isMoreThanOne 42 = .ok (.iconst 0, 1) := by decide +kernel
theorem dX3_isMoreThanOne_43 : decode cX3_isMoreThanOne 43 = .ok (.ireturn, 1) := by decide +kernel
theorem dX3_findBroken_0 : decode cX3_findBroken 0 = .ok (.aload_n 0, 1) := by decide +kernel
theorem dX3_findBroken_1 : decode cX3_findBroken 1 = .ok (.getfield 15, 3) := by decide +kernel
theorem dX3_findBroken_4 : decode cX3_findBroken 4 = .ok (.aload_n 0, 1) := by decide +kernel
theorem dX3_findBroken_5 : decode cX3_findBroken 5 = .ok (.getfield 22, 3) := by decide +kernel
theorem dX3_findBroken_8 : decode cX3_findBroken 8 = .ok (.getfield 49, 3) := by decide +kernel
theorem dX3_findBroken_11 : decode cX3_findBroken 11 = .ok (.invokestatic 54, 3) := by decide +kernel
theorem dX3_findBroken_14 : decode cX3_findBroken 14 = .ok (.iconst 0, 1) := by decide +kernel
theorem dX3_findBroken_15 : decode cX3_findBroken 15 = .ok (.istore_n 1, 1) := by decide +kernel
theorem dX3_findBroken_16 : decode cX3_findBroken 16 = .ok (.iload_n 1, 1) := by decide +kernel
theorem dX3_findBroken_17 : decode cX3_findBroken 17 = .ok (.aload_n 0, 1) := by decide +kernel
theorem dX3_findBroken_18 : decode cX3_findBroken 18 = .ok (.getfield 26, 3) := by decide +kernel
theorem dX3_findBroken_21 : decode cX3_findBroken 21 = .ok (.getfield 58, 3) := by decide +kernel
theorem dX3_findBroken_24 : decode cX3_findBroken 24 = .ok (.if_icmp .ge 94, 3) := by decide +kernel
theorem dX3_findBroken_27 : decode cX3_findBroken 27 = .ok (.aload_n 0, 1) := by decide +kernel
theorem dX3_findBroken_28 : decode cX3_findBroken 28 = .ok (.getfield 26, 3) := by decide +kernel
theorem dX3_findBroken_31 : decode cX3_findBroken 31 = .ok (.getfield 61, 3) := by decide +kernel
theorem dX3_findBroken_34 : decode cX3_findBroken 34 = .ok (.iload_n 1, 1) := by decide +kernel
theorem dX3_findBroken_35 : decode cX3_findBroken 35 = .ok (.aaload, 1) := by decide +kernel
theorem dX3_findBroken_36 : decode cX3_findBroken 36 = .ok (.getfield 65, 3) := by decide +kernel
theorem dX3_findBroken_39 : decode cX3_findBroken 39 = .ok (.ifCond .eq 73, 3) := by decide +kernel
theorem dX3_findBroken_42 : decode cX3_findBroken 42 = .ok (.aload_n 0, 1) := by decide +kernel
theorem dX3_findBroken_43 : decode cX3_findBroken 43 = .ok (.getfield 26, 3) := by decide +kernel
theorem dX3_findBroken_46 : decode cX3_findBroken 46 = .ok (.getfield 61, 3) := by decide +kernel
theorem dX3_findBroken_49 : decode cX3_findBroken 49 = .ok (.iload_n 1, 1) := by decide +kernel
theorem dX3_findBroken_50 : decode cX3_findBroken 50 = .ok (.aaload, 1) := by decide +kernel
theorem dX3_findBroken_51 : decode cX3_findBroken 51 = .ok (.getfield 71, 3) := by decide +kernel
theorem dX3_findBroken_54 : decode cX3_findBroken 54 = .ok (.iconst 5, 1) := by decide +kernel
theorem dX3_findBroken_55 : decode cX3_findBroken 55 = .ok (.if_icmp .eq 57, 3) := by decide +kernel
theorem dX3_findBroken_58 : decode cX3_findBroken 58 = .ok (.aload_n 0, 1) := by decide +kernel
theorem dX3_findBroken_59 : decode cX3_findBroken 59 = .ok (.getfield 26, 3) := by decide +kernel
theorem dX3_findBroken_62 : decode cX3_findBroken 62 = .ok (.aload_n 0, 1) := by decide +kernel
theorem dX3_findBroken_63 : decode cX3_findBroken 63 = .ok (.getfield 26, 3) := by decide +kernel
theorem dX3_findBroken_66 : decode cX3_findBroken 66 = .ok (.getfield 61, 3) := by decide +kernel
theorem dX3_findBroken_69 : decode cX3_findBroken 69 = .ok (.iload_n 1, 1) := by decide +kernel
theorem dX3_findBroken_70 : decode cX3_findBroken 70 = .ok (.aaload, 1) := by decide +kernel
theorem dX3_findBroken_71 : decode cX3_findBroken 71 = .ok (.aload_n 0, 1) := by decide +kernel
theorem dX3_findBroken_72 : decode cX3_findBroken 72 = .ok (.getfield 36, 3) := by decide +kernel
theorem dX3_findBroken_75 : decode cX3_findBroken 75 = .ok (.invokevirtual 74, 3) := by decide +kernel
theorem dX3_findBroken_78 : decode cX3_findBroken 78 = .ok (.iconst 0, 1) := by decide +kernel
theorem dX3_findBroken_79 : decode cX3_findBroken 79 = .ok (.istore_n 2, 1) := by decide +kernel
theorem dX3_findBroken_80 : decode cX3_findBroken 80 = .ok (.iload_n 2, 1) := by decide +kernel
theorem dX3_findBroken_81 : decode cX3_findBroken 81 = .ok (.aload_n 0, 1) := by decide +kernel
theorem dX3_findBroken_82 : decode cX3_findBroken 82 = .ok (.getfield 26, 3) := by decide +kernel
theorem dX3_findBroken_85 : decode cX3_findBroken 85 = .ok (.getfield 78, 3) := by decide +kernel
theorem dX3_findBroken_88 : decode cX3_findBroken 88 = .ok (.if_icmp .ge 24, 3) := by decide +kernel
theorem dX3_findBroken_91 : decode cX3_findBroken 91 = .ok (.aload_n 0, 1) := by decide +kernel
theorem dX3_findBroken_92 : decode cX3_findBroken 92 = .ok (.getfield 15, 3) := by decide +kernel
theorem dX3_findBroken_95 : decode cX3_findBroken 95 = .ok (.aload_n 0, 1) := by decide +kernel
theorem dX3_findBroken_96 : decode cX3_findBroken 96 = .ok (.getfield 26, 3) := by decide +kernel
theorem dX3_findBroken_99 : decode cX3_findBroken 99 = .ok (.getfield 81, 3) := by decide +kernel
theorem dX3_findBroken_102 : decode cX3_findBroken 102 = .ok (.iload_n 2, 1) := by decide +kernel
theorem dX3_findBroken_103 : decode cX3_findBroken 103 = .ok (.iaload, 1) := by decide +kernel
theorem dX3_findBroken_104 : decode cX3_findBroken 104 = .ok (.iconst 1, 1) := by decide +kernel
theorem dX3_findBroken_105 : decode cX3_findBroken 105 = .ok (.bastore, 1) := by decide +kernel
theorem dX3_findBroken_106 : decode cX3_findBroken 106 = .ok (.iinc 2 1, 3) := by decide +kernel
theorem dX3_findBroken_109 : decode cX3_findBroken 109 = .ok (.goto (-29), 3) := by decide +kernel
theorem dX3_findBroken_112 : decode cX3_findBroken 112 = .ok (.iinc 1 1, 3) := by decide +kernel
theorem dX3_findBroken_115 : decode cX3_findBroken 115 = .ok (.goto (-99), 3) := by decide +kernel
theorem dX3_findBroken_118 : decode cX3_findBroken 118 = .ok (.aload_n 0, 1) := by decide +kernel
theorem dX3_findBroken_119 : decode cX3_findBroken 119 = .ok (.getfield 15, 3) := by decide +kernel
theorem dX3_findBroken_122 : decode cX3_findBroken 122 = .ok (.aload_n 0, 1) := by decide +kernel
theorem dX3_findBroken_123 : decode cX3_findBroken 123 = .ok (.getfield 22, 3) := by decide +kernel
theorem dX3_findBroken_126 : decode cX3_findBroken 126 = .ok (.getfield 49, 3) := by decide +kernel
theorem dX3_findBroken_129 : decode cX3_findBroken 129 = .ok (.invokestatic 84, 3) := by decide +kernel
theorem dX3_findBroken_132 : decode cX3_findBroken 132 = .ok (.iconst 0, 1) := by decide +kernel
theorem dX3_findBroken_133 : decode cX3_findBroken 133 = .ok (.istore_n 1, 1) := by decide +kernel
theorem dX3_findBroken_134 : decode cX3_findBroken 134 = .ok (.iload_n 1, 1) := by decide +kernel
theorem dX3_findBroken_135 : decode cX3_findBroken 135 = .ok (.aload_n 0, 1) := by decide +kernel
theorem dX3_findBroken_136 : decode cX3_findBroken 136 = .ok (.getfield 26, 3) := by decide +kernel
theorem dX3_findBroken_139 : decode cX3_findBroken 139 = .ok (.getfield 58, 3) := by decide +kernel
theorem dX3_findBroken_142 : decode cX3_findBroken 142 = .ok (.if_icmp .ge 53, 3) := by decide +kernel
theorem dX3_findBroken_145 : decode cX3_findBroken 145 = .ok (.aload_n 0, 1) := by decide +kernel
theorem dX3_findBroken_146 : decode cX3_findBroken 146 = .ok (.getfield 26, 3) := by decide +kernel
theorem dX3_findBroken_149 : decode cX3_findBroken 149 = .ok (.getfield 61, 3) := by decide +kernel
theorem dX3_findBroken_152 : decode cX3_findBroken 152 = .ok (.iload_n 1, 1) := by decide +kernel
theorem dX3_findBroken_153 : decode cX3_findBroken 153 = .ok (.aaload, 1) := by decide +kernel
theorem dX3_findBroken_154 : decode cX3_findBroken 154 = .ok (.getfield 65, 3) := by decide +kernel
theorem dX3_findBroken_157 : decode cX3_findBroken 157 = .ok (.ifCond .eq 32, 3) := by decide +kernel
theorem dX3_findBroken_160 : decode cX3_findBroken 160 = .ok (.aload_n 0, 1) := by decide +kernel
theorem dX3_findBroken_161 : decode cX3_findBroken 161 = .ok (.getfield 26, 3) := by decide +kernel
theorem dX3_findBroken_164 : decode cX3_findBroken 164 = .ok (.getfield 61, 3) := by decide +kernel
theorem dX3_findBroken_167 : decode cX3_findBroken 167 = .ok (.iload_n 1, 1) := by decide +kernel
theorem dX3_findBroken_168 : decode cX3_findBroken 168 = .ok (.aaload, 1) := by decide +kernel
theorem dX3_findBroken_169 : decode cX3_findBroken 169 = .ok (.getfield 71, 3) := by decide +kernel
theorem dX3_findBroken_172 : decode cX3_findBroken 172 = .ok (.iconst 5, 1) := by decide +kernel
theorem dX3_findBroken_173 : decode cX3_findBroken 173 = .ok (.if_icmp .ne 16, 3) := by decide +kernel
theorem dX3_findBroken_176 : decode cX3_findBroken 176 = .ok (.aload_n 0, 1) := by decide +kernel
theorem dX3_findBroken_177 : decode cX3_findBroken 177 = .ok (.aload_n 0, 1) := by decide +kernel
theorem dX3_findBroken_178 : decode cX3_findBroken 178 = .ok (.getfield 26, 3) := by decide +kernel
theorem dX3_findBroken_181 : decode cX3_findBroken 181 = .ok (.getfield 61, 3) := by decide +kernel
theorem dX3_findBroken_184 : decode cX3_findBroken 184 = .ok (.iload_n 1, 1) := by decide +kernel
theorem dX3_findBroken_185 : decode cX3_findBroken 185 = .ok (.aaload, 1) := by decide +kernel
theorem dX3_findBroken_186 : decode cX3_findBroken 186 = .ok (.invokevirtual 87, 3) := by decide +kernel
theorem dX3_findBroken_189 : decode cX3_findBroken 189 = .ok (.iinc 1 1, 3) := by decide +kernel
theorem dX3_findBroken_192 : decode cX3_findBroken 192 = .ok (.goto (-58), 3) := by decide +kernel
theorem dX3_findBroken_195 : decode cX3_findBroken 195 = .ok (.return_, 1) := by decide +kernel
theorem dX3_breakAmong_0 : decode cX3_breakAmong 0 = .ok (.aload_n 0, 1) := by decide +kernel
theorem dX3_breakAmong_1 : decode cX3_breakAmong 1 = .ok (.getfield 22, 3) := by decide +kernel
theorem dX3_breakAmong_4 : decode cX3_breakAmong 4 = .ok (.aload_n 1, 1) := by decide +kernel
theorem dX3_breakAmong_5 : decode cX3_breakAmong 5 = .ok (.getfield 91, 3) := by decide +kernel
theorem dX3_breakAmong_8 : decode cX3_breakAmong 8 = .ok (.aload_n 1, 1) := by decide +kernel
theorem dX3_breakAmong_9 : decode cX3_breakAmong 9 = .ok (.getfield 94, 3) := by decide +kernel
theorem dX3_breakAmong_12 : decode cX3_breakAmong 12 = .ok (.aload_n 0, 1) := by decide +kernel
theorem dX3_breakAmong_13 : decode cX3_breakAmong 13 = .ok (.getfield 36, 3) := by decide +kernel
theorem dX3_breakAmong_16 : decode cX3_breakAmong 16 = .ok (.invokevirtual 97, 3) := by decide +kernel
theorem dX3_breakAmong_19 : decode cX3_breakAmong 19 = .ok (.istore_n 2, 1) := by decide +kernel
theorem dX3_breakAmong_20 : decode cX3_breakAmong 20 = .ok (.iconst 0, 1) := by decide +kernel
theorem dX3_breakAmong_21 : decode cX3_breakAmong 21 = .ok (.istore_n 3, 1) := by decide +kernel
theorem dX3_breakAmong_22 : decode cX3_breakAmong 22 = .ok (.iload_n 3, 1) := by decide +kernel
theorem dX3_breakAmong_23 : decode cX3_breakAmong 23 = .ok (.aload_n 0, 1) := by decide +kernel
theorem dX3_breakAmong_24 : decode cX3_breakAmong 24 = .ok (.getfield 22, 3) := by decide +kernel
theorem dX3_breakAmong_27 : decode cX3_breakAmong 27 = .ok (.getfield 49, 3) := by decide +kernel
theorem dX3_breakAmong_30 : decode cX3_breakAmong 30 = .ok (.if_icmp .ge 62, 3) := by decide +kernel
theorem dX3_breakAmong_33 : decode cX3_breakAmong 33 = .ok (.iload_n 2, 1) := by decide +kernel
theorem dX3_breakAmong_34 : decode cX3_breakAmong 34 = .ok (.iload_n 3, 1) := by decide +kernel
theorem dX3_breakAmong_35 : decode cX3_breakAmong 35 = .ok (.invokestatic 50, 3) := by decide +kernel
theorem dX3_breakAmong_38 : decode cX3_breakAmong 38 = .ok (.ifCond .eq 48, 3) := by decide +kernel
theorem dX3_breakAmong_41 : decode cX3_breakAmong 41 = .ok (.aload_n 0, 1) := by decide +kernel
theorem dX3_breakAmong_42 : decode cX3_breakAmong 42 = .ok (.getfield 22, 3) := by decide +kernel
theorem dX3_breakAmong_45 : decode cX3_breakAmong 45 = .ok (.getfield 101, 3) := by decide +kernel
theorem dX3_breakAmong_48 : decode cX3_breakAmong 48 = .ok (.iload_n 3, 1) := by decide +kernel
theorem dX3_breakAmong_49 : decode cX3_breakAmong 49 = .ok (.aaload, 1) := by decide +kernel
theorem dX3_breakAmong_50 : decode cX3_breakAmong 50 = .ok (.getfield 104, 3) := by decide +kernel
theorem dX3_breakAmong_53 : decode cX3_breakAmong 53 = .ok (.aload_n 1, 1) := by decide +kernel
theorem dX3_breakAmong_54 : decode cX3_breakAmong 54 = .ok (.getfield 94, 3) := by decide +kernel
theorem dX3_breakAmong_57 : decode cX3_breakAmong 57 = .ok (.laload, 1) := by decide +kernel
theorem dX3_breakAmong_58 : decode cX3_breakAmong 58 = .ok (.lstore 4, 2) := by decide +kernel
theorem dX3_breakAmong_60 : decode cX3_breakAmong 60 = .ok (.aload_n 0, 1) := by decide +kernel
theorem dX3_breakAmong_61 : decode cX3_breakAmong 61 = .ok (.iload_n 3, 1) := by decide +kernel
theorem dX3_breakAmong_62 : decode cX3_breakAmong 62 = .ok (.aload_n 0, 1) := by decide +kernel
theorem dX3_breakAmong_63 : decode cX3_breakAmong 63 = .ok (.getfield 22, 3) := by decide +kernel
theorem dX3_breakAmong_66 : decode cX3_breakAmong 66 = .ok (.aload_n 1, 1) := by decide +kernel
theorem dX3_breakAmong_67 : decode cX3_breakAmong 67 = .ok (.getfield 110, 3) := by decide +kernel
theorem dX3_breakAmong_70 : decode cX3_breakAmong 70 = .ok (.aload_n 1, 1) := by decide +kernel
theorem dX3_breakAmong_71 : decode cX3_breakAmong 71 = .ok (.getfield 113, 3) := by decide +kernel
theorem dX3_breakAmong_74 : decode cX3_breakAmong 74 = .ok (.lload 4, 2) := by decide +kernel
theorem dX3_breakAmong_76 : decode cX3_breakAmong 76 = .ok (.aload_n 0, 1) := by decide +kernel
theorem dX3_breakAmong_77 : decode cX3_breakAmong 77 = .ok (.getfield 36, 3) := by decide +kernel
theorem dX3_breakAmong_80 : decode cX3_breakAmong 80 = .ok (.invokevirtual 116, 3) := by decide +kernel
theorem dX3_breakAmong_83 : decode cX3_breakAmong 83 = .ok (.invokevirtual 120, 3) := by decide +kernel
theorem dX3_breakAmong_86 : decode cX3_breakAmong 86 = .ok (.iinc 3 1, 3) := by decide +kernel
theorem dX3_breakAmong_89 : decode cX3_breakAmong 89 = .ok (.goto (-67), 3) := by decide +kernel
theorem dX3_breakAmong_92 : decode cX3_breakAmong 92 = .ok (.return_, 1) := by decide +kernel
theorem dX3_breakWithout_0 : decode cX3_breakWithout 0 = .ok (.iconst 0, 1) := by decide +kernel
theorem dX3_breakWithout_1 : decode cX3_breakWithout 1 = .ok (.istore_n 3, 1) := by decide +kernel
theorem dX3_breakWithout_2 : decode cX3_breakWithout 2 = .ok (.iload_n 3, 1) := by decide +kernel
theorem dX3_breakWithout_3 : decode cX3_breakWithout 3 = .ok (.aload_n 0, 1) := by decide +kernel
theorem dX3_breakWithout_4 : decode cX3_breakWithout 4 = .ok (.getfield 36, 3) := by decide +kernel
theorem dX3_breakWithout_7 : decode cX3_breakWithout 7 = .ok (.if_icmp .gt 30, 3) := by decide +kernel
theorem dX3_breakWithout_10 : decode cX3_breakWithout 10 = .ok (.iload_n 3, 1) := by decide +kernel
theorem dX3_breakWithout_11 : decode cX3_breakWithout 11 = .ok (.iload_n 1, 1) := by decide +kernel
theorem dX3_breakWithout_12 : decode cX3_breakWithout 12 = .ok (.invokestatic 50, 3) := by decide +kernel
theorem dX3_breakWithout_15 : decode cX3_breakWithout 15 = .ok (.ifCond .eq 16, 3) := by decide +kernel
theorem dX3_breakWithout_18 : decode cX3_breakWithout 18 = .ok (.iload_n 3, 1) := by decide +kernel
theorem dX3_breakWithout_19 : decode cX3_breakWithout 19 = .ok (.iload_n 2, 1) := by decide +kernel
theorem dX3_breakWithout_20 : decode cX3_breakWithout 20 = .ok (.iand, 1) := by decide +kernel
theorem dX3_breakWithout_21 : decode cX3_breakWithout 21 = .ok (.ifCond .ne 10, 3) := by decide +kernel
theorem dX3_breakWithout_24 : decode cX3_breakWithout 24 = .ok (.aload_n 0, 1) := by decide +kernel
theorem dX3_breakWithout_25 : decode cX3_breakWithout 25 = .ok (.getfield 15, 3) := by decide +kernel
theorem dX3_breakWithout_28 : decode cX3_breakWithout 28 = .ok (.iload_n 3, 1) := by decide +kernel
theorem dX3_breakWithout_29 : decode cX3_breakWithout 29 = .ok (.iconst 1, 1) := by decide +kernel
theorem dX3_breakWithout_30 : decode cX3_breakWithout 30 = .ok (.bastore, 1) := by decide +kernel
theorem dX3_breakWithout_31 : decode cX3_breakWithout 31 = .ok (.iinc 3 1, 3) := by decide +kernel
theorem dX3_breakWithout_34 : decode cX3_breakWithout 34 = .ok (.goto (-32), 3) := by decide +kernel
theorem dX3_breakWithout_37 : decode cX3_breakWithout 37 = .ok (.return_, 1) := by decide +kernel
theorem dX3_leftBy_0 : decode cX3_leftBy 0 = .ok (.aload_n 0, 1) := by decide +kernel
theorem dX3_leftBy_1 : decode cX3_leftBy 1 = .ok (.getfield 36, 3) := by decide +kernel
theorem dX3_leftBy_4 : decode cX3_leftBy 4 = .ok (.aload_n 0, 1) := by decide +kernel
theorem dX3_leftBy_5 : decode cX3_leftBy 5 = .ok (.getfield 9, 3) := by decide +kernel
theorem dX3_leftBy_8 : decode cX3_leftBy 8 = .ok (.iload_n 1, 1) := by decide +kernel
theorem dX3_leftBy_9 : decode cX3_leftBy 9 = .ok (.iaload, 1) := by decide +kernel
theorem dX3_leftBy_10 : decode cX3_leftBy 10 = .ok (.ixor, 1) := by decide +kernel
theorem dX3_leftBy_11 : decode cX3_leftBy 11 = .ok (.ireturn, 1) := by decide +kernel
theorem dX3_cheapest_0 : decode cX3_cheapest 0 = .ok (.aload_n 0, 1) := by decide +kernel
theorem dX3_cheapest_1 : decode cX3_cheapest 1 = .ok (.getfield 9, 3) := by decide +kernel
theorem dX3_cheapest_4 : decode cX3_cheapest 4 = .ok (.iconst 0, 1) := by decide +kernel
theorem dX3_cheapest_5 : decode cX3_cheapest 5 = .ok (.iaload, 1) := by decide +kernel
theorem dX3_cheapest_6 : decode cX3_cheapest 6 = .ok (.istore_n 1, 1) := by decide +kernel
theorem dX3_cheapest_7 : decode cX3_cheapest 7 = .ok (.aload_n 0, 1) := by decide +kernel
theorem dX3_cheapest_8 : decode cX3_cheapest 8 = .ok (.getfield 22, 3) := by decide +kernel
theorem dX3_cheapest_11 : decode cX3_cheapest 11 = .ok (.iload_n 1, 1) := by decide +kernel
theorem dX3_cheapest_12 : decode cX3_cheapest 12 = .ok (.invokevirtual 124, 3) := by decide +kernel
theorem dX3_cheapest_15 : decode cX3_cheapest 15 = .ok (.istore_n 2, 1) := by decide +kernel
theorem dX3_cheapest_16 : decode cX3_cheapest 16 = .ok (.iconst 1, 1) := by decide +kernel
theorem dX3_cheapest_17 : decode cX3_cheapest 17 = .ok (.istore_n 3, 1) := by decide +kernel
theorem dX3_cheapest_18 : decode cX3_cheapest 18 = .ok (.iload_n 3, 1) := by decide +kernel
theorem dX3_cheapest_19 : decode cX3_cheapest 19 = .ok (.aload_n 0, 1) := by decide +kernel
theorem dX3_cheapest_20 : decode cX3_cheapest 20 = .ok (.getfield 42, 3) := by decide +kernel
theorem dX3_cheapest_23 : decode cX3_cheapest 23 = .ok (.if_icmp .ge 40, 3) := by decide +kernel
theorem dX3_cheapest_26 : decode cX3_cheapest 26 = .ok (.aload_n 0, 1) := by decide +kernel
theorem dX3_cheapest_27 : decode cX3_cheapest 27 = .ok (.getfield 22, 3) := by decide +kernel
theorem dX3_cheapest_30 : decode cX3_cheapest 30 = .ok (.aload_n 0, 1) := by decide +kernel
theorem dX3_cheapest_31 : decode cX3_cheapest 31 = .ok (.getfield 9, 3) := by decide +kernel
theorem dX3_cheapest_34 : decode cX3_cheapest 34 = .ok (.iload_n 3, 1) := by decide +kernel
theorem dX3_cheapest_35 : decode cX3_cheapest 35 = .ok (.iaload, 1) := by decide +kernel
theorem dX3_cheapest_36 : decode cX3_cheapest 36 = .ok (.invokevirtual 124, 3) := by decide +kernel
theorem dX3_cheapest_39 : decode cX3_cheapest 39 = .ok (.istore 4, 2) := by decide +kernel
theorem dX3_cheapest_41 : decode cX3_cheapest 41 = .ok (.iload 4, 2) := by decide +kernel
theorem dX3_cheapest_43 : decode cX3_cheapest 43 = .ok (.iload_n 2, 1) := by decide +kernel
theorem dX3_cheapest_44 : decode cX3_cheapest 44 = .ok (.if_icmp .ge 13, 3) := by decide +kernel
theorem dX3_cheapest_47 : decode cX3_cheapest 47 = .ok (.aload_n 0, 1) := by decide +kernel
theorem dX3_cheapest_48 : decode cX3_cheapest 48 = .ok (.getfield 9, 3) := by decide +kernel
theorem dX3_cheapest_51 : decode cX3_cheapest 51 = .ok (.iload_n 3, 1) := by decide +kernel
theorem dX3_cheapest_52 : decode cX3_cheapest 52 = .ok (.iaload, 1) := by decide +kernel
theorem dX3_cheapest_53 : decode cX3_cheapest 53 = .ok (.istore_n 1, 1) := by decide +kernel
theorem dX3_cheapest_54 : decode cX3_cheapest 54 = .ok (.iload 4, 2) := by decide +kernel
theorem dX3_cheapest_56 : decode cX3_cheapest 56 = .ok (.istore_n 2, 1) := by decide +kernel
theorem dX3_cheapest_57 : decode cX3_cheapest 57 = .ok (.iinc 3 1, 3) := by decide +kernel
theorem dX3_cheapest_60 : decode cX3_cheapest 60 = .ok (.goto (-42), 3) := by decide +kernel
theorem dX3_cheapest_63 : decode cX3_cheapest 63 = .ok (.iload_n 1, 1) := by decide +kernel
theorem dX3_cheapest_64 : decode cX3_cheapest 64 = .ok (.ireturn, 1) := by decide +kernel
theorem dX4_init_0 : decode cX4_init 0 = .ok (.aload_n 0, 1) := by decide +kernel
theorem dX4_init_1 : decode cX4_init 1 = .ok (.invokespecial 3, 3) := by decide +kernel
theorem dX4_init_4 : decode cX4_init 4 = .ok (.aload_n 0, 1) := by decide +kernel
theorem dX4_init_5 : decode cX4_init 5 = .ok (.bipush 6, 2) := by decide +kernel
theorem dX4_init_7 : decode cX4_init 7 = .ok (.newarray .boolean, 2) := by decide +kernel
theorem dX4_init_9 : decode cX4_init 9 = .ok (.putfield 9, 3) := by decide +kernel
theorem dX4_init_12 : decode cX4_init 12 = .ok (.aload_n 0, 1) := by decide +kernel
theorem dX4_init_13 : decode cX4_init 13 = .ok (.bipush 6, 2) := by decide +kernel
theorem dX4_init_15 : decode cX4_init 15 = .ok (.newarray .long, 2) := by decide +kernel
theorem dX4_init_17 : decode cX4_init 17 = .ok (.putfield 15, 3) := by decide +kernel
theorem dX4_init_20 : decode cX4_init 20 = .ok (.return_, 1) := by decide +kernel
theorem dX5_init_0 : decode cX5_init 0 = .ok (.aload_n 0, 1) := by decide +kernel
theorem dX5_init_1 : decode cX5_init 1 = .ok (.invokespecial 3, 3) := by decide +kernel
theorem dX5_init_4 : decode cX5_init 4 = .ok (.aload_n 0, 1) := by decide +kernel
theorem dX5_init_5 : decode cX5_init 5 = .ok (.iconst 3, 1) := by decide +kernel
theorem dX5_init_6 : decode cX5_init 6 = .ok (.anewarray 9, 3) := by decide +kernel
theorem dX5_init_9 : decode cX5_init 9 = .ok (.putfield 11, 3) := by decide +kernel
theorem dX5_init_12 : decode cX5_init 12 = .ok (.aload_n 0, 1) := by decide +kernel
theorem dX5_init_13 : decode cX5_init 13 = .ok (.bipush 6, 2) := by decide +kernel
theorem dX5_init_15 : decode cX5_init 15 = .ok (.anewarray 17, 3) := by decide +kernel
theorem dX5_init_18 : decode cX5_init 18 = .ok (.putfield 19, 3) := by decide +kernel
theorem dX5_init_21 : decode cX5_init 21 = .ok (.aload_n 0, 1) := by decide +kernel
theorem dX5_init_22 : decode cX5_init 22 = .ok (.iconst 3, 1) := by decide +kernel
theorem dX5_init_23 : decode cX5_init 23 = .ok (.newarray .int, 2) := by decide +kernel
theorem dX5_init_25 : decode cX5_init 25 = .ok (.putfield 23, 3) := by decide +kernel
theorem dX5_init_28 : decode cX5_init 28 = .ok (.aload_n 0, 1) := by decide +kernel
theorem dX5_init_29 : decode cX5_init 29 = .ok (.iconst 3, 1) := by decide +kernel
theorem dX5_init_30 : decode cX5_init 30 = .ok (.newarray .int, 2) := by decide +kernel
theorem dX5_init_32 : decode cX5_init 32 = .ok (.putfield 27, 3) := by decide +kernel
theorem dX5_init_35 : decode cX5_init 35 = .ok (.aload_n 0, 1) := by decide +kernel
theorem dX5_init_36 : decode cX5_init 36 = .ok (.sipush 4096, 3) := by decide +kernel
theorem dX5_init_39 : decode cX5_init 39 = .ok (.newarray .boolean, 2) := by decide +kernel
theorem dX5_init_41 : decode cX5_init 41 = .ok (.putfield 30, 3) := by decide +kernel
theorem dX5_init_44 : decode cX5_init 44 = .ok (.aload_n 0, 1) := by decide +kernel
theorem dX5_init_45 : decode cX5_init 45 = .ok (.aload_n 1, 1) := by decide +kernel
theorem dX5_init_46 : decode cX5_init 46 = .ok (.putfield 34, 3) := by decide +kernel
theorem dX5_init_49 : decode cX5_init 49 = .ok (.iconst 0, 1) := by decide +kernel
theorem dX5_init_50 : decode cX5_init 50 = .ok (.istore_n 2, 1) := by decide +kernel
theorem dX5_init_51 : decode cX5_init 51 = .ok (.iload_n 2, 1) := by decide +kernel
theorem dX5_init_52 : decode cX5_init 52 = .ok (.iconst 3, 1) := by decide +kernel
theorem dX5_init_53 : decode cX5_init 53 = .ok (.if_icmp .ge 22, 3) := by decide +kernel
theorem dX5_init_56 : decode cX5_init 56 = .ok (.aload_n 0, 1) := by decide +kernel
theorem dX5_init_57 : decode cX5_init 57 = .ok (.getfield 11, 3) := by decide +kernel
theorem dX5_init_60 : decode cX5_init 60 = .ok (.iload_n 2, 1) := by decide +kernel
theorem dX5_init_61 : decode cX5_init 61 = .ok (.new 9, 3) := by decide +kernel
theorem dX5_init_64 : decode cX5_init 64 = .ok (.dup, 1) := by decide +kernel
theorem dX5_init_65 : decode cX5_init 65 = .ok (.invokespecial 38, 3) := by decide +kernel
theorem dX5_init_68 : decode cX5_init 68 = .ok (.aastore, 1) := by decide +kernel
theorem dX5_init_69 : decode cX5_init 69 = .ok (.iinc 2 1, 3) := by decide +kernel
theorem dX5_init_72 : decode cX5_init 72 = .ok (.goto (-21), 3) := by decide +kernel
theorem dX5_init_75 : decode cX5_init 75 = .ok (.iconst 0, 1) := by decide +kernel
theorem dX5_init_76 : decode cX5_init 76 = .ok (.istore_n 2, 1) := by decide +kernel
theorem dX5_init_77 : decode cX5_init 77 = .ok (.iload_n 2, 1) := by decide +kernel
theorem dX5_init_78 : decode cX5_init 78 = .ok (.bipush 6, 2) := by decide +kernel
theorem dX5_init_80 : decode cX5_init 80 = .ok (.if_icmp .ge 22, 3) := by decide +kernel
theorem dX5_init_83 : decode cX5_init 83 = .ok (.aload_n 0, 1) := by decide +kernel
theorem dX5_init_84 : decode cX5_init 84 = .ok (.getfield 19, 3) := by decide +kernel
theorem dX5_init_87 : decode cX5_init 87 = .ok (.iload_n 2, 1) := by decide +kernel
theorem dX5_init_88 : decode cX5_init 88 = .ok (.new 17, 3) := by decide +kernel
theorem dX5_init_91 : decode cX5_init 91 = .ok (.dup, 1) := by decide +kernel
theorem dX5_init_92 : decode cX5_init 92 = .ok (.invokespecial 39, 3) := by decide +kernel
theorem dX5_init_95 : decode cX5_init 95 = .ok (.aastore, 1) := by decide +kernel
theorem dX5_init_96 : decode cX5_init 96 = .ok (.iinc 2 1, 3) := by decide +kernel
theorem dX5_init_99 : decode cX5_init 99 = .ok (.goto (-22), 3) := by decide +kernel
theorem dX5_init_102 : decode cX5_init 102 = .ok (.return_, 1) := by decide +kernel
theorem dX5_clear_0 : decode cX5_clear 0 = .ok (.aload_n 0, 1) := by decide +kernel
theorem dX5_clear_1 : decode cX5_clear 1 = .ok (.iconst 0, 1) := by decide +kernel
theorem dX5_clear_2 : decode cX5_clear 2 = .ok (.putfield 40, 3) := by decide +kernel
theorem dX5_clear_5 : decode cX5_clear 5 = .ok (.aload_n 0, 1) := by decide +kernel
theorem dX5_clear_6 : decode cX5_clear 6 = .ok (.iconst 0, 1) := by decide +kernel
theorem dX5_clear_7 : decode cX5_clear 7 = .ok (.putfield 44, 3) := by decide +kernel
theorem dX5_clear_10 : decode cX5_clear 10 = .ok (.return_, 1) := by decide +kernel
theorem dX5_addPart_0 : decode cX5_addPart 0 = .ok (.aload_n 0, 1) := by decide +kernel
theorem dX5_addPart_1 : decode cX5_addPart 1 = .ok (.getfield 11, 3) := by decide +kernel
theorem dX5_addPart_4 : decode cX5_addPart 4 = .ok (.aload_n 0, 1) := by decide +kernel
theorem dX5_addPart_5 : decode cX5_addPart 5 = .ok (.getfield 40, 3) := by decide +kernel
theorem dX5_addPart_8 : decode cX5_addPart 8 = .ok (.aaload, 1) := by decide +kernel
theorem dX5_addPart_9 : decode cX5_addPart 9 = .ok (.astore_n 2, 1) := by decide +kernel
theorem dX5_addPart_10 : decode cX5_addPart 10 = .ok (.aload_n 2, 1) := by decide +kernel
theorem dX5_addPart_11 : decode cX5_addPart 11 = .ok (.iload_n 1, 1) := by decide +kernel
theorem dX5_addPart_12 : decode cX5_addPart 12 = .ok (.putfield 47, 3) := by decide +kernel
theorem dX5_addPart_15 : decode cX5_addPart 15 = .ok (.iconst 0, 1) := by decide +kernel
theorem dX5_addPart_16 : decode cX5_addPart 16 = .ok (.istore_n 3, 1) := by decide +kernel
theorem dX5_addPart_17 : decode cX5_addPart 17 = .ok (.iload_n 3, 1) := by decide +kernel
theorem dX5_addPart_18 : decode cX5_addPart 18 = .ok (.bipush 6, 2) := by decide +kernel
theorem dX5_addPart_20 : decode cX5_addPart 20 = .ok (.if_icmp .ge 16, 3) := by decide +kernel
theorem dX5_addPart_23 : decode cX5_addPart 23 = .ok (.aload_n 2, 1) := by decide +kernel
theorem dX5_addPart_24 : decode cX5_addPart 24 = .ok (.getfield 50, 3) := by decide +kernel
theorem dX5_addPart_27 : decode cX5_addPart 27 = .ok (.iload_n 3, 1) := by decide +kernel
theorem dX5_addPart_28 : decode cX5_addPart 28 = .ok (.iconst 0, 1) := by decide +kernel
theorem dX5_addPart_29 : decode cX5_addPart 29 = .ok (.bastore, 1) := by decide +kernel
theorem dX5_addPart_30 : decode cX5_addPart 30 = .ok (.iinc 3 1, 3) := by decide +kernel
theorem dX5_addPart_33 : decode cX5_addPart 33 = .ok (.goto (-16), 3) := by decide +kernel
theorem dX5_addPart_36 : decode cX5_addPart 36 = .ok (.aload_n 0, 1) := by decide +kernel
theorem dX5_addPart_37 : decode cX5_addPart 37 = .ok (.dup, 1) := by decide +kernel
theorem dX5_addPart_38 : decode cX5_addPart 38 = .ok (.getfield 40, 3) := by decide +kernel
theorem dX5_addPart_41 : decode cX5_addPart 41 = .ok (.iconst 1, 1) := by decide +kernel
theorem dX5_addPart_42 : decode cX5_addPart 42 = .ok (.iadd, 1) := by decide +kernel
theorem dX5_addPart_43 : decode cX5_addPart 43 = .ok (.putfield 40, 3) := by decide +kernel
theorem dX5_addPart_46 : decode cX5_addPart 46 = .ok (.aload_n 0, 1) := by decide +kernel
theorem dX5_addPart_47 : decode cX5_addPart 47 = .ok (.getfield 40, 3) := by decide +kernel
theorem dX5_addPart_50 : decode cX5_addPart 50 = .ok (.iconst 1, 1) := by decide +kernel
theorem dX5_addPart_51 : decode cX5_addPart 51 = .ok (.isub, 1) := by decide +kernel
theorem dX5_addPart_52 : decode cX5_addPart 52 = .ok (.ireturn, 1) := by decide +kernel
theorem dX5_addJoin_0 : decode cX5_addJoin 0 = .ok (.aload_n 0, 1) := by decide +kernel
theorem dX5_addJoin_1 : decode cX5_addJoin 1 = .ok (.getfield 19, 3) := by decide +kernel
theorem dX5_addJoin_4 : decode cX5_addJoin 4 = .ok (.aload_n 0, 1) := by decide +kernel
theorem dX5_addJoin_5 : decode cX5_addJoin 5 = .ok (.getfield 44, 3) := by decide +kernel
theorem dX5_addJoin_8 : decode cX5_addJoin 8 = .ok (.aaload, 1) := by decide +kernel
theorem dX5_addJoin_9 : decode cX5_addJoin 9 = .ok (.astore 5, 2) := by decide +kernel
theorem dX5_addJoin_11 : decode cX5_addJoin 11 = .ok (.aload 5, 2) := by decide +kernel
theorem dX5_addJoin_13 : decode cX5_addJoin 13 = .ok (.iload_n 1, 1) := by decide +kernel
theorem dX5_addJoin_14 : decode cX5_addJoin 14 = .ok (.putfield 53, 3) := by decide +kernel
theorem dX5_addJoin_17 : decode cX5_addJoin 17 = .ok (.aload 5, 2) := by decide +kernel
theorem dX5_addJoin_19 : decode cX5_addJoin 19 = .ok (.iload_n 2, 1) := by decide +kernel
theorem dX5_addJoin_20 : decode cX5_addJoin 20 = .ok (.putfield 56, 3) := by decide +kernel
theorem dX5_addJoin_23 : decode cX5_addJoin 23 = .ok (.aload 5, 2) := by decide +kernel
theorem dX5_addJoin_25 : decode cX5_addJoin 25 = .ok (.iload_n 3, 1) := by decide +kernel
theorem dX5_addJoin_26 : decode cX5_addJoin 26 = .ok (.putfield 59, 3) := by decide +kernel
theorem dX5_addJoin_29 : decode cX5_addJoin 29 = .ok (.aload 5, 2) := by decide +kernel
theorem dX5_addJoin_31 : decode cX5_addJoin 31 = .ok (.iload 4, 2) := by decide +kernel
theorem dX5_addJoin_33 : decode cX5_addJoin 33 = .ok (.putfield 62, 3) := by decide +kernel
theorem dX5_addJoin_36 : decode cX5_addJoin 36 = .ok (.aload_n 0, 1) := by decide +kernel
theorem dX5_addJoin_37 : decode cX5_addJoin 37 = .ok (.dup, 1) := by decide +kernel
theorem dX5_addJoin_38 : decode cX5_addJoin 38 = .ok (.getfield 44, 3) := by decide +kernel
theorem dX5_addJoin_41 : decode cX5_addJoin 41 = .ok (.iconst 1, 1) := by decide +kernel
theorem dX5_addJoin_42 : decode cX5_addJoin 42 = .ok (.iadd, 1) := by decide +kernel
theorem dX5_addJoin_43 : decode cX5_addJoin 43 = .ok (.putfield 44, 3) := by decide +kernel
theorem dX5_addJoin_46 : decode cX5_addJoin 46 = .ok (.aload_n 0, 1) := by decide +kernel
theorem dX5_addJoin_47 : decode cX5_addJoin 47 = .ok (.getfield 44, 3) := by decide +kernel
theorem dX5_addJoin_50 : decode cX5_addJoin 50 = .ok (.ireturn, 1) := by decide +kernel
theorem dX5_standsIn_0 : decode cX5_standsIn 0 = .ok (.aload_n 0, 1) := by decide +kernel
theorem dX5_standsIn_1 : decode cX5_standsIn 1 = .ok (.iload_n 1, 1) := by decide +kernel
theorem dX5_standsIn_2 : decode cX5_standsIn 2 = .ok (.invokevirtual 65, 3) := by decide +kernel
theorem dX5_standsIn_5 : decode cX5_standsIn 5 = .ok (.aload_n 0, 1) := by decide +kernel
theorem dX5_standsIn_6 : decode cX5_standsIn 6 = .ok (.invokevirtual 69, 3) := by decide +kernel
theorem dX5_standsIn_9 : decode cX5_standsIn 9 = .ok (.istore_n 2, 1) := by decide +kernel
theorem dX5_standsIn_10 : decode cX5_standsIn 10 = .ok (.iconst 0, 1) := by decide +kernel
theorem dX5_standsIn_11 : decode cX5_standsIn 11 = .ok (.istore_n 3, 1) := by decide +kernel
theorem dX5_standsIn_12 : decode cX5_standsIn 12 = .ok (.iload_n 3, 1) := by decide +kernel
theorem dX5_standsIn_13 : decode cX5_standsIn 13 = .ok (.iload_n 2, 1) := by decide +kernel
theorem dX5_standsIn_14 : decode cX5_standsIn 14 = .ok (.if_icmp .ge 19, 3) := by decide +kernel
theorem dX5_standsIn_17 : decode cX5_standsIn 17 = .ok (.aload_n 0, 1) := by decide +kernel
theorem dX5_standsIn_18 : decode cX5_standsIn 18 = .ok (.iload_n 3, 1) := by decide +kernel
theorem dX5_standsIn_19 : decode cX5_standsIn 19 = .ok (.invokevirtual 73, 3) := by decide +kernel
theorem dX5_standsIn_22 : decode cX5_standsIn 22 = .ok (.ifCond .eq 5, 3) := by decide +kernel
theorem dX5_standsIn_25 : decode cX5_standsIn 25 = .ok (.iconst 1, 1) := by decide +kernel
theorem dX5_standsIn_26 : decode cX5_standsIn 26 = .ok (.ireturn, 1) := by decide +kernel
theorem dX5_standsIn_27 : decode cX5_standsIn 27 = .ok (.iinc 3 1, 3) := by decide +kernel
theorem dX5_standsIn_30 : decode cX5_standsIn 30 = .ok (.goto (-18), 3) := by decide +kernel
theorem dX5_standsIn_33 : decode cX5_standsIn 33 = .ok (.iconst 0, 1) := by decide +kernel
theorem dX5_standsIn_34 : decode cX5_standsIn 34 = .ok (.ireturn, 1) := by decide +kernel
theorem dX5_findStanding_0 : decode cX5_findStanding 0 = .ok (.aload_n 0, 1) := by decide +kernel
theorem dX5_findStanding_1 : decode cX5_findStanding 1 = .ok (.getfield 30, 3) := by decide +kernel
theorem dX5_findStanding_4 : decode cX5_findStanding 4 = .ok (.aload_n 0, 1) := by decide +kernel
theorem dX5_findStanding_5 : decode cX5_findStanding 5 = .ok (.getfield 34, 3) := by decide +kernel
theorem dX5_findStanding_8 : decode cX5_findStanding 8 = .ok (.getfield 77, 3) := by decide +kernel
theorem dX5_findStanding_11 : decode cX5_findStanding 11 = .ok (.invokestatic 82, 3) := by decide +kernel
theorem dX5_findStanding_14 : decode cX5_findStanding 14 = .ok (.aload_n 0, 1) := by decide +kernel
theorem dX5_findStanding_15 : decode cX5_findStanding 15 = .ok (.iload_n 1, 1) := by decide +kernel
theorem dX5_findStanding_16 : decode cX5_findStanding 16 = .ok (.invokevirtual 65, 3) := by decide +kernel
theorem dX5_findStanding_19 : decode cX5_findStanding 19 = .ok (.aload_n 0, 1) := by decide +kernel
theorem dX5_findStanding_20 : decode cX5_findStanding 20 = .ok (.invokevirtual 69, 3) := by decide +kernel
theorem dX5_findStanding_23 : decode cX5_findStanding 23 = .ok (.istore_n 2, 1) := by decide +kernel
theorem dX5_findStanding_24 : decode cX5_findStanding 24 = .ok (.iconst 0, 1) := by decide +kernel
theorem dX5_findStanding_25 : decode cX5_findStanding 25 = .ok (.istore_n 3, 1) := by decide +kernel
theorem dX5_findStanding_26 : decode cX5_findStanding 26 = .ok (.iload_n 3, 1) := by decide +kernel
theorem dX5_findStanding_27 : decode cX5_findStanding 27 = .ok (.iload_n 2, 1) := by decide +kernel
theorem dX5_findStanding_28 : decode cX5_findStanding 28 = .ok (.if_icmp .ge 27, 3) := by decide +kernel
theorem dX5_findStanding_31 : decode cX5_findStanding 31 = .ok (.aload_n 0, 1) := by decide +kernel
theorem dX5_findStanding_32 : decode cX5_findStanding 32 = .ok (.iload_n 3, 1) := by decide +kernel
theorem dX5_findStanding_33 : decode cX5_findStanding 33 = .ok (.invokevirtual 73, 3) := by decide +kernel
theorem dX5_findStanding_36 : decode cX5_findStanding 36 = .ok (.ifCond .eq 13, 3) := by decide +kernel
theorem dX5_findStanding_39 : decode cX5_findStanding 39 = .ok (.aload_n 0, 1) := by decide +kernel
theorem dX5_findStanding_40 : decode cX5_findStanding 40 = .ok (.getfield 30, 3) := by decide +kernel
theorem dX5_findStanding_43 : decode cX5_findStanding 43 = .ok (.aload_n 0, 1) := by decide +kernel
theorem dX5_findStanding_44 : decode cX5_findStanding 44 = .ok (.invokevirtual 86, 3) := by decide +kernel
theorem dX5_findStanding_47 : decode cX5_findStanding 47 = .ok (.iconst 1, 1) := by decide +kernel
theorem dX5_findStanding_48 : decode cX5_findStanding 48 = .ok (.bastore, 1) := by decide +kernel
theorem dX5_findStanding_49 : decode cX5_findStanding 49 = .ok (.iinc 3 1, 3) := by decide +kernel
theorem dX5_findStanding_52 : decode cX5_findStanding 52 = .ok (.goto (-26), 3) := by decide +kernel
theorem dX5_findStanding_55 : decode cX5_findStanding 55 = .ok (.aload_n 0, 1) := by decide +kernel
theorem dX5_findStanding_56 : decode cX5_findStanding 56 = .ok (.getfield 30, 3) := by decide +kernel
theorem dX5_findStanding_59 : decode cX5_findStanding 59 = .ok (.aload_n 0, 1) := by decide +kernel
theorem dX5_findStanding_60 : decode cX5_findStanding 60 = .ok (.getfield 34, 3) := by decide +kernel
theorem dX5_findStanding_63 : decode cX5_findStanding 63 = .ok (.getfield 77, 3) := by decide +kernel
theorem dX5_findStanding_66 : decode cX5_findStanding 66 = .ok (.invokestatic 89, 3) := by decide +kernel
theorem dX5_findStanding_69 : decode cX5_findStanding 69 = .ok (.return_, 1) := by decide +kernel
theorem dX5_findFitting_0 : decode cX5_findFitting 0 = .ok (.iconst 0, 1) := by decide +kernel
theorem dX5_findFitting_1 : decode cX5_findFitting 1 = .ok (.istore_n 2, 1) := by decide +kernel
theorem dX5_findFitting_2 : decode cX5_findFitting 2 = .ok (.iload_n 2, 1) := by decide +kernel
theorem dX5_findFitting_3 : decode cX5_findFitting 3 = .ok (.aload_n 0, 1) := by decide +kernel
theorem dX5_findFitting_4 : decode cX5_findFitting 4 = .ok (.getfield 40, 3) := by decide +kernel
theorem dX5_findFitting_7 : decode cX5_findFitting 7 = .ok (.if_icmp .ge 26, 3) := by decide +kernel
theorem dX5_findFitting_10 : decode cX5_findFitting 10 = .ok (.aload_n 0, 1) := by decide +kernel
theorem dX5_findFitting_11 : decode cX5_findFitting 11 = .ok (.getfield 23, 3) := by decide +kernel
theorem dX5_findFitting_14 : decode cX5_findFitting 14 = .ok (.iload_n 2, 1) := by decide +kernel
theorem dX5_findFitting_15 : decode cX5_findFitting 15 = .ok (.aload_n 0, 1) := by decide +kernel
theorem dX5_findFitting_16 : decode cX5_findFitting 16 = .ok (.aload_n 0, 1) := by decide +kernel
theorem dX5_findFitting_17 : decode cX5_findFitting 17 = .ok (.getfield 11, 3) := by decide +kernel
theorem dX5_findFitting_20 : decode cX5_findFitting 20 = .ok (.iload_n 2, 1) := by decide +kernel
theorem dX5_findFitting_21 : decode cX5_findFitting 21 = .ok (.aaload, 1) := by decide +kernel
theorem dX5_findFitting_22 : decode cX5_findFitting 22 = .ok (.iload_n 1, 1) := by decide +kernel
theorem dX5_findFitting_23 : decode cX5_findFitting 23 = .ok (.invokevirtual 92, 3) := by decide +kernel
theorem dX5_findFitting_26 : decode cX5_findFitting 26 = .ok (.iastore, 1) := by decide +kernel
theorem dX5_findFitting_27 : decode cX5_findFitting 27 = .ok (.iinc 2 1, 3) := by decide +kernel
theorem dX5_findFitting_30 : decode cX5_findFitting 30 = .ok (.goto (-28), 3) := by decide +kernel
theorem dX5_findFitting_33 : decode cX5_findFitting 33 = .ok (.return_, 1) := by decide +kernel
theorem dX5_fittingOf_0 : decode cX5_fittingOf 0 = .ok (.iconst 0, 1) := by decide +kernel
theorem dX5_fittingOf_1 : decode cX5_fittingOf 1 = .ok (.istore_n 3, 1) := by decide +kernel
theorem dX5_fittingOf_2 : decode cX5_fittingOf 2 = .ok (.iconst 0, 1) := by decide +kernel
theorem dX5_fittingOf_3 : decode cX5_fittingOf 3 = .ok (.istore 4, 2) := by decide +kernel
theorem dX5_fittingOf_5 : decode cX5_fittingOf 5 = .ok (.iload 4, 2) := by decide +kernel
theorem dX5_fittingOf_7 : decode cX5_fittingOf 7 = .ok (.aload_n 0, 1) := by decide +kernel
theorem dX5_fittingOf_8 : decode cX5_fittingOf 8 = .ok (.getfield 34, 3) := by decide +kernel
theorem dX5_fittingOf_11 : decode cX5_fittingOf 11 = .ok (.getfield 77, 3) := by decide +kernel
theorem dX5_fittingOf_14 : decode cX5_fittingOf 14 = .ok (.if_icmp .ge 63, 3) := by decide +kernel
theorem dX5_fittingOf_17 : decode cX5_fittingOf 17 = .ok (.iload_n 2, 1) := by decide +kernel
theorem dX5_fittingOf_18 : decode cX5_fittingOf 18 = .ok (.iload 4, 2) := by decide +kernel
theorem dX5_fittingOf_20 : decode cX5_fittingOf 20 = .ok (.invokestatic 96, 3) := by decide +kernel
theorem dX5_fittingOf_23 : decode cX5_fittingOf 23 = .ok (.ifCond .eq 48, 3) := by decide +kernel
theorem dX5_fittingOf_26 : decode cX5_fittingOf 26 = .ok (.aload_n 0, 1) := by decide +kernel
theorem dX5_fittingOf_27 : decode cX5_fittingOf 27 = .ok (.getfield 34, 3) := by decide +kernel
theorem dX5_fittingOf_30 : decode cX5_fittingOf 30 = .ok (.getfield 100, 3) := by decide +kernel
theorem dX5_fittingOf_33 : decode cX5_fittingOf 33 = .ok (.iload 4, 2) := by decide +kernel
theorem dX5_fittingOf_35 : decode cX5_fittingOf 35 = .ok (.aaload, 1) := by decide +kernel
theorem dX5_fittingOf_36 : decode cX5_fittingOf 36 = .ok (.getfield 104, 3) := by decide +kernel
theorem dX5_fittingOf_39 : decode cX5_fittingOf 39 = .ok (.aload_n 1, 1) := by decide +kernel
theorem dX5_fittingOf_40 : decode cX5_fittingOf 40 = .ok (.getfield 47, 3) := by decide +kernel
theorem dX5_fittingOf_43 : decode cX5_fittingOf 43 = .ok (.if_icmp .ne 28, 3) := by decide +kernel
theorem dX5_fittingOf_46 : decode cX5_fittingOf 46 = .ok (.aload_n 0, 1) := by decide +kernel
theorem dX5_fittingOf_47 : decode cX5_fittingOf 47 = .ok (.aload_n 1, 1) := by decide +kernel
theorem dX5_fittingOf_48 : decode cX5_fittingOf 48 = .ok (.aload_n 0, 1) := by decide +kernel
theorem dX5_fittingOf_49 : decode cX5_fittingOf 49 = .ok (.getfield 34, 3) := by decide +kernel
theorem dX5_fittingOf_52 : decode cX5_fittingOf 52 = .ok (.getfield 100, 3) := by decide +kernel
theorem dX5_fittingOf_55 : decode cX5_fittingOf 55 = .ok (.iload 4, 2) := by decide +kernel
theorem dX5_fittingOf_57 : decode cX5_fittingOf 57 = .ok (.aaload, 1) := by decide +kernel
theorem dX5_fittingOf_58 : decode cX5_fittingOf 58 = .ok (.invokevirtual 107, 3) := by decide +kernel
theorem dX5_fittingOf_61 : decode cX5_fittingOf 61 = .ok (.ifCond .eq 10, 3) := by decide +kernel
theorem dX5_fittingOf_64 : decode cX5_fittingOf 64 = .ok (.iload_n 3, 1) := by decide +kernel
theorem dX5_fittingOf_65 : decode cX5_fittingOf 65 = .ok (.iconst 1, 1) := by decide +kernel
theorem dX5_fittingOf_66 : decode cX5_fittingOf 66 = .ok (.iload 4, 2) := by decide +kernel
theorem dX5_fittingOf_68 : decode cX5_fittingOf 68 = .ok (.ishl, 1) := by decide +kernel
theorem dX5_fittingOf_69 : decode cX5_fittingOf 69 = .ok (.ior, 1) := by decide +kernel
theorem dX5_fittingOf_70 : decode cX5_fittingOf 70 = .ok (.istore_n 3, 1) := by decide +kernel
theorem dX5_fittingOf_71 : decode cX5_fittingOf 71 = .ok (.iinc 4 1, 3) := by decide +kernel
theorem dX5_fittingOf_74 : decode cX5_fittingOf 74 = .ok (.goto (-69), 3) := by decide +kernel
theorem dX5_fittingOf_77 : decode cX5_fittingOf 77 = .ok (.iload_n 3, 1) := by decide +kernel
theorem dX5_fittingOf_78 : decode cX5_fittingOf 78 = .ok (.ireturn, 1) := by decide +kernel
theorem dX5_hasTold_0 : decode cX5_hasTold 0 = .ok (.iconst 0, 1) := by decide +kernel
theorem dX5_hasTold_1 : decode cX5_hasTold 1 = .ok (.istore_n 3, 1) := by decide +kernel
theorem dX5_hasTold_2 : decode cX5_hasTold 2 = .ok (.iload_n 3, 1) := by decide +kernel
theorem dX5_hasTold_3 : decode cX5_hasTold 3 = .ok (.bipush 6, 2) := by decide +kernel
theorem dX5_hasTold_5 : decode cX5_hasTold 5 = .ok (.if_icmp .ge 45, 3) := by decide +kernel
theorem dX5_hasTold_8 : decode cX5_hasTold 8 = .ok (.aload_n 1, 1) := by decide +kernel
theorem dX5_hasTold_9 : decode cX5_hasTold 9 = .ok (.getfield 50, 3) := by decide +kernel
theorem dX5_hasTold_12 : decode cX5_hasTold 12 = .ok (.iload_n 3, 1) := by decide +kernel
theorem dX5_hasTold_13 : decode cX5_hasTold 13 = .ok (.baload, 1) := by decide +kernel
theorem dX5_hasTold_14 : decode cX5_hasTold 14 = .ok (.ifCond .eq 30, 3) := by decide +kernel
theorem dX5_hasTold_17 : decode cX5_hasTold 17 = .ok (.aload_n 2, 1) := by decide +kernel
theorem dX5_hasTold_18 : decode cX5_hasTold 18 = .ok (.getfield 111, 3) := by decide +kernel
theorem dX5_hasTold_21 : decode cX5_hasTold 21 = .ok (.iload_n 3, 1) := by decide +kernel
theorem dX5_hasTold_22 : decode cX5_hasTold 22 = .ok (.baload, 1) := by decide +kernel
theorem dX5_hasTold_23 : decode cX5_hasTold 23 = .ok (.ifCond .eq 19, 3) := by decide +kernel
theorem dX5_hasTold_26 : decode cX5_hasTold 26 = .ok (.aload_n 2, 1) := by decide +kernel
theorem dX5_hasTold_27 : decode cX5_hasTold 27 = .ok (.getfield 114, 3) := by decide +kernel
theorem dX5_hasTold_30 : decode cX5_hasTold 30 = .ok (.iload_n 3, 1) := by decide +kernel
theorem dX5_hasTold_31 : decode cX5_hasTold 31 = .ok (.laload, 1) := by decide +kernel
theorem dX5_hasTold_32 : decode cX5_hasTold 32 = .ok (.aload_n 1, 1) := by decide +kernel
theorem dX5_hasTold_33 : decode cX5_hasTold 33 = .ok (.getfield 118, 3) := by decide +kernel
theorem dX5_hasTold_36 : decode cX5_hasTold 36 = .ok (.iload_n 3, 1) := by decide +kernel
theorem dX5_hasTold_37 : decode cX5_hasTold 37 = .ok (.laload, 1) := by decide +kernel
theorem dX5_hasTold_38 : decode cX5_hasTold 38 = .ok (.lcmp, 1) := by decide +kernel
theorem dX5_hasTold_39 : decode cX5_hasTold 39 = .ok (.ifCond .eq 5, 3) := by decide +kernel
theorem dX5_hasTold_42 : decode cX5_hasTold 42 = .ok (.iconst 0, 1) := by decide +kernel
theorem dX5_hasTold_43 : decode cX5_hasTold 43 = .ok (.ireturn, 1) := by decide +kernel
theorem dX5_hasTold_44 : decode cX5_hasTold 44 = .ok (.iinc 3 1, 3) := by decide +kernel
theorem dX5_hasTold_47 : decode cX5_hasTold 47 = .ok (.goto (-45), 3) := by decide +kernel
theorem dX5_hasTold_50 : decode cX5_hasTold 50 = .ok (.iconst 1, 1) := by decide +kernel
theorem dX5_hasTold_51 : decode cX5_hasTold 51 = .ok (.ireturn, 1) := by decide +kernel
theorem dX5_manyTries_0 : decode cX5_manyTries 0 = .ok (.iconst 1, 1) := by decide +kernel
theorem dX5_manyTries_1 : decode cX5_manyTries 1 = .ok (.istore_n 1, 1) := by decide +kernel
theorem dX5_manyTries_2 : decode cX5_manyTries 2 = .ok (.iconst 0, 1) := by decide +kernel
theorem dX5_manyTries_3 : decode cX5_manyTries 3 = .ok (.istore_n 2, 1) := by decide +kernel
theorem dX5_manyTries_4 : decode cX5_manyTries 4 = .ok (.iload_n 2, 1) := by decide +kernel
theorem dX5_manyTries_5 : decode cX5_manyTries 5 = .ok (.aload_n 0, 1) := by decide +kernel
theorem dX5_manyTries_6 : decode cX5_manyTries 6 = .ok (.getfield 40, 3) := by decide +kernel
theorem dX5_manyTries_9 : decode cX5_manyTries 9 = .ok (.if_icmp .ge 14, 3) := by decide +kernel
theorem dX5_manyTries_12 : decode cX5_manyTries 12 = .ok (.iload_n 1, 1) := by decide +kernel
theorem dX5_manyTries_13 : decode cX5_manyTries 13 = .ok (.bipush 12, 2) := by decide +kernel
theorem dX5_manyTries_15 : decode cX5_manyTries 15 = .ok (.imul, 1) := by decide +kernel
theorem dX5_manyTries_16 : decode cX5_manyTries 16 = .ok (.istore_n 1, 1) := by decide +kernel
theorem dX5_manyTries_17 : decode cX5_manyTries 17 = .ok (.iinc 2 1, 3) := by decide +kernel
theorem dX5_manyTries_20 : decode cX5_manyTries 20 = .ok (.goto (-16), 3) := by decide +kernel
theorem dX5_manyTries_23 : decode cX5_manyTries 23 = .ok (.iload_n 1, 1) := by decide +kernel
theorem dX5_manyTries_24 : decode cX5_manyTries 24 = .ok (.ireturn, 1) := by decide +kernel
theorem dX5_stood_0 : decode cX5_stood 0 = .ok (.iload_n 1, 1) := by decide +kernel
theorem dX5_stood_1 : decode cX5_stood 1 = .ok (.istore_n 2, 1) := by decide +kernel
theorem dX5_stood_2 : decode cX5_stood 2 = .ok (.iconst 0, 1) := by decide +kernel
theorem dX5_stood_3 : decode cX5_stood 3 = .ok (.istore_n 3, 1) := by decide +kernel
theorem dX5_stood_4 : decode cX5_stood 4 = .ok (.iload_n 3, 1) := by decide +kernel
theorem dX5_stood_5 : decode cX5_stood 5 = .ok (.aload_n 0, 1) := by decide +kernel
theorem dX5_stood_6 : decode cX5_stood 6 = .ok (.getfield 40, 3) := by decide +kernel
theorem dX5_stood_9 : decode cX5_stood 9 = .ok (.if_icmp .ge 44, 3) := by decide +kernel
theorem dX5_stood_12 : decode cX5_stood 12 = .ok (.aload_n 0, 1) := by decide +kernel
theorem dX5_stood_13 : decode cX5_stood 13 = .ok (.getfield 27, 3) := by decide +kernel
theorem dX5_stood_16 : decode cX5_stood 16 = .ok (.iload_n 3, 1) := by decide +kernel
theorem dX5_stood_17 : decode cX5_stood 17 = .ok (.iload_n 2, 1) := by decide +kernel
theorem dX5_stood_18 : decode cX5_stood 18 = .ok (.bipush 12, 2) := by decide +kernel
theorem dX5_stood_20 : decode cX5_stood 20 = .ok (.irem, 1) := by decide +kernel
theorem dX5_stood_21 : decode cX5_stood 21 = .ok (.iastore, 1) := by decide +kernel
theorem dX5_stood_22 : decode cX5_stood 22 = .ok (.iload_n 2, 1) := by decide +kernel
theorem dX5_stood_23 : decode cX5_stood 23 = .ok (.bipush 12, 2) := by decide +kernel
theorem dX5_stood_25 : decode cX5_stood 25 = .ok (.idiv, 1) := by decide +kernel
theorem dX5_stood_26 : decode cX5_stood 26 = .ok (.istore_n 2, 1) := by decide +kernel
theorem dX5_stood_27 : decode cX5_stood 27 = .ok (.aload_n 0, 1) := by decide +kernel
theorem dX5_stood_28 : decode cX5_stood 28 = .ok (.getfield 23, 3) := by decide +kernel
theorem dX5_stood_31 : decode cX5_stood 31 = .ok (.iload_n 3, 1) := by decide +kernel
theorem dX5_stood_32 : decode cX5_stood 32 = .ok (.iaload, 1) := by decide +kernel
theorem dX5_stood_33 : decode cX5_stood 33 = .ok (.aload_n 0, 1) := by decide +kernel
theorem dX5_stood_34 : decode cX5_stood 34 = .ok (.getfield 27, 3) := by decide +kernel
theorem dX5_stood_37 : decode cX5_stood 37 = .ok (.iload_n 3, 1) := by decide +kernel
theorem dX5_stood_38 : decode cX5_stood 38 = .ok (.iaload, 1) := by decide +kernel
theorem dX5_stood_39 : decode cX5_stood 39 = .ok (.invokestatic 96, 3) := by decide +kernel
theorem dX5_stood_42 : decode cX5_stood 42 = .ok (.ifCond .ne 5, 3) := by decide +kernel
theorem dX5_stood_45 : decode cX5_stood 45 = .ok (.iconst 0, 1) := by decide +kernel
theorem dX5_stood_46 : decode cX5_stood 46 = .ok (.ireturn, 1) := by decide +kernel
theorem dX5_stood_47 : decode cX5_stood 47 = .ok (.iinc 3 1, 3) := by decide +kernel
theorem dX5_stood_50 : decode cX5_stood 50 = .ok (.goto (-46), 3) := by decide +kernel
theorem dX5_stood_53 : decode cX5_stood 53 = .ok (.iconst 0, 1) := by decide +kernel
theorem dX5_stood_54 : decode cX5_stood 54 = .ok (.istore_n 3, 1) := by decide +kernel
theorem dX5_stood_55 : decode cX5_stood 55 = .ok (.iload_n 3, 1) := by decide +kernel
theorem dX5_stood_56 : decode cX5_stood 56 = .ok (.aload_n 0, 1) := by decide +kernel
theorem dX5_stood_57 : decode cX5_stood 57 = .ok (.getfield 44, 3) := by decide +kernel
theorem dX5_stood_60 : decode cX5_stood 60 = .ok (.if_icmp .ge 24, 3) := by decide +kernel
theorem dX5_stood_63 : decode cX5_stood 63 = .ok (.aload_n 0, 1) := by decide +kernel
theorem dX5_stood_64 : decode cX5_stood 64 = .ok (.aload_n 0, 1) := by decide +kernel
theorem dX5_stood_65 : decode cX5_stood 65 = .ok (.getfield 19, 3) := by decide +kernel
theorem dX5_stood_68 : decode cX5_stood 68 = .ok (.iload_n 3, 1) := by decide +kernel
theorem dX5_stood_69 : decode cX5_stood 69 = .ok (.aaload, 1) := by decide +kernel
theorem dX5_stood_70 : decode cX5_stood 70 = .ok (.invokevirtual 119, 3) := by decide +kernel
theorem dX5_stood_73 : decode cX5_stood 73 = .ok (.ifCond .ne 5, 3) := by decide +kernel
theorem dX5_stood_76 : decode cX5_stood 76 = .ok (.iconst 0, 1) := by decide +kernel
theorem dX5_stood_77 : decode cX5_stood 77 = .ok (.ireturn, 1) := by decide +kernel
theorem dX5_stood_78 : decode cX5_stood 78 = .ok (.iinc 3 1, 3) := by decide +kernel
theorem dX5_stood_81 : decode cX5_stood 81 = .ok (.goto (-26), 3) := by decide +kernel
theorem dX5_stood_84 : decode cX5_stood 84 = .ok (.iconst 1, 1) := by decide +kernel
theorem dX5_stood_85 : decode cX5_stood 85 = .ok (.ireturn, 1) := by decide +kernel
theorem dX5_isJoined_0 : decode cX5_isJoined 0 = .ok (.aload_n 0, 1) := by decide +kernel
theorem dX5_isJoined_1 : decode cX5_isJoined 1 = .ok (.getfield 34, 3) := by decide +kernel
theorem dX5_isJoined_4 : decode cX5_isJoined 4 = .ok (.getfield 100, 3) := by decide +kernel
theorem dX5_isJoined_7 : decode cX5_isJoined 7 = .ok (.aload_n 0, 1) := by decide +kernel
theorem dX5_isJoined_8 : decode cX5_isJoined 8 = .ok (.getfield 27, 3) := by decide +kernel
theorem dX5_isJoined_11 : decode cX5_isJoined 11 = .ok (.aload_n 1, 1) := by decide +kernel
theorem dX5_isJoined_12 : decode cX5_isJoined 12 = .ok (.getfield 53, 3) := by decide +kernel
theorem dX5_isJoined_15 : decode cX5_isJoined 15 = .ok (.iaload, 1) := by decide +kernel
theorem dX5_isJoined_16 : decode cX5_isJoined 16 = .ok (.aaload, 1) := by decide +kernel
theorem dX5_isJoined_17 : decode cX5_isJoined 17 = .ok (.astore_n 2, 1) := by decide +kernel
theorem dX5_isJoined_18 : decode cX5_isJoined 18 = .ok (.aload_n 0, 1) := by decide +kernel
theorem dX5_isJoined_19 : decode cX5_isJoined 19 = .ok (.getfield 34, 3) := by decide +kernel
theorem dX5_isJoined_22 : decode cX5_isJoined 22 = .ok (.getfield 100, 3) := by decide +kernel
theorem dX5_isJoined_25 : decode cX5_isJoined 25 = .ok (.aload_n 0, 1) := by decide +kernel
theorem dX5_isJoined_26 : decode cX5_isJoined 26 = .ok (.getfield 27, 3) := by decide +kernel
theorem dX5_isJoined_29 : decode cX5_isJoined 29 = .ok (.aload_n 1, 1) := by decide +kernel
theorem dX5_isJoined_30 : decode cX5_isJoined 30 = .ok (.getfield 59, 3) := by decide +kernel
theorem dX5_isJoined_33 : decode cX5_isJoined 33 = .ok (.iaload, 1) := by decide +kernel
theorem dX5_isJoined_34 : decode cX5_isJoined 34 = .ok (.aaload, 1) := by decide +kernel
theorem dX5_isJoined_35 : decode cX5_isJoined 35 = .ok (.astore_n 3, 1) := by decide +kernel
theorem dX5_isJoined_36 : decode cX5_isJoined 36 = .ok (.aload_n 2, 1) := by decide +kernel
theorem dX5_isJoined_37 : decode cX5_isJoined 37 = .ok (.getfield 111, 3) := by decide +kernel
theorem dX5_isJoined_40 : decode cX5_isJoined 40 = .ok (.aload_n 1, 1) := by decide +kernel
theorem dX5_isJoined_41 : decode cX5_isJoined 41 = .ok (.getfield 56, 3) := by decide +kernel
theorem dX5_isJoined_44 : decode cX5_isJoined 44 = .ok (.baload, 1) := by decide +kernel
theorem dX5_isJoined_45 : decode cX5_isJoined 45 = .ok (.ifCond .eq 41, 3) := by decide +kernel
theorem dX5_isJoined_48 : decode cX5_isJoined 48 = .ok (.aload_n 3, 1) := by decide +kernel
theorem dX5_isJoined_49 : decode cX5_isJoined 49 = .ok (.getfield 111, 3) := by decide +kernel
theorem dX5_isJoined_52 : decode cX5_isJoined 52 = .ok (.aload_n 1, 1) := by decide +kernel
theorem dX5_isJoined_53 : decode cX5_isJoined 53 = .ok (.getfield 62, 3) := by decide +kernel
theorem dX5_isJoined_56 : decode cX5_isJoined 56 = .ok (.baload, 1) := by decide +kernel
theorem dX5_isJoined_57 : decode cX5_isJoined 57 = .ok (.ifCond .eq 29, 3) := by decide +kernel
theorem dX5_isJoined_60 : decode cX5_isJoined 60 = .ok (.aload_n 2, 1) := by decide +kernel
theorem dX5_isJoined_61 : decode cX5_isJoined 61 = .ok (.getfield 114, 3) := by decide +kernel
theorem dX5_isJoined_64 : decode cX5_isJoined 64 = .ok (.aload_n 1, 1) := by decide +kernel
theorem dX5_isJoined_65 : decode cX5_isJoined 65 = .ok (.getfield 56, 3) := by decide +kernel
theorem dX5_isJoined_68 : decode cX5_isJoined 68 = .ok (.laload, 1) := by decide +kernel
theorem dX5_isJoined_69 : decode cX5_isJoined 69 = .ok (.aload_n 3, 1) := by decide +kernel
theorem dX5_isJoined_70 : decode cX5_isJoined 70 = .ok (.getfield 114, 3) := by decide +kernel
theorem dX5_isJoined_73 : decode cX5_isJoined 73 = .ok (.aload_n 1, 1) := by decide +kernel
theorem dX5_isJoined_74 : decode cX5_isJoined 74 = .ok (.getfield 62, 3) := by decide +kernel
theorem dX5_isJoined_77 : decode cX5_isJoined 77 = .ok (.laload, 1) := by decide +kernel
theorem dX5_isJoined_78 : decode cX5_isJoined 78 = .ok (.lcmp, 1) := by decide +kernel
theorem dX5_isJoined_79 : decode cX5_isJoined 79 = .ok (.ifCond .ne 7, 3) := by decide +kernel
theorem dX5_isJoined_82 : decode cX5_isJoined 82 = .ok (.iconst 1, 1) := by decide +kernel
theorem dX5_isJoined_83 : decode cX5_isJoined 83 = .ok (.goto 4, 3) := by decide +kernel
theorem dX5_isJoined_86 : decode cX5_isJoined 86 = .ok (.iconst 0, 1) := by decide +kernel
theorem dX5_isJoined_87 : decode cX5_isJoined 87 = .ok (.ireturn, 1) := by decide +kernel
theorem dX5_triedRows_0 : decode cX5_triedRows 0 = .ok (.iconst 0, 1) := by decide +kernel
theorem dX5_triedRows_1 : decode cX5_triedRows 1 = .ok (.istore_n 1, 1) := by decide +kernel
theorem dX5_triedRows_2 : decode cX5_triedRows 2 = .ok (.iconst 0, 1) := by decide +kernel
theorem dX5_triedRows_3 : decode cX5_triedRows 3 = .ok (.istore_n 2, 1) := by decide +kernel
theorem dX5_triedRows_4 : decode cX5_triedRows 4 = .ok (.iload_n 2, 1) := by decide +kernel
theorem dX5_triedRows_5 : decode cX5_triedRows 5 = .ok (.aload_n 0, 1) := by decide +kernel
theorem dX5_triedRows_6 : decode cX5_triedRows 6 = .ok (.getfield 40, 3) := by decide +kernel
theorem dX5_triedRows_9 : decode cX5_triedRows 9 = .ok (.if_icmp .ge 20, 3) := by decide +kernel
theorem dX5_triedRows_12 : decode cX5_triedRows 12 = .ok (.iload_n 1, 1) := by decide +kernel
theorem dX5_triedRows_13 : decode cX5_triedRows 13 = .ok (.iconst 1, 1) := by decide +kernel
theorem dX5_triedRows_14 : decode cX5_triedRows 14 = .ok (.aload_n 0, 1) := by decide +kernel
theorem dX5_triedRows_15 : decode cX5_triedRows 15 = .ok (.getfield 27, 3) := by decide +kernel
theorem dX5_triedRows_18 : decode cX5_triedRows 18 = .ok (.iload_n 2, 1) := by decide +kernel
theorem dX5_triedRows_19 : decode cX5_triedRows 19 = .ok (.iaload, 1) := by decide +kernel
theorem dX5_triedRows_20 : decode cX5_triedRows 20 = .ok (.ishl, 1) := by decide +kernel
theorem dX5_triedRows_21 : decode cX5_triedRows 21 = .ok (.ior, 1) := by decide +kernel
theorem dX5_triedRows_22 : decode cX5_triedRows 22 = .ok (.istore_n 1, 1) := by decide +kernel
theorem dX5_triedRows_23 : decode cX5_triedRows 23 = .ok (.iinc 2 1, 3) := by decide +kernel
theorem dX5_triedRows_26 : decode cX5_triedRows 26 = .ok (.goto (-22), 3) := by decide +kernel
theorem dX5_triedRows_29 : decode cX5_triedRows 29 = .ok (.iload_n 1, 1) := by decide +kernel
theorem dX5_triedRows_30 : decode cX5_triedRows 30 = .ok (.ireturn, 1) := by decide +kernel
theorem dX6_init_0 : decode cX6_init 0 = .ok (.aload_n 0, 1) := by decide +kernel
theorem dX6_init_1 : decode cX6_init 1 = .ok (.invokespecial 3, 3) := by decide +kernel
theorem dX6_init_4 : decode cX6_init 4 = .ok (.aload_n 0, 1) := by decide +kernel
theorem dX6_init_5 : decode cX6_init 5 = .ok (.bipush 6, 2) := by decide +kernel
theorem dX6_init_7 : decode cX6_init 7 = .ok (.newarray .long, 2) := by decide +kernel
theorem dX6_init_9 : decode cX6_init 9 = .ok (.putfield 9, 3) := by decide +kernel
theorem dX6_init_12 : decode cX6_init 12 = .ok (.aload_n 0, 1) := by decide +kernel
theorem dX6_init_13 : decode cX6_init 13 = .ok (.bipush 6, 2) := by decide +kernel
theorem dX6_init_15 : decode cX6_init 15 = .ok (.newarray .boolean, 2) := by decide +kernel
theorem dX6_init_17 : decode cX6_init 17 = .ok (.putfield 15, 3) := by decide +kernel
theorem dX6_init_20 : decode cX6_init 20 = .ok (.return_, 1) := by decide +kernel
theorem dX7_init_0 : decode cX7_init 0 = .ok (.aload_n 0, 1) := by decide +kernel
theorem dX7_init_1 : decode cX7_init 1 = .ok (.invokespecial 3, 3) := by decide +kernel
theorem dX7_init_4 : decode cX7_init 4 = .ok (.aload_n 0, 1) := by decide +kernel
theorem dX7_init_5 : decode cX7_init 5 = .ok (.bipush 12, 2) := by decide +kernel
theorem dX7_init_7 : decode cX7_init 7 = .ok (.anewarray 9, 3) := by decide +kernel
theorem dX7_init_10 : decode cX7_init 10 = .ok (.putfield 11, 3) := by decide +kernel
theorem dX7_init_13 : decode cX7_init 13 = .ok (.iconst 0, 1) := by decide +kernel
theorem dX7_init_14 : decode cX7_init 14 = .ok (.istore_n 1, 1) := by decide +kernel
theorem dX7_init_15 : decode cX7_init 15 = .ok (.iload_n 1, 1) := by decide +kernel
theorem dX7_init_16 : decode cX7_init 16 = .ok (.bipush 12, 2) := by decide +kernel
theorem dX7_init_18 : decode cX7_init 18 = .ok (.if_icmp .ge 22, 3) := by decide +kernel
theorem dX7_init_21 : decode cX7_init 21 = .ok (.aload_n 0, 1) := by decide +kernel
theorem dX7_init_22 : decode cX7_init 22 = .ok (.getfield 11, 3) := by decide +kernel
theorem dX7_init_25 : decode cX7_init 25 = .ok (.iload_n 1, 1) := by decide +kernel
theorem dX7_init_26 : decode cX7_init 26 = .ok (.new 9, 3) := by decide +kernel
theorem dX7_init_29 : decode cX7_init 29 = .ok (.dup, 1) := by decide +kernel
theorem dX7_init_30 : decode cX7_init 30 = .ok (.invokespecial 17, 3) := by decide +kernel
theorem dX7_init_33 : decode cX7_init 33 = .ok (.aastore, 1) := by decide +kernel
theorem dX7_init_34 : decode cX7_init 34 = .ok (.iinc 1 1, 3) := by decide +kernel
theorem dX7_init_37 : decode cX7_init 37 = .ok (.goto (-22), 3) := by decide +kernel
theorem dX7_init_40 : decode cX7_init 40 = .ok (.return_, 1) := by decide +kernel
theorem dX7_add_0 : decode cX7_add 0 = .ok (.aload_n 0, 1) := by decide +kernel
theorem dX7_add_1 : decode cX7_add 1 = .ok (.getfield 11, 3) := by decide +kernel
theorem dX7_add_4 : decode cX7_add 4 = .ok (.aload_n 0, 1) := by decide +kernel
theorem dX7_add_5 : decode cX7_add 5 = .ok (.getfield 18, 3) := by decide +kernel
theorem dX7_add_8 : decode cX7_add 8 = .ok (.aaload, 1) := by decide +kernel
theorem dX7_add_9 : decode cX7_add 9 = .ok (.iload_n 1, 1) := by decide +kernel
theorem dX7_add_10 : decode cX7_add 10 = .ok (.putfield 22, 3) := by decide +kernel
theorem dX7_add_13 : decode cX7_add 13 = .ok (.aload_n 0, 1) := by decide +kernel
theorem dX7_add_14 : decode cX7_add 14 = .ok (.getfield 11, 3) := by decide +kernel
theorem dX7_add_17 : decode cX7_add 17 = .ok (.aload_n 0, 1) := by decide +kernel
theorem dX7_add_18 : decode cX7_add 18 = .ok (.getfield 18, 3) := by decide +kernel
theorem dX7_add_21 : decode cX7_add 21 = .ok (.aaload, 1) := by decide +kernel
theorem dX7_add_22 : decode cX7_add 22 = .ok (.iload_n 2, 1) := by decide +kernel
theorem dX7_add_23 : decode cX7_add 23 = .ok (.putfield 25, 3) := by decide +kernel
theorem dX7_add_26 : decode cX7_add 26 = .ok (.aload_n 0, 1) := by decide +kernel
theorem dX7_add_27 : decode cX7_add 27 = .ok (.getfield 11, 3) := by decide +kernel
theorem dX7_add_30 : decode cX7_add 30 = .ok (.aload_n 0, 1) := by decide +kernel
theorem dX7_add_31 : decode cX7_add 31 = .ok (.getfield 18, 3) := by decide +kernel
theorem dX7_add_34 : decode cX7_add 34 = .ok (.aaload, 1) := by decide +kernel
theorem dX7_add_35 : decode cX7_add 35 = .ok (.iconst 1, 1) := by decide +kernel
theorem dX7_add_36 : decode cX7_add 36 = .ok (.putfield 28, 3) := by decide +kernel
theorem dX7_add_39 : decode cX7_add 39 = .ok (.aload_n 0, 1) := by decide +kernel
theorem dX7_add_40 : decode cX7_add 40 = .ok (.dup, 1) := by decide +kernel
theorem dX7_add_41 : decode cX7_add 41 = .ok (.getfield 18, 3) := by decide +kernel
theorem dX7_add_44 : decode cX7_add 44 = .ok (.iconst 1, 1) := by decide +kernel
theorem dX7_add_45 : decode cX7_add 45 = .ok (.iadd, 1) := by decide +kernel
theorem dX7_add_46 : decode cX7_add 46 = .ok (.putfield 18, 3) := by decide +kernel
theorem dX7_add_49 : decode cX7_add 49 = .ok (.aload_n 0, 1) := by decide +kernel
theorem dX7_add_50 : decode cX7_add 50 = .ok (.getfield 18, 3) := by decide +kernel
theorem dX7_add_53 : decode cX7_add 53 = .ok (.iconst 1, 1) := by decide +kernel
theorem dX7_add_54 : decode cX7_add 54 = .ok (.isub, 1) := by decide +kernel
theorem dX7_add_55 : decode cX7_add 55 = .ok (.ireturn, 1) := by decide +kernel
theorem dX7_kept_0 : decode cX7_kept 0 = .ok (.iconst 0, 1) := by decide +kernel
theorem dX7_kept_1 : decode cX7_kept 1 = .ok (.istore_n 1, 1) := by decide +kernel
theorem dX7_kept_2 : decode cX7_kept 2 = .ok (.iconst 0, 1) := by decide +kernel
theorem dX7_kept_3 : decode cX7_kept 3 = .ok (.istore_n 2, 1) := by decide +kernel
theorem dX7_kept_4 : decode cX7_kept 4 = .ok (.iload_n 2, 1) := by decide +kernel
theorem dX7_kept_5 : decode cX7_kept 5 = .ok (.aload_n 0, 1) := by decide +kernel
theorem dX7_kept_6 : decode cX7_kept 6 = .ok (.getfield 18, 3) := by decide +kernel
theorem dX7_kept_9 : decode cX7_kept 9 = .ok (.if_icmp .ge 27, 3) := by decide +kernel
theorem dX7_kept_12 : decode cX7_kept 12 = .ok (.aload_n 0, 1) := by decide +kernel
theorem dX7_kept_13 : decode cX7_kept 13 = .ok (.getfield 11, 3) := by decide +kernel
theorem dX7_kept_16 : decode cX7_kept 16 = .ok (.iload_n 2, 1) := by decide +kernel
theorem dX7_kept_17 : decode cX7_kept 17 = .ok (.aaload, 1) := by decide +kernel
theorem dX7_kept_18 : decode cX7_kept 18 = .ok (.getfield 28, 3) := by decide +kernel
theorem dX7_kept_21 : decode cX7_kept 21 = .ok (.ifCond .eq 9, 3) := by decide +kernel
theorem dX7_kept_24 : decode cX7_kept 24 = .ok (.iload_n 1, 1) := by decide +kernel
theorem dX7_kept_25 : decode cX7_kept 25 = .ok (.iconst 1, 1) := by decide +kernel
theorem dX7_kept_26 : decode cX7_kept 26 = .ok (.iload_n 2, 1) := by decide +kernel
theorem dX7_kept_27 : decode cX7_kept 27 = .ok (.ishl, 1) := by decide +kernel
theorem dX7_kept_28 : decode cX7_kept 28 = .ok (.ior, 1) := by decide +kernel
theorem dX7_kept_29 : decode cX7_kept 29 = .ok (.istore_n 1, 1) := by decide +kernel
theorem dX7_kept_30 : decode cX7_kept 30 = .ok (.iinc 2 1, 3) := by decide +kernel
theorem dX7_kept_33 : decode cX7_kept 33 = .ok (.goto (-29), 3) := by decide +kernel
theorem dX7_kept_36 : decode cX7_kept 36 = .ok (.iload_n 1, 1) := by decide +kernel
theorem dX7_kept_37 : decode cX7_kept 37 = .ok (.ireturn, 1) := by decide +kernel
theorem dX7_drop_0 : decode cX7_drop 0 = .ok (.iconst 0, 1) := by decide +kernel
theorem dX7_drop_1 : decode cX7_drop 1 = .ok (.istore_n 2, 1) := by decide +kernel
theorem dX7_drop_2 : decode cX7_drop 2 = .ok (.iload_n 2, 1) := by decide +kernel
theorem dX7_drop_3 : decode cX7_drop 3 = .ok (.aload_n 0, 1) := by decide +kernel
theorem dX7_drop_4 : decode cX7_drop 4 = .ok (.getfield 18, 3) := by decide +kernel
theorem dX7_drop_7 : decode cX7_drop 7 = .ok (.if_icmp .ge 27, 3) := by decide +kernel
theorem dX7_drop_10 : decode cX7_drop 10 = .ok (.iload_n 1, 1) := by decide +kernel
theorem dX7_drop_11 : decode cX7_drop 11 = .ok (.iload_n 2, 1) := by decide +kernel
theorem dX7_drop_12 : decode cX7_drop 12 = .ok (.invokestatic 32, 3) := by decide +kernel
theorem dX7_drop_15 : decode cX7_drop 15 = .ok (.ifCond .eq 13, 3) := by decide +kernel
theorem dX7_drop_18 : decode cX7_drop 18 = .ok (.aload_n 0, 1) := by decide +kernel
theorem dX7_drop_19 : decode cX7_drop 19 = .ok (.getfield 11, 3) := by decide +kernel
theorem dX7_drop_22 : decode cX7_drop 22 = .ok (.iload_n 2, 1) := by decide +kernel
theorem dX7_drop_23 : decode cX7_drop 23 = .ok (.aaload, 1) := by decide +kernel
theorem dX7_drop_24 : decode cX7_drop 24 = .ok (.iconst 0, 1) := by decide +kernel
theorem dX7_drop_25 : decode cX7_drop 25 = .ok (.putfield 28, 3) := by decide +kernel
theorem dX7_drop_28 : decode cX7_drop 28 = .ok (.iinc 2 1, 3) := by decide +kernel
theorem dX7_drop_31 : decode cX7_drop 31 = .ok (.goto (-29), 3) := by decide +kernel
theorem dX7_drop_34 : decode cX7_drop 34 = .ok (.return_, 1) := by decide +kernel
theorem dX7_manyOf_0 : decode cX7_manyOf 0 = .ok (.iconst 0, 1) := by decide +kernel
theorem dX7_manyOf_1 : decode cX7_manyOf 1 = .ok (.istore_n 2, 1) := by decide +kernel
theorem dX7_manyOf_2 : decode cX7_manyOf 2 = .ok (.iconst 0, 1) := by decide +kernel
theorem dX7_manyOf_3 : decode cX7_manyOf 3 = .ok (.istore_n 3, 1) := by decide +kernel
theorem dX7_manyOf_4 : decode cX7_manyOf 4 = .ok (.iload_n 3, 1) := by decide +kernel
theorem dX7_manyOf_5 : decode cX7_manyOf 5 = .ok (.aload_n 0, 1) := by decide +kernel
theorem dX7_manyOf_6 : decode cX7_manyOf 6 = .ok (.getfield 18, 3) := by decide +kernel
theorem dX7_manyOf_9 : decode cX7_manyOf 9 = .ok (.if_icmp .ge 33, 3) := by decide +kernel
theorem dX7_manyOf_12 : decode cX7_manyOf 12 = .ok (.iload_n 2, 1) := by decide +kernel
theorem dX7_manyOf_13 : decode cX7_manyOf 13 = .ok (.aload_n 0, 1) := by decide +kernel
theorem dX7_manyOf_14 : decode cX7_manyOf 14 = .ok (.getfield 11, 3) := by decide +kernel
theorem dX7_manyOf_17 : decode cX7_manyOf 17 = .ok (.iload_n 3, 1) := by decide +kernel
theorem dX7_manyOf_18 : decode cX7_manyOf 18 = .ok (.aaload, 1) := by decide +kernel
theorem dX7_manyOf_19 : decode cX7_manyOf 19 = .ok (.getfield 22, 3) := by decide +kernel
theorem dX7_manyOf_22 : decode cX7_manyOf 22 = .ok (.iload_n 1, 1) := by decide +kernel
theorem dX7_manyOf_23 : decode cX7_manyOf 23 = .ok (.if_icmp .ne 7, 3) := by decide +kernel
theorem dX7_manyOf_26 : decode cX7_manyOf 26 = .ok (.iconst 1, 1) := by decide +kernel
theorem dX7_manyOf_27 : decode cX7_manyOf 27 = .ok (.goto 4, 3) := by decide +kernel
theorem dX7_manyOf_30 : decode cX7_manyOf 30 = .ok (.iconst 0, 1) := by decide +kernel
theorem dX7_manyOf_31 : decode cX7_manyOf 31 = .ok (.invokestatic 36, 3) := by decide +kernel
theorem dX7_manyOf_34 : decode cX7_manyOf 34 = .ok (.iadd, 1) := by decide +kernel
theorem dX7_manyOf_35 : decode cX7_manyOf 35 = .ok (.istore_n 2, 1) := by decide +kernel
theorem dX7_manyOf_36 : decode cX7_manyOf 36 = .ok (.iinc 3 1, 3) := by decide +kernel
theorem dX7_manyOf_39 : decode cX7_manyOf 39 = .ok (.goto (-35), 3) := by decide +kernel
theorem dX7_manyOf_42 : decode cX7_manyOf 42 = .ok (.iload_n 2, 1) := by decide +kernel
theorem dX7_manyOf_43 : decode cX7_manyOf 43 = .ok (.ireturn, 1) := by decide +kernel
theorem dX7_trustOf_0 : decode cX7_trustOf 0 = .ok (.iconst 0, 1) := by decide +kernel
theorem dX7_trustOf_1 : decode cX7_trustOf 1 = .ok (.istore_n 2, 1) := by decide +kernel
theorem dX7_trustOf_2 : decode cX7_trustOf 2 = .ok (.iconst 0, 1) := by decide +kernel
theorem dX7_trustOf_3 : decode cX7_trustOf 3 = .ok (.istore_n 3, 1) := by decide +kernel
theorem dX7_trustOf_4 : decode cX7_trustOf 4 = .ok (.iload_n 3, 1) := by decide +kernel
theorem dX7_trustOf_5 : decode cX7_trustOf 5 = .ok (.aload_n 0, 1) := by decide +kernel
theorem dX7_trustOf_6 : decode cX7_trustOf 6 = .ok (.getfield 18, 3) := by decide +kernel
theorem dX7_trustOf_9 : decode cX7_trustOf 9 = .ok (.if_icmp .ge 29, 3) := by decide +kernel
theorem dX7_trustOf_12 : decode cX7_trustOf 12 = .ok (.iload_n 1, 1) := by decide +kernel
theorem dX7_trustOf_13 : decode cX7_trustOf 13 = .ok (.iload_n 3, 1) := by decide +kernel
theorem dX7_trustOf_14 : decode cX7_trustOf 14 = .ok (.invokestatic 32, 3) := by decide +kernel
theorem dX7_trustOf_17 : decode cX7_trustOf 17 = .ok (.ifCond .eq 15, 3) := by decide +kernel
theorem dX7_trustOf_20 : decode cX7_trustOf 20 = .ok (.iload_n 2, 1) := by decide +kernel
theorem dX7_trustOf_21 : decode cX7_trustOf 21 = .ok (.aload_n 0, 1) := by decide +kernel
theorem dX7_trustOf_22 : decode cX7_trustOf 22 = .ok (.getfield 11, 3) := by decide +kernel
theorem dX7_trustOf_25 : decode cX7_trustOf 25 = .ok (.iload_n 3, 1) := by decide +kernel
theorem dX7_trustOf_26 : decode cX7_trustOf 26 = .ok (.aaload, 1) := by decide +kernel
theorem dX7_trustOf_27 : decode cX7_trustOf 27 = .ok (.getfield 25, 3) := by decide +kernel
theorem dX7_trustOf_30 : decode cX7_trustOf 30 = .ok (.iadd, 1) := by decide +kernel
theorem dX7_trustOf_31 : decode cX7_trustOf 31 = .ok (.istore_n 2, 1) := by decide +kernel
theorem dX7_trustOf_32 : decode cX7_trustOf 32 = .ok (.iinc 3 1, 3) := by decide +kernel
theorem dX7_trustOf_35 : decode cX7_trustOf 35 = .ok (.goto (-31), 3) := by decide +kernel
theorem dX7_trustOf_38 : decode cX7_trustOf 38 = .ok (.iload_n 2, 1) := by decide +kernel
theorem dX7_trustOf_39 : decode cX7_trustOf 39 = .ok (.ireturn, 1) := by decide +kernel
theorem dX7_withCell_0 : decode cX7_withCell 0 = .ok (.iconst 0, 1) := by decide +kernel
theorem dX7_withCell_1 : decode cX7_withCell 1 = .ok (.istore 4, 2) := by decide +kernel
theorem dX7_withCell_3 : decode cX7_withCell 3 = .ok (.iconst 0, 1) := by decide +kernel
theorem dX7_withCell_4 : decode cX7_withCell 4 = .ok (.istore 5, 2) := by decide +kernel
theorem dX7_withCell_6 : decode cX7_withCell 6 = .ok (.iload 5, 2) := by decide +kernel
theorem dX7_withCell_8 : decode cX7_withCell 8 = .ok (.aload_n 0, 1) := by decide +kernel
theorem dX7_withCell_9 : decode cX7_withCell 9 = .ok (.getfield 18, 3) := by decide +kernel
theorem dX7_withCell_12 : decode cX7_withCell 12 = .ok (.if_icmp .ge 56, 3) := by decide +kernel
theorem dX7_withCell_15 : decode cX7_withCell 15 = .ok (.iload_n 3, 1) := by decide +kernel
theorem dX7_withCell_16 : decode cX7_withCell 16 = .ok (.iload 5, 2) := by decide +kernel
theorem dX7_withCell_18 : decode cX7_withCell 18 = .ok (.invokestatic 32, 3) := by decide +kernel
theorem dX7_withCell_21 : decode cX7_withCell 21 = .ok (.ifCond .eq 41, 3) := by decide +kernel
theorem dX7_withCell_24 : decode cX7_withCell 24 = .ok (.aload_n 0, 1) := by decide +kernel
theorem dX7_withCell_25 : decode cX7_withCell 25 = .ok (.getfield 11, 3) := by decide +kernel
theorem dX7_withCell_28 : decode cX7_withCell 28 = .ok (.iload 5, 2) := by decide +kernel
theorem dX7_withCell_30 : decode cX7_withCell 30 = .ok (.aaload, 1) := by decide +kernel
theorem dX7_withCell_31 : decode cX7_withCell 31 = .ok (.getfield 22, 3) := by decide +kernel
theorem dX7_withCell_34 : decode cX7_withCell 34 = .ok (.iload_n 1, 1) := by decide +kernel
theorem dX7_withCell_35 : decode cX7_withCell 35 = .ok (.if_icmp .ne 27, 3) := by decide +kernel
theorem dX7_withCell_38 : decode cX7_withCell 38 = .ok (.aload_n 0, 1) := by decide +kernel
theorem dX7_withCell_39 : decode cX7_withCell 39 = .ok (.getfield 11, 3) := by decide +kernel
theorem dX7_withCell_42 : decode cX7_withCell 42 = .ok (.iload 5, 2) := by decide +kernel
theorem dX7_withCell_44 : decode cX7_withCell 44 = .ok (.aaload, 1) := by decide +kernel
theorem dX7_withCell_45 : decode cX7_withCell 45 = .ok (.getfield 40, 3) := by decide +kernel
theorem dX7_withCell_48 : decode cX7_withCell 48 = .ok (.iload_n 2, 1) := by decide +kernel
theorem dX7_withCell_49 : decode cX7_withCell 49 = .ok (.baload, 1) := by decide +kernel
theorem dX7_withCell_50 : decode cX7_withCell 50 = .ok (.ifCond .eq 12, 3) := by decide +kernel
theorem dX7_withCell_53 : decode cX7_withCell 53 = .ok (.iload 4, 2) := by decide +kernel
theorem dX7_withCell_55 : decode cX7_withCell 55 = .ok (.iconst 1, 1) := by decide +kernel
theorem dX7_withCell_56 : decode cX7_withCell 56 = .ok (.iload 5, 2) := by decide +kernel
theorem dX7_withCell_58 : decode cX7_withCell 58 = .ok (.ishl, 1) := by decide +kernel
theorem dX7_withCell_59 : decode cX7_withCell 59 = .ok (.ior, 1) := by decide +kernel
theorem dX7_withCell_60 : decode cX7_withCell 60 = .ok (.istore 4, 2) := by decide +kernel
theorem dX7_withCell_62 : decode cX7_withCell 62 = .ok (.iinc 5 1, 3) := by decide +kernel
theorem dX7_withCell_65 : decode cX7_withCell 65 = .ok (.goto (-59), 3) := by decide +kernel
theorem dX7_withCell_68 : decode cX7_withCell 68 = .ok (.iload 4, 2) := by decide +kernel
theorem dX7_withCell_70 : decode cX7_withCell 70 = .ok (.ireturn, 1) := by decide +kernel
theorem dX7_withNumber_0 : decode cX7_withNumber 0 = .ok (.iconst 0, 1) := by decide +kernel
theorem dX7_withNumber_1 : decode cX7_withNumber 1 = .ok (.istore 6, 2) := by decide +kernel
theorem dX7_withNumber_3 : decode cX7_withNumber 3 = .ok (.iconst 0, 1) := by decide +kernel
theorem dX7_withNumber_4 : decode cX7_withNumber 4 = .ok (.istore 7, 2) := by decide +kernel
theorem dX7_withNumber_6 : decode cX7_withNumber 6 = .ok (.iload 7, 2) := by decide +kernel
theorem dX7_withNumber_8 : decode cX7_withNumber 8 = .ok (.aload_n 0, 1) := by decide +kernel
theorem dX7_withNumber_9 : decode cX7_withNumber 9 = .ok (.getfield 18, 3) := by decide +kernel
theorem dX7_withNumber_12 : decode cX7_withNumber 12 = .ok (.if_icmp .ge 68, 3) := by decide +kernel
theorem dX7_withNumber_15 : decode cX7_withNumber 15 = .ok (.aload_n 0, 1) := by decide +kernel
theorem dX7_withNumber_16 : decode cX7_withNumber 16 = .ok (.getfield 11, 3) := by decide +kernel
theorem dX7_withNumber_19 : decode cX7_withNumber 19 = .ok (.iload 7, 2) := by decide +kernel
theorem dX7_withNumber_21 : decode cX7_withNumber 21 = .ok (.aaload, 1) := by decide +kernel
theorem dX7_withNumber_22 : decode cX7_withNumber 22 = .ok (.astore 8, 2) := by decide +kernel
theorem dX7_withNumber_24 : decode cX7_withNumber 24 = .ok (.iload 5, 2) := by decide +kernel
theorem dX7_withNumber_26 : decode cX7_withNumber 26 = .ok (.iload 7, 2) := by decide +kernel
theorem dX7_withNumber_28 : decode cX7_withNumber 28 = .ok (.invokestatic 32, 3) := by decide +kernel
theorem dX7_withNumber_31 : decode cX7_withNumber 31 = .ok (.ifCond .eq 43, 3) := by decide +kernel
theorem dX7_withNumber_34 : decode cX7_withNumber 34 = .ok (.aload 8, 2) := by decide +kernel
theorem dX7_withNumber_36 : decode cX7_withNumber 36 = .ok (.getfield 22, 3) := by decide +kernel
theorem dX7_withNumber_39 : decode cX7_withNumber 39 = .ok (.iload_n 1, 1) := by decide +kernel
theorem dX7_withNumber_40 : decode cX7_withNumber 40 = .ok (.if_icmp .ne 34, 3) := by decide +kernel
theorem dX7_withNumber_43 : decode cX7_withNumber 43 = .ok (.aload 8, 2) := by decide +kernel
theorem dX7_withNumber_45 : decode cX7_withNumber 45 = .ok (.getfield 40, 3) := by decide +kernel
theorem dX7_withNumber_48 : decode cX7_withNumber 48 = .ok (.iload_n 2, 1) := by decide +kernel
theorem dX7_withNumber_49 : decode cX7_withNumber 49 = .ok (.baload, 1) := by decide +kernel
theorem dX7_withNumber_50 : decode cX7_withNumber 50 = .ok (.ifCond .eq 24, 3) := by decide +kernel
theorem dX7_withNumber_53 : decode cX7_withNumber 53 = .ok (.aload 8, 2) := by decide +kernel
theorem dX7_withNumber_55 : decode cX7_withNumber 55 = .ok (.getfield 44, 3) := by decide +kernel
theorem dX7_withNumber_58 : decode cX7_withNumber 58 = .ok (.iload_n 2, 1) := by decide +kernel
theorem dX7_withNumber_59 : decode cX7_withNumber 59 = .ok (.laload, 1) := by decide +kernel
theorem dX7_withNumber_60 : decode cX7_withNumber 60 = .ok (.lload_n 3, 1) := by decide +kernel
theorem dX7_withNumber_61 : decode cX7_withNumber 61 = .ok (.lcmp, 1) := by decide +kernel
theorem dX7_withNumber_62 : decode cX7_withNumber 62 = .ok (.ifCond .ne 12, 3) := by decide +kernel
theorem dX7_withNumber_65 : decode cX7_withNumber 65 = .ok (.iload 6, 2) := by decide +kernel
theorem dX7_withNumber_67 : decode cX7_withNumber 67 = .ok (.iconst 1, 1) := by decide +kernel
theorem dX7_withNumber_68 : decode cX7_withNumber 68 = .ok (.iload 7, 2) := by decide +kernel
theorem dX7_withNumber_70 : decode cX7_withNumber 70 = .ok (.ishl, 1) := by decide +kernel
theorem dX7_withNumber_71 : decode cX7_withNumber 71 = .ok (.ior, 1) := by decide +kernel
theorem dX7_withNumber_72 : decode cX7_withNumber 72 = .ok (.istore 6, 2) := by decide +kernel
theorem dX7_withNumber_74 : decode cX7_withNumber 74 = .ok (.iinc 7 1, 3) := by decide +kernel
theorem dX7_withNumber_77 : decode cX7_withNumber 77 = .ok (.goto (-71), 3) := by decide +kernel
theorem dX7_withNumber_80 : decode cX7_withNumber 80 = .ok (.iload 6, 2) := by decide +kernel
theorem dX7_withNumber_82 : decode cX7_withNumber 82 = .ok (.ireturn, 1) := by decide +kernel
theorem dX7_aboveZero_0 : decode cX7_aboveZero 0 = .ok (.iconst 0, 1) := by decide +kernel
theorem dX7_aboveZero_1 : decode cX7_aboveZero 1 = .ok (.istore_n 3, 1) := by decide +kernel
theorem dX7_aboveZero_2 : decode cX7_aboveZero 2 = .ok (.iconst 0, 1) := by decide +kernel
theorem dX7_aboveZero_3 : decode cX7_aboveZero 3 = .ok (.istore 4, 2) := by decide +kernel
theorem dX7_aboveZero_5 : decode cX7_aboveZero 5 = .ok (.iload 4, 2) := by decide +kernel
theorem dX7_aboveZero_7 : decode cX7_aboveZero 7 = .ok (.aload_n 0, 1) := by decide +kernel
theorem dX7_aboveZero_8 : decode cX7_aboveZero 8 = .ok (.getfield 18, 3) := by decide +kernel
theorem dX7_aboveZero_11 : decode cX7_aboveZero 11 = .ok (.if_icmp .ge 42, 3) := by decide +kernel
theorem dX7_aboveZero_14 : decode cX7_aboveZero 14 = .ok (.iload_n 2, 1) := by decide +kernel
theorem dX7_aboveZero_15 : decode cX7_aboveZero 15 = .ok (.iload 4, 2) := by decide +kernel
theorem dX7_aboveZero_17 : decode cX7_aboveZero 17 = .ok (.invokestatic 32, 3) := by decide +kernel
theorem dX7_aboveZero_20 : decode cX7_aboveZero 20 = .ok (.ifCond .eq 27, 3) := by decide +kernel
theorem dX7_aboveZero_23 : decode cX7_aboveZero 23 = .ok (.aload_n 0, 1) := by decide +kernel
theorem dX7_aboveZero_24 : decode cX7_aboveZero 24 = .ok (.getfield 11, 3) := by decide +kernel
theorem dX7_aboveZero_27 : decode cX7_aboveZero 27 = .ok (.iload 4, 2) := by decide +kernel
theorem dX7_aboveZero_29 : decode cX7_aboveZero 29 = .ok (.aaload, 1) := by decide +kernel
theorem dX7_aboveZero_30 : decode cX7_aboveZero 30 = .ok (.getfield 44, 3) := by decide +kernel
theorem dX7_aboveZero_33 : decode cX7_aboveZero 33 = .ok (.iload_n 1, 1) := by decide +kernel
theorem dX7_aboveZero_34 : decode cX7_aboveZero 34 = .ok (.laload, 1) := by decide +kernel
theorem dX7_aboveZero_35 : decode cX7_aboveZero 35 = .ok (.lconst 0, 1) := by decide +kernel
theorem dX7_aboveZero_36 : decode cX7_aboveZero 36 = .ok (.lcmp, 1) := by decide +kernel
theorem dX7_aboveZero_37 : decode cX7_aboveZero 37 = .ok (.ifCond .le 10, 3) := by decide +kernel
theorem dX7_aboveZero_40 : decode cX7_aboveZero 40 = .ok (.iload_n 3, 1) := by decide +kernel
theorem dX7_aboveZero_41 : decode cX7_aboveZero 41 = .ok (.iconst 1, 1) := by decide +kernel
theorem dX7_aboveZero_42 : decode cX7_aboveZero 42 = .ok (.iload 4, 2) := by decide +kernel
theorem dX7_aboveZero_44 : decode cX7_aboveZero 44 = .ok (.ishl, 1) := by decide +kernel
theorem dX7_aboveZero_45 : decode cX7_aboveZero 45 = .ok (.ior, 1) := by decide +kernel
theorem dX7_aboveZero_46 : decode cX7_aboveZero 46 = .ok (.istore_n 3, 1) := by decide +kernel
theorem dX7_aboveZero_47 : decode cX7_aboveZero 47 = .ok (.iinc 4 1, 3) := by decide +kernel
theorem dX7_aboveZero_50 : decode cX7_aboveZero 50 = .ok (.goto (-45), 3) := by decide +kernel
theorem dX7_aboveZero_53 : decode cX7_aboveZero 53 = .ok (.iload_n 3, 1) := by decide +kernel
theorem dX7_aboveZero_54 : decode cX7_aboveZero 54 = .ok (.ireturn, 1) := by decide +kernel
theorem dX7_added_0 : decode cX7_added 0 = .ok (.aload_n 0, 1) := by decide +kernel
theorem dX7_added_1 : decode cX7_added 1 = .ok (.iload_n 1, 1) := by decide +kernel
theorem dX7_added_2 : decode cX7_added 2 = .ok (.iload_n 2, 1) := by decide +kernel
theorem dX7_added_3 : decode cX7_added 3 = .ok (.iload_n 3, 1) := by decide +kernel
theorem dX7_added_4 : decode cX7_added 4 = .ok (.invokevirtual 48, 3) := by decide +kernel
theorem dX7_added_7 : decode cX7_added 7 = .ok (.istore 4, 2) := by decide +kernel
theorem dX7_added_9 : decode cX7_added 9 = .ok (.lconst 0, 1) := by decide +kernel
theorem dX7_added_10 : decode cX7_added 10 = .ok (.lstore 5, 2) := by decide +kernel
theorem dX7_added_12 : decode cX7_added 12 = .ok (.iconst 0, 1) := by decide +kernel
theorem dX7_added_13 : decode cX7_added 13 = .ok (.istore 7, 2) := by decide +kernel
theorem dX7_added_15 : decode cX7_added 15 = .ok (.iload 7, 2) := by decide +kernel
theorem dX7_added_17 : decode cX7_added 17 = .ok (.aload_n 0, 1) := by decide +kernel
theorem dX7_added_18 : decode cX7_added 18 = .ok (.getfield 18, 3) := by decide +kernel
theorem dX7_added_21 : decode cX7_added 21 = .ok (.if_icmp .ge 36, 3) := by decide +kernel
theorem dX7_added_24 : decode cX7_added 24 = .ok (.iload 4, 2) := by decide +kernel
theorem dX7_added_26 : decode cX7_added 26 = .ok (.iload 7, 2) := by decide +kernel
theorem dX7_added_28 : decode cX7_added 28 = .ok (.invokestatic 32, 3) := by decide +kernel
theorem dX7_added_31 : decode cX7_added 31 = .ok (.ifCond .eq 20, 3) := by decide +kernel
theorem dX7_added_34 : decode cX7_added 34 = .ok (.lload 5, 2) := by decide +kernel
theorem dX7_added_36 : decode cX7_added 36 = .ok (.aload_n 0, 1) := by decide +kernel
theorem dX7_added_37 : decode cX7_added 37 = .ok (.getfield 11, 3) := by decide +kernel
theorem dX7_added_40 : decode cX7_added 40 = .ok (.iload 7, 2) := by decide +kernel
theorem dX7_added_42 : decode cX7_added 42 = .ok (.aaload, 1) := by decide +kernel
theorem dX7_added_43 : decode cX7_added 43 = .ok (.getfield 44, 3) := by decide +kernel
theorem dX7_added_46 : decode cX7_added 46 = .ok (.iload_n 2, 1) := by decide +kernel
theorem dX7_added_47 : decode cX7_added 47 = .ok (.laload, 1) := by decide +kernel
theorem dX7_added_48 : decode cX7_added 48 = .ok (.ladd, 1) := by decide +kernel
theorem dX7_added_49 : decode cX7_added 49 = .ok (.lstore 5, 2) := by decide +kernel
theorem dX7_added_51 : decode cX7_added 51 = .ok (.iinc 7 1, 3) := by decide +kernel
theorem dX7_added_54 : decode cX7_added 54 = .ok (.goto (-39), 3) := by decide +kernel
theorem dX7_added_57 : decode cX7_added 57 = .ok (.lload 5, 2) := by decide +kernel
theorem dX7_added_59 : decode cX7_added 59 = .ok (.lreturn, 1) := by decide +kernel
theorem dX7_settleAll_0 : decode cX7_settleAll 0 = .ok (.aload_n 0, 1) := by decide +kernel
theorem dX7_settleAll_1 : decode cX7_settleAll 1 = .ok (.invokevirtual 52, 3) := by decide +kernel
theorem dX7_settleAll_4 : decode cX7_settleAll 4 = .ok (.istore 4, 2) := by decide +kernel
theorem dX7_settleAll_6 : decode cX7_settleAll 6 = .ok (.aload_n 0, 1) := by decide +kernel
theorem dX7_settleAll_7 : decode cX7_settleAll 7 = .ok (.iload_n 1, 1) := by decide +kernel
theorem dX7_settleAll_8 : decode cX7_settleAll 8 = .ok (.iload_n 2, 1) := by decide +kernel
theorem dX7_settleAll_9 : decode cX7_settleAll 9 = .ok (.iload 4, 2) := by decide +kernel
theorem dX7_settleAll_11 : decode cX7_settleAll 11 = .ok (.invokevirtual 48, 3) := by decide +kernel
theorem dX7_settleAll_14 : decode cX7_settleAll 14 = .ok (.aload_n 0, 1) := by decide +kernel
theorem dX7_settleAll_15 : decode cX7_settleAll 15 = .ok (.iload_n 1, 1) := by decide +kernel
theorem dX7_settleAll_16 : decode cX7_settleAll 16 = .ok (.iload_n 3, 1) := by decide +kernel
theorem dX7_settleAll_17 : decode cX7_settleAll 17 = .ok (.iload 4, 2) := by decide +kernel
theorem dX7_settleAll_19 : decode cX7_settleAll 19 = .ok (.invokevirtual 48, 3) := by decide +kernel
theorem dX7_settleAll_22 : decode cX7_settleAll 22 = .ok (.iand, 1) := by decide +kernel
theorem dX7_settleAll_23 : decode cX7_settleAll 23 = .ok (.istore 5, 2) := by decide +kernel
theorem dX7_settleAll_25 : decode cX7_settleAll 25 = .ok (.iconst 0, 1) := by decide +kernel
theorem dX7_settleAll_26 : decode cX7_settleAll 26 = .ok (.istore 6, 2) := by decide +kernel
theorem dX7_settleAll_28 : decode cX7_settleAll 28 = .ok (.iconst 0, 1) := by decide +kernel
theorem dX7_settleAll_29 : decode cX7_settleAll 29 = .ok (.istore 7, 2) := by decide +kernel
theorem dX7_settleAll_31 : decode cX7_settleAll 31 = .ok (.iload 7, 2) := by decide +kernel
theorem dX7_settleAll_33 : decode cX7_settleAll 33 = .ok (.aload_n 0, 1) := by decide +kernel
theorem dX7_settleAll_34 : decode cX7_settleAll 34 = .ok (.getfield 18, 3) := by decide +kernel
theorem dX7_settleAll_37 : decode cX7_settleAll 37 = .ok (.if_icmp .ge 50, 3) := by decide +kernel
theorem dX7_settleAll_40 : decode cX7_settleAll 40 = .ok (.iload 5, 2) := by decide +kernel
theorem dX7_settleAll_42 : decode cX7_settleAll 42 = .ok (.iload 7, 2) := by decide +kernel
theorem dX7_settleAll_44 : decode cX7_settleAll 44 = .ok (.invokestatic 32, 3) := by decide +kernel
theorem dX7_settleAll_47 : decode cX7_settleAll 47 = .ok (.ifCond .eq 34, 3) := by decide +kernel
theorem dX7_settleAll_50 : decode cX7_settleAll 50 = .ok (.iload 6, 2) := by decide +kernel
theorem dX7_settleAll_52 : decode cX7_settleAll 52 = .ok (.aload_n 0, 1) := by decide +kernel
theorem dX7_settleAll_53 : decode cX7_settleAll 53 = .ok (.iload_n 1, 1) := by decide +kernel
theorem dX7_settleAll_54 : decode cX7_settleAll 54 = .ok (.iload_n 3, 1) := by decide +kernel
theorem dX7_settleAll_55 : decode cX7_settleAll 55 = .ok (.aload_n 0, 1) := by decide +kernel
theorem dX7_settleAll_56 : decode cX7_settleAll 56 = .ok (.iload_n 1, 1) := by decide +kernel
theorem dX7_settleAll_57 : decode cX7_settleAll 57 = .ok (.iload_n 2, 1) := by decide +kernel
theorem dX7_settleAll_58 : decode cX7_settleAll 58 = .ok (.aload_n 0, 1) := by decide +kernel
theorem dX7_settleAll_59 : decode cX7_settleAll 59 = .ok (.getfield 11, 3) := by decide +kernel
theorem dX7_settleAll_62 : decode cX7_settleAll 62 = .ok (.iload 7, 2) := by decide +kernel
theorem dX7_settleAll_64 : decode cX7_settleAll 64 = .ok (.aaload, 1) := by decide +kernel
theorem dX7_settleAll_65 : decode cX7_settleAll 65 = .ok (.getfield 44, 3) := by decide +kernel
theorem dX7_settleAll_68 : decode cX7_settleAll 68 = .ok (.iload_n 2, 1) := by decide +kernel
theorem dX7_settleAll_69 : decode cX7_settleAll 69 = .ok (.laload, 1) := by decide +kernel
theorem dX7_settleAll_70 : decode cX7_settleAll 70 = .ok (.iload 5, 2) := by decide +kernel
theorem dX7_settleAll_72 : decode cX7_settleAll 72 = .ok (.invokevirtual 55, 3) := by decide +kernel
theorem dX7_settleAll_75 : decode cX7_settleAll 75 = .ok (.invokevirtual 59, 3) := by decide +kernel
theorem dX7_settleAll_78 : decode cX7_settleAll 78 = .ok (.iadd, 1) := by decide +kernel
theorem dX7_settleAll_79 : decode cX7_settleAll 79 = .ok (.istore 6, 2) := by decide +kernel
theorem dX7_settleAll_81 : decode cX7_settleAll 81 = .ok (.iinc 7 1, 3) := by decide +kernel
theorem dX7_settleAll_84 : decode cX7_settleAll 84 = .ok (.goto (-53), 3) := by decide +kernel
theorem dX7_settleAll_87 : decode cX7_settleAll 87 = .ok (.iload 6, 2) := by decide +kernel
theorem dX7_settleAll_89 : decode cX7_settleAll 89 = .ok (.ireturn, 1) := by decide +kernel
theorem dX7_settleGroup_0 : decode cX7_settleGroup 0 = .ok (.aload_n 0, 1) := by decide +kernel
theorem dX7_settleGroup_1 : decode cX7_settleGroup 1 = .ok (.iload_n 1, 1) := by decide +kernel
theorem dX7_settleGroup_2 : decode cX7_settleGroup 2 = .ok (.iload_n 2, 1) := by decide +kernel
theorem dX7_settleGroup_3 : decode cX7_settleGroup 3 = .ok (.iload_n 3, 1) := by decide +kernel
theorem dX7_settleGroup_4 : decode cX7_settleGroup 4 = .ok (.invokevirtual 62, 3) := by decide +kernel
theorem dX7_settleGroup_7 : decode cX7_settleGroup 7 = .ok (.lstore 4, 2) := by decide +kernel
theorem dX7_settleGroup_9 : decode cX7_settleGroup 9 = .ok (.iconst 0, 1) := by decide +kernel
theorem dX7_settleGroup_10 : decode cX7_settleGroup 10 = .ok (.istore 6, 2) := by decide +kernel
theorem dX7_settleGroup_12 : decode cX7_settleGroup 12 = .ok (.iconst 0, 1) := by decide +kernel
theorem dX7_settleGroup_13 : decode cX7_settleGroup 13 = .ok (.istore 7, 2) := by decide +kernel
theorem dX7_settleGroup_15 : decode cX7_settleGroup 15 = .ok (.iload 7, 2) := by decide +kernel
theorem dX7_settleGroup_17 : decode cX7_settleGroup 17 = .ok (.aload_n 0, 1) := by decide +kernel
theorem dX7_settleGroup_18 : decode cX7_settleGroup 18 = .ok (.getfield 18, 3) := by decide +kernel
theorem dX7_settleGroup_21 : decode cX7_settleGroup 21 = .ok (.if_icmp .ge 53, 3) := by decide +kernel
theorem dX7_settleGroup_24 : decode cX7_settleGroup 24 = .ok (.iload_n 3, 1) := by decide +kernel
theorem dX7_settleGroup_25 : decode cX7_settleGroup 25 = .ok (.iload 7, 2) := by decide +kernel
theorem dX7_settleGroup_27 : decode cX7_settleGroup 27 = .ok (.invokestatic 32, 3) := by decide +kernel
theorem dX7_settleGroup_30 : decode cX7_settleGroup 30 = .ok (.ifCond .eq 38, 3) := by decide +kernel
theorem dX7_settleGroup_33 : decode cX7_settleGroup 33 = .ok (.aload_n 0, 1) := by decide +kernel
theorem dX7_settleGroup_34 : decode cX7_settleGroup 34 = .ok (.getfield 11, 3) := by decide +kernel
theorem dX7_settleGroup_37 : decode cX7_settleGroup 37 = .ok (.iload 7, 2) := by decide +kernel
theorem dX7_settleGroup_39 : decode cX7_settleGroup 39 = .ok (.aaload, 1) := by decide +kernel
theorem dX7_settleGroup_40 : decode cX7_settleGroup 40 = .ok (.getfield 44, 3) := by decide +kernel
theorem dX7_settleGroup_43 : decode cX7_settleGroup 43 = .ok (.iload_n 2, 1) := by decide +kernel
theorem dX7_settleGroup_44 : decode cX7_settleGroup 44 = .ok (.laload, 1) := by decide +kernel
theorem dX7_settleGroup_45 : decode cX7_settleGroup 45 = .ok (.lload 4, 2) := by decide +kernel
theorem dX7_settleGroup_47 : decode cX7_settleGroup 47 = .ok (.lcmp, 1) := by decide +kernel
theorem dX7_settleGroup_48 : decode cX7_settleGroup 48 = .ok (.ifCond .eq 20, 3) := by decide +kernel
theorem dX7_settleGroup_51 : decode cX7_settleGroup 51 = .ok (.aload_n 0, 1) := by decide +kernel
theorem dX7_settleGroup_52 : decode cX7_settleGroup 52 = .ok (.getfield 11, 3) := by decide +kernel
theorem dX7_settleGroup_55 : decode cX7_settleGroup 55 = .ok (.iload 7, 2) := by decide +kernel
theorem dX7_settleGroup_57 : decode cX7_settleGroup 57 = .ok (.aaload, 1) := by decide +kernel
theorem dX7_settleGroup_58 : decode cX7_settleGroup 58 = .ok (.getfield 44, 3) := by decide +kernel
theorem dX7_settleGroup_61 : decode cX7_settleGroup 61 = .ok (.iload_n 2, 1) := by decide +kernel
theorem dX7_settleGroup_62 : decode cX7_settleGroup 62 = .ok (.lload 4, 2) := by decide +kernel
theorem dX7_settleGroup_64 : decode cX7_settleGroup 64 = .ok (.lastore, 1) := by decide +kernel
theorem dX7_settleGroup_65 : decode cX7_settleGroup 65 = .ok (.iinc 6 1, 3) := by decide +kernel
theorem dX7_settleGroup_68 : decode cX7_settleGroup 68 = .ok (.iinc 7 1, 3) := by decide +kernel
theorem dX7_settleGroup_71 : decode cX7_settleGroup 71 = .ok (.goto (-56), 3) := by decide +kernel
theorem dX7_settleGroup_74 : decode cX7_settleGroup 74 = .ok (.iload 6, 2) := by decide +kernel
theorem dX7_settleGroup_76 : decode cX7_settleGroup 76 = .ok (.ireturn, 1) := by decide +kernel
theorem dX7_mostTrusted_0 : decode cX7_mostTrusted 0 = .ok (.lconst 0, 1) := by decide +kernel
theorem dX7_mostTrusted_1 : decode cX7_mostTrusted 1 = .ok (.lstore 4, 2) := by decide +kernel
theorem dX7_mostTrusted_3 : decode cX7_mostTrusted 3 = .ok (.iconst 0, 1) := by decide +kernel
theorem dX7_mostTrusted_4 : decode cX7_mostTrusted 4 = .ok (.istore 6, 2) := by decide +kernel
theorem dX7_mostTrusted_6 : decode cX7_mostTrusted 6 = .ok (.iconst 0, 1) := by decide +kernel
theorem dX7_mostTrusted_7 : decode cX7_mostTrusted 7 = .ok (.istore 7, 2) := by decide +kernel
theorem dX7_mostTrusted_9 : decode cX7_mostTrusted 9 = .ok (.iload 7, 2) := by decide +kernel
theorem dX7_mostTrusted_11 : decode cX7_mostTrusted 11 = .ok (.aload_n 0, 1) := by decide +kernel
theorem dX7_mostTrusted_12 : decode cX7_mostTrusted 12 = .ok (.getfield 18, 3) := by decide +kernel
theorem dX7_mostTrusted_15 : decode cX7_mostTrusted 15 = .ok (.if_icmp .ge 77, 3) := by decide +kernel
theorem dX7_mostTrusted_18 : decode cX7_mostTrusted 18 = .ok (.iload_n 3, 1) := by decide +kernel
theorem dX7_mostTrusted_19 : decode cX7_mostTrusted 19 = .ok (.iload 7, 2) := by decide +kernel
theorem dX7_mostTrusted_21 : decode cX7_mostTrusted 21 = .ok (.invokestatic 32, 3) := by decide +kernel
theorem dX7_mostTrusted_24 : decode cX7_mostTrusted 24 = .ok (.ifCond .eq 62, 3) := by decide +kernel
theorem dX7_mostTrusted_27 : decode cX7_mostTrusted 27 = .ok (.aload_n 0, 1) := by decide +kernel
theorem dX7_mostTrusted_28 : decode cX7_mostTrusted 28 = .ok (.getfield 11, 3) := by decide +kernel
theorem dX7_mostTrusted_31 : decode cX7_mostTrusted 31 = .ok (.iload 7, 2) := by decide +kernel
theorem dX7_mostTrusted_33 : decode cX7_mostTrusted 33 = .ok (.aaload, 1) := by decide +kernel
theorem dX7_mostTrusted_34 : decode cX7_mostTrusted 34 = .ok (.getfield 44, 3) := by decide +kernel
theorem dX7_mostTrusted_37 : decode cX7_mostTrusted 37 = .ok (.iload_n 2, 1) := by decide +kernel
theorem dX7_mostTrusted_38 : decode cX7_mostTrusted 38 = .ok (.laload, 1) := by decide +kernel
theorem dX7_mostTrusted_39 : decode cX7_mostTrusted 39 = .ok (.lstore 8, 2) := by decide +kernel
theorem dX7_mostTrusted_41 : decode cX7_mostTrusted 41 = .ok (.aload_n 0, 1) := by decide +kernel
theorem dX7_mostTrusted_42 : decode cX7_mostTrusted 42 = .ok (.aload_n 0, 1) := by decide +kernel
theorem dX7_mostTrusted_43 : decode cX7_mostTrusted 43 = .ok (.iload_n 1, 1) := by decide +kernel
theorem dX7_mostTrusted_44 : decode cX7_mostTrusted 44 = .ok (.iload_n 2, 1) := by decide +kernel
theorem dX7_mostTrusted_45 : decode cX7_mostTrusted 45 = .ok (.lload 8, 2) := by decide +kernel
theorem dX7_mostTrusted_47 : decode cX7_mostTrusted 47 = .ok (.iload_n 3, 1) := by decide +kernel
theorem dX7_mostTrusted_48 : decode cX7_mostTrusted 48 = .ok (.invokevirtual 55, 3) := by decide +kernel
theorem dX7_mostTrusted_51 : decode cX7_mostTrusted 51 = .ok (.invokevirtual 66, 3) := by decide +kernel
theorem dX7_mostTrusted_54 : decode cX7_mostTrusted 54 = .ok (.istore 10, 2) := by decide +kernel
theorem dX7_mostTrusted_56 : decode cX7_mostTrusted 56 = .ok (.iload 10, 2) := by decide +kernel
theorem dX7_mostTrusted_58 : decode cX7_mostTrusted 58 = .ok (.iload 6, 2) := by decide +kernel
theorem dX7_mostTrusted_60 : decode cX7_mostTrusted 60 = .ok (.if_icmp .gt 18, 3) := by decide +kernel
theorem dX7_mostTrusted_63 : decode cX7_mostTrusted 63 = .ok (.iload 10, 2) := by decide +kernel
theorem dX7_mostTrusted_65 : decode cX7_mostTrusted 65 = .ok (.iload 6, 2) := by decide +kernel
theorem dX7_mostTrusted_67 : decode cX7_mostTrusted 67 = .ok (.if_icmp .ne 19, 3) := by decide +kernel
theorem dX7_mostTrusted_70 : decode cX7_mostTrusted 70 = .ok (.lload 8, 2) := by decide +kernel
theorem dX7_mostTrusted_72 : decode cX7_mostTrusted 72 = .ok (.lload 4, 2) := by decide +kernel
theorem dX7_mostTrusted_74 : decode cX7_mostTrusted 74 = .ok (.lcmp, 1) := by decide +kernel
theorem dX7_mostTrusted_75 : decode cX7_mostTrusted 75 = .ok (.ifCond .ge 11, 3) := by decide +kernel
theorem dX7_mostTrusted_78 : decode cX7_mostTrusted 78 = .ok (.lload 8, 2) := by decide +kernel
theorem dX7_mostTrusted_80 : decode cX7_mostTrusted 80 = .ok (.lstore 4, 2) := by decide +kernel
theorem dX7_mostTrusted_82 : decode cX7_mostTrusted 82 = .ok (.iload 10, 2) := by decide +kernel
theorem dX7_mostTrusted_84 : decode cX7_mostTrusted 84 = .ok (.istore 6, 2) := by decide +kernel
theorem dX7_mostTrusted_86 : decode cX7_mostTrusted 86 = .ok (.iinc 7 1, 3) := by decide +kernel
theorem dX7_mostTrusted_89 : decode cX7_mostTrusted 89 = .ok (.goto (-80), 3) := by decide +kernel
theorem dX7_mostTrusted_92 : decode cX7_mostTrusted 92 = .ok (.lload 4, 2) := by decide +kernel
theorem dX7_mostTrusted_94 : decode cX7_mostTrusted 94 = .ok (.lreturn, 1) := by decide +kernel
theorem dX8_init_0 : decode cX8_init 0 = .ok (.aload_n 0, 1) := by decide +kernel
theorem dX8_init_1 : decode cX8_init 1 = .ok (.invokespecial 3, 3) := by decide +kernel
theorem dX8_init_4 : decode cX8_init 4 = .ok (.aload_n 0, 1) := by decide +kernel
theorem dX8_init_5 : decode cX8_init 5 = .ok (.bipush 6, 2) := by decide +kernel
theorem dX8_init_7 : decode cX8_init 7 = .ok (.newarray .int, 2) := by decide +kernel
theorem dX8_init_9 : decode cX8_init 9 = .ok (.putfield 9, 3) := by decide +kernel
theorem dX8_init_12 : decode cX8_init 12 = .ok (.return_, 1) := by decide +kernel
theorem dX8_make_0 : decode cX8_make 0 = .ok (.aload_n 0, 1) := by decide +kernel
theorem dX8_make_1 : decode cX8_make 1 = .ok (.iload_n 1, 1) := by decide +kernel
theorem dX8_make_2 : decode cX8_make 2 = .ok (.putfield 15, 3) := by decide +kernel
theorem dX8_make_5 : decode cX8_make 5 = .ok (.iload_n 2, 1) := by decide +kernel
theorem dX8_make_6 : decode cX8_make 6 = .ok (.istore_n 3, 1) := by decide +kernel
theorem dX8_make_7 : decode cX8_make 7 = .ok (.iconst 0, 1) := by decide +kernel
theorem dX8_make_8 : decode cX8_make 8 = .ok (.istore 4, 2) := by decide +kernel
theorem dX8_make_10 : decode cX8_make 10 = .ok (.iload 4, 2) := by decide +kernel
theorem dX8_make_12 : decode cX8_make 12 = .ok (.iload_n 1, 1) := by decide +kernel
theorem dX8_make_13 : decode cX8_make 13 = .ok (.if_icmp .ge 25, 3) := by decide +kernel
theorem dX8_make_16 : decode cX8_make 16 = .ok (.aload_n 0, 1) := by decide +kernel
theorem dX8_make_17 : decode cX8_make 17 = .ok (.getfield 9, 3) := by decide +kernel
theorem dX8_make_20 : decode cX8_make 20 = .ok (.iload 4, 2) := by decide +kernel
theorem dX8_make_22 : decode cX8_make 22 = .ok (.iload_n 3, 1) := by decide +kernel
theorem dX8_make_23 : decode cX8_make 23 = .ok (.bipush 10, 2) := by decide +kernel
theorem dX8_make_25 : decode cX8_make 25 = .ok (.irem, 1) := by decide +kernel
theorem dX8_make_26 : decode cX8_make 26 = .ok (.iastore, 1) := by decide +kernel
theorem dX8_make_27 : decode cX8_make 27 = .ok (.iload_n 3, 1) := by decide +kernel
theorem dX8_make_28 : decode cX8_make 28 = .ok (.bipush 10, 2) := by decide +kernel
theorem dX8_make_30 : decode cX8_make 30 = .ok (.idiv, 1) := by decide +kernel
theorem dX8_make_31 : decode cX8_make 31 = .ok (.istore_n 3, 1) := by decide +kernel
theorem dX8_make_32 : decode cX8_make 32 = .ok (.iinc 4 1, 3) := by decide +kernel
theorem dX8_make_35 : decode cX8_make 35 = .ok (.goto (-25), 3) := by decide +kernel
theorem dX8_make_38 : decode cX8_make 38 = .ok (.return_, 1) := by decide +kernel
theorem dX9_init_0 : decode cX9_init 0 = .ok (.aload_n 0, 1) := by decide +kernel
theorem dX9_init_1 : decode cX9_init 1 = .ok (.invokespecial 3, 3) := by decide +kernel
theorem dX9_init_4 : decode cX9_init 4 = .ok (.aload_n 0, 1) := by decide +kernel
theorem dX9_init_5 : decode cX9_init 5 = .ok (.iconst 4, 1) := by decide +kernel
theorem dX9_init_6 : decode cX9_init 6 = .ok (.anewarray 9, 3) := by decide +kernel
theorem dX9_init_9 : decode cX9_init 9 = .ok (.putfield 11, 3) := by decide +kernel
theorem dX9_init_12 : decode cX9_init 12 = .ok (.aload_n 0, 1) := by decide +kernel
theorem dX9_init_13 : decode cX9_init 13 = .ok (.new 15, 3) := by decide +kernel
theorem dX9_init_16 : decode cX9_init 16 = .ok (.dup, 1) := by decide +kernel
theorem dX9_init_17 : decode cX9_init 17 = .ok (.invokespecial 17, 3) := by decide +kernel
theorem dX9_init_20 : decode cX9_init 20 = .ok (.putfield 18, 3) := by decide +kernel
theorem dX9_init_23 : decode cX9_init 23 = .ok (.aload_n 0, 1) := by decide +kernel
theorem dX9_init_24 : decode cX9_init 24 = .ok (.new 22, 3) := by decide +kernel
theorem dX9_init_27 : decode cX9_init 27 = .ok (.dup, 1) := by decide +kernel
theorem dX9_init_28 : decode cX9_init 28 = .ok (.aload_n 0, 1) := by decide +kernel
theorem dX9_init_29 : decode cX9_init 29 = .ok (.getfield 18, 3) := by decide +kernel
theorem dX9_init_32 : decode cX9_init 32 = .ok (.invokespecial 24, 3) := by decide +kernel
theorem dX9_init_35 : decode cX9_init 35 = .ok (.putfield 27, 3) := by decide +kernel
theorem dX9_init_38 : decode cX9_init 38 = .ok (.aload_n 0, 1) := by decide +kernel
theorem dX9_init_39 : decode cX9_init 39 = .ok (.new 31, 3) := by decide +kernel
theorem dX9_init_42 : decode cX9_init 42 = .ok (.dup, 1) := by decide +kernel
theorem dX9_init_43 : decode cX9_init 43 = .ok (.aload_n 0, 1) := by decide +kernel
theorem dX9_init_44 : decode cX9_init 44 = .ok (.getfield 18, 3) := by decide +kernel
theorem dX9_init_47 : decode cX9_init 47 = .ok (.aload_n 0, 1) := by decide +kernel
theorem dX9_init_48 : decode cX9_init 48 = .ok (.getfield 27, 3) := by decide +kernel
theorem dX9_init_51 : decode cX9_init 51 = .ok (.invokespecial 33, 3) := by decide +kernel
theorem dX9_init_54 : decode cX9_init 54 = .ok (.putfield 36, 3) := by decide +kernel
theorem dX9_init_57 : decode cX9_init 57 = .ok (.aload_n 0, 1) := by decide +kernel
theorem dX9_init_58 : decode cX9_init 58 = .ok (.new 40, 3) := by decide +kernel
theorem dX9_init_61 : decode cX9_init 61 = .ok (.dup, 1) := by decide +kernel
theorem dX9_init_62 : decode cX9_init 62 = .ok (.aload_n 0, 1) := by decide +kernel
theorem dX9_init_63 : decode cX9_init 63 = .ok (.getfield 18, 3) := by decide +kernel
theorem dX9_init_66 : decode cX9_init 66 = .ok (.invokespecial 42, 3) := by decide +kernel
theorem dX9_init_69 : decode cX9_init 69 = .ok (.putfield 43, 3) := by decide +kernel
theorem dX9_init_72 : decode cX9_init 72 = .ok (.iconst 0, 1) := by decide +kernel
theorem dX9_init_73 : decode cX9_init 73 = .ok (.istore_n 1, 1) := by decide +kernel
theorem dX9_init_74 : decode cX9_init 74 = .ok (.iload_n 1, 1) := by decide +kernel
theorem dX9_init_75 : decode cX9_init 75 = .ok (.iconst 4, 1) := by decide +kernel
theorem dX9_init_76 : decode cX9_init 76 = .ok (.if_icmp .ge 22, 3) := by decide +kernel
theorem dX9_init_79 : decode cX9_init 79 = .ok (.aload_n 0, 1) := by decide +kernel
theorem dX9_init_80 : decode cX9_init 80 = .ok (.getfield 11, 3) := by decide +kernel
theorem dX9_init_83 : decode cX9_init 83 = .ok (.iload_n 1, 1) := by decide +kernel
theorem dX9_init_84 : decode cX9_init 84 = .ok (.new 9, 3) := by decide +kernel
theorem dX9_init_87 : decode cX9_init 87 = .ok (.dup, 1) := by decide +kernel
theorem dX9_init_88 : decode cX9_init 88 = .ok (.invokespecial 47, 3) := by decide +kernel
theorem dX9_init_91 : decode cX9_init 91 = .ok (.aastore, 1) := by decide +kernel
theorem dX9_init_92 : decode cX9_init 92 = .ok (.iinc 1 1, 3) := by decide +kernel
theorem dX9_init_95 : decode cX9_init 95 = .ok (.goto (-21), 3) := by decide +kernel
theorem dX9_init_98 : decode cX9_init 98 = .ok (.return_, 1) := by decide +kernel
theorem dX9_table_0 : decode cX9_table 0 = .ok (.iload_n 1, 1) := by decide +kernel
theorem dX9_table_1 : decode cX9_table 1 = .ok (.ifCond .lt 8, 3) := by decide +kernel
theorem dX9_table_4 : decode cX9_table 4 = .ok (.iload_n 1, 1) := by decide +kernel
theorem dX9_table_5 : decode cX9_table 5 = .ok (.iconst 4, 1) := by decide +kernel
theorem dX9_table_6 : decode cX9_table 6 = .ok (.if_icmp .lt 10, 3) := by decide +kernel
theorem dX9_table_9 : decode cX9_table 9 = .ok (.aload_n 0, 1) := by decide +kernel
theorem dX9_table_10 : decode cX9_table 10 = .ok (.bipush (-12), 2) := by decide +kernel
theorem dX9_table_12 : decode cX9_table 12 = .ok (.invokevirtual 48, 3) := by decide +kernel
theorem dX9_table_15 : decode cX9_table 15 = .ok (.ireturn, 1) := by decide +kernel
theorem dX9_table_16 : decode cX9_table 16 = .ok (.iload_n 2, 1) := by decide +kernel
theorem dX9_table_17 : decode cX9_table 17 = .ok (.ifCond .ge 10, 3) := by decide +kernel
theorem dX9_table_20 : decode cX9_table 20 = .ok (.aload_n 0, 1) := by decide +kernel
theorem dX9_table_21 : decode cX9_table 21 = .ok (.bipush (-14), 2) := by decide +kernel
theorem dX9_table_23 : decode cX9_table 23 = .ok (.invokevirtual 48, 3) := by decide +kernel
theorem dX9_table_26 : decode cX9_table 26 = .ok (.ireturn, 1) := by decide +kernel
theorem dX9_table_27 : decode cX9_table 27 = .ok (.iload_n 2, 1) := by decide +kernel
theorem dX9_table_28 : decode cX9_table 28 = .ok (.ifCond .eq 17, 3) := by decide +kernel
theorem dX9_table_31 : decode cX9_table 31 = .ok (.iload_n 2, 1) := by decide +kernel
theorem dX9_table_32 : decode cX9_table 32 = .ok (.bipush 6, 2) := by decide +kernel
theorem dX9_table_34 : decode cX9_table 34 = .ok (.if_icmp .gt 11, 3) := by decide +kernel
theorem dX9_table_37 : decode cX9_table 37 = .ok (.iload_n 2, 1) := by decide +kernel
theorem dX9_table_38 : decode cX9_table 38 = .ok (.iload_n 3, 1) := by decide +kernel
theorem dX9_table_39 : decode cX9_table 39 = .ok (.invokestatic 52, 3) := by decide +kernel
theorem dX9_table_42 : decode cX9_table 42 = .ok (.ifCond .ne 6, 3) := by decide +kernel
theorem dX9_table_45 : decode cX9_table 45 = .ok (.bipush (-2), 2) := by decide +kernel
theorem dX9_table_47 : decode cX9_table 47 = .ok (.ireturn, 1) := by decide +kernel
theorem dX9_table_48 : decode cX9_table 48 = .ok (.aload_n 0, 1) := by decide +kernel
theorem dX9_table_49 : decode cX9_table 49 = .ok (.getfield 11, 3) := by decide +kernel
theorem dX9_table_52 : decode cX9_table 52 = .ok (.iload_n 1, 1) := by decide +kernel
theorem dX9_table_53 : decode cX9_table 53 = .ok (.aaload, 1) := by decide +kernel
theorem dX9_table_54 : decode cX9_table 54 = .ok (.getfield 56, 3) := by decide +kernel
theorem dX9_table_57 : decode cX9_table 57 = .ok (.ifCond .eq 6, 3) := by decide +kernel
theorem dX9_table_60 : decode cX9_table 60 = .ok (.bipush (-3), 2) := by decide +kernel
theorem dX9_table_62 : decode cX9_table 62 = .ok (.ireturn, 1) := by decide +kernel
theorem dX9_table_63 : decode cX9_table 63 = .ok (.aload_n 0, 1) := by decide +kernel
theorem dX9_table_64 : decode cX9_table 64 = .ok (.getfield 11, 3) := by decide +kernel
theorem dX9_table_67 : decode cX9_table 67 = .ok (.iload_n 1, 1) := by decide +kernel
theorem dX9_table_68 : decode cX9_table 68 = .ok (.aaload, 1) := by decide +kernel
theorem dX9_table_69 : decode cX9_table 69 = .ok (.iload_n 2, 1) := by decide +kernel
theorem dX9_table_70 : decode cX9_table 70 = .ok (.iload_n 3, 1) := by decide +kernel
theorem dX9_table_71 : decode cX9_table 71 = .ok (.invokevirtual 60, 3) := by decide +kernel
theorem dX9_table_74 : decode cX9_table 74 = .ok (.iload_n 2, 1) := by decide +kernel
theorem dX9_table_75 : decode cX9_table 75 = .ok (.ireturn, 1) := by decide +kernel
theorem dX9_row_0 : decode cX9_row 0 = .ok (.aload_n 0, 1) := by decide +kernel
theorem dX9_row_1 : decode cX9_row 1 = .ok (.iload_n 1, 1) := by decide +kernel
theorem dX9_row_2 : decode cX9_row 2 = .ok (.invokevirtual 64, 3) := by decide +kernel
theorem dX9_row_5 : decode cX9_row 5 = .ok (.istore_n 3, 1) := by decide +kernel
theorem dX9_row_6 : decode cX9_row 6 = .ok (.iload_n 3, 1) := by decide +kernel
theorem dX9_row_7 : decode cX9_row 7 = .ok (.ifCond .eq 5, 3) := by decide +kernel
theorem dX9_row_10 : decode cX9_row 10 = .ok (.iload_n 3, 1) := by decide +kernel
theorem dX9_row_11 : decode cX9_row 11 = .ok (.ireturn, 1) := by decide +kernel
theorem dX9_row_12 : decode cX9_row 12 = .ok (.iload_n 2, 1) := by decide +kernel
theorem dX9_row_13 : decode cX9_row 13 = .ok (.invokestatic 67, 3) := by decide +kernel
theorem dX9_row_16 : decode cX9_row 16 = .ok (.ifCond .ne 6, 3) := by decide +kernel
theorem dX9_row_19 : decode cX9_row 19 = .ok (.bipush (-2), 2) := by decide +kernel
theorem dX9_row_21 : decode cX9_row 21 = .ok (.ireturn, 1) := by decide +kernel
theorem dX9_row_22 : decode cX9_row 22 = .ok (.aload_n 0, 1) := by decide +kernel
theorem dX9_row_23 : decode cX9_row 23 = .ok (.getfield 18, 3) := by decide +kernel
theorem dX9_row_26 : decode cX9_row 26 = .ok (.getfield 71, 3) := by decide +kernel
theorem dX9_row_29 : decode cX9_row 29 = .ok (.bipush 12, 2) := by decide +kernel
theorem dX9_row_31 : decode cX9_row 31 = .ok (.if_icmp .lt 6, 3) := by decide +kernel
theorem dX9_row_34 : decode cX9_row 34 = .ok (.bipush (-4), 2) := by decide +kernel
theorem dX9_row_36 : decode cX9_row 36 = .ok (.ireturn, 1) := by decide +kernel
theorem dX9_row_37 : decode cX9_row 37 = .ok (.aload_n 0, 1) := by decide +kernel
theorem dX9_row_38 : decode cX9_row 38 = .ok (.getfield 18, 3) := by decide +kernel
theorem dX9_row_41 : decode cX9_row 41 = .ok (.iload_n 1, 1) := by decide +kernel
theorem dX9_row_42 : decode cX9_row 42 = .ok (.iload_n 2, 1) := by decide +kernel
theorem dX9_row_43 : decode cX9_row 43 = .ok (.invokevirtual 74, 3) := by decide +kernel
theorem dX9_row_46 : decode cX9_row 46 = .ok (.ireturn, 1) := by decide +kernel
theorem dX9_put_0 : decode cX9_put 0 = .ok (.aload_n 0, 1) := by decide +kernel
theorem dX9_put_1 : decode cX9_put 1 = .ok (.iload_n 1, 1) := by decide +kernel
theorem dX9_put_2 : decode cX9_put 2 = .ok (.iload_n 2, 1) := by decide +kernel
theorem dX9_put_3 : decode cX9_put 3 = .ok (.invokevirtual 78, 3) := by decide +kernel
theorem dX9_put_6 : decode cX9_put 6 = .ok (.istore 5, 2) := by decide +kernel
theorem dX9_put_8 : decode cX9_put 8 = .ok (.iload 5, 2) := by decide +kernel
theorem dX9_put_10 : decode cX9_put 10 = .ok (.ifCond .eq 6, 3) := by decide +kernel
theorem dX9_put_13 : decode cX9_put 13 = .ok (.iload 5, 2) := by decide +kernel
theorem dX9_put_15 : decode cX9_put 15 = .ok (.ireturn, 1) := by decide +kernel
theorem dX9_put_16 : decode cX9_put 16 = .ok (.aload_n 0, 1) := by decide +kernel
theorem dX9_put_17 : decode cX9_put 17 = .ok (.getfield 18, 3) := by decide +kernel
theorem dX9_put_20 : decode cX9_put 20 = .ok (.getfield 81, 3) := by decide +kernel
theorem dX9_put_23 : decode cX9_put 23 = .ok (.iload_n 1, 1) := by decide +kernel
theorem dX9_put_24 : decode cX9_put 24 = .ok (.aaload, 1) := by decide +kernel
theorem dX9_put_25 : decode cX9_put 25 = .ok (.astore 6, 2) := by decide +kernel
theorem dX9_put_27 : decode cX9_put 27 = .ok (.aload 6, 2) := by decide +kernel
theorem dX9_put_29 : decode cX9_put 29 = .ok (.getfield 85, 3) := by decide +kernel
theorem dX9_put_32 : decode cX9_put 32 = .ok (.iload_n 2, 1) := by decide +kernel
theorem dX9_put_33 : decode cX9_put 33 = .ok (.aload_n 0, 1) := by decide +kernel
theorem dX9_put_34 : decode cX9_put 34 = .ok (.getfield 11, 3) := by decide +kernel
theorem dX9_put_37 : decode cX9_put 37 = .ok (.aload 6, 2) := by decide +kernel
theorem dX9_put_39 : decode cX9_put 39 = .ok (.getfield 91, 3) := by decide +kernel
theorem dX9_put_42 : decode cX9_put 42 = .ok (.aaload, 1) := by decide +kernel
theorem dX9_put_43 : decode cX9_put 43 = .ok (.getfield 94, 3) := by decide +kernel
theorem dX9_put_46 : decode cX9_put 46 = .ok (.iload_n 2, 1) := by decide +kernel
theorem dX9_put_47 : decode cX9_put 47 = .ok (.iaload, 1) := by decide +kernel
theorem dX9_put_48 : decode cX9_put 48 = .ok (.lload_n 3, 1) := by decide +kernel
theorem dX9_put_49 : decode cX9_put 49 = .ok (.invokestatic 98, 3) := by decide +kernel
theorem dX9_put_52 : decode cX9_put 52 = .ok (.lastore, 1) := by decide +kernel
theorem dX9_put_53 : decode cX9_put 53 = .ok (.aload 6, 2) := by decide +kernel
theorem dX9_put_55 : decode cX9_put 55 = .ok (.getfield 102, 3) := by decide +kernel
theorem dX9_put_58 : decode cX9_put 58 = .ok (.iload_n 2, 1) := by decide +kernel
theorem dX9_put_59 : decode cX9_put 59 = .ok (.iconst 1, 1) := by decide +kernel
theorem dX9_put_60 : decode cX9_put 60 = .ok (.bastore, 1) := by decide +kernel
theorem dX9_put_61 : decode cX9_put 61 = .ok (.iconst 1, 1) := by decide +kernel
theorem dX9_put_62 : decode cX9_put 62 = .ok (.ireturn, 1) := by decide +kernel
theorem dX9_miss_0 : decode cX9_miss 0 = .ok (.aload_n 0, 1) := by decide +kernel
theorem dX9_miss_1 : decode cX9_miss 1 = .ok (.iload_n 1, 1) := by decide +kernel
theorem dX9_miss_2 : decode cX9_miss 2 = .ok (.iload_n 2, 1) := by decide +kernel
theorem dX9_miss_3 : decode cX9_miss 3 = .ok (.invokevirtual 78, 3) := by decide +kernel
theorem dX9_miss_6 : decode cX9_miss 6 = .ok (.istore_n 3, 1) := by decide +kernel
theorem dX9_miss_7 : decode cX9_miss 7 = .ok (.iload_n 3, 1) := by decide +kernel
theorem dX9_miss_8 : decode cX9_miss 8 = .ok (.ifCond .eq 5, 3) := by decide +kernel
theorem dX9_miss_11 : decode cX9_miss 11 = .ok (.iload_n 3, 1) := by decide +kernel
theorem dX9_miss_12 : decode cX9_miss 12 = .ok (.ireturn, 1) := by decide +kernel
theorem dX9_miss_13 : decode cX9_miss 13 = .ok (.aload_n 0, 1) := by decide +kernel
theorem dX9_miss_14 : decode cX9_miss 14 = .ok (.getfield 18, 3) := by decide +kernel
theorem dX9_miss_17 : decode cX9_miss 17 = .ok (.getfield 81, 3) := by decide +kernel
theorem dX9_miss_20 : decode cX9_miss 20 = .ok (.iload_n 1, 1) := by decide +kernel
theorem dX9_miss_21 : decode cX9_miss 21 = .ok (.aaload, 1) := by decide +kernel
theorem dX9_miss_22 : decode cX9_miss 22 = .ok (.astore 4, 2) := by decide +kernel
theorem dX9_miss_24 : decode cX9_miss 24 = .ok (.aload 4, 2) := by decide +kernel
theorem dX9_miss_26 : decode cX9_miss 26 = .ok (.getfield 102, 3) := by decide +kernel
theorem dX9_miss_29 : decode cX9_miss 29 = .ok (.iload_n 2, 1) := by decide +kernel
theorem dX9_miss_30 : decode cX9_miss 30 = .ok (.baload, 1) := by decide +kernel
theorem dX9_miss_31 : decode cX9_miss 31 = .ok (.ifCond .ne 7, 3) := by decide +kernel
theorem dX9_miss_34 : decode cX9_miss 34 = .ok (.iconst 1, 1) := by decide +kernel
theorem dX9_miss_35 : decode cX9_miss 35 = .ok (.goto 4, 3) := by decide +kernel
theorem dX9_miss_38 : decode cX9_miss 38 = .ok (.iconst 0, 1) := by decide +kernel
theorem dX9_miss_39 : decode cX9_miss 39 = .ok (.invokestatic 106, 3) := by decide +kernel
theorem dX9_miss_42 : decode cX9_miss 42 = .ok (.istore 5, 2) := by decide +kernel
theorem dX9_miss_44 : decode cX9_miss 44 = .ok (.aload 4, 2) := by decide +kernel
theorem dX9_miss_46 : decode cX9_miss 46 = .ok (.getfield 85, 3) := by decide +kernel
theorem dX9_miss_49 : decode cX9_miss 49 = .ok (.iload_n 2, 1) := by decide +kernel
theorem dX9_miss_50 : decode cX9_miss 50 = .ok (.lconst 0, 1) := by decide +kernel
theorem dX9_miss_51 : decode cX9_miss 51 = .ok (.lastore, 1) := by decide +kernel
theorem dX9_miss_52 : decode cX9_miss 52 = .ok (.aload 4, 2) := by decide +kernel
theorem dX9_miss_54 : decode cX9_miss 54 = .ok (.getfield 102, 3) := by decide +kernel
theorem dX9_miss_57 : decode cX9_miss 57 = .ok (.iload_n 2, 1) := by decide +kernel
theorem dX9_miss_58 : decode cX9_miss 58 = .ok (.iconst 0, 1) := by decide +kernel
theorem dX9_miss_59 : decode cX9_miss 59 = .ok (.bastore, 1) := by decide +kernel
theorem dX9_miss_60 : decode cX9_miss 60 = .ok (.iload 5, 2) := by decide +kernel
theorem dX9_miss_62 : decode cX9_miss 62 = .ok (.ireturn, 1) := by decide +kernel
theorem dX9_has_0 : decode cX9_has 0 = .ok (.aload_n 0, 1) := by decide +kernel
theorem dX9_has_1 : decode cX9_has 1 = .ok (.iload_n 1, 1) := by decide +kernel
theorem dX9_has_2 : decode cX9_has 2 = .ok (.iload_n 2, 1) := by decide +kernel
theorem dX9_has_3 : decode cX9_has 3 = .ok (.invokevirtual 78, 3) := by decide +kernel
theorem dX9_has_6 : decode cX9_has 6 = .ok (.istore_n 3, 1) := by decide +kernel
theorem dX9_has_7 : decode cX9_has 7 = .ok (.iload_n 3, 1) := by decide +kernel
theorem dX9_has_8 : decode cX9_has 8 = .ok (.ifCond .eq 5, 3) := by decide +kernel
theorem dX9_has_11 : decode cX9_has 11 = .ok (.iload_n 3, 1) := by decide +kernel
theorem dX9_has_12 : decode cX9_has 12 = .ok (.ireturn, 1) := by decide +kernel
theorem dX9_has_13 : decode cX9_has 13 = .ok (.aload_n 0, 1) := by decide +kernel
theorem dX9_has_14 : decode cX9_has 14 = .ok (.getfield 18, 3) := by decide +kernel
theorem dX9_has_17 : decode cX9_has 17 = .ok (.getfield 81, 3) := by decide +kernel
theorem dX9_has_20 : decode cX9_has 20 = .ok (.iload_n 1, 1) := by decide +kernel
theorem dX9_has_21 : decode cX9_has 21 = .ok (.aaload, 1) := by decide +kernel
theorem dX9_has_22 : decode cX9_has 22 = .ok (.getfield 102, 3) := by decide +kernel
theorem dX9_has_25 : decode cX9_has 25 = .ok (.iload_n 2, 1) := by decide +kernel
theorem dX9_has_26 : decode cX9_has 26 = .ok (.baload, 1) := by decide +kernel
theorem dX9_has_27 : decode cX9_has 27 = .ok (.invokestatic 106, 3) := by decide +kernel
theorem dX9_has_30 : decode cX9_has 30 = .ok (.ireturn, 1) := by decide +kernel
theorem dX9_cell_0 : decode cX9_cell 0 = .ok (.aload_n 0, 1) := by decide +kernel
theorem dX9_cell_1 : decode cX9_cell 1 = .ok (.iload_n 1, 1) := by decide +kernel
theorem dX9_cell_2 : decode cX9_cell 2 = .ok (.iload_n 2, 1) := by decide +kernel
theorem dX9_cell_3 : decode cX9_cell 3 = .ok (.invokevirtual 78, 3) := by decide +kernel
theorem dX9_cell_6 : decode cX9_cell 6 = .ok (.istore_n 3, 1) := by decide +kernel
theorem dX9_cell_7 : decode cX9_cell 7 = .ok (.iload_n 3, 1) := by decide +kernel
theorem dX9_cell_8 : decode cX9_cell 8 = .ok (.ifCond .eq 6, 3) := by decide +kernel
theorem dX9_cell_11 : decode cX9_cell 11 = .ok (.iload_n 3, 1) := by decide +kernel
theorem dX9_cell_12 : decode cX9_cell 12 = .ok (.i2l, 1) := by decide +kernel
theorem dX9_cell_13 : decode cX9_cell 13 = .ok (.lreturn, 1) := by decide +kernel
theorem dX9_cell_14 : decode cX9_cell 14 = .ok (.aload_n 0, 1) := by decide +kernel
theorem dX9_cell_15 : decode cX9_cell 15 = .ok (.getfield 18, 3) := by decide +kernel
theorem dX9_cell_18 : decode cX9_cell 18 = .ok (.getfield 81, 3) := by decide +kernel
theorem dX9_cell_21 : decode cX9_cell 21 = .ok (.iload_n 1, 1) := by decide +kernel
theorem dX9_cell_22 : decode cX9_cell 22 = .ok (.aaload, 1) := by decide +kernel
theorem dX9_cell_23 : decode cX9_cell 23 = .ok (.getfield 85, 3) := by decide +kernel
theorem dX9_cell_26 : decode cX9_cell 26 = .ok (.iload_n 2, 1) := by decide +kernel
theorem dX9_cell_27 : decode cX9_cell 27 = .ok (.laload, 1) := by decide +kernel
theorem dX9_cell_28 : decode cX9_cell 28 = .ok (.lreturn, 1) := by decide +kernel
theorem dX9_column_0 : decode cX9_column 0 = .ok (.aload_n 0, 1) := by decide +kernel
theorem dX9_column_1 : decode cX9_column 1 = .ok (.iload_n 1, 1) := by decide +kernel
theorem dX9_column_2 : decode cX9_column 2 = .ok (.invokevirtual 64, 3) := by decide +kernel
theorem dX9_column_5 : decode cX9_column 5 = .ok (.istore 4, 2) := by decide +kernel
theorem dX9_column_7 : decode cX9_column 7 = .ok (.iload 4, 2) := by decide +kernel
theorem dX9_column_9 : decode cX9_column 9 = .ok (.ifCond .eq 6, 3) := by decide +kernel
theorem dX9_column_12 : decode cX9_column 12 = .ok (.iload 4, 2) := by decide +kernel
theorem dX9_column_14 : decode cX9_column 14 = .ok (.ireturn, 1) := by decide +kernel
theorem dX9_column_15 : decode cX9_column 15 = .ok (.iload_n 3, 1) := by decide +kernel
theorem dX9_column_16 : decode cX9_column 16 = .ok (.ifCond .lt 8, 3) := by decide +kernel
theorem dX9_column_19 : decode cX9_column 19 = .ok (.iload_n 3, 1) := by decide +kernel
theorem dX9_column_20 : decode cX9_column 20 = .ok (.iconst 5, 1) := by decide +kernel
theorem dX9_column_21 : decode cX9_column 21 = .ok (.if_icmp .le 6, 3) := by decide +kernel
theorem dX9_column_24 : decode cX9_column 24 = .ok (.bipush (-2), 2) := by decide +kernel
theorem dX9_column_26 : decode cX9_column 26 = .ok (.ireturn, 1) := by decide +kernel
theorem dX9_column_27 : decode cX9_column 27 = .ok (.aload_n 0, 1) := by decide +kernel
theorem dX9_column_28 : decode cX9_column 28 = .ok (.iload_n 1, 1) := by decide +kernel
theorem dX9_column_29 : decode cX9_column 29 = .ok (.iload_n 2, 1) := by decide +kernel
theorem dX9_column_30 : decode cX9_column 30 = .ok (.invokevirtual 110, 3) := by decide +kernel
theorem dX9_column_33 : decode cX9_column 33 = .ok (.istore 4, 2) := by decide +kernel
theorem dX9_column_35 : decode cX9_column 35 = .ok (.iload 4, 2) := by decide +kernel
theorem dX9_column_37 : decode cX9_column 37 = .ok (.ifCond .eq 6, 3) := by decide +kernel
theorem dX9_column_40 : decode cX9_column 40 = .ok (.iload 4, 2) := by decide +kernel
theorem dX9_column_42 : decode cX9_column 42 = .ok (.ireturn, 1) := by decide +kernel
theorem dX9_column_43 : decode cX9_column 43 = .ok (.aload_n 0, 1) := by decide +kernel
theorem dX9_column_44 : decode cX9_column 44 = .ok (.getfield 11, 3) := by decide +kernel
theorem dX9_column_47 : decode cX9_column 47 = .ok (.iload_n 1, 1) := by decide +kernel
theorem dX9_column_48 : decode cX9_column 48 = .ok (.aaload, 1) := by decide +kernel
theorem dX9_column_49 : decode cX9_column 49 = .ok (.getfield 94, 3) := by decide +kernel
theorem dX9_column_52 : decode cX9_column 52 = .ok (.iload_n 2, 1) := by decide +kernel
theorem dX9_column_53 : decode cX9_column 53 = .ok (.iaload, 1) := by decide +kernel
theorem dX9_column_54 : decode cX9_column 54 = .ok (.iload_n 3, 1) := by decide +kernel
theorem dX9_column_55 : decode cX9_column 55 = .ok (.if_icmp .eq 10, 3) := by decide +kernel
theorem dX9_column_58 : decode cX9_column 58 = .ok (.aload_n 0, 1) := by decide +kernel
theorem dX9_column_59 : decode cX9_column 59 = .ok (.bipush (-13), 2) := by decide +kernel
theorem dX9_column_61 : decode cX9_column 61 = .ok (.invokevirtual 48, 3) := by decide +kernel
theorem dX9_column_64 : decode cX9_column 64 = .ok (.ireturn, 1) := by decide +kernel
theorem dX9_column_65 : decode cX9_column 65 = .ok (.aload_n 0, 1) := by decide +kernel
theorem dX9_column_66 : decode cX9_column 66 = .ok (.getfield 18, 3) := by decide +kernel
theorem dX9_column_69 : decode cX9_column 69 = .ok (.iload_n 1, 1) := by decide +kernel
theorem dX9_column_70 : decode cX9_column 70 = .ok (.invokevirtual 113, 3) := by decide +kernel
theorem dX9_column_73 : decode cX9_column 73 = .ok (.ireturn, 1) := by decide +kernel
theorem dX9_trust_0 : decode cX9_trust 0 = .ok (.aload_n 0, 1) := by decide +kernel
theorem dX9_trust_1 : decode cX9_trust 1 = .ok (.iload_n 1, 1) := by decide +kernel
theorem dX9_trust_2 : decode cX9_trust 2 = .ok (.invokevirtual 116, 3) := by decide +kernel
theorem dX9_trust_5 : decode cX9_trust 5 = .ok (.ifCond .ne 5, 3) := by decide +kernel
theorem dX9_trust_8 : decode cX9_trust 8 = .ok (.iconst (-1), 1) := by decide +kernel
theorem dX9_trust_9 : decode cX9_trust 9 = .ok (.ireturn, 1) := by decide +kernel
theorem dX9_trust_10 : decode cX9_trust 10 = .ok (.iload_n 2, 1) := by decide +kernel
theorem dX9_trust_11 : decode cX9_trust 11 = .ok (.invokestatic 67, 3) := by decide +kernel
theorem dX9_trust_14 : decode cX9_trust 14 = .ok (.ifCond .ne 6, 3) := by decide +kernel
theorem dX9_trust_17 : decode cX9_trust 17 = .ok (.bipush (-2), 2) := by decide +kernel
theorem dX9_trust_19 : decode cX9_trust 19 = .ok (.ireturn, 1) := by decide +kernel
theorem dX9_trust_20 : decode cX9_trust 20 = .ok (.aload_n 0, 1) := by decide +kernel
theorem dX9_trust_21 : decode cX9_trust 21 = .ok (.getfield 18, 3) := by decide +kernel
theorem dX9_trust_24 : decode cX9_trust 24 = .ok (.getfield 81, 3) := by decide +kernel
theorem dX9_trust_27 : decode cX9_trust 27 = .ok (.iload_n 1, 1) := by decide +kernel
theorem dX9_trust_28 : decode cX9_trust 28 = .ok (.aaload, 1) := by decide +kernel
theorem dX9_trust_29 : decode cX9_trust 29 = .ok (.getfield 119, 3) := by decide +kernel
theorem dX9_trust_32 : decode cX9_trust 32 = .ok (.istore_n 3, 1) := by decide +kernel
theorem dX9_trust_33 : decode cX9_trust 33 = .ok (.aload_n 0, 1) := by decide +kernel
theorem dX9_trust_34 : decode cX9_trust 34 = .ok (.getfield 18, 3) := by decide +kernel
theorem dX9_trust_37 : decode cX9_trust 37 = .ok (.getfield 81, 3) := by decide +kernel
theorem dX9_trust_40 : decode cX9_trust 40 = .ok (.iload_n 1, 1) := by decide +kernel
theorem dX9_trust_41 : decode cX9_trust 41 = .ok (.aaload, 1) := by decide +kernel
theorem dX9_trust_42 : decode cX9_trust 42 = .ok (.iload_n 2, 1) := by decide +kernel
theorem dX9_trust_43 : decode cX9_trust 43 = .ok (.putfield 119, 3) := by decide +kernel
theorem dX9_trust_46 : decode cX9_trust 46 = .ok (.iload_n 3, 1) := by decide +kernel
theorem dX9_trust_47 : decode cX9_trust 47 = .ok (.ireturn, 1) := by decide +kernel
theorem dX9_keep_0 : decode cX9_keep 0 = .ok (.aload_n 0, 1) := by decide +kernel
theorem dX9_keep_1 : decode cX9_keep 1 = .ok (.iload_n 1, 1) := by decide +kernel
theorem dX9_keep_2 : decode cX9_keep 2 = .ok (.invokevirtual 116, 3) := by decide +kernel
theorem dX9_keep_5 : decode cX9_keep 5 = .ok (.ifCond .ne 5, 3) := by decide +kernel
theorem dX9_keep_8 : decode cX9_keep 8 = .ok (.iconst (-1), 1) := by decide +kernel
theorem dX9_keep_9 : decode cX9_keep 9 = .ok (.ireturn, 1) := by decide +kernel
theorem dX9_keep_10 : decode cX9_keep 10 = .ok (.aload_n 0, 1) := by decide +kernel
theorem dX9_keep_11 : decode cX9_keep 11 = .ok (.getfield 18, 3) := by decide +kernel
theorem dX9_keep_14 : decode cX9_keep 14 = .ok (.getfield 81, 3) := by decide +kernel
theorem dX9_keep_17 : decode cX9_keep 17 = .ok (.iload_n 1, 1) := by decide +kernel
theorem dX9_keep_18 : decode cX9_keep 18 = .ok (.aaload, 1) := by decide +kernel
theorem dX9_keep_19 : decode cX9_keep 19 = .ok (.getfield 122, 3) := by decide +kernel
theorem dX9_keep_22 : decode cX9_keep 22 = .ok (.invokestatic 106, 3) := by decide +kernel
theorem dX9_keep_25 : decode cX9_keep 25 = .ok (.istore_n 3, 1) := by decide +kernel
theorem dX9_keep_26 : decode cX9_keep 26 = .ok (.aload_n 0, 1) := by decide +kernel
theorem dX9_keep_27 : decode cX9_keep 27 = .ok (.getfield 18, 3) := by decide +kernel
theorem dX9_keep_30 : decode cX9_keep 30 = .ok (.getfield 81, 3) := by decide +kernel
theorem dX9_keep_33 : decode cX9_keep 33 = .ok (.iload_n 1, 1) := by decide +kernel
theorem dX9_keep_34 : decode cX9_keep 34 = .ok (.aaload, 1) := by decide +kernel
theorem dX9_keep_35 : decode cX9_keep 35 = .ok (.iload_n 2, 1) := by decide +kernel
theorem dX9_keep_36 : decode cX9_keep 36 = .ok (.putfield 122, 3) := by decide +kernel
theorem dX9_keep_39 : decode cX9_keep 39 = .ok (.iload_n 3, 1) := by decide +kernel
theorem dX9_keep_40 : decode cX9_keep 40 = .ok (.ireturn, 1) := by decide +kernel
theorem dX9_about_0 : decode cX9_about 0 = .ok (.aload_n 0, 1) := by decide +kernel
theorem dX9_about_1 : decode cX9_about 1 = .ok (.iload_n 1, 1) := by decide +kernel
theorem dX9_about_2 : decode cX9_about 2 = .ok (.invokevirtual 116, 3) := by decide +kernel
theorem dX9_about_5 : decode cX9_about 5 = .ok (.ifCond .ne 5, 3) := by decide +kernel
theorem dX9_about_8 : decode cX9_about 8 = .ok (.iconst (-1), 1) := by decide +kernel
theorem dX9_about_9 : decode cX9_about 9 = .ok (.ireturn, 1) := by decide +kernel
theorem dX9_about_10 : decode cX9_about 10 = .ok (.aload_n 0, 1) := by decide +kernel
theorem dX9_about_11 : decode cX9_about 11 = .ok (.getfield 18, 3) := by decide +kernel
theorem dX9_about_14 : decode cX9_about 14 = .ok (.getfield 81, 3) := by decide +kernel
theorem dX9_about_17 : decode cX9_about 17 = .ok (.iload_n 1, 1) := by decide +kernel
theorem dX9_about_18 : decode cX9_about 18 = .ok (.aaload, 1) := by decide +kernel
theorem dX9_about_19 : decode cX9_about 19 = .ok (.astore_n 3, 1) := by decide +kernel
theorem dX9_about_20 : decode cX9_about 20 = .ok (.iload_n 2, 1) := by decide +kernel
theorem dX9_about_21 : decode cX9_about 21 = .ok (.tableswitch 45 0 2 #[27, 32, 37], 27) := by decide +kernel
theorem dX9_about_48 : decode cX9_about 48 = .ok (.aload_n 3, 1) := by decide +kernel
theorem dX9_about_49 : decode cX9_about 49 = .ok (.getfield 91, 3) := by decide +kernel
theorem dX9_about_52 : decode cX9_about 52 = .ok (.ireturn, 1) := by decide +kernel
theorem dX9_about_53 : decode cX9_about 53 = .ok (.aload_n 3, 1) := by decide +kernel
theorem dX9_about_54 : decode cX9_about 54 = .ok (.getfield 119, 3) := by decide +kernel
theorem dX9_about_57 : decode cX9_about 57 = .ok (.ireturn, 1) := by decide +kernel
theorem dX9_about_58 : decode cX9_about 58 = .ok (.aload_n 3, 1) := by decide +kernel
theorem dX9_about_59 : decode cX9_about 59 = .ok (.getfield 122, 3) := by decide +kernel
theorem dX9_about_62 : decode cX9_about 62 = .ok (.invokestatic 106, 3) := by decide +kernel
theorem dX9_about_65 : decode cX9_about 65 = .ok (.ireturn, 1) := by decide +kernel
theorem dX9_about_66 : decode cX9_about 66 = .ok (.bipush (-2), 2) := by decide +kernel
theorem dX9_about_68 : decode cX9_about 68 = .ok (.ireturn, 1) := by decide +kernel
theorem dX9_law_0 : decode cX9_law 0 = .ok (.iload_n 1, 1) := by decide +kernel
theorem dX9_law_1 : decode cX9_law 1 = .ok (.ifCond .lt 20, 3) := by decide +kernel
theorem dX9_law_4 : decode cX9_law 4 = .ok (.iload_n 1, 1) := by decide +kernel
theorem dX9_law_5 : decode cX9_law 5 = .ok (.iconst 4, 1) := by decide +kernel
theorem dX9_law_6 : decode cX9_law 6 = .ok (.if_icmp .gt 15, 3) := by decide +kernel
theorem dX9_law_9 : decode cX9_law 9 = .ok (.iload_n 1, 1) := by decide +kernel
theorem dX9_law_10 : decode cX9_law 10 = .ok (.iconst 4, 1) := by decide +kernel
theorem dX9_law_11 : decode cX9_law 11 = .ok (.if_icmp .ne 13, 3) := by decide +kernel
theorem dX9_law_14 : decode cX9_law 14 = .ok (.lload 5, 2) := by decide +kernel
theorem dX9_law_16 : decode cX9_law 16 = .ok (.lconst 0, 1) := by decide +kernel
theorem dX9_law_17 : decode cX9_law 17 = .ok (.lcmp, 1) := by decide +kernel
theorem dX9_law_18 : decode cX9_law 18 = .ok (.ifCond .ge 6, 3) := by decide +kernel
theorem dX9_law_21 : decode cX9_law 21 = .ok (.bipush (-2), 2) := by decide +kernel
theorem dX9_law_23 : decode cX9_law 23 = .ok (.ireturn, 1) := by decide +kernel
theorem dX9_law_24 : decode cX9_law 24 = .ok (.aload_n 0, 1) := by decide +kernel
theorem dX9_law_25 : decode cX9_law 25 = .ok (.getfield 27, 3) := by decide +kernel
theorem dX9_law_28 : decode cX9_law 28 = .ok (.getfield 126, 3) := by decide +kernel
theorem dX9_law_31 : decode cX9_law 31 = .ok (.bipush 10, 2) := by decide +kernel
theorem dX9_law_33 : decode cX9_law 33 = .ok (.if_icmp .lt 6, 3) := by decide +kernel
theorem dX9_law_36 : decode cX9_law 36 = .ok (.bipush (-4), 2) := by decide +kernel
theorem dX9_law_38 : decode cX9_law 38 = .ok (.ireturn, 1) := by decide +kernel
theorem dX9_law_39 : decode cX9_law 39 = .ok (.aload_n 0, 1) := by decide +kernel
theorem dX9_law_40 : decode cX9_law 40 = .ok (.iload_n 2, 1) := by decide +kernel
theorem dX9_law_41 : decode cX9_law 41 = .ok (.iload_n 3, 1) := by decide +kernel
theorem dX9_law_42 : decode cX9_law 42 = .ok (.invokevirtual 127, 3) := by decide +kernel
theorem dX9_law_45 : decode cX9_law 45 = .ok (.istore 9, 2) := by decide +kernel
theorem dX9_law_47 : decode cX9_law 47 = .ok (.iload 9, 2) := by decide +kernel
theorem dX9_law_49 : decode cX9_law 49 = .ok (.ifCond .ne 19, 3) := by decide +kernel
theorem dX9_law_52 : decode cX9_law 52 = .ok (.iload_n 1, 1) := by decide +kernel
theorem dX9_law_53 : decode cX9_law 53 = .ok (.invokestatic 130, 3) := by decide +kernel
theorem dX9_law_56 : decode cX9_law 56 = .ok (.ifCond .eq 12, 3) := by decide +kernel
theorem dX9_law_59 : decode cX9_law 59 = .ok (.aload_n 0, 1) := by decide +kernel
theorem dX9_law_60 : decode cX9_law 60 = .ok (.iload_n 2, 1) := by decide +kernel
theorem dX9_law_61 : decode cX9_law 61 = .ok (.iload 4, 2) := by decide +kernel
theorem dX9_law_63 : decode cX9_law 63 = .ok (.invokevirtual 110, 3) := by decide +kernel
theorem dX9_law_66 : decode cX9_law 66 = .ok (.istore 9, 2) := by decide +kernel
theorem dX9_law_68 : decode cX9_law 68 = .ok (.iload 9, 2) := by decide +kernel
theorem dX9_law_70 : decode cX9_law 70 = .ok (.ifCond .eq 6, 3) := by decide +kernel
theorem dX9_law_73 : decode cX9_law 73 = .ok (.iload 9, 2) := by decide +kernel
theorem dX9_law_75 : decode cX9_law 75 = .ok (.ireturn, 1) := by decide +kernel
theorem dX9_law_76 : decode cX9_law 76 = .ok (.aload_n 0, 1) := by decide +kernel
theorem dX9_law_77 : decode cX9_law 77 = .ok (.getfield 27, 3) := by decide +kernel
theorem dX9_law_80 : decode cX9_law 80 = .ok (.iload_n 1, 1) := by decide +kernel
theorem dX9_law_81 : decode cX9_law 81 = .ok (.iload_n 2, 1) := by decide +kernel
theorem dX9_law_82 : decode cX9_law 82 = .ok (.invokevirtual 133, 3) := by decide +kernel
theorem dX9_law_85 : decode cX9_law 85 = .ok (.astore 10, 2) := by decide +kernel
theorem dX9_law_87 : decode cX9_law 87 = .ok (.aload 10, 2) := by decide +kernel
theorem dX9_law_89 : decode cX9_law 89 = .ok (.iload_n 3, 1) := by decide +kernel
theorem dX9_law_90 : decode cX9_law 90 = .ok (.putfield 136, 3) := by decide +kernel
theorem dX9_law_93 : decode cX9_law 93 = .ok (.aload 10, 2) := by decide +kernel
theorem dX9_law_95 : decode cX9_law 95 = .ok (.iload_n 1, 1) := by decide +kernel
theorem dX9_law_96 : decode cX9_law 96 = .ok (.invokestatic 130, 3) := by decide +kernel
theorem dX9_law_99 : decode cX9_law 99 = .ok (.ifCond .eq 8, 3) := by decide +kernel
theorem dX9_law_102 : decode cX9_law 102 = .ok (.iload 4, 2) := by decide +kernel
theorem dX9_law_104 : decode cX9_law 104 = .ok (.goto 4, 3) := by decide +kernel
theorem dX9_law_107 : decode cX9_law 107 = .ok (.iload_n 3, 1) := by decide +kernel
theorem dX9_law_108 : decode cX9_law 108 = .ok (.putfield 141, 3) := by decide +kernel
theorem dX9_law_111 : decode cX9_law 111 = .ok (.aload 10, 2) := by decide +kernel
theorem dX9_law_113 : decode cX9_law 113 = .ok (.lload 5, 2) := by decide +kernel
theorem dX9_law_115 : decode cX9_law 115 = .ok (.putfield 144, 3) := by decide +kernel
theorem dX9_law_118 : decode cX9_law 118 = .ok (.aload 10, 2) := by decide +kernel
theorem dX9_law_120 : decode cX9_law 120 = .ok (.lload 7, 2) := by decide +kernel
theorem dX9_law_122 : decode cX9_law 122 = .ok (.putfield 148, 3) := by decide +kernel
theorem dX9_law_125 : decode cX9_law 125 = .ok (.aload_n 0, 1) := by decide +kernel
theorem dX9_law_126 : decode cX9_law 126 = .ok (.getfield 27, 3) := by decide +kernel
theorem dX9_law_129 : decode cX9_law 129 = .ok (.getfield 126, 3) := by decide +kernel
theorem dX9_law_132 : decode cX9_law 132 = .ok (.iconst 1, 1) := by decide +kernel
theorem dX9_law_133 : decode cX9_law 133 = .ok (.isub, 1) := by decide +kernel
theorem dX9_law_134 : decode cX9_law 134 = .ok (.ireturn, 1) := by decide +kernel
theorem dX9_among_0 : decode cX9_among 0 = .ok (.aload_n 0, 1) := by decide +kernel
theorem dX9_among_1 : decode cX9_among 1 = .ok (.getfield 27, 3) := by decide +kernel
theorem dX9_among_4 : decode cX9_among 4 = .ok (.getfield 126, 3) := by decide +kernel
theorem dX9_among_7 : decode cX9_among 7 = .ok (.bipush 10, 2) := by decide +kernel
theorem dX9_among_9 : decode cX9_among 9 = .ok (.if_icmp .lt 6, 3) := by decide +kernel
theorem dX9_among_12 : decode cX9_among 12 = .ok (.bipush (-4), 2) := by decide +kernel
theorem dX9_among_14 : decode cX9_among 14 = .ok (.ireturn, 1) := by decide +kernel
theorem dX9_among_15 : decode cX9_among 15 = .ok (.aload_n 0, 1) := by decide +kernel
theorem dX9_among_16 : decode cX9_among 16 = .ok (.iload_n 1, 1) := by decide +kernel
theorem dX9_among_17 : decode cX9_among 17 = .ok (.iload_n 2, 1) := by decide +kernel
theorem dX9_among_18 : decode cX9_among 18 = .ok (.invokevirtual 127, 3) := by decide +kernel
theorem dX9_among_21 : decode cX9_among 21 = .ok (.istore 5, 2) := by decide +kernel
theorem dX9_among_23 : decode cX9_among 23 = .ok (.iload 5, 2) := by decide +kernel
theorem dX9_among_25 : decode cX9_among 25 = .ok (.ifCond .ne 12, 3) := by decide +kernel
theorem dX9_among_28 : decode cX9_among 28 = .ok (.aload_n 0, 1) := by decide +kernel
theorem dX9_among_29 : decode cX9_among 29 = .ok (.iload_n 3, 1) := by decide +kernel
theorem dX9_among_30 : decode cX9_among 30 = .ok (.iload 4, 2) := by decide +kernel
theorem dX9_among_32 : decode cX9_among 32 = .ok (.invokevirtual 127, 3) := by decide +kernel
theorem dX9_among_35 : decode cX9_among 35 = .ok (.istore 5, 2) := by decide +kernel
theorem dX9_among_37 : decode cX9_among 37 = .ok (.iload 5, 2) := by decide +kernel
theorem dX9_among_39 : decode cX9_among 39 = .ok (.ifCond .eq 6, 3) := by decide +kernel
theorem dX9_among_42 : decode cX9_among 42 = .ok (.iload 5, 2) := by decide +kernel
theorem dX9_among_44 : decode cX9_among 44 = .ok (.ireturn, 1) := by decide +kernel
theorem dX9_among_45 : decode cX9_among 45 = .ok (.aload_n 0, 1) := by decide +kernel
theorem dX9_among_46 : decode cX9_among 46 = .ok (.getfield 27, 3) := by decide +kernel
theorem dX9_among_49 : decode cX9_among 49 = .ok (.iconst 5, 1) := by decide +kernel
theorem dX9_among_50 : decode cX9_among 50 = .ok (.iload_n 1, 1) := by decide +kernel
theorem dX9_among_51 : decode cX9_among 51 = .ok (.invokevirtual 133, 3) := by decide +kernel
theorem dX9_among_54 : decode cX9_among 54 = .ok (.astore 6, 2) := by decide +kernel
theorem dX9_among_56 : decode cX9_among 56 = .ok (.aload 6, 2) := by decide +kernel
theorem dX9_among_58 : decode cX9_among 58 = .ok (.iload_n 2, 1) := by decide +kernel
theorem dX9_among_59 : decode cX9_among 59 = .ok (.putfield 136, 3) := by decide +kernel
theorem dX9_among_62 : decode cX9_among 62 = .ok (.aload 6, 2) := by decide +kernel
theorem dX9_among_64 : decode cX9_among 64 = .ok (.iload_n 3, 1) := by decide +kernel
theorem dX9_among_65 : decode cX9_among 65 = .ok (.putfield 151, 3) := by decide +kernel
theorem dX9_among_68 : decode cX9_among 68 = .ok (.aload 6, 2) := by decide +kernel
theorem dX9_among_70 : decode cX9_among 70 = .ok (.iload 4, 2) := by decide +kernel
theorem dX9_among_72 : decode cX9_among 72 = .ok (.putfield 141, 3) := by decide +kernel
theorem dX9_among_75 : decode cX9_among 75 = .ok (.aload_n 0, 1) := by decide +kernel
theorem dX9_among_76 : decode cX9_among 76 = .ok (.getfield 27, 3) := by decide +kernel
theorem dX9_among_79 : decode cX9_among 79 = .ok (.getfield 126, 3) := by decide +kernel
theorem dX9_among_82 : decode cX9_among 82 = .ok (.iconst 1, 1) := by decide +kernel
theorem dX9_among_83 : decode cX9_among 83 = .ok (.isub, 1) := by decide +kernel
theorem dX9_among_84 : decode cX9_among 84 = .ok (.ireturn, 1) := by decide +kernel
theorem dX9_force_0 : decode cX9_force 0 = .ok (.aload_n 0, 1) := by decide +kernel
theorem dX9_force_1 : decode cX9_force 1 = .ok (.iload_n 1, 1) := by decide +kernel
theorem dX9_force_2 : decode cX9_force 2 = .ok (.invokevirtual 154, 3) := by decide +kernel
theorem dX9_force_5 : decode cX9_force 5 = .ok (.ifCond .ne 5, 3) := by decide +kernel
theorem dX9_force_8 : decode cX9_force 8 = .ok (.iconst (-1), 1) := by decide +kernel
theorem dX9_force_9 : decode cX9_force 9 = .ok (.ireturn, 1) := by decide +kernel
theorem dX9_force_10 : decode cX9_force 10 = .ok (.aload_n 0, 1) := by decide +kernel
theorem dX9_force_11 : decode cX9_force 11 = .ok (.getfield 27, 3) := by decide +kernel
theorem dX9_force_14 : decode cX9_force 14 = .ok (.getfield 157, 3) := by decide +kernel
theorem dX9_force_17 : decode cX9_force 17 = .ok (.iload_n 1, 1) := by decide +kernel
theorem dX9_force_18 : decode cX9_force 18 = .ok (.aaload, 1) := by decide +kernel
theorem dX9_force_19 : decode cX9_force 19 = .ok (.getfield 160, 3) := by decide +kernel
theorem dX9_force_22 : decode cX9_force 22 = .ok (.invokestatic 106, 3) := by decide +kernel
theorem dX9_force_25 : decode cX9_force 25 = .ok (.istore_n 3, 1) := by decide +kernel
theorem dX9_force_26 : decode cX9_force 26 = .ok (.aload_n 0, 1) := by decide +kernel
theorem dX9_force_27 : decode cX9_force 27 = .ok (.getfield 27, 3) := by decide +kernel
theorem dX9_force_30 : decode cX9_force 30 = .ok (.getfield 157, 3) := by decide +kernel
theorem dX9_force_33 : decode cX9_force 33 = .ok (.iload_n 1, 1) := by decide +kernel
theorem dX9_force_34 : decode cX9_force 34 = .ok (.aaload, 1) := by decide +kernel
theorem dX9_force_35 : decode cX9_force 35 = .ok (.iload_n 2, 1) := by decide +kernel
theorem dX9_force_36 : decode cX9_force 36 = .ok (.putfield 160, 3) := by decide +kernel
theorem dX9_force_39 : decode cX9_force 39 = .ok (.iload_n 3, 1) := by decide +kernel
theorem dX9_force_40 : decode cX9_force 40 = .ok (.ireturn, 1) := by decide +kernel
theorem dX9_most_0 : decode cX9_most 0 = .ok (.aload_n 0, 1) := by decide +kernel
theorem dX9_most_1 : decode cX9_most 1 = .ok (.iload_n 1, 1) := by decide +kernel
theorem dX9_most_2 : decode cX9_most 2 = .ok (.invokevirtual 154, 3) := by decide +kernel
theorem dX9_most_5 : decode cX9_most 5 = .ok (.ifCond .ne 7, 3) := by decide +kernel
theorem dX9_most_8 : decode cX9_most 8 = .ok (.ldc2_w 163, 3) := by decide +kernel
theorem dX9_most_11 : decode cX9_most 11 = .ok (.lreturn, 1) := by decide +kernel
theorem dX9_most_12 : decode cX9_most 12 = .ok (.aload_n 0, 1) := by decide +kernel
theorem dX9_most_13 : decode cX9_most 13 = .ok (.getfield 27, 3) := by decide +kernel
theorem dX9_most_16 : decode cX9_most 16 = .ok (.getfield 157, 3) := by decide +kernel
theorem dX9_most_19 : decode cX9_most 19 = .ok (.iload_n 1, 1) := by decide +kernel
theorem dX9_most_20 : decode cX9_most 20 = .ok (.aaload, 1) := by decide +kernel
theorem dX9_most_21 : decode cX9_most 21 = .ok (.getfield 165, 3) := by decide +kernel
theorem dX9_most_24 : decode cX9_most 24 = .ok (.iconst 4, 1) := by decide +kernel
theorem dX9_most_25 : decode cX9_most 25 = .ok (.if_icmp .eq 11, 3) := by decide +kernel
theorem dX9_most_28 : decode cX9_most 28 = .ok (.aload_n 0, 1) := by decide +kernel
theorem dX9_most_29 : decode cX9_most 29 = .ok (.bipush (-13), 2) := by decide +kernel
theorem dX9_most_31 : decode cX9_most 31 = .ok (.invokevirtual 48, 3) := by decide +kernel
theorem dX9_most_34 : decode cX9_most 34 = .ok (.i2l, 1) := by decide +kernel
theorem dX9_most_35 : decode cX9_most 35 = .ok (.lreturn, 1) := by decide +kernel
theorem dX9_most_36 : decode cX9_most 36 = .ok (.aload_n 0, 1) := by decide +kernel
theorem dX9_most_37 : decode cX9_most 37 = .ok (.getfield 27, 3) := by decide +kernel
theorem dX9_most_40 : decode cX9_most 40 = .ok (.getfield 157, 3) := by decide +kernel
theorem dX9_most_43 : decode cX9_most 43 = .ok (.iload_n 1, 1) := by decide +kernel
theorem dX9_most_44 : decode cX9_most 44 = .ok (.aaload, 1) := by decide +kernel
theorem dX9_most_45 : decode cX9_most 45 = .ok (.getfield 144, 3) := by decide +kernel
theorem dX9_most_48 : decode cX9_most 48 = .ok (.lreturn, 1) := by decide +kernel
theorem dX9_quarrels_0 : decode cX9_quarrels 0 = .ok (.aload_n 0, 1) := by decide +kernel
theorem dX9_quarrels_1 : decode cX9_quarrels 1 = .ok (.iload_n 1, 1) := by decide +kernel
theorem dX9_quarrels_2 : decode cX9_quarrels 2 = .ok (.invokevirtual 154, 3) := by decide +kernel
theorem dX9_quarrels_5 : decode cX9_quarrels 5 = .ok (.ifCond .ne 5, 3) := by decide +kernel
theorem dX9_quarrels_8 : decode cX9_quarrels 8 = .ok (.iconst (-1), 1) := by decide +kernel
theorem dX9_quarrels_9 : decode cX9_quarrels 9 = .ok (.ireturn, 1) := by decide +kernel
theorem dX9_quarrels_10 : decode cX9_quarrels 10 = .ok (.aload_n 0, 1) := by decide +kernel
theorem dX9_quarrels_11 : decode cX9_quarrels 11 = .ok (.getfield 27, 3) := by decide +kernel
theorem dX9_quarrels_14 : decode cX9_quarrels 14 = .ok (.aload_n 0, 1) := by decide +kernel
theorem dX9_quarrels_15 : decode cX9_quarrels 15 = .ok (.getfield 27, 3) := by decide +kernel
theorem dX9_quarrels_18 : decode cX9_quarrels 18 = .ok (.getfield 157, 3) := by decide +kernel
theorem dX9_quarrels_21 : decode cX9_quarrels 21 = .ok (.iload_n 1, 1) := by decide +kernel
theorem dX9_quarrels_22 : decode cX9_quarrels 22 = .ok (.aaload, 1) := by decide +kernel
theorem dX9_quarrels_23 : decode cX9_quarrels 23 = .ok (.aload_n 0, 1) := by decide +kernel
theorem dX9_quarrels_24 : decode cX9_quarrels 24 = .ok (.getfield 18, 3) := by decide +kernel
theorem dX9_quarrels_27 : decode cX9_quarrels 27 = .ok (.invokevirtual 168, 3) := by decide +kernel
theorem dX9_quarrels_30 : decode cX9_quarrels 30 = .ok (.invokevirtual 171, 3) := by decide +kernel
theorem dX9_quarrels_33 : decode cX9_quarrels 33 = .ok (.aload_n 0, 1) := by decide +kernel
theorem dX9_quarrels_34 : decode cX9_quarrels 34 = .ok (.getfield 27, 3) := by decide +kernel
theorem dX9_quarrels_37 : decode cX9_quarrels 37 = .ok (.getfield 175, 3) := by decide +kernel
theorem dX9_quarrels_40 : decode cX9_quarrels 40 = .ok (.ireturn, 1) := by decide +kernel
theorem dX9_quarrel_0 : decode cX9_quarrel 0 = .ok (.aload_n 0, 1) := by decide +kernel
theorem dX9_quarrel_1 : decode cX9_quarrel 1 = .ok (.iload_n 1, 1) := by decide +kernel
theorem dX9_quarrel_2 : decode cX9_quarrel 2 = .ok (.invokevirtual 154, 3) := by decide +kernel
theorem dX9_quarrel_5 : decode cX9_quarrel 5 = .ok (.ifCond .ne 5, 3) := by decide +kernel
theorem dX9_quarrel_8 : decode cX9_quarrel 8 = .ok (.iconst (-1), 1) := by decide +kernel
theorem dX9_quarrel_9 : decode cX9_quarrel 9 = .ok (.ireturn, 1) := by decide +kernel
theorem dX9_quarrel_10 : decode cX9_quarrel 10 = .ok (.aload_n 0, 1) := by decide +kernel
theorem dX9_quarrel_11 : decode cX9_quarrel 11 = .ok (.getfield 27, 3) := by decide +kernel
theorem dX9_quarrel_14 : decode cX9_quarrel 14 = .ok (.aload_n 0, 1) := by decide +kernel
theorem dX9_quarrel_15 : decode cX9_quarrel 15 = .ok (.getfield 27, 3) := by decide +kernel
theorem dX9_quarrel_18 : decode cX9_quarrel 18 = .ok (.getfield 157, 3) := by decide +kernel
theorem dX9_quarrel_21 : decode cX9_quarrel 21 = .ok (.iload_n 1, 1) := by decide +kernel
theorem dX9_quarrel_22 : decode cX9_quarrel 22 = .ok (.aaload, 1) := by decide +kernel
theorem dX9_quarrel_23 : decode cX9_quarrel 23 = .ok (.aload_n 0, 1) := by decide +kernel
theorem dX9_quarrel_24 : decode cX9_quarrel 24 = .ok (.getfield 18, 3) := by decide +kernel
theorem dX9_quarrel_27 : decode cX9_quarrel 27 = .ok (.invokevirtual 168, 3) := by decide +kernel
theorem dX9_quarrel_30 : decode cX9_quarrel 30 = .ok (.invokevirtual 171, 3) := by decide +kernel
theorem dX9_quarrel_33 : decode cX9_quarrel 33 = .ok (.iload_n 2, 1) := by decide +kernel
theorem dX9_quarrel_34 : decode cX9_quarrel 34 = .ok (.ifCond .lt 14, 3) := by decide +kernel
theorem dX9_quarrel_37 : decode cX9_quarrel 37 = .ok (.iload_n 2, 1) := by decide +kernel
theorem dX9_quarrel_38 : decode cX9_quarrel 38 = .ok (.aload_n 0, 1) := by decide +kernel
theorem dX9_quarrel_39 : decode cX9_quarrel 39 = .ok (.getfield 27, 3) := by decide +kernel
theorem dX9_quarrel_42 : decode cX9_quarrel 42 = .ok (.getfield 175, 3) := by decide +kernel
theorem dX9_quarrel_45 : decode cX9_quarrel 45 = .ok (.if_icmp .lt 6, 3) := by decide +kernel
theorem dX9_quarrel_48 : decode cX9_quarrel 48 = .ok (.bipush (-9), 2) := by decide +kernel
theorem dX9_quarrel_50 : decode cX9_quarrel 50 = .ok (.ireturn, 1) := by decide +kernel
theorem dX9_quarrel_51 : decode cX9_quarrel 51 = .ok (.aload_n 0, 1) := by decide +kernel
theorem dX9_quarrel_52 : decode cX9_quarrel 52 = .ok (.getfield 27, 3) := by decide +kernel
theorem dX9_quarrel_55 : decode cX9_quarrel 55 = .ok (.getfield 178, 3) := by decide +kernel
theorem dX9_quarrel_58 : decode cX9_quarrel 58 = .ok (.iload_n 2, 1) := by decide +kernel
theorem dX9_quarrel_59 : decode cX9_quarrel 59 = .ok (.iaload, 1) := by decide +kernel
theorem dX9_quarrel_60 : decode cX9_quarrel 60 = .ok (.ireturn, 1) := by decide +kernel
theorem dX9_clean_0 : decode cX9_clean 0 = .ok (.aload_n 0, 1) := by decide +kernel
theorem dX9_clean_1 : decode cX9_clean 1 = .ok (.getfield 27, 3) := by decide +kernel
theorem dX9_clean_4 : decode cX9_clean 4 = .ok (.aload_n 0, 1) := by decide +kernel
theorem dX9_clean_5 : decode cX9_clean 5 = .ok (.getfield 18, 3) := by decide +kernel
theorem dX9_clean_8 : decode cX9_clean 8 = .ok (.invokevirtual 168, 3) := by decide +kernel
theorem dX9_clean_11 : decode cX9_clean 11 = .ok (.invokevirtual 180, 3) := by decide +kernel
theorem dX9_clean_14 : decode cX9_clean 14 = .ok (.bipush (-9), 2) := by decide +kernel
theorem dX9_clean_16 : decode cX9_clean 16 = .ok (.if_icmp .ne 7, 3) := by decide +kernel
theorem dX9_clean_19 : decode cX9_clean 19 = .ok (.iconst 1, 1) := by decide +kernel
theorem dX9_clean_20 : decode cX9_clean 20 = .ok (.goto 4, 3) := by decide +kernel
theorem dX9_clean_23 : decode cX9_clean 23 = .ok (.iconst 0, 1) := by decide +kernel
theorem dX9_clean_24 : decode cX9_clean 24 = .ok (.invokestatic 106, 3) := by decide +kernel
theorem dX9_clean_27 : decode cX9_clean 27 = .ok (.ireturn, 1) := by decide +kernel
theorem dX9_breaks_0 : decode cX9_breaks 0 = .ok (.iload_n 1, 1) := by decide +kernel
theorem dX9_breaks_1 : decode cX9_breaks 1 = .ok (.aload_n 0, 1) := by decide +kernel
theorem dX9_breaks_2 : decode cX9_breaks 2 = .ok (.getfield 18, 3) := by decide +kernel
theorem dX9_breaks_5 : decode cX9_breaks 5 = .ok (.invokevirtual 168, 3) := by decide +kernel
theorem dX9_breaks_8 : decode cX9_breaks 8 = .ok (.iconst (-1), 1) := by decide +kernel
theorem dX9_breaks_9 : decode cX9_breaks 9 = .ok (.ixor, 1) := by decide +kernel
theorem dX9_breaks_10 : decode cX9_breaks 10 = .ok (.iand, 1) := by decide +kernel
theorem dX9_breaks_11 : decode cX9_breaks 11 = .ok (.ifCond .eq 6, 3) := by decide +kernel
theorem dX9_breaks_14 : decode cX9_breaks 14 = .ok (.bipush (-2), 2) := by decide +kernel
theorem dX9_breaks_16 : decode cX9_breaks 16 = .ok (.ireturn, 1) := by decide +kernel
theorem dX9_breaks_17 : decode cX9_breaks 17 = .ok (.aload_n 0, 1) := by decide +kernel
theorem dX9_breaks_18 : decode cX9_breaks 18 = .ok (.getfield 27, 3) := by decide +kernel
theorem dX9_breaks_21 : decode cX9_breaks 21 = .ok (.iload_n 1, 1) := by decide +kernel
theorem dX9_breaks_22 : decode cX9_breaks 22 = .ok (.invokevirtual 180, 3) := by decide +kernel
theorem dX9_breaks_25 : decode cX9_breaks 25 = .ok (.ireturn, 1) := by decide +kernel
theorem dX9_mends_0 : decode cX9_mends 0 = .ok (.aload_n 0, 1) := by decide +kernel
theorem dX9_mends_1 : decode cX9_mends 1 = .ok (.getfield 36, 3) := by decide +kernel
theorem dX9_mends_4 : decode cX9_mends 4 = .ok (.invokevirtual 183, 3) := by decide +kernel
theorem dX9_mends_7 : decode cX9_mends 7 = .ok (.aload_n 0, 1) := by decide +kernel
theorem dX9_mends_8 : decode cX9_mends 8 = .ok (.getfield 36, 3) := by decide +kernel
theorem dX9_mends_11 : decode cX9_mends 11 = .ok (.getfield 185, 3) := by decide +kernel
theorem dX9_mends_14 : decode cX9_mends 14 = .ok (.ireturn, 1) := by decide +kernel
theorem dX9_mending_0 : decode cX9_mending 0 = .ok (.aload_n 0, 1) := by decide +kernel
theorem dX9_mending_1 : decode cX9_mending 1 = .ok (.getfield 36, 3) := by decide +kernel
theorem dX9_mending_4 : decode cX9_mending 4 = .ok (.invokevirtual 183, 3) := by decide +kernel
theorem dX9_mending_7 : decode cX9_mending 7 = .ok (.iload_n 1, 1) := by decide +kernel
theorem dX9_mending_8 : decode cX9_mending 8 = .ok (.ifCond .lt 14, 3) := by decide +kernel
theorem dX9_mending_11 : decode cX9_mending 11 = .ok (.iload_n 1, 1) := by decide +kernel
theorem dX9_mending_12 : decode cX9_mending 12 = .ok (.aload_n 0, 1) := by decide +kernel
theorem dX9_mending_13 : decode cX9_mending 13 = .ok (.getfield 36, 3) := by decide +kernel
theorem dX9_mending_16 : decode cX9_mending 16 = .ok (.getfield 185, 3) := by decide +kernel
theorem dX9_mending_19 : decode cX9_mending 19 = .ok (.if_icmp .lt 6, 3) := by decide +kernel
theorem dX9_mending_22 : decode cX9_mending 22 = .ok (.bipush (-9), 2) := by decide +kernel
theorem dX9_mending_24 : decode cX9_mending 24 = .ok (.ireturn, 1) := by decide +kernel
theorem dX9_mending_25 : decode cX9_mending 25 = .ok (.aload_n 0, 1) := by decide +kernel
theorem dX9_mending_26 : decode cX9_mending 26 = .ok (.getfield 36, 3) := by decide +kernel
theorem dX9_mending_29 : decode cX9_mending 29 = .ok (.getfield 186, 3) := by decide +kernel
theorem dX9_mending_32 : decode cX9_mending 32 = .ok (.iload_n 1, 1) := by decide +kernel
theorem dX9_mending_33 : decode cX9_mending 33 = .ok (.iaload, 1) := by decide +kernel
theorem dX9_mending_34 : decode cX9_mending 34 = .ok (.ireturn, 1) := by decide +kernel
theorem dX9_price_0 : decode cX9_price 0 = .ok (.aload_n 0, 1) := by decide +kernel
theorem dX9_price_1 : decode cX9_price 1 = .ok (.getfield 36, 3) := by decide +kernel
theorem dX9_price_4 : decode cX9_price 4 = .ok (.invokevirtual 183, 3) := by decide +kernel
theorem dX9_price_7 : decode cX9_price 7 = .ok (.aload_n 0, 1) := by decide +kernel
theorem dX9_price_8 : decode cX9_price 8 = .ok (.getfield 18, 3) := by decide +kernel
theorem dX9_price_11 : decode cX9_price 11 = .ok (.aload_n 0, 1) := by decide +kernel
theorem dX9_price_12 : decode cX9_price 12 = .ok (.getfield 36, 3) := by decide +kernel
theorem dX9_price_15 : decode cX9_price 15 = .ok (.invokevirtual 189, 3) := by decide +kernel
theorem dX9_price_18 : decode cX9_price 18 = .ok (.invokevirtual 192, 3) := by decide +kernel
theorem dX9_price_21 : decode cX9_price 21 = .ok (.ireturn, 1) := by decide +kernel
theorem dX9_best_0 : decode cX9_best 0 = .ok (.aload_n 0, 1) := by decide +kernel
theorem dX9_best_1 : decode cX9_best 1 = .ok (.getfield 36, 3) := by decide +kernel
theorem dX9_best_4 : decode cX9_best 4 = .ok (.invokevirtual 183, 3) := by decide +kernel
theorem dX9_best_7 : decode cX9_best 7 = .ok (.aload_n 0, 1) := by decide +kernel
theorem dX9_best_8 : decode cX9_best 8 = .ok (.getfield 36, 3) := by decide +kernel
theorem dX9_best_11 : decode cX9_best 11 = .ok (.invokevirtual 189, 3) := by decide +kernel
theorem dX9_best_14 : decode cX9_best 14 = .ok (.ireturn, 1) := by decide +kernel
theorem dX9_blame_0 : decode cX9_blame 0 = .ok (.aload_n 0, 1) := by decide +kernel
theorem dX9_blame_1 : decode cX9_blame 1 = .ok (.iload_n 1, 1) := by decide +kernel
theorem dX9_blame_2 : decode cX9_blame 2 = .ok (.invokevirtual 116, 3) := by decide +kernel
theorem dX9_blame_5 : decode cX9_blame 5 = .ok (.ifCond .ne 5, 3) := by decide +kernel
theorem dX9_blame_8 : decode cX9_blame 8 = .ok (.iconst (-1), 1) := by decide +kernel
theorem dX9_blame_9 : decode cX9_blame 9 = .ok (.ireturn, 1) := by decide +kernel
theorem dX9_blame_10 : decode cX9_blame 10 = .ok (.aload_n 0, 1) := by decide +kernel
theorem dX9_blame_11 : decode cX9_blame 11 = .ok (.getfield 36, 3) := by decide +kernel
theorem dX9_blame_14 : decode cX9_blame 14 = .ok (.invokevirtual 183, 3) := by decide +kernel
theorem dX9_blame_17 : decode cX9_blame 17 = .ok (.iconst 0, 1) := by decide +kernel
theorem dX9_blame_18 : decode cX9_blame 18 = .ok (.istore_n 2, 1) := by decide +kernel
theorem dX9_blame_19 : decode cX9_blame 19 = .ok (.iconst 0, 1) := by decide +kernel
theorem dX9_blame_20 : decode cX9_blame 20 = .ok (.istore_n 3, 1) := by decide +kernel
theorem dX9_blame_21 : decode cX9_blame 21 = .ok (.iload_n 3, 1) := by decide +kernel
theorem dX9_blame_22 : decode cX9_blame 22 = .ok (.aload_n 0, 1) := by decide +kernel
theorem dX9_blame_23 : decode cX9_blame 23 = .ok (.getfield 36, 3) := by decide +kernel
theorem dX9_blame_26 : decode cX9_blame 26 = .ok (.getfield 185, 3) := by decide +kernel
theorem dX9_blame_29 : decode cX9_blame 29 = .ok (.if_icmp .ge 28, 3) := by decide +kernel
theorem dX9_blame_32 : decode cX9_blame 32 = .ok (.iload_n 2, 1) := by decide +kernel
theorem dX9_blame_33 : decode cX9_blame 33 = .ok (.aload_n 0, 1) := by decide +kernel
theorem dX9_blame_34 : decode cX9_blame 34 = .ok (.getfield 36, 3) := by decide +kernel
theorem dX9_blame_37 : decode cX9_blame 37 = .ok (.getfield 186, 3) := by decide +kernel
theorem dX9_blame_40 : decode cX9_blame 40 = .ok (.iload_n 3, 1) := by decide +kernel
theorem dX9_blame_41 : decode cX9_blame 41 = .ok (.iaload, 1) := by decide +kernel
theorem dX9_blame_42 : decode cX9_blame 42 = .ok (.iload_n 1, 1) := by decide +kernel
theorem dX9_blame_43 : decode cX9_blame 43 = .ok (.invokestatic 195, 3) := by decide +kernel
theorem dX9_blame_46 : decode cX9_blame 46 = .ok (.invokestatic 106, 3) := by decide +kernel
theorem dX9_blame_49 : decode cX9_blame 49 = .ok (.iadd, 1) := by decide +kernel
theorem dX9_blame_50 : decode cX9_blame 50 = .ok (.istore_n 2, 1) := by decide +kernel
theorem dX9_blame_51 : decode cX9_blame 51 = .ok (.iinc 3 1, 3) := by decide +kernel
theorem dX9_blame_54 : decode cX9_blame 54 = .ok (.goto (-33), 3) := by decide +kernel
theorem dX9_blame_57 : decode cX9_blame 57 = .ok (.iload_n 2, 1) := by decide +kernel
theorem dX9_blame_58 : decode cX9_blame 58 = .ok (.ireturn, 1) := by decide +kernel
theorem dX9_sum_0 : decode cX9_sum 0 = .ok (.aload_n 0, 1) := by decide +kernel
theorem dX9_sum_1 : decode cX9_sum 1 = .ok (.iload_n 1, 1) := by decide +kernel
theorem dX9_sum_2 : decode cX9_sum 2 = .ok (.iload_n 2, 1) := by decide +kernel
theorem dX9_sum_3 : decode cX9_sum 3 = .ok (.invokevirtual 127, 3) := by decide +kernel
theorem dX9_sum_6 : decode cX9_sum 6 = .ok (.istore 4, 2) := by decide +kernel
theorem dX9_sum_8 : decode cX9_sum 8 = .ok (.iload 4, 2) := by decide +kernel
theorem dX9_sum_10 : decode cX9_sum 10 = .ok (.ifCond .eq 7, 3) := by decide +kernel
theorem dX9_sum_13 : decode cX9_sum 13 = .ok (.iload 4, 2) := by decide +kernel
theorem dX9_sum_15 : decode cX9_sum 15 = .ok (.i2l, 1) := by decide +kernel
theorem dX9_sum_16 : decode cX9_sum 16 = .ok (.lreturn, 1) := by decide +kernel
theorem dX9_sum_17 : decode cX9_sum 17 = .ok (.aload_n 0, 1) := by decide +kernel
theorem dX9_sum_18 : decode cX9_sum 18 = .ok (.getfield 36, 3) := by decide +kernel
theorem dX9_sum_21 : decode cX9_sum 21 = .ok (.invokevirtual 183, 3) := by decide +kernel
theorem dX9_sum_24 : decode cX9_sum 24 = .ok (.lconst 0, 1) := by decide +kernel
theorem dX9_sum_25 : decode cX9_sum 25 = .ok (.lstore 5, 2) := by decide +kernel
theorem dX9_sum_27 : decode cX9_sum 27 = .ok (.iconst 0, 1) := by decide +kernel
theorem dX9_sum_28 : decode cX9_sum 28 = .ok (.istore 7, 2) := by decide +kernel
theorem dX9_sum_30 : decode cX9_sum 30 = .ok (.iload 7, 2) := by decide +kernel
theorem dX9_sum_32 : decode cX9_sum 32 = .ok (.aload_n 0, 1) := by decide +kernel
theorem dX9_sum_33 : decode cX9_sum 33 = .ok (.getfield 36, 3) := by decide +kernel
theorem dX9_sum_36 : decode cX9_sum 36 = .ok (.getfield 185, 3) := by decide +kernel
theorem dX9_sum_39 : decode cX9_sum 39 = .ok (.if_icmp .ge 61, 3) := by decide +kernel
theorem dX9_sum_42 : decode cX9_sum 42 = .ok (.aload_n 0, 1) := by decide +kernel
theorem dX9_sum_43 : decode cX9_sum 43 = .ok (.getfield 18, 3) := by decide +kernel
theorem dX9_sum_46 : decode cX9_sum 46 = .ok (.iload_n 1, 1) := by decide +kernel
theorem dX9_sum_47 : decode cX9_sum 47 = .ok (.iload_n 2, 1) := by decide +kernel
theorem dX9_sum_48 : decode cX9_sum 48 = .ok (.aload_n 0, 1) := by decide +kernel
theorem dX9_sum_49 : decode cX9_sum 49 = .ok (.getfield 36, 3) := by decide +kernel
theorem dX9_sum_52 : decode cX9_sum 52 = .ok (.iload 7, 2) := by decide +kernel
theorem dX9_sum_54 : decode cX9_sum 54 = .ok (.invokevirtual 198, 3) := by decide +kernel
theorem dX9_sum_57 : decode cX9_sum 57 = .ok (.invokevirtual 201, 3) := by decide +kernel
theorem dX9_sum_60 : decode cX9_sum 60 = .ok (.lstore 8, 2) := by decide +kernel
theorem dX9_sum_62 : decode cX9_sum 62 = .ok (.iload 7, 2) := by decide +kernel
theorem dX9_sum_64 : decode cX9_sum 64 = .ok (.ifCond .eq 26, 3) := by decide +kernel
theorem dX9_sum_67 : decode cX9_sum 67 = .ok (.iload_n 3, 1) := by decide +kernel
theorem dX9_sum_68 : decode cX9_sum 68 = .ok (.ifCond .eq 14, 3) := by decide +kernel
theorem dX9_sum_71 : decode cX9_sum 71 = .ok (.lload 8, 2) := by decide +kernel
theorem dX9_sum_73 : decode cX9_sum 73 = .ok (.lload 5, 2) := by decide +kernel
theorem dX9_sum_75 : decode cX9_sum 75 = .ok (.lcmp, 1) := by decide +kernel
theorem dX9_sum_76 : decode cX9_sum 76 = .ok (.ifCond .le 18, 3) := by decide +kernel
theorem dX9_sum_79 : decode cX9_sum 79 = .ok (.goto 11, 3) := by decide +kernel
theorem dX9_sum_82 : decode cX9_sum 82 = .ok (.lload 8, 2) := by decide +kernel
theorem dX9_sum_84 : decode cX9_sum 84 = .ok (.lload 5, 2) := by decide +kernel
theorem dX9_sum_86 : decode cX9_sum 86 = .ok (.lcmp, 1) := by decide +kernel
theorem dX9_sum_87 : decode cX9_sum 87 = .ok (.ifCond .ge 7, 3) := by decide +kernel
theorem dX9_sum_90 : decode cX9_sum 90 = .ok (.lload 8, 2) := by decide +kernel
theorem dX9_sum_92 : decode cX9_sum 92 = .ok (.lstore 5, 2) := by decide +kernel
theorem dX9_sum_94 : decode cX9_sum 94 = .ok (.iinc 7 1, 3) := by decide +kernel
theorem dX9_sum_97 : decode cX9_sum 97 = .ok (.goto (-67), 3) := by decide +kernel
theorem dX9_sum_100 : decode cX9_sum 100 = .ok (.lload 5, 2) := by decide +kernel
theorem dX9_sum_102 : decode cX9_sum 102 = .ok (.lreturn, 1) := by decide +kernel
theorem dX9_mend_0 : decode cX9_mend 0 = .ok (.aload_n 0, 1) := by decide +kernel
theorem dX9_mend_1 : decode cX9_mend 1 = .ok (.getfield 36, 3) := by decide +kernel
theorem dX9_mend_4 : decode cX9_mend 4 = .ok (.invokevirtual 183, 3) := by decide +kernel
theorem dX9_mend_7 : decode cX9_mend 7 = .ok (.aload_n 0, 1) := by decide +kernel
theorem dX9_mend_8 : decode cX9_mend 8 = .ok (.getfield 36, 3) := by decide +kernel
theorem dX9_mend_11 : decode cX9_mend 11 = .ok (.invokevirtual 189, 3) := by decide +kernel
theorem dX9_mend_14 : decode cX9_mend 14 = .ok (.istore_n 1, 1) := by decide +kernel
theorem dX9_mend_15 : decode cX9_mend 15 = .ok (.aload_n 0, 1) := by decide +kernel
theorem dX9_mend_16 : decode cX9_mend 16 = .ok (.getfield 18, 3) := by decide +kernel
theorem dX9_mend_19 : decode cX9_mend 19 = .ok (.iload_n 1, 1) := by decide +kernel
theorem dX9_mend_20 : decode cX9_mend 20 = .ok (.invokevirtual 205, 3) := by decide +kernel
theorem dX9_mend_23 : decode cX9_mend 23 = .ok (.iload_n 1, 1) := by decide +kernel
theorem dX9_mend_24 : decode cX9_mend 24 = .ok (.invokestatic 209, 3) := by decide +kernel
theorem dX9_mend_27 : decode cX9_mend 27 = .ok (.ireturn, 1) := by decide +kernel
theorem dX9_settle_0 : decode cX9_settle 0 = .ok (.aload_n 0, 1) := by decide +kernel
theorem dX9_settle_1 : decode cX9_settle 1 = .ok (.iload_n 1, 1) := by decide +kernel
theorem dX9_settle_2 : decode cX9_settle 2 = .ok (.invokevirtual 154, 3) := by decide +kernel
theorem dX9_settle_5 : decode cX9_settle 5 = .ok (.ifCond .ne 5, 3) := by decide +kernel
theorem dX9_settle_8 : decode cX9_settle 8 = .ok (.iconst (-1), 1) := by decide +kernel
theorem dX9_settle_9 : decode cX9_settle 9 = .ok (.ireturn, 1) := by decide +kernel
theorem dX9_settle_10 : decode cX9_settle 10 = .ok (.aload_n 0, 1) := by decide +kernel
theorem dX9_settle_11 : decode cX9_settle 11 = .ok (.getfield 27, 3) := by decide +kernel
theorem dX9_settle_14 : decode cX9_settle 14 = .ok (.getfield 157, 3) := by decide +kernel
theorem dX9_settle_17 : decode cX9_settle 17 = .ok (.iload_n 1, 1) := by decide +kernel
theorem dX9_settle_18 : decode cX9_settle 18 = .ok (.aaload, 1) := by decide +kernel
theorem dX9_settle_19 : decode cX9_settle 19 = .ok (.astore_n 2, 1) := by decide +kernel
theorem dX9_settle_20 : decode cX9_settle 20 = .ok (.aload_n 2, 1) := by decide +kernel
theorem dX9_settle_21 : decode cX9_settle 21 = .ok (.getfield 165, 3) := by decide +kernel
theorem dX9_settle_24 : decode cX9_settle 24 = .ok (.ifCond .eq 10, 3) := by decide +kernel
theorem dX9_settle_27 : decode cX9_settle 27 = .ok (.aload_n 0, 1) := by decide +kernel
theorem dX9_settle_28 : decode cX9_settle 28 = .ok (.bipush (-13), 2) := by decide +kernel
theorem dX9_settle_30 : decode cX9_settle 30 = .ok (.invokevirtual 48, 3) := by decide +kernel
theorem dX9_settle_33 : decode cX9_settle 33 = .ok (.ireturn, 1) := by decide +kernel
theorem dX9_settle_34 : decode cX9_settle 34 = .ok (.aload_n 2, 1) := by decide +kernel
theorem dX9_settle_35 : decode cX9_settle 35 = .ok (.getfield 136, 3) := by decide +kernel
theorem dX9_settle_38 : decode cX9_settle 38 = .ok (.aload_n 2, 1) := by decide +kernel
theorem dX9_settle_39 : decode cX9_settle 39 = .ok (.getfield 141, 3) := by decide +kernel
theorem dX9_settle_42 : decode cX9_settle 42 = .ok (.if_icmp .ne 6, 3) := by decide +kernel
theorem dX9_settle_45 : decode cX9_settle 45 = .ok (.bipush (-3), 2) := by decide +kernel
theorem dX9_settle_47 : decode cX9_settle 47 = .ok (.ireturn, 1) := by decide +kernel
theorem dX9_settle_48 : decode cX9_settle 48 = .ok (.aload_n 0, 1) := by decide +kernel
theorem dX9_settle_49 : decode cX9_settle 49 = .ok (.getfield 18, 3) := by decide +kernel
theorem dX9_settle_52 : decode cX9_settle 52 = .ok (.aload_n 2, 1) := by decide +kernel
theorem dX9_settle_53 : decode cX9_settle 53 = .ok (.getfield 214, 3) := by decide +kernel
theorem dX9_settle_56 : decode cX9_settle 56 = .ok (.aload_n 2, 1) := by decide +kernel
theorem dX9_settle_57 : decode cX9_settle 57 = .ok (.getfield 136, 3) := by decide +kernel
theorem dX9_settle_60 : decode cX9_settle 60 = .ok (.aload_n 2, 1) := by decide +kernel
theorem dX9_settle_61 : decode cX9_settle 61 = .ok (.getfield 141, 3) := by decide +kernel
theorem dX9_settle_64 : decode cX9_settle 64 = .ok (.invokevirtual 215, 3) := by decide +kernel
theorem dX9_settle_67 : decode cX9_settle 67 = .ok (.ireturn, 1) := by decide +kernel
theorem dX9_ask_0 : decode cX9_ask 0 = .ok (.aload_n 0, 1) := by decide +kernel
theorem dX9_ask_1 : decode cX9_ask 1 = .ok (.getfield 43, 3) := by decide +kernel
theorem dX9_ask_4 : decode cX9_ask 4 = .ok (.getfield 219, 3) := by decide +kernel
theorem dX9_ask_7 : decode cX9_ask 7 = .ok (.istore_n 1, 1) := by decide +kernel
theorem dX9_ask_8 : decode cX9_ask 8 = .ok (.aload_n 0, 1) := by decide +kernel
theorem dX9_ask_9 : decode cX9_ask 9 = .ok (.getfield 43, 3) := by decide +kernel
theorem dX9_ask_12 : decode cX9_ask 12 = .ok (.invokevirtual 222, 3) := by decide +kernel
theorem dX9_ask_15 : decode cX9_ask 15 = .ok (.iload_n 1, 1) := by decide +kernel
theorem dX9_ask_16 : decode cX9_ask 16 = .ok (.ireturn, 1) := by decide +kernel
theorem dX9_part_0 : decode cX9_part 0 = .ok (.aload_n 0, 1) := by decide +kernel
theorem dX9_part_1 : decode cX9_part 1 = .ok (.iload_n 1, 1) := by decide +kernel
theorem dX9_part_2 : decode cX9_part 2 = .ok (.invokevirtual 64, 3) := by decide +kernel
theorem dX9_part_5 : decode cX9_part 5 = .ok (.istore_n 2, 1) := by decide +kernel
theorem dX9_part_6 : decode cX9_part 6 = .ok (.iload_n 2, 1) := by decide +kernel
theorem dX9_part_7 : decode cX9_part 7 = .ok (.ifCond .eq 5, 3) := by decide +kernel
theorem dX9_part_10 : decode cX9_part 10 = .ok (.iload_n 2, 1) := by decide +kernel
theorem dX9_part_11 : decode cX9_part 11 = .ok (.ireturn, 1) := by decide +kernel
theorem dX9_part_12 : decode cX9_part 12 = .ok (.aload_n 0, 1) := by decide +kernel
theorem dX9_part_13 : decode cX9_part 13 = .ok (.getfield 43, 3) := by decide +kernel
theorem dX9_part_16 : decode cX9_part 16 = .ok (.getfield 219, 3) := by decide +kernel
theorem dX9_part_19 : decode cX9_part 19 = .ok (.iconst 3, 1) := by decide +kernel
theorem dX9_part_20 : decode cX9_part 20 = .ok (.if_icmp .lt 6, 3) := by decide +kernel
theorem dX9_part_23 : decode cX9_part 23 = .ok (.bipush (-4), 2) := by decide +kernel
theorem dX9_part_25 : decode cX9_part 25 = .ok (.ireturn, 1) := by decide +kernel
theorem dX9_part_26 : decode cX9_part 26 = .ok (.aload_n 0, 1) := by decide +kernel
theorem dX9_part_27 : decode cX9_part 27 = .ok (.getfield 43, 3) := by decide +kernel
theorem dX9_part_30 : decode cX9_part 30 = .ok (.iload_n 1, 1) := by decide +kernel
theorem dX9_part_31 : decode cX9_part 31 = .ok (.invokevirtual 225, 3) := by decide +kernel
theorem dX9_part_34 : decode cX9_part 34 = .ok (.ireturn, 1) := by decide +kernel
theorem dX9_tell_0 : decode cX9_tell 0 = .ok (.aload_n 0, 1) := by decide +kernel
theorem dX9_tell_1 : decode cX9_tell 1 = .ok (.iload_n 1, 1) := by decide +kernel
theorem dX9_tell_2 : decode cX9_tell 2 = .ok (.iload_n 2, 1) := by decide +kernel
theorem dX9_tell_3 : decode cX9_tell 3 = .ok (.invokevirtual 228, 3) := by decide +kernel
theorem dX9_tell_6 : decode cX9_tell 6 = .ok (.istore 5, 2) := by decide +kernel
theorem dX9_tell_8 : decode cX9_tell 8 = .ok (.iload 5, 2) := by decide +kernel
theorem dX9_tell_10 : decode cX9_tell 10 = .ok (.ifCond .eq 6, 3) := by decide +kernel
theorem dX9_tell_13 : decode cX9_tell 13 = .ok (.iload 5, 2) := by decide +kernel
theorem dX9_tell_15 : decode cX9_tell 15 = .ok (.ireturn, 1) := by decide +kernel
theorem dX9_tell_16 : decode cX9_tell 16 = .ok (.aload_n 0, 1) := by decide +kernel
theorem dX9_tell_17 : decode cX9_tell 17 = .ok (.getfield 43, 3) := by decide +kernel
theorem dX9_tell_20 : decode cX9_tell 20 = .ok (.getfield 231, 3) := by decide +kernel
theorem dX9_tell_23 : decode cX9_tell 23 = .ok (.iload_n 1, 1) := by decide +kernel
theorem dX9_tell_24 : decode cX9_tell 24 = .ok (.aaload, 1) := by decide +kernel
theorem dX9_tell_25 : decode cX9_tell 25 = .ok (.getfield 235, 3) := by decide +kernel
theorem dX9_tell_28 : decode cX9_tell 28 = .ok (.iload_n 2, 1) := by decide +kernel
theorem dX9_tell_29 : decode cX9_tell 29 = .ok (.iconst 1, 1) := by decide +kernel
theorem dX9_tell_30 : decode cX9_tell 30 = .ok (.bastore, 1) := by decide +kernel
theorem dX9_tell_31 : decode cX9_tell 31 = .ok (.aload_n 0, 1) := by decide +kernel
theorem dX9_tell_32 : decode cX9_tell 32 = .ok (.getfield 43, 3) := by decide +kernel
theorem dX9_tell_35 : decode cX9_tell 35 = .ok (.getfield 231, 3) := by decide +kernel
theorem dX9_tell_38 : decode cX9_tell 38 = .ok (.iload_n 1, 1) := by decide +kernel
theorem dX9_tell_39 : decode cX9_tell 39 = .ok (.aaload, 1) := by decide +kernel
theorem dX9_tell_40 : decode cX9_tell 40 = .ok (.getfield 240, 3) := by decide +kernel
theorem dX9_tell_43 : decode cX9_tell 43 = .ok (.iload_n 2, 1) := by decide +kernel
theorem dX9_tell_44 : decode cX9_tell 44 = .ok (.lload_n 3, 1) := by decide +kernel
theorem dX9_tell_45 : decode cX9_tell 45 = .ok (.lastore, 1) := by decide +kernel
theorem dX9_tell_46 : decode cX9_tell 46 = .ok (.iconst 1, 1) := by decide +kernel
theorem dX9_tell_47 : decode cX9_tell 47 = .ok (.ireturn, 1) := by decide +kernel
theorem dX9_join_0 : decode cX9_join 0 = .ok (.aload_n 0, 1) := by decide +kernel
theorem dX9_join_1 : decode cX9_join 1 = .ok (.iload_n 1, 1) := by decide +kernel
theorem dX9_join_2 : decode cX9_join 2 = .ok (.invokevirtual 241, 3) := by decide +kernel
theorem dX9_join_5 : decode cX9_join 5 = .ok (.ifCond .eq 11, 3) := by decide +kernel
theorem dX9_join_8 : decode cX9_join 8 = .ok (.aload_n 0, 1) := by decide +kernel
theorem dX9_join_9 : decode cX9_join 9 = .ok (.iload_n 3, 1) := by decide +kernel
theorem dX9_join_10 : decode cX9_join 10 = .ok (.invokevirtual 241, 3) := by decide +kernel
theorem dX9_join_13 : decode cX9_join 13 = .ok (.ifCond .ne 5, 3) := by decide +kernel
theorem dX9_join_16 : decode cX9_join 16 = .ok (.iconst (-1), 1) := by decide +kernel
theorem dX9_join_17 : decode cX9_join 17 = .ok (.ireturn, 1) := by decide +kernel
theorem dX9_join_18 : decode cX9_join 18 = .ok (.aload_n 0, 1) := by decide +kernel
theorem dX9_join_19 : decode cX9_join 19 = .ok (.iload_n 1, 1) := by decide +kernel
theorem dX9_join_20 : decode cX9_join 20 = .ok (.iload_n 2, 1) := by decide +kernel
theorem dX9_join_21 : decode cX9_join 21 = .ok (.invokevirtual 228, 3) := by decide +kernel
theorem dX9_join_24 : decode cX9_join 24 = .ok (.istore 5, 2) := by decide +kernel
theorem dX9_join_26 : decode cX9_join 26 = .ok (.iload 5, 2) := by decide +kernel
theorem dX9_join_28 : decode cX9_join 28 = .ok (.ifCond .ne 12, 3) := by decide +kernel
theorem dX9_join_31 : decode cX9_join 31 = .ok (.aload_n 0, 1) := by decide +kernel
theorem dX9_join_32 : decode cX9_join 32 = .ok (.iload_n 3, 1) := by decide +kernel
theorem dX9_join_33 : decode cX9_join 33 = .ok (.iload 4, 2) := by decide +kernel
theorem dX9_join_35 : decode cX9_join 35 = .ok (.invokevirtual 228, 3) := by decide +kernel
theorem dX9_join_38 : decode cX9_join 38 = .ok (.istore 5, 2) := by decide +kernel
theorem dX9_join_40 : decode cX9_join 40 = .ok (.iload 5, 2) := by decide +kernel
theorem dX9_join_42 : decode cX9_join 42 = .ok (.ifCond .eq 6, 3) := by decide +kernel
theorem dX9_join_45 : decode cX9_join 45 = .ok (.iload 5, 2) := by decide +kernel
theorem dX9_join_47 : decode cX9_join 47 = .ok (.ireturn, 1) := by decide +kernel
theorem dX9_join_48 : decode cX9_join 48 = .ok (.aload_n 0, 1) := by decide +kernel
theorem dX9_join_49 : decode cX9_join 49 = .ok (.getfield 43, 3) := by decide +kernel
theorem dX9_join_52 : decode cX9_join 52 = .ok (.getfield 244, 3) := by decide +kernel
theorem dX9_join_55 : decode cX9_join 55 = .ok (.bipush 6, 2) := by decide +kernel
theorem dX9_join_57 : decode cX9_join 57 = .ok (.if_icmp .lt 6, 3) := by decide +kernel
theorem dX9_join_60 : decode cX9_join 60 = .ok (.bipush (-4), 2) := by decide +kernel
theorem dX9_join_62 : decode cX9_join 62 = .ok (.ireturn, 1) := by decide +kernel
theorem dX9_join_63 : decode cX9_join 63 = .ok (.aload_n 0, 1) := by decide +kernel
theorem dX9_join_64 : decode cX9_join 64 = .ok (.getfield 43, 3) := by decide +kernel
theorem dX9_join_67 : decode cX9_join 67 = .ok (.iload_n 1, 1) := by decide +kernel
theorem dX9_join_68 : decode cX9_join 68 = .ok (.iload_n 2, 1) := by decide +kernel
theorem dX9_join_69 : decode cX9_join 69 = .ok (.iload_n 3, 1) := by decide +kernel
theorem dX9_join_70 : decode cX9_join 70 = .ok (.iload 4, 2) := by decide +kernel
theorem dX9_join_72 : decode cX9_join 72 = .ok (.invokevirtual 247, 3) := by decide +kernel
theorem dX9_join_75 : decode cX9_join 75 = .ok (.ireturn, 1) := by decide +kernel
theorem dX9_stands_0 : decode cX9_stands 0 = .ok (.aload_n 0, 1) := by decide +kernel
theorem dX9_stands_1 : decode cX9_stands 1 = .ok (.getfield 43, 3) := by decide +kernel
theorem dX9_stands_4 : decode cX9_stands 4 = .ok (.aload_n 0, 1) := by decide +kernel
theorem dX9_stands_5 : decode cX9_stands 5 = .ok (.getfield 18, 3) := by decide +kernel
theorem dX9_stands_8 : decode cX9_stands 8 = .ok (.invokevirtual 168, 3) := by decide +kernel
theorem dX9_stands_11 : decode cX9_stands 11 = .ok (.invokevirtual 251, 3) := by decide +kernel
theorem dX9_stands_14 : decode cX9_stands 14 = .ok (.invokestatic 106, 3) := by decide +kernel
theorem dX9_stands_17 : decode cX9_stands 17 = .ok (.ireturn, 1) := by decide +kernel
theorem dX9_often_0 : decode cX9_often 0 = .ok (.aload_n 0, 1) := by decide +kernel
theorem dX9_often_1 : decode cX9_often 1 = .ok (.getfield 36, 3) := by decide +kernel
theorem dX9_often_4 : decode cX9_often 4 = .ok (.invokevirtual 183, 3) := by decide +kernel
theorem dX9_often_7 : decode cX9_often 7 = .ok (.aload_n 0, 1) := by decide +kernel
theorem dX9_often_8 : decode cX9_often 8 = .ok (.invokevirtual 254, 3) := by decide +kernel
theorem dX9_often_11 : decode cX9_often 11 = .ok (.ireturn, 1) := by decide +kernel
theorem dX9_sure_0 : decode cX9_sure 0 = .ok (.aload_n 0, 1) := by decide +kernel
theorem dX9_sure_1 : decode cX9_sure 1 = .ok (.getfield 36, 3) := by decide +kernel
theorem dX9_sure_4 : decode cX9_sure 4 = .ok (.invokevirtual 183, 3) := by decide +kernel
theorem dX9_sure_7 : decode cX9_sure 7 = .ok (.aload_n 0, 1) := by decide +kernel
theorem dX9_sure_8 : decode cX9_sure 8 = .ok (.invokevirtual 254, 3) := by decide +kernel
theorem dX9_sure_11 : decode cX9_sure 11 = .ok (.istore_n 1, 1) := by decide +kernel
theorem dX9_sure_12 : decode cX9_sure 12 = .ok (.iload_n 1, 1) := by decide +kernel
theorem dX9_sure_13 : decode cX9_sure 13 = .ok (.ifCond .ne 5, 3) := by decide +kernel
theorem dX9_sure_16 : decode cX9_sure 16 = .ok (.iconst 0, 1) := by decide +kernel
theorem dX9_sure_17 : decode cX9_sure 17 = .ok (.ireturn, 1) := by decide +kernel
theorem dX9_sure_18 : decode cX9_sure 18 = .ok (.iload_n 1, 1) := by decide +kernel
theorem dX9_sure_19 : decode cX9_sure 19 = .ok (.aload_n 0, 1) := by decide +kernel
theorem dX9_sure_20 : decode cX9_sure 20 = .ok (.getfield 36, 3) := by decide +kernel
theorem dX9_sure_23 : decode cX9_sure 23 = .ok (.getfield 185, 3) := by decide +kernel
theorem dX9_sure_26 : decode cX9_sure 26 = .ok (.if_icmp .ne 7, 3) := by decide +kernel
theorem dX9_sure_29 : decode cX9_sure 29 = .ok (.iconst 2, 1) := by decide +kernel
theorem dX9_sure_30 : decode cX9_sure 30 = .ok (.goto 4, 3) := by decide +kernel
theorem dX9_sure_33 : decode cX9_sure 33 = .ok (.iconst 1, 1) := by decide +kernel
theorem dX9_sure_34 : decode cX9_sure 34 = .ok (.ireturn, 1) := by decide +kernel
theorem dX9_against_0 : decode cX9_against 0 = .ok (.aload_n 0, 1) := by decide +kernel
theorem dX9_against_1 : decode cX9_against 1 = .ok (.getfield 36, 3) := by decide +kernel
theorem dX9_against_4 : decode cX9_against 4 = .ok (.invokevirtual 183, 3) := by decide +kernel
theorem dX9_against_7 : decode cX9_against 7 = .ok (.aload_n 0, 1) := by decide +kernel
theorem dX9_against_8 : decode cX9_against 8 = .ok (.getfield 43, 3) := by decide +kernel
theorem dX9_against_11 : decode cX9_against 11 = .ok (.aload_n 0, 1) := by decide +kernel
theorem dX9_against_12 : decode cX9_against 12 = .ok (.getfield 36, 3) := by decide +kernel
theorem dX9_against_15 : decode cX9_against 15 = .ok (.getfield 257, 3) := by decide +kernel
theorem dX9_against_18 : decode cX9_against 18 = .ok (.invokevirtual 259, 3) := by decide +kernel
theorem dX9_against_21 : decode cX9_against 21 = .ok (.iconst 0, 1) := by decide +kernel
theorem dX9_against_22 : decode cX9_against 22 = .ok (.istore_n 1, 1) := by decide +kernel
theorem dX9_against_23 : decode cX9_against 23 = .ok (.iload_n 1, 1) := by decide +kernel
theorem dX9_against_24 : decode cX9_against 24 = .ok (.aload_n 0, 1) := by decide +kernel
theorem dX9_against_25 : decode cX9_against 25 = .ok (.getfield 36, 3) := by decide +kernel
theorem dX9_against_28 : decode cX9_against 28 = .ok (.getfield 185, 3) := by decide +kernel
theorem dX9_against_31 : decode cX9_against 31 = .ok (.if_icmp .ge 38, 3) := by decide +kernel
theorem dX9_against_34 : decode cX9_against 34 = .ok (.aload_n 0, 1) := by decide +kernel
theorem dX9_against_35 : decode cX9_against 35 = .ok (.getfield 43, 3) := by decide +kernel
theorem dX9_against_38 : decode cX9_against 38 = .ok (.getfield 262, 3) := by decide +kernel
theorem dX9_against_41 : decode cX9_against 41 = .ok (.aload_n 0, 1) := by decide +kernel
theorem dX9_against_42 : decode cX9_against 42 = .ok (.getfield 36, 3) := by decide +kernel
theorem dX9_against_45 : decode cX9_against 45 = .ok (.iload_n 1, 1) := by decide +kernel
theorem dX9_against_46 : decode cX9_against 46 = .ok (.invokevirtual 198, 3) := by decide +kernel
theorem dX9_against_49 : decode cX9_against 49 = .ok (.baload, 1) := by decide +kernel
theorem dX9_against_50 : decode cX9_against 50 = .ok (.ifCond .ne 13, 3) := by decide +kernel
theorem dX9_against_53 : decode cX9_against 53 = .ok (.aload_n 0, 1) := by decide +kernel
theorem dX9_against_54 : decode cX9_against 54 = .ok (.getfield 36, 3) := by decide +kernel
theorem dX9_against_57 : decode cX9_against 57 = .ok (.getfield 186, 3) := by decide +kernel
theorem dX9_against_60 : decode cX9_against 60 = .ok (.iload_n 1, 1) := by decide +kernel
theorem dX9_against_61 : decode cX9_against 61 = .ok (.iaload, 1) := by decide +kernel
theorem dX9_against_62 : decode cX9_against 62 = .ok (.ireturn, 1) := by decide +kernel
theorem dX9_against_63 : decode cX9_against 63 = .ok (.iinc 1 1, 3) := by decide +kernel
theorem dX9_against_66 : decode cX9_against 66 = .ok (.goto (-43), 3) := by decide +kernel
theorem dX9_against_69 : decode cX9_against 69 = .ok (.bipush (-9), 2) := by decide +kernel
theorem dX9_against_71 : decode cX9_against 71 = .ok (.ireturn, 1) := by decide +kernel
theorem dX9_count_0 : decode cX9_count 0 = .ok (.iload_n 1, 1) := by decide +kernel
theorem dX9_count_1 : decode cX9_count 1 = .ok (.tableswitch 96 0 6 #[43, 51, 59, 67, 75, 80, 91], 43) := by decide +kernel
theorem dX9_count_44 : decode cX9_count 44 = .ok (.aload_n 0, 1) := by decide +kernel
theorem dX9_count_45 : decode cX9_count 45 = .ok (.getfield 18, 3) := by decide +kernel
theorem dX9_count_48 : decode cX9_count 48 = .ok (.getfield 71, 3) := by decide +kernel
theorem dX9_count_51 : decode cX9_count 51 = .ok (.ireturn, 1) := by decide +kernel
theorem dX9_count_52 : decode cX9_count 52 = .ok (.aload_n 0, 1) := by decide +kernel
theorem dX9_count_53 : decode cX9_count 53 = .ok (.getfield 27, 3) := by decide +kernel
theorem dX9_count_56 : decode cX9_count 56 = .ok (.getfield 126, 3) := by decide +kernel
theorem dX9_count_59 : decode cX9_count 59 = .ok (.ireturn, 1) := by decide +kernel
theorem dX9_count_60 : decode cX9_count 60 = .ok (.aload_n 0, 1) := by decide +kernel
theorem dX9_count_61 : decode cX9_count 61 = .ok (.getfield 43, 3) := by decide +kernel
theorem dX9_count_64 : decode cX9_count 64 = .ok (.getfield 219, 3) := by decide +kernel
theorem dX9_count_67 : decode cX9_count 67 = .ok (.ireturn, 1) := by decide +kernel
theorem dX9_count_68 : decode cX9_count 68 = .ok (.aload_n 0, 1) := by decide +kernel
theorem dX9_count_69 : decode cX9_count 69 = .ok (.getfield 43, 3) := by decide +kernel
theorem dX9_count_72 : decode cX9_count 72 = .ok (.getfield 244, 3) := by decide +kernel
theorem dX9_count_75 : decode cX9_count 75 = .ok (.ireturn, 1) := by decide +kernel
theorem dX9_count_76 : decode cX9_count 76 = .ok (.aload_n 0, 1) := by decide +kernel
theorem dX9_count_77 : decode cX9_count 77 = .ok (.getfield 265, 3) := by decide +kernel
theorem dX9_count_80 : decode cX9_count 80 = .ok (.ireturn, 1) := by decide +kernel
theorem dX9_count_81 : decode cX9_count 81 = .ok (.aload_n 0, 1) := by decide +kernel
theorem dX9_count_82 : decode cX9_count 82 = .ok (.getfield 18, 3) := by decide +kernel
theorem dX9_count_85 : decode cX9_count 85 = .ok (.invokevirtual 168, 3) := by decide +kernel
theorem dX9_count_88 : decode cX9_count 88 = .ok (.invokestatic 209, 3) := by decide +kernel
theorem dX9_count_91 : decode cX9_count 91 = .ok (.ireturn, 1) := by decide +kernel
theorem dX9_count_92 : decode cX9_count 92 = .ok (.aload_n 0, 1) := by decide +kernel
theorem dX9_count_93 : decode cX9_count 93 = .ok (.invokevirtual 268, 3) := by decide +kernel
theorem dX9_count_96 : decode cX9_count 96 = .ok (.ireturn, 1) := by decide +kernel
theorem dX9_count_97 : decode cX9_count 97 = .ok (.bipush (-2), 2) := by decide +kernel
theorem dX9_count_99 : decode cX9_count 99 = .ok (.ireturn, 1) := by decide +kernel
theorem dX9_found_0 : decode cX9_found 0 = .ok (.aload_n 0, 1) := by decide +kernel
theorem dX9_found_1 : decode cX9_found 1 = .ok (.dup, 1) := by decide +kernel
theorem dX9_found_2 : decode cX9_found 2 = .ok (.getfield 265, 3) := by decide +kernel
theorem dX9_found_5 : decode cX9_found 5 = .ok (.iconst 1, 1) := by decide +kernel
theorem dX9_found_6 : decode cX9_found 6 = .ok (.iadd, 1) := by decide +kernel
theorem dX9_found_7 : decode cX9_found 7 = .ok (.putfield 265, 3) := by decide +kernel
theorem dX9_found_10 : decode cX9_found 10 = .ok (.iload_n 1, 1) := by decide +kernel
theorem dX9_found_11 : decode cX9_found 11 = .ok (.ireturn, 1) := by decide +kernel
theorem dX9_faultOfTable_0 : decode cX9_faultOfTable 0 = .ok (.iload_n 1, 1) := by decide +kernel
theorem dX9_faultOfTable_1 : decode cX9_faultOfTable 1 = .ok (.ifCond .lt 8, 3) := by decide +kernel
theorem dX9_faultOfTable_4 : decode cX9_faultOfTable 4 = .ok (.iload_n 1, 1) := by decide +kernel
theorem dX9_faultOfTable_5 : decode cX9_faultOfTable 5 = .ok (.iconst 4, 1) := by decide +kernel
theorem dX9_faultOfTable_6 : decode cX9_faultOfTable 6 = .ok (.if_icmp .lt 10, 3) := by decide +kernel
theorem dX9_faultOfTable_9 : decode cX9_faultOfTable 9 = .ok (.aload_n 0, 1) := by decide +kernel
theorem dX9_faultOfTable_10 : decode cX9_faultOfTable 10 = .ok (.bipush (-12), 2) := by decide +kernel
theorem dX9_faultOfTable_12 : decode cX9_faultOfTable 12 = .ok (.invokevirtual 48, 3) := by decide +kernel
theorem dX9_faultOfTable_15 : decode cX9_faultOfTable 15 = .ok (.ireturn, 1) := by decide +kernel
theorem dX9_faultOfTable_16 : decode cX9_faultOfTable 16 = .ok (.aload_n 0, 1) := by decide +kernel
theorem dX9_faultOfTable_17 : decode cX9_faultOfTable 17 = .ok (.getfield 11, 3) := by decide +kernel
theorem dX9_faultOfTable_20 : decode cX9_faultOfTable 20 = .ok (.iload_n 1, 1) := by decide +kernel
theorem dX9_faultOfTable_21 : decode cX9_faultOfTable 21 = .ok (.aaload, 1) := by decide +kernel
theorem dX9_faultOfTable_22 : decode cX9_faultOfTable 22 = .ok (.getfield 56, 3) := by decide +kernel
theorem dX9_faultOfTable_25 : decode cX9_faultOfTable 25 = .ok (.ifCond .ne 12, 3) := by decide +kernel
theorem dX9_faultOfTable_28 : decode cX9_faultOfTable 28 = .ok (.aload_n 0, 1) := by decide +kernel
theorem dX9_faultOfTable_29 : decode cX9_faultOfTable 29 = .ok (.bipush (-11), 2) := by decide +kernel
theorem dX9_faultOfTable_31 : decode cX9_faultOfTable 31 = .ok (.invokevirtual 48, 3) := by decide +kernel
theorem dX9_faultOfTable_34 : decode cX9_faultOfTable 34 = .ok (.goto 4, 3) := by decide +kernel
theorem dX9_faultOfTable_37 : decode cX9_faultOfTable 37 = .ok (.iconst 0, 1) := by decide +kernel
theorem dX9_faultOfTable_38 : decode cX9_faultOfTable 38 = .ok (.ireturn, 1) := by decide +kernel
theorem dX9_faultOfColumn_0 : decode cX9_faultOfColumn 0 = .ok (.iload_n 2, 1) := by decide +kernel
theorem dX9_faultOfColumn_1 : decode cX9_faultOfColumn 1 = .ok (.ifCond .lt 16, 3) := by decide +kernel
theorem dX9_faultOfColumn_4 : decode cX9_faultOfColumn 4 = .ok (.iload_n 2, 1) := by decide +kernel
theorem dX9_faultOfColumn_5 : decode cX9_faultOfColumn 5 = .ok (.aload_n 0, 1) := by decide +kernel
theorem dX9_faultOfColumn_6 : decode cX9_faultOfColumn 6 = .ok (.getfield 11, 3) := by decide +kernel
theorem dX9_faultOfColumn_9 : decode cX9_faultOfColumn 9 = .ok (.iload_n 1, 1) := by decide +kernel
theorem dX9_faultOfColumn_10 : decode cX9_faultOfColumn 10 = .ok (.aaload, 1) := by decide +kernel
theorem dX9_faultOfColumn_11 : decode cX9_faultOfColumn 11 = .ok (.getfield 56, 3) := by decide +kernel
theorem dX9_faultOfColumn_14 : decode cX9_faultOfColumn 14 = .ok (.if_icmp .lt 12, 3) := by decide +kernel
theorem dX9_faultOfColumn_17 : decode cX9_faultOfColumn 17 = .ok (.aload_n 0, 1) := by decide +kernel
theorem dX9_faultOfColumn_18 : decode cX9_faultOfColumn 18 = .ok (.bipush (-12), 2) := by decide +kernel
theorem dX9_faultOfColumn_20 : decode cX9_faultOfColumn 20 = .ok (.invokevirtual 48, 3) := by decide +kernel
theorem dX9_faultOfColumn_23 : decode cX9_faultOfColumn 23 = .ok (.goto 4, 3) := by decide +kernel
theorem dX9_faultOfColumn_26 : decode cX9_faultOfColumn 26 = .ok (.iconst 0, 1) := by decide +kernel
theorem dX9_faultOfColumn_27 : decode cX9_faultOfColumn 27 = .ok (.ireturn, 1) := by decide +kernel
theorem dX9_faultOfColumnIn_0 : decode cX9_faultOfColumnIn 0 = .ok (.aload_n 0, 1) := by decide +kernel
theorem dX9_faultOfColumnIn_1 : decode cX9_faultOfColumnIn 1 = .ok (.iload_n 1, 1) := by decide +kernel
theorem dX9_faultOfColumnIn_2 : decode cX9_faultOfColumnIn 2 = .ok (.invokevirtual 64, 3) := by decide +kernel
theorem dX9_faultOfColumnIn_5 : decode cX9_faultOfColumnIn 5 = .ok (.istore_n 3, 1) := by decide +kernel
theorem dX9_faultOfColumnIn_6 : decode cX9_faultOfColumnIn 6 = .ok (.iload_n 3, 1) := by decide +kernel
theorem dX9_faultOfColumnIn_7 : decode cX9_faultOfColumnIn 7 = .ok (.ifCond .eq 7, 3) := by decide +kernel
theorem dX9_faultOfColumnIn_10 : decode cX9_faultOfColumnIn 10 = .ok (.iload_n 3, 1) := by decide +kernel
theorem dX9_faultOfColumnIn_11 : decode cX9_faultOfColumnIn 11 = .ok (.goto 9, 3) := by decide +kernel
theorem dX9_faultOfColumnIn_14 : decode cX9_faultOfColumnIn 14 = .ok (.aload_n 0, 1) := by decide +kernel
theorem dX9_faultOfColumnIn_15 : decode cX9_faultOfColumnIn 15 = .ok (.iload_n 1, 1) := by decide +kernel
theorem dX9_faultOfColumnIn_16 : decode cX9_faultOfColumnIn 16 = .ok (.iload_n 2, 1) := by decide +kernel
theorem dX9_faultOfColumnIn_17 : decode cX9_faultOfColumnIn 17 = .ok (.invokevirtual 110, 3) := by decide +kernel
theorem dX9_faultOfColumnIn_20 : decode cX9_faultOfColumnIn 20 = .ok (.ireturn, 1) := by decide +kernel
theorem dX9_faultOfCell_0 : decode cX9_faultOfCell 0 = .ok (.aload_n 0, 1) := by decide +kernel
theorem dX9_faultOfCell_1 : decode cX9_faultOfCell 1 = .ok (.iload_n 1, 1) := by decide +kernel
theorem dX9_faultOfCell_2 : decode cX9_faultOfCell 2 = .ok (.invokevirtual 116, 3) := by decide +kernel
theorem dX9_faultOfCell_5 : decode cX9_faultOfCell 5 = .ok (.ifCond .eq 23, 3) := by decide +kernel
theorem dX9_faultOfCell_8 : decode cX9_faultOfCell 8 = .ok (.aload_n 0, 1) := by decide +kernel
theorem dX9_faultOfCell_9 : decode cX9_faultOfCell 9 = .ok (.aload_n 0, 1) := by decide +kernel
theorem dX9_faultOfCell_10 : decode cX9_faultOfCell 10 = .ok (.getfield 18, 3) := by decide +kernel
theorem dX9_faultOfCell_13 : decode cX9_faultOfCell 13 = .ok (.getfield 81, 3) := by decide +kernel
theorem dX9_faultOfCell_16 : decode cX9_faultOfCell 16 = .ok (.iload_n 1, 1) := by decide +kernel
theorem dX9_faultOfCell_17 : decode cX9_faultOfCell 17 = .ok (.aaload, 1) := by decide +kernel
theorem dX9_faultOfCell_18 : decode cX9_faultOfCell 18 = .ok (.getfield 91, 3) := by decide +kernel
theorem dX9_faultOfCell_21 : decode cX9_faultOfCell 21 = .ok (.iload_n 2, 1) := by decide +kernel
theorem dX9_faultOfCell_22 : decode cX9_faultOfCell 22 = .ok (.invokevirtual 110, 3) := by decide +kernel
theorem dX9_faultOfCell_25 : decode cX9_faultOfCell 25 = .ok (.goto 4, 3) := by decide +kernel
theorem dX9_faultOfCell_28 : decode cX9_faultOfCell 28 = .ok (.iconst (-1), 1) := by decide +kernel
theorem dX9_faultOfCell_29 : decode cX9_faultOfCell 29 = .ok (.ireturn, 1) := by decide +kernel
theorem dX9_faultOfPart_0 : decode cX9_faultOfPart 0 = .ok (.aload_n 0, 1) := by decide +kernel
theorem dX9_faultOfPart_1 : decode cX9_faultOfPart 1 = .ok (.iload_n 1, 1) := by decide +kernel
theorem dX9_faultOfPart_2 : decode cX9_faultOfPart 2 = .ok (.invokevirtual 241, 3) := by decide +kernel
theorem dX9_faultOfPart_5 : decode cX9_faultOfPart 5 = .ok (.ifCond .eq 23, 3) := by decide +kernel
theorem dX9_faultOfPart_8 : decode cX9_faultOfPart 8 = .ok (.aload_n 0, 1) := by decide +kernel
theorem dX9_faultOfPart_9 : decode cX9_faultOfPart 9 = .ok (.aload_n 0, 1) := by decide +kernel
theorem dX9_faultOfPart_10 : decode cX9_faultOfPart 10 = .ok (.getfield 43, 3) := by decide +kernel
theorem dX9_faultOfPart_13 : decode cX9_faultOfPart 13 = .ok (.getfield 231, 3) := by decide +kernel
theorem dX9_faultOfPart_16 : decode cX9_faultOfPart 16 = .ok (.iload_n 1, 1) := by decide +kernel
theorem dX9_faultOfPart_17 : decode cX9_faultOfPart 17 = .ok (.aaload, 1) := by decide +kernel
theorem dX9_faultOfPart_18 : decode cX9_faultOfPart 18 = .ok (.getfield 271, 3) := by decide +kernel
theorem dX9_faultOfPart_21 : decode cX9_faultOfPart 21 = .ok (.iload_n 2, 1) := by decide +kernel
theorem dX9_faultOfPart_22 : decode cX9_faultOfPart 22 = .ok (.invokevirtual 110, 3) := by decide +kernel
theorem dX9_faultOfPart_25 : decode cX9_faultOfPart 25 = .ok (.goto 4, 3) := by decide +kernel
theorem dX9_faultOfPart_28 : decode cX9_faultOfPart 28 = .ok (.iconst (-1), 1) := by decide +kernel
theorem dX9_faultOfPart_29 : decode cX9_faultOfPart 29 = .ok (.ireturn, 1) := by decide +kernel
theorem dX9_isRow_0 : decode cX9_isRow 0 = .ok (.iload_n 1, 1) := by decide +kernel
theorem dX9_isRow_1 : decode cX9_isRow 1 = .ok (.ifCond .lt 18, 3) := by decide +kernel
theorem dX9_isRow_4 : decode cX9_isRow 4 = .ok (.iload_n 1, 1) := by decide +kernel
theorem dX9_isRow_5 : decode cX9_isRow 5 = .ok (.aload_n 0, 1) := by decide +kernel
theorem dX9_isRow_6 : decode cX9_isRow 6 = .ok (.getfield 18, 3) := by decide +kernel
theorem dX9_isRow_9 : decode cX9_isRow 9 = .ok (.getfield 71, 3) := by decide +kernel
theorem dX9_isRow_12 : decode cX9_isRow 12 = .ok (.if_icmp .ge 7, 3) := by decide +kernel
theorem dX9_isRow_15 : decode cX9_isRow 15 = .ok (.iconst 1, 1) := by decide +kernel
theorem dX9_isRow_16 : decode cX9_isRow 16 = .ok (.goto 4, 3) := by decide +kernel
theorem dX9_isRow_19 : decode cX9_isRow 19 = .ok (.iconst 0, 1) := by decide +kernel
theorem dX9_isRow_20 : decode cX9_isRow 20 = .ok (.ireturn, 1) := by decide +kernel
theorem dX9_isLaw_0 : decode cX9_isLaw 0 = .ok (.iload_n 1, 1) := by decide +kernel
theorem dX9_isLaw_1 : decode cX9_isLaw 1 = .ok (.ifCond .lt 18, 3) := by decide +kernel
theorem dX9_isLaw_4 : decode cX9_isLaw 4 = .ok (.iload_n 1, 1) := by decide +kernel
theorem dX9_isLaw_5 : decode cX9_isLaw 5 = .ok (.aload_n 0, 1) := by decide +kernel
theorem dX9_isLaw_6 : decode cX9_isLaw 6 = .ok (.getfield 27, 3) := by decide +kernel
theorem dX9_isLaw_9 : decode cX9_isLaw 9 = .ok (.getfield 126, 3) := by decide +kernel
theorem dX9_isLaw_12 : decode cX9_isLaw 12 = .ok (.if_icmp .ge 7, 3) := by decide +kernel
theorem dX9_isLaw_15 : decode cX9_isLaw 15 = .ok (.iconst 1, 1) := by decide +kernel
theorem dX9_isLaw_16 : decode cX9_isLaw 16 = .ok (.goto 4, 3) := by decide +kernel
theorem dX9_isLaw_19 : decode cX9_isLaw 19 = .ok (.iconst 0, 1) := by decide +kernel
theorem dX9_isLaw_20 : decode cX9_isLaw 20 = .ok (.ireturn, 1) := by decide +kernel
theorem dX9_isPart_0 : decode cX9_isPart 0 = .ok (.iload_n 1, 1) := by decide +kernel
theorem dX9_isPart_1 : decode cX9_isPart 1 = .ok (.ifCond .lt 18, 3) := by decide +kernel
theorem dX9_isPart_4 : decode cX9_isPart 4 = .ok (.iload_n 1, 1) := by decide +kernel
theorem dX9_isPart_5 : decode cX9_isPart 5 = .ok (.aload_n 0, 1) := by decide +kernel
theorem dX9_isPart_6 : decode cX9_isPart 6 = .ok (.getfield 43, 3) := by decide +kernel
theorem dX9_isPart_9 : decode cX9_isPart 9 = .ok (.getfield 219, 3) := by decide +kernel
theorem dX9_isPart_12 : decode cX9_isPart 12 = .ok (.if_icmp .ge 7, 3) := by decide +kernel
theorem dX9_isPart_15 : decode cX9_isPart 15 = .ok (.iconst 1, 1) := by decide +kernel
theorem dX9_isPart_16 : decode cX9_isPart 16 = .ok (.goto 4, 3) := by decide +kernel
theorem dX9_isPart_19 : decode cX9_isPart 19 = .ok (.iconst 0, 1) := by decide +kernel
theorem dX9_isPart_20 : decode cX9_isPart 20 = .ok (.ireturn, 1) := by decide +kernel
theorem dX9_isTrust_0 : decode cX9_isTrust 0 = .ok (.iload_n 0, 1) := by decide +kernel
theorem dX9_isTrust_1 : decode cX9_isTrust 1 = .ok (.iconst 1, 1) := by decide +kernel
theorem dX9_isTrust_2 : decode cX9_isTrust 2 = .ok (.if_icmp .lt 13, 3) := by decide +kernel
theorem dX9_isTrust_5 : decode cX9_isTrust 5 = .ok (.iload_n 0, 1) := by decide +kernel
theorem dX9_isTrust_6 : decode cX9_isTrust 6 = .ok (.bipush 100, 2) := by decide +kernel
theorem dX9_isTrust_8 : decode cX9_isTrust 8 = .ok (.if_icmp .gt 7, 3) := by decide +kernel
theorem dX9_isTrust_11 : decode cX9_isTrust 11 = .ok (.iconst 1, 1) := by decide +kernel
theorem dX9_isTrust_12 : decode cX9_isTrust 12 = .ok (.goto 4, 3) := by decide +kernel
theorem dX9_isTrust_15 : decode cX9_isTrust 15 = .ok (.iconst 0, 1) := by decide +kernel
theorem dX9_isTrust_16 : decode cX9_isTrust 16 = .ok (.ireturn, 1) := by decide +kernel
theorem dX9_areLanes_0 : decode cX9_areLanes 0 = .ok (.iload_n 1, 1) := by decide +kernel
theorem dX9_areLanes_1 : decode cX9_areLanes 1 = .ok (.istore_n 2, 1) := by decide +kernel
theorem dX9_areLanes_2 : decode cX9_areLanes 2 = .ok (.iconst 0, 1) := by decide +kernel
theorem dX9_areLanes_3 : decode cX9_areLanes 3 = .ok (.istore_n 3, 1) := by decide +kernel
theorem dX9_areLanes_4 : decode cX9_areLanes 4 = .ok (.iload_n 3, 1) := by decide +kernel
theorem dX9_areLanes_5 : decode cX9_areLanes 5 = .ok (.iload_n 0, 1) := by decide +kernel
theorem dX9_areLanes_6 : decode cX9_areLanes 6 = .ok (.if_icmp .ge 28, 3) := by decide +kernel
theorem dX9_areLanes_9 : decode cX9_areLanes 9 = .ok (.iload_n 2, 1) := by decide +kernel
theorem dX9_areLanes_10 : decode cX9_areLanes 10 = .ok (.ifCond .lt 11, 3) := by decide +kernel
theorem dX9_areLanes_13 : decode cX9_areLanes 13 = .ok (.iload_n 2, 1) := by decide +kernel
theorem dX9_areLanes_14 : decode cX9_areLanes 14 = .ok (.bipush 10, 2) := by decide +kernel
theorem dX9_areLanes_16 : decode cX9_areLanes 16 = .ok (.irem, 1) := by decide +kernel
theorem dX9_areLanes_17 : decode cX9_areLanes 17 = .ok (.iconst 5, 1) := by decide +kernel
theorem dX9_areLanes_18 : decode cX9_areLanes 18 = .ok (.if_icmp .le 5, 3) := by decide +kernel
theorem dX9_areLanes_21 : decode cX9_areLanes 21 = .ok (.iconst 0, 1) := by decide +kernel
theorem dX9_areLanes_22 : decode cX9_areLanes 22 = .ok (.ireturn, 1) := by decide +kernel
theorem dX9_areLanes_23 : decode cX9_areLanes 23 = .ok (.iload_n 2, 1) := by decide +kernel
theorem dX9_areLanes_24 : decode cX9_areLanes 24 = .ok (.bipush 10, 2) := by decide +kernel
theorem dX9_areLanes_26 : decode cX9_areLanes 26 = .ok (.idiv, 1) := by decide +kernel
theorem dX9_areLanes_27 : decode cX9_areLanes 27 = .ok (.istore_n 2, 1) := by decide +kernel
theorem dX9_areLanes_28 : decode cX9_areLanes 28 = .ok (.iinc 3 1, 3) := by decide +kernel
theorem dX9_areLanes_31 : decode cX9_areLanes 31 = .ok (.goto (-27), 3) := by decide +kernel
theorem dX9_areLanes_34 : decode cX9_areLanes 34 = .ok (.iload_n 2, 1) := by decide +kernel
theorem dX9_areLanes_35 : decode cX9_areLanes 35 = .ok (.ifCond .ne 7, 3) := by decide +kernel
theorem dX9_areLanes_38 : decode cX9_areLanes 38 = .ok (.iconst 1, 1) := by decide +kernel
theorem dX9_areLanes_39 : decode cX9_areLanes 39 = .ok (.goto 4, 3) := by decide +kernel
theorem dX9_areLanes_42 : decode cX9_areLanes 42 = .ok (.iconst 0, 1) := by decide +kernel
theorem dX9_areLanes_43 : decode cX9_areLanes 43 = .ok (.ireturn, 1) := by decide +kernel
theorem dX9_looksAtTwo_0 : decode cX9_looksAtTwo 0 = .ok (.iload_n 0, 1) := by decide +kernel
theorem dX9_looksAtTwo_1 : decode cX9_looksAtTwo 1 = .ok (.ifCond .eq 13, 3) := by decide +kernel
theorem dX9_looksAtTwo_4 : decode cX9_looksAtTwo 4 = .ok (.iload_n 0, 1) := by decide +kernel
theorem dX9_looksAtTwo_5 : decode cX9_looksAtTwo 5 = .ok (.iconst 2, 1) := by decide +kernel
theorem dX9_looksAtTwo_6 : decode cX9_looksAtTwo 6 = .ok (.if_icmp .eq 8, 3) := by decide +kernel
theorem dX9_looksAtTwo_9 : decode cX9_looksAtTwo 9 = .ok (.iload_n 0, 1) := by decide +kernel
theorem dX9_looksAtTwo_10 : decode cX9_looksAtTwo 10 = .ok (.iconst 4, 1) := by decide +kernel
theorem dX9_looksAtTwo_11 : decode cX9_looksAtTwo 11 = .ok (.if_icmp .ne 7, 3) := by decide +kernel
theorem dX9_looksAtTwo_14 : decode cX9_looksAtTwo 14 = .ok (.iconst 1, 1) := by decide +kernel
theorem dX9_looksAtTwo_15 : decode cX9_looksAtTwo 15 = .ok (.goto 4, 3) := by decide +kernel
theorem dX9_looksAtTwo_18 : decode cX9_looksAtTwo 18 = .ok (.iconst 0, 1) := by decide +kernel
theorem dX9_looksAtTwo_19 : decode cX9_looksAtTwo 19 = .ok (.ireturn, 1) := by decide +kernel
theorem dX9_manyTables_0 : decode cX9_manyTables 0 = .ok (.iconst 0, 1) := by decide +kernel
theorem dX9_manyTables_1 : decode cX9_manyTables 1 = .ok (.istore_n 1, 1) := by decide +kernel
theorem dX9_manyTables_2 : decode cX9_manyTables 2 = .ok (.iconst 0, 1) := by decide +kernel
theorem dX9_manyTables_3 : decode cX9_manyTables 3 = .ok (.istore_n 2, 1) := by decide +kernel
theorem dX9_manyTables_4 : decode cX9_manyTables 4 = .ok (.iload_n 2, 1) := by decide +kernel
theorem dX9_manyTables_5 : decode cX9_manyTables 5 = .ok (.iconst 4, 1) := by decide +kernel
theorem dX9_manyTables_6 : decode cX9_manyTables 6 = .ok (.if_icmp .ge 32, 3) := by decide +kernel
theorem dX9_manyTables_9 : decode cX9_manyTables 9 = .ok (.iload_n 1, 1) := by decide +kernel
theorem dX9_manyTables_10 : decode cX9_manyTables 10 = .ok (.aload_n 0, 1) := by decide +kernel
theorem dX9_manyTables_11 : decode cX9_manyTables 11 = .ok (.getfield 11, 3) := by decide +kernel
theorem dX9_manyTables_14 : decode cX9_manyTables 14 = .ok (.iload_n 2, 1) := by decide +kernel
theorem dX9_manyTables_15 : decode cX9_manyTables 15 = .ok (.aaload, 1) := by decide +kernel
theorem dX9_manyTables_16 : decode cX9_manyTables 16 = .ok (.getfield 56, 3) := by decide +kernel
theorem dX9_manyTables_19 : decode cX9_manyTables 19 = .ok (.ifCond .eq 7, 3) := by decide +kernel
theorem dX9_manyTables_22 : decode cX9_manyTables 22 = .ok (.iconst 1, 1) := by decide +kernel
theorem dX9_manyTables_23 : decode cX9_manyTables 23 = .ok (.goto 4, 3) := by decide +kernel
theorem dX9_manyTables_26 : decode cX9_manyTables 26 = .ok (.iconst 0, 1) := by decide +kernel
theorem dX9_manyTables_27 : decode cX9_manyTables 27 = .ok (.invokestatic 106, 3) := by decide +kernel
theorem dX9_manyTables_30 : decode cX9_manyTables 30 = .ok (.iadd, 1) := by decide +kernel
theorem dX9_manyTables_31 : decode cX9_manyTables 31 = .ok (.istore_n 1, 1) := by decide +kernel
theorem dX9_manyTables_32 : decode cX9_manyTables 32 = .ok (.iinc 2 1, 3) := by decide +kernel
theorem dX9_manyTables_35 : decode cX9_manyTables 35 = .ok (.goto (-31), 3) := by decide +kernel
theorem dX9_manyTables_38 : decode cX9_manyTables 38 = .ok (.iload_n 1, 1) := by decide +kernel
theorem dX9_manyTables_39 : decode cX9_manyTables 39 = .ok (.ireturn, 1) := by decide +kernel
theorem dX9_timesStanding_0 : decode cX9_timesStanding 0 = .ok (.aload_n 0, 1) := by decide +kernel
theorem dX9_timesStanding_1 : decode cX9_timesStanding 1 = .ok (.getfield 43, 3) := by decide +kernel
theorem dX9_timesStanding_4 : decode cX9_timesStanding 4 = .ok (.aload_n 0, 1) := by decide +kernel
theorem dX9_timesStanding_5 : decode cX9_timesStanding 5 = .ok (.getfield 36, 3) := by decide +kernel
theorem dX9_timesStanding_8 : decode cX9_timesStanding 8 = .ok (.getfield 257, 3) := by decide +kernel
theorem dX9_timesStanding_11 : decode cX9_timesStanding 11 = .ok (.invokevirtual 259, 3) := by decide +kernel
theorem dX9_timesStanding_14 : decode cX9_timesStanding 14 = .ok (.iconst 0, 1) := by decide +kernel
theorem dX9_timesStanding_15 : decode cX9_timesStanding 15 = .ok (.istore_n 1, 1) := by decide +kernel
theorem dX9_timesStanding_16 : decode cX9_timesStanding 16 = .ok (.iconst 0, 1) := by decide +kernel
theorem dX9_timesStanding_17 : decode cX9_timesStanding 17 = .ok (.istore_n 2, 1) := by decide +kernel
theorem dX9_timesStanding_18 : decode cX9_timesStanding 18 = .ok (.iload_n 2, 1) := by decide +kernel
theorem dX9_timesStanding_19 : decode cX9_timesStanding 19 = .ok (.aload_n 0, 1) := by decide +kernel
theorem dX9_timesStanding_20 : decode cX9_timesStanding 20 = .ok (.getfield 36, 3) := by decide +kernel
theorem dX9_timesStanding_23 : decode cX9_timesStanding 23 = .ok (.getfield 185, 3) := by decide +kernel
theorem dX9_timesStanding_26 : decode cX9_timesStanding 26 = .ok (.if_icmp .ge 31, 3) := by decide +kernel
theorem dX9_timesStanding_29 : decode cX9_timesStanding 29 = .ok (.iload_n 1, 1) := by decide +kernel
theorem dX9_timesStanding_30 : decode cX9_timesStanding 30 = .ok (.aload_n 0, 1) := by decide +kernel
theorem dX9_timesStanding_31 : decode cX9_timesStanding 31 = .ok (.getfield 43, 3) := by decide +kernel
theorem dX9_timesStanding_34 : decode cX9_timesStanding 34 = .ok (.getfield 262, 3) := by decide +kernel
theorem dX9_timesStanding_37 : decode cX9_timesStanding 37 = .ok (.aload_n 0, 1) := by decide +kernel
theorem dX9_timesStanding_38 : decode cX9_timesStanding 38 = .ok (.getfield 36, 3) := by decide +kernel
theorem dX9_timesStanding_41 : decode cX9_timesStanding 41 = .ok (.iload_n 2, 1) := by decide +kernel
theorem dX9_timesStanding_42 : decode cX9_timesStanding 42 = .ok (.invokevirtual 198, 3) := by decide +kernel
theorem dX9_timesStanding_45 : decode cX9_timesStanding 45 = .ok (.baload, 1) := by decide +kernel
theorem dX9_timesStanding_46 : decode cX9_timesStanding 46 = .ok (.invokestatic 106, 3) := by decide +kernel
theorem dX9_timesStanding_49 : decode cX9_timesStanding 49 = .ok (.iadd, 1) := by decide +kernel
theorem dX9_timesStanding_50 : decode cX9_timesStanding 50 = .ok (.istore_n 1, 1) := by decide +kernel
theorem dX9_timesStanding_51 : decode cX9_timesStanding 51 = .ok (.iinc 2 1, 3) := by decide +kernel
theorem dX9_timesStanding_54 : decode cX9_timesStanding 54 = .ok (.goto (-36), 3) := by decide +kernel
theorem dX9_timesStanding_57 : decode cX9_timesStanding 57 = .ok (.iload_n 1, 1) := by decide +kernel
theorem dX9_timesStanding_58 : decode cX9_timesStanding 58 = .ok (.ireturn, 1) := by decide +kernel
theorem dX9_oneIf_0 : decode cX9_oneIf 0 = .ok (.iload_n 0, 1) := by decide +kernel
theorem dX9_oneIf_1 : decode cX9_oneIf 1 = .ok (.ifCond .eq 7, 3) := by decide +kernel
theorem dX9_oneIf_4 : decode cX9_oneIf 4 = .ok (.iconst 1, 1) := by decide +kernel
theorem dX9_oneIf_5 : decode cX9_oneIf 5 = .ok (.goto 4, 3) := by decide +kernel
theorem dX9_oneIf_8 : decode cX9_oneIf 8 = .ok (.iconst 0, 1) := by decide +kernel
theorem dX9_oneIf_9 : decode cX9_oneIf 9 = .ok (.ireturn, 1) := by decide +kernel
theorem dX9_isIn_0 : decode cX9_isIn 0 = .ok (.iload_n 0, 1) := by decide +kernel
theorem dX9_isIn_1 : decode cX9_isIn 1 = .ok (.iload_n 1, 1) := by decide +kernel
theorem dX9_isIn_2 : decode cX9_isIn 2 = .ok (.ishr, 1) := by decide +kernel
theorem dX9_isIn_3 : decode cX9_isIn 3 = .ok (.iconst 1, 1) := by decide +kernel
theorem dX9_isIn_4 : decode cX9_isIn 4 = .ok (.iand, 1) := by decide +kernel
theorem dX9_isIn_5 : decode cX9_isIn 5 = .ok (.ifCond .eq 7, 3) := by decide +kernel
theorem dX9_isIn_8 : decode cX9_isIn 8 = .ok (.iconst 1, 1) := by decide +kernel
theorem dX9_isIn_9 : decode cX9_isIn 9 = .ok (.goto 4, 3) := by decide +kernel
theorem dX9_isIn_12 : decode cX9_isIn 12 = .ok (.iconst 0, 1) := by decide +kernel
theorem dX9_isIn_13 : decode cX9_isIn 13 = .ok (.ireturn, 1) := by decide +kernel
theorem dX9_asLane_0 : decode cX9_asLane 0 = .ok (.iload_n 0, 1) := by decide +kernel
theorem dX9_asLane_1 : decode cX9_asLane 1 = .ok (.tableswitch 56 0 4 #[35, 40, 45, 50, 54], 35) := by decide +kernel
theorem dX9_asLane_36 : decode cX9_asLane 36 = .ok (.lload_n 1, 1) := by decide +kernel
theorem dX9_asLane_37 : decode cX9_asLane 37 = .ok (.l2i, 1) := by decide +kernel
theorem dX9_asLane_38 : decode cX9_asLane 38 = .ok (.i2b, 1) := by decide +kernel
theorem dX9_asLane_39 : decode cX9_asLane 39 = .ok (.i2l, 1) := by decide +kernel
theorem dX9_asLane_40 : decode cX9_asLane 40 = .ok (.lreturn, 1) := by decide +kernel
theorem dX9_asLane_41 : decode cX9_asLane 41 = .ok (.lload_n 1, 1) := by decide +kernel
theorem dX9_asLane_42 : decode cX9_asLane 42 = .ok (.l2i, 1) := by decide +kernel
theorem dX9_asLane_43 : decode cX9_asLane 43 = .ok (.i2s, 1) := by decide +kernel
theorem dX9_asLane_44 : decode cX9_asLane 44 = .ok (.i2l, 1) := by decide +kernel
theorem dX9_asLane_45 : decode cX9_asLane 45 = .ok (.lreturn, 1) := by decide +kernel
theorem dX9_asLane_46 : decode cX9_asLane 46 = .ok (.lload_n 1, 1) := by decide +kernel
theorem dX9_asLane_47 : decode cX9_asLane 47 = .ok (.l2i, 1) := by decide +kernel
theorem dX9_asLane_48 : decode cX9_asLane 48 = .ok (.i2c, 1) := by decide +kernel
theorem dX9_asLane_49 : decode cX9_asLane 49 = .ok (.i2l, 1) := by decide +kernel
theorem dX9_asLane_50 : decode cX9_asLane 50 = .ok (.lreturn, 1) := by decide +kernel
theorem dX9_asLane_51 : decode cX9_asLane 51 = .ok (.lload_n 1, 1) := by decide +kernel
theorem dX9_asLane_52 : decode cX9_asLane 52 = .ok (.l2i, 1) := by decide +kernel
theorem dX9_asLane_53 : decode cX9_asLane 53 = .ok (.i2l, 1) := by decide +kernel
theorem dX9_asLane_54 : decode cX9_asLane 54 = .ok (.lreturn, 1) := by decide +kernel
theorem dX9_asLane_55 : decode cX9_asLane 55 = .ok (.lload_n 1, 1) := by decide +kernel
theorem dX9_asLane_56 : decode cX9_asLane 56 = .ok (.lreturn, 1) := by decide +kernel
theorem dX9_asLane_57 : decode cX9_asLane 57 = .ok (.lload_n 1, 1) := by decide +kernel
theorem dX9_asLane_58 : decode cX9_asLane 58 = .ok (.l2d, 1) := by decide +kernel
theorem dX9_asLane_59 : decode cX9_asLane 59 = .ok (.d2l, 1) := by decide +kernel
theorem dX9_asLane_60 : decode cX9_asLane 60 = .ok (.lreturn, 1) := by decide +kernel
theorem dX9_markWholes_0 : decode cX9_markWholes 0 = .ok (.iconst 1, 1) := by decide +kernel
theorem dX9_markWholes_1 : decode cX9_markWholes 1 = .ok (.iload_n 1, 1) := by decide +kernel
theorem dX9_markWholes_2 : decode cX9_markWholes 2 = .ok (.ishl, 1) := by decide +kernel
theorem dX9_markWholes_3 : decode cX9_markWholes 3 = .ok (.istore_n 2, 1) := by decide +kernel
theorem dX9_markWholes_4 : decode cX9_markWholes 4 = .ok (.iconst 0, 1) := by decide +kernel
theorem dX9_markWholes_5 : decode cX9_markWholes 5 = .ok (.istore_n 3, 1) := by decide +kernel
theorem dX9_markWholes_6 : decode cX9_markWholes 6 = .ok (.iload_n 3, 1) := by decide +kernel
theorem dX9_markWholes_7 : decode cX9_markWholes 7 = .ok (.iload_n 1, 1) := by decide +kernel
theorem dX9_markWholes_8 : decode cX9_markWholes 8 = .ok (.if_icmp .ge 40, 3) := by decide +kernel
theorem dX9_markWholes_11 : decode cX9_markWholes 11 = .ok (.iconst 0, 1) := by decide +kernel
theorem dX9_markWholes_12 : decode cX9_markWholes 12 = .ok (.istore 4, 2) := by decide +kernel
theorem dX9_markWholes_14 : decode cX9_markWholes 14 = .ok (.iload 4, 2) := by decide +kernel
theorem dX9_markWholes_16 : decode cX9_markWholes 16 = .ok (.iload_n 2, 1) := by decide +kernel
theorem dX9_markWholes_17 : decode cX9_markWholes 17 = .ok (.if_icmp .ge 25, 3) := by decide +kernel
theorem dX9_markWholes_20 : decode cX9_markWholes 20 = .ok (.aload_n 0, 1) := by decide +kernel
theorem dX9_markWholes_21 : decode cX9_markWholes 21 = .ok (.iload 4, 2) := by decide +kernel
theorem dX9_markWholes_23 : decode cX9_markWholes 23 = .ok (.baload, 1) := by decide +kernel
theorem dX9_markWholes_24 : decode cX9_markWholes 24 = .ok (.ifCond .eq 12, 3) := by decide +kernel
theorem dX9_markWholes_27 : decode cX9_markWholes 27 = .ok (.aload_n 0, 1) := by decide +kernel
theorem dX9_markWholes_28 : decode cX9_markWholes 28 = .ok (.iload 4, 2) := by decide +kernel
theorem dX9_markWholes_30 : decode cX9_markWholes 30 = .ok (.iconst 1, 1) := by decide +kernel
theorem dX9_markWholes_31 : decode cX9_markWholes 31 = .ok (.iload_n 3, 1) := by decide +kernel
theorem dX9_markWholes_32 : decode cX9_markWholes 32 = .ok (.ishl, 1) := by decide +kernel
theorem dX9_markWholes_33 : decode cX9_markWholes 33 = .ok (.ior, 1) := by decide +kernel
theorem dX9_markWholes_34 : decode cX9_markWholes 34 = .ok (.iconst 1, 1) := by decide +kernel
theorem dX9_markWholes_35 : decode cX9_markWholes 35 = .ok (.bastore, 1) := by decide +kernel
theorem dX9_markWholes_36 : decode cX9_markWholes 36 = .ok (.iinc 4 1, 3) := by decide +kernel
theorem dX9_markWholes_39 : decode cX9_markWholes 39 = .ok (.goto (-25), 3) := by decide +kernel
theorem dX9_markWholes_42 : decode cX9_markWholes 42 = .ok (.iinc 3 1, 3) := by decide +kernel
theorem dX9_markWholes_45 : decode cX9_markWholes 45 = .ok (.goto (-39), 3) := by decide +kernel
theorem dX9_markWholes_48 : decode cX9_markWholes 48 = .ok (.return_, 1) := by decide +kernel
theorem dX9_unmark_0 : decode cX9_unmark 0 = .ok (.iconst 1, 1) := by decide +kernel
theorem dX9_unmark_1 : decode cX9_unmark 1 = .ok (.iload_n 1, 1) := by decide +kernel
theorem dX9_unmark_2 : decode cX9_unmark 2 = .ok (.ishl, 1) := by decide +kernel
theorem dX9_unmark_3 : decode cX9_unmark 3 = .ok (.istore_n 2, 1) := by decide +kernel
theorem dX9_unmark_4 : decode cX9_unmark 4 = .ok (.iconst 0, 1) := by decide +kernel
theorem dX9_unmark_5 : decode cX9_unmark 5 = .ok (.istore_n 3, 1) := by decide +kernel
theorem dX9_unmark_6 : decode cX9_unmark 6 = .ok (.iload_n 3, 1) := by decide +kernel
theorem dX9_unmark_7 : decode cX9_unmark 7 = .ok (.iload_n 2, 1) := by decide +kernel
theorem dX9_unmark_8 : decode cX9_unmark 8 = .ok (.if_icmp .ge 13, 3) := by decide +kernel
theorem dX9_unmark_11 : decode cX9_unmark 11 = .ok (.aload_n 0, 1) := by decide +kernel
theorem dX9_unmark_12 : decode cX9_unmark 12 = .ok (.iload_n 3, 1) := by decide +kernel
theorem dX9_unmark_13 : decode cX9_unmark 13 = .ok (.iconst 0, 1) := by decide +kernel
theorem dX9_unmark_14 : decode cX9_unmark 14 = .ok (.bastore, 1) := by decide +kernel
theorem dX9_unmark_15 : decode cX9_unmark 15 = .ok (.iinc 3 1, 3) := by decide +kernel
theorem dX9_unmark_18 : decode cX9_unmark 18 = .ok (.goto (-12), 3) := by decide +kernel
theorem dX9_unmark_21 : decode cX9_unmark 21 = .ok (.return_, 1) := by decide +kernel
theorem dJ6_bitCount_0f7a4_0 : decode cJ6_bitCount_0f7a4 0 = .ok (.iload_n 0, 1) := by decide +kernel
theorem dJ6_bitCount_0f7a4_1 : decode cJ6_bitCount_0f7a4 1 = .ok (.iload_n 0, 1) := by decide +kernel
theorem dJ6_bitCount_0f7a4_2 : decode cJ6_bitCount_0f7a4 2 = .ok (.iconst 1, 1) := by decide +kernel
theorem dJ6_bitCount_0f7a4_3 : decode cJ6_bitCount_0f7a4 3 = .ok (.iushr, 1) := by decide +kernel
theorem dJ6_bitCount_0f7a4_4 : decode cJ6_bitCount_0f7a4 4 = .ok (.ldc_w 265, 3) := by decide +kernel
theorem dJ6_bitCount_0f7a4_7 : decode cJ6_bitCount_0f7a4 7 = .ok (.iand, 1) := by decide +kernel
theorem dJ6_bitCount_0f7a4_8 : decode cJ6_bitCount_0f7a4 8 = .ok (.isub, 1) := by decide +kernel
theorem dJ6_bitCount_0f7a4_9 : decode cJ6_bitCount_0f7a4 9 = .ok (.istore_n 0, 1) := by decide +kernel
theorem dJ6_bitCount_0f7a4_10 : decode cJ6_bitCount_0f7a4 10 = .ok (.iload_n 0, 1) := by decide +kernel
theorem dJ6_bitCount_0f7a4_11 : decode cJ6_bitCount_0f7a4 11 = .ok (.ldc_w 266, 3) := by decide +kernel
theorem dJ6_bitCount_0f7a4_14 : decode cJ6_bitCount_0f7a4 14 = .ok (.iand, 1) := by decide +kernel
theorem dJ6_bitCount_0f7a4_15 : decode cJ6_bitCount_0f7a4 15 = .ok (.iload_n 0, 1) := by decide +kernel
theorem dJ6_bitCount_0f7a4_16 : decode cJ6_bitCount_0f7a4 16 = .ok (.iconst 2, 1) := by decide +kernel
theorem dJ6_bitCount_0f7a4_17 : decode cJ6_bitCount_0f7a4 17 = .ok (.iushr, 1) := by decide +kernel
theorem dJ6_bitCount_0f7a4_18 : decode cJ6_bitCount_0f7a4 18 = .ok (.ldc_w 266, 3) := by decide +kernel
theorem dJ6_bitCount_0f7a4_21 : decode cJ6_bitCount_0f7a4 21 = .ok (.iand, 1) := by decide +kernel
theorem dJ6_bitCount_0f7a4_22 : decode cJ6_bitCount_0f7a4 22 = .ok (.iadd, 1) := by decide +kernel
theorem dJ6_bitCount_0f7a4_23 : decode cJ6_bitCount_0f7a4 23 = .ok (.istore_n 0, 1) := by decide +kernel
theorem dJ6_bitCount_0f7a4_24 : decode cJ6_bitCount_0f7a4 24 = .ok (.iload_n 0, 1) := by decide +kernel
theorem dJ6_bitCount_0f7a4_25 : decode cJ6_bitCount_0f7a4 25 = .ok (.iload_n 0, 1) := by decide +kernel
theorem dJ6_bitCount_0f7a4_26 : decode cJ6_bitCount_0f7a4 26 = .ok (.iconst 4, 1) := by decide +kernel
theorem dJ6_bitCount_0f7a4_27 : decode cJ6_bitCount_0f7a4 27 = .ok (.iushr, 1) := by decide +kernel
theorem dJ6_bitCount_0f7a4_28 : decode cJ6_bitCount_0f7a4 28 = .ok (.iadd, 1) := by decide +kernel
theorem dJ6_bitCount_0f7a4_29 : decode cJ6_bitCount_0f7a4 29 = .ok (.ldc_w 267, 3) := by decide +kernel
theorem dJ6_bitCount_0f7a4_32 : decode cJ6_bitCount_0f7a4 32 = .ok (.iand, 1) := by decide +kernel
theorem dJ6_bitCount_0f7a4_33 : decode cJ6_bitCount_0f7a4 33 = .ok (.istore_n 0, 1) := by decide +kernel
theorem dJ6_bitCount_0f7a4_34 : decode cJ6_bitCount_0f7a4 34 = .ok (.iload_n 0, 1) := by decide +kernel
theorem dJ6_bitCount_0f7a4_35 : decode cJ6_bitCount_0f7a4 35 = .ok (.iload_n 0, 1) := by decide +kernel
theorem dJ6_bitCount_0f7a4_36 : decode cJ6_bitCount_0f7a4 36 = .ok (.bipush 8, 2) := by decide +kernel
theorem dJ6_bitCount_0f7a4_38 : decode cJ6_bitCount_0f7a4 38 = .ok (.iushr, 1) := by decide +kernel
theorem dJ6_bitCount_0f7a4_39 : decode cJ6_bitCount_0f7a4 39 = .ok (.iadd, 1) := by decide +kernel
theorem dJ6_bitCount_0f7a4_40 : decode cJ6_bitCount_0f7a4 40 = .ok (.istore_n 0, 1) := by decide +kernel
theorem dJ6_bitCount_0f7a4_41 : decode cJ6_bitCount_0f7a4 41 = .ok (.iload_n 0, 1) := by decide +kernel
theorem dJ6_bitCount_0f7a4_42 : decode cJ6_bitCount_0f7a4 42 = .ok (.iload_n 0, 1) := by decide +kernel
theorem dJ6_bitCount_0f7a4_43 : decode cJ6_bitCount_0f7a4 43 = .ok (.bipush 16, 2) := by decide +kernel
theorem dJ6_bitCount_0f7a4_45 : decode cJ6_bitCount_0f7a4 45 = .ok (.iushr, 1) := by decide +kernel
theorem dJ6_bitCount_0f7a4_46 : decode cJ6_bitCount_0f7a4 46 = .ok (.iadd, 1) := by decide +kernel
theorem dJ6_bitCount_0f7a4_47 : decode cJ6_bitCount_0f7a4 47 = .ok (.istore_n 0, 1) := by decide +kernel
theorem dJ6_bitCount_0f7a4_48 : decode cJ6_bitCount_0f7a4 48 = .ok (.iload_n 0, 1) := by decide +kernel
theorem dJ6_bitCount_0f7a4_49 : decode cJ6_bitCount_0f7a4 49 = .ok (.bipush 63, 2) := by decide +kernel
theorem dJ6_bitCount_0f7a4_51 : decode cJ6_bitCount_0f7a4 51 = .ok (.iand, 1) := by decide +kernel
theorem dJ6_bitCount_0f7a4_52 : decode cJ6_bitCount_0f7a4 52 = .ok (.ireturn, 1) := by decide +kernel
