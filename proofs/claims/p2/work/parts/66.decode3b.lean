theorem dX6_init_154 : decode cX6_init 154 = .ok (.ldc 73, 2) := by decide +kernel
theorem dX6_init_156 : decode cX6_init 156 = .ok (.invokevirtual 55, 3) := by decide +kernel
theorem dX6_init_159 : decode cX6_init 159 = .ok (.return_, 1) := by decide +kernel
theorem dX6_addGiven_0 : decode cX6_addGiven 0 = .ok (.aload_n 1, 1) := by decide +kernel
theorem dX6_addGiven_1 : decode cX6_addGiven 1 = .ok (.invokevirtual 75, 3) := by decide +kernel
theorem dX6_addGiven_4 : decode cX6_addGiven 4 = .ok (.astore_n 2, 1) := by decide +kernel
theorem dX6_addGiven_5 : decode cX6_addGiven 5 = .ok (.aload_n 0, 1) := by decide +kernel
theorem dX6_addGiven_6 : decode cX6_addGiven 6 = .ok (.aload_n 2, 1) := by decide +kernel
theorem dX6_addGiven_7 : decode cX6_addGiven 7 = .ok (.iconst 0, 1) := by decide +kernel
theorem dX6_addGiven_8 : decode cX6_addGiven 8 = .ok (.aload_n 2, 1) := by decide +kernel
theorem dX6_addGiven_9 : decode cX6_addGiven 9 = .ok (.arraylength, 1) := by decide +kernel
theorem dX6_addGiven_10 : decode cX6_addGiven 10 = .ok (.invokestatic 81, 3) := by decide +kernel
theorem dX6_addGiven_13 : decode cX6_addGiven 13 = .ok (.aload_n 2, 1) := by decide +kernel
theorem dX6_addGiven_14 : decode cX6_addGiven 14 = .ok (.bipush 8, 2) := by decide +kernel
theorem dX6_addGiven_16 : decode cX6_addGiven 16 = .ok (.aload_n 2, 1) := by decide +kernel
theorem dX6_addGiven_17 : decode cX6_addGiven 17 = .ok (.arraylength, 1) := by decide +kernel
theorem dX6_addGiven_18 : decode cX6_addGiven 18 = .ok (.invokestatic 81, 3) := by decide +kernel
theorem dX6_addGiven_21 : decode cX6_addGiven 21 = .ok (.invokevirtual 85, 3) := by decide +kernel
theorem dX6_addGiven_24 : decode cX6_addGiven 24 = .ok (.pop, 1) := by decide +kernel
theorem dX6_addGiven_25 : decode cX6_addGiven 25 = .ok (.return_, 1) := by decide +kernel
theorem dX6_half_0 : decode cX6_half 0 = .ok (.lconst 0, 1) := by decide +kernel
theorem dX6_half_1 : decode cX6_half 1 = .ok (.lstore_n 3, 1) := by decide +kernel
theorem dX6_half_2 : decode cX6_half 2 = .ok (.iload_n 1, 1) := by decide +kernel
theorem dX6_half_3 : decode cX6_half 3 = .ok (.istore 5, 2) := by decide +kernel
theorem dX6_half_5 : decode cX6_half 5 = .ok (.iload 5, 2) := by decide +kernel
theorem dX6_half_7 : decode cX6_half 7 = .ok (.iload_n 2, 1) := by decide +kernel
theorem dX6_half_8 : decode cX6_half 8 = .ok (.if_icmp .ge 41, 3) := by decide +kernel
theorem dX6_half_11 : decode cX6_half 11 = .ok (.iload 5, 2) := by decide +kernel
theorem dX6_half_13 : decode cX6_half 13 = .ok (.iload_n 1, 1) := by decide +kernel
theorem dX6_half_14 : decode cX6_half 14 = .ok (.bipush 8, 2) := by decide +kernel
theorem dX6_half_16 : decode cX6_half 16 = .ok (.iadd, 1) := by decide +kernel
theorem dX6_half_17 : decode cX6_half 17 = .ok (.if_icmp .ge 32, 3) := by decide +kernel
theorem dX6_half_20 : decode cX6_half 20 = .ok (.iload 5, 2) := by decide +kernel
theorem dX6_half_22 : decode cX6_half 22 = .ok (.ifCond .lt 27, 3) := by decide +kernel
theorem dX6_half_25 : decode cX6_half 25 = .ok (.iload 5, 2) := by decide +kernel
theorem dX6_half_27 : decode cX6_half 27 = .ok (.aload_n 0, 1) := by decide +kernel
theorem dX6_half_28 : decode cX6_half 28 = .ok (.arraylength, 1) := by decide +kernel
theorem dX6_half_29 : decode cX6_half 29 = .ok (.if_icmp .ge 20, 3) := by decide +kernel
theorem dX6_half_32 : decode cX6_half 32 = .ok (.lload_n 3, 1) := by decide +kernel
theorem dX6_half_33 : decode cX6_half 33 = .ok (.bipush 8, 2) := by decide +kernel
theorem dX6_half_35 : decode cX6_half 35 = .ok (.lshl, 1) := by decide +kernel
theorem dX6_half_36 : decode cX6_half 36 = .ok (.aload_n 0, 1) := by decide +kernel
theorem dX6_half_37 : decode cX6_half 37 = .ok (.iload 5, 2) := by decide +kernel
theorem dX6_half_39 : decode cX6_half 39 = .ok (.caload, 1) := by decide +kernel
theorem dX6_half_40 : decode cX6_half 40 = .ok (.i2l, 1) := by decide +kernel
theorem dX6_half_41 : decode cX6_half 41 = .ok (.lor, 1) := by decide +kernel
theorem dX6_half_42 : decode cX6_half 42 = .ok (.lstore_n 3, 1) := by decide +kernel
theorem dX6_half_43 : decode cX6_half 43 = .ok (.iinc 5 1, 3) := by decide +kernel
theorem dX6_half_46 : decode cX6_half 46 = .ok (.goto (-41), 3) := by decide +kernel
theorem dX6_half_49 : decode cX6_half 49 = .ok (.lload_n 3, 1) := by decide +kernel
theorem dX6_half_50 : decode cX6_half 50 = .ok (.lreturn, 1) := by decide +kernel
theorem dX6_startText_0 : decode cX6_startText 0 = .ok (.aload_n 0, 1) := by decide +kernel
theorem dX6_startText_1 : decode cX6_startText 1 = .ok (.aload_n 0, 1) := by decide +kernel
theorem dX6_startText_2 : decode cX6_startText 2 = .ok (.getfield 25, 3) := by decide +kernel
theorem dX6_startText_5 : decode cX6_startText 5 = .ok (.putfield 47, 3) := by decide +kernel
theorem dX6_startText_8 : decode cX6_startText 8 = .ok (.aload_n 0, 1) := by decide +kernel
theorem dX6_startText_9 : decode cX6_startText 9 = .ok (.aload_n 0, 1) := by decide +kernel
theorem dX6_startText_10 : decode cX6_startText 10 = .ok (.getfield 25, 3) := by decide +kernel
theorem dX6_startText_13 : decode cX6_startText 13 = .ok (.putfield 29, 3) := by decide +kernel
theorem dX6_startText_16 : decode cX6_startText 16 = .ok (.aload_n 0, 1) := by decide +kernel
theorem dX6_startText_17 : decode cX6_startText 17 = .ok (.getfield 18, 3) := by decide +kernel
theorem dX6_startText_20 : decode cX6_startText 20 = .ok (.iconst 0, 1) := by decide +kernel
theorem dX6_startText_21 : decode cX6_startText 21 = .ok (.aload_n 0, 1) := by decide +kernel
theorem dX6_startText_22 : decode cX6_startText 22 = .ok (.getfield 22, 3) := by decide +kernel
theorem dX6_startText_25 : decode cX6_startText 25 = .ok (.iconst 0, 1) := by decide +kernel
theorem dX6_startText_26 : decode cX6_startText 26 = .ok (.aload_n 0, 1) := by decide +kernel
theorem dX6_startText_27 : decode cX6_startText 27 = .ok (.getfield 25, 3) := by decide +kernel
theorem dX6_startText_30 : decode cX6_startText 30 = .ok (.invokestatic 89, 3) := by decide +kernel
theorem dX6_startText_33 : decode cX6_startText 33 = .ok (.return_, 1) := by decide +kernel
theorem dX6_takeBack_0 : decode cX6_takeBack 0 = .ok (.aload_n 0, 1) := by decide +kernel
theorem dX6_takeBack_1 : decode cX6_takeBack 1 = .ok (.getfield 22, 3) := by decide +kernel
theorem dX6_takeBack_4 : decode cX6_takeBack 4 = .ok (.iconst 0, 1) := by decide +kernel
theorem dX6_takeBack_5 : decode cX6_takeBack 5 = .ok (.aload_n 0, 1) := by decide +kernel
theorem dX6_takeBack_6 : decode cX6_takeBack 6 = .ok (.getfield 18, 3) := by decide +kernel
theorem dX6_takeBack_9 : decode cX6_takeBack 9 = .ok (.iconst 0, 1) := by decide +kernel
theorem dX6_takeBack_10 : decode cX6_takeBack 10 = .ok (.aload_n 0, 1) := by decide +kernel
theorem dX6_takeBack_11 : decode cX6_takeBack 11 = .ok (.getfield 29, 3) := by decide +kernel
theorem dX6_takeBack_14 : decode cX6_takeBack 14 = .ok (.invokestatic 89, 3) := by decide +kernel
theorem dX6_takeBack_17 : decode cX6_takeBack 17 = .ok (.aload_n 0, 1) := by decide +kernel
theorem dX6_takeBack_18 : decode cX6_takeBack 18 = .ok (.aload_n 0, 1) := by decide +kernel
theorem dX6_takeBack_19 : decode cX6_takeBack 19 = .ok (.getfield 29, 3) := by decide +kernel
theorem dX6_takeBack_22 : decode cX6_takeBack 22 = .ok (.putfield 25, 3) := by decide +kernel
theorem dX6_takeBack_25 : decode cX6_takeBack 25 = .ok (.return_, 1) := by decide +kernel
theorem dX6_take_0 : decode cX6_take 0 = .ok (.iload_n 1, 1) := by decide +kernel
theorem dX6_take_1 : decode cX6_take 1 = .ok (.ifCond .ne 11, 3) := by decide +kernel
theorem dX6_take_4 : decode cX6_take 4 = .ok (.aload_n 0, 1) := by decide +kernel
theorem dX6_take_5 : decode cX6_take 5 = .ok (.aload_n 0, 1) := by decide +kernel
theorem dX6_take_6 : decode cX6_take 6 = .ok (.getfield 29, 3) := by decide +kernel
theorem dX6_take_9 : decode cX6_take 9 = .ok (.putfield 25, 3) := by decide +kernel
theorem dX6_take_12 : decode cX6_take 12 = .ok (.return_, 1) := by decide +kernel
theorem dX6_find_0 : decode cX6_find 0 = .ok (.iconst 0, 1) := by decide +kernel
theorem dX6_find_1 : decode cX6_find 1 = .ok (.istore 5, 2) := by decide +kernel
theorem dX6_find_3 : decode cX6_find 3 = .ok (.iload 5, 2) := by decide +kernel
theorem dX6_find_5 : decode cX6_find 5 = .ok (.aload_n 0, 1) := by decide +kernel
theorem dX6_find_6 : decode cX6_find 6 = .ok (.getfield 25, 3) := by decide +kernel
theorem dX6_find_9 : decode cX6_find 9 = .ok (.if_icmp .ge 36, 3) := by decide +kernel
theorem dX6_find_12 : decode cX6_find 12 = .ok (.aload_n 0, 1) := by decide +kernel
theorem dX6_find_13 : decode cX6_find 13 = .ok (.getfield 9, 3) := by decide +kernel
theorem dX6_find_16 : decode cX6_find 16 = .ok (.iload 5, 2) := by decide +kernel
theorem dX6_find_18 : decode cX6_find 18 = .ok (.laload, 1) := by decide +kernel
theorem dX6_find_19 : decode cX6_find 19 = .ok (.lload_n 1, 1) := by decide +kernel
theorem dX6_find_20 : decode cX6_find 20 = .ok (.lcmp, 1) := by decide +kernel
theorem dX6_find_21 : decode cX6_find 21 = .ok (.ifCond .ne 18, 3) := by decide +kernel
theorem dX6_find_24 : decode cX6_find 24 = .ok (.aload_n 0, 1) := by decide +kernel
theorem dX6_find_25 : decode cX6_find 25 = .ok (.getfield 15, 3) := by decide +kernel
theorem dX6_find_28 : decode cX6_find 28 = .ok (.iload 5, 2) := by decide +kernel
theorem dX6_find_30 : decode cX6_find 30 = .ok (.laload, 1) := by decide +kernel
theorem dX6_find_31 : decode cX6_find 31 = .ok (.lload_n 3, 1) := by decide +kernel
theorem dX6_find_32 : decode cX6_find 32 = .ok (.lcmp, 1) := by decide +kernel
theorem dX6_find_33 : decode cX6_find 33 = .ok (.ifCond .ne 6, 3) := by decide +kernel
theorem dX6_find_36 : decode cX6_find 36 = .ok (.iload 5, 2) := by decide +kernel
theorem dX6_find_38 : decode cX6_find 38 = .ok (.ireturn, 1) := by decide +kernel
theorem dX6_find_39 : decode cX6_find 39 = .ok (.iinc 5 1, 3) := by decide +kernel
theorem dX6_find_42 : decode cX6_find 42 = .ok (.goto (-39), 3) := by decide +kernel
theorem dX6_find_45 : decode cX6_find 45 = .ok (.iconst (-1), 1) := by decide +kernel
theorem dX6_find_46 : decode cX6_find 46 = .ok (.ireturn, 1) := by decide +kernel
theorem dX6_addSymbol_0 : decode cX6_addSymbol 0 = .ok (.aload_n 0, 1) := by decide +kernel
theorem dX6_addSymbol_1 : decode cX6_addSymbol 1 = .ok (.getfield 25, 3) := by decide +kernel
theorem dX6_addSymbol_4 : decode cX6_addSymbol 4 = .ok (.sipush 2560, 3) := by decide +kernel
theorem dX6_addSymbol_7 : decode cX6_addSymbol 7 = .ok (.if_icmp .lt 5, 3) := by decide +kernel
theorem dX6_addSymbol_10 : decode cX6_addSymbol 10 = .ok (.iconst (-1), 1) := by decide +kernel
theorem dX6_addSymbol_11 : decode cX6_addSymbol 11 = .ok (.ireturn, 1) := by decide +kernel
theorem dX6_addSymbol_12 : decode cX6_addSymbol 12 = .ok (.aload_n 0, 1) := by decide +kernel
theorem dX6_addSymbol_13 : decode cX6_addSymbol 13 = .ok (.getfield 9, 3) := by decide +kernel
theorem dX6_addSymbol_16 : decode cX6_addSymbol 16 = .ok (.aload_n 0, 1) := by decide +kernel
theorem dX6_addSymbol_17 : decode cX6_addSymbol 17 = .ok (.getfield 25, 3) := by decide +kernel
theorem dX6_addSymbol_20 : decode cX6_addSymbol 20 = .ok (.lload_n 1, 1) := by decide +kernel
theorem dX6_addSymbol_21 : decode cX6_addSymbol 21 = .ok (.lastore, 1) := by decide +kernel
theorem dX6_addSymbol_22 : decode cX6_addSymbol 22 = .ok (.aload_n 0, 1) := by decide +kernel
theorem dX6_addSymbol_23 : decode cX6_addSymbol 23 = .ok (.getfield 15, 3) := by decide +kernel
theorem dX6_addSymbol_26 : decode cX6_addSymbol 26 = .ok (.aload_n 0, 1) := by decide +kernel
theorem dX6_addSymbol_27 : decode cX6_addSymbol 27 = .ok (.getfield 25, 3) := by decide +kernel
theorem dX6_addSymbol_30 : decode cX6_addSymbol 30 = .ok (.lload_n 3, 1) := by decide +kernel
theorem dX6_addSymbol_31 : decode cX6_addSymbol 31 = .ok (.lastore, 1) := by decide +kernel
theorem dX6_addSymbol_32 : decode cX6_addSymbol 32 = .ok (.aload_n 0, 1) := by decide +kernel
theorem dX6_addSymbol_33 : decode cX6_addSymbol 33 = .ok (.getfield 18, 3) := by decide +kernel
theorem dX6_addSymbol_36 : decode cX6_addSymbol 36 = .ok (.aload_n 0, 1) := by decide +kernel
theorem dX6_addSymbol_37 : decode cX6_addSymbol 37 = .ok (.getfield 25, 3) := by decide +kernel
theorem dX6_addSymbol_40 : decode cX6_addSymbol 40 = .ok (.iconst (-1), 1) := by decide +kernel
theorem dX6_addSymbol_41 : decode cX6_addSymbol 41 = .ok (.iastore, 1) := by decide +kernel
theorem dX6_addSymbol_42 : decode cX6_addSymbol 42 = .ok (.aload_n 0, 1) := by decide +kernel
theorem dX6_addSymbol_43 : decode cX6_addSymbol 43 = .ok (.dup, 1) := by decide +kernel
theorem dX6_addSymbol_44 : decode cX6_addSymbol 44 = .ok (.getfield 25, 3) := by decide +kernel
theorem dX6_addSymbol_47 : decode cX6_addSymbol 47 = .ok (.iconst 1, 1) := by decide +kernel
theorem dX6_addSymbol_48 : decode cX6_addSymbol 48 = .ok (.iadd, 1) := by decide +kernel
theorem dX6_addSymbol_49 : decode cX6_addSymbol 49 = .ok (.putfield 25, 3) := by decide +kernel
theorem dX6_addSymbol_52 : decode cX6_addSymbol 52 = .ok (.aload_n 0, 1) := by decide +kernel
theorem dX6_addSymbol_53 : decode cX6_addSymbol 53 = .ok (.iconst (-1), 1) := by decide +kernel
theorem dX6_addSymbol_54 : decode cX6_addSymbol 54 = .ok (.iconst 0, 1) := by decide +kernel
theorem dX6_addSymbol_55 : decode cX6_addSymbol 55 = .ok (.invokevirtual 95, 3) := by decide +kernel
theorem dX6_addSymbol_58 : decode cX6_addSymbol 58 = .ok (.ireturn, 1) := by decide +kernel
theorem dX6_addName_0 : decode cX6_addName 0 = .ok (.aload_n 0, 1) := by decide +kernel
theorem dX6_addName_1 : decode cX6_addName 1 = .ok (.getfield 47, 3) := by decide +kernel
theorem dX6_addName_4 : decode cX6_addName 4 = .ok (.aload_n 0, 1) := by decide +kernel
theorem dX6_addName_5 : decode cX6_addName 5 = .ok (.getfield 32, 3) := by decide +kernel
theorem dX6_addName_8 : decode cX6_addName 8 = .ok (.arraylength, 1) := by decide +kernel
theorem dX6_addName_9 : decode cX6_addName 9 = .ok (.if_icmp .lt 5, 3) := by decide +kernel
theorem dX6_addName_12 : decode cX6_addName 12 = .ok (.iconst (-1), 1) := by decide +kernel
theorem dX6_addName_13 : decode cX6_addName 13 = .ok (.ireturn, 1) := by decide +kernel
theorem dX6_addName_14 : decode cX6_addName 14 = .ok (.aload_n 0, 1) := by decide +kernel
theorem dX6_addName_15 : decode cX6_addName 15 = .ok (.getfield 32, 3) := by decide +kernel
theorem dX6_addName_18 : decode cX6_addName 18 = .ok (.aload_n 0, 1) := by decide +kernel
theorem dX6_addName_19 : decode cX6_addName 19 = .ok (.getfield 47, 3) := by decide +kernel
theorem dX6_addName_22 : decode cX6_addName 22 = .ok (.iload_n 1, 1) := by decide +kernel
theorem dX6_addName_23 : decode cX6_addName 23 = .ok (.iastore, 1) := by decide +kernel
theorem dX6_addName_24 : decode cX6_addName 24 = .ok (.aload_n 0, 1) := by decide +kernel
theorem dX6_addName_25 : decode cX6_addName 25 = .ok (.getfield 35, 3) := by decide +kernel
theorem dX6_addName_28 : decode cX6_addName 28 = .ok (.aload_n 0, 1) := by decide +kernel
theorem dX6_addName_29 : decode cX6_addName 29 = .ok (.getfield 47, 3) := by decide +kernel
theorem dX6_addName_32 : decode cX6_addName 32 = .ok (.iload_n 2, 1) := by decide +kernel
theorem dX6_addName_33 : decode cX6_addName 33 = .ok (.iastore, 1) := by decide +kernel
theorem dX6_addName_34 : decode cX6_addName 34 = .ok (.aload_n 0, 1) := by decide +kernel
theorem dX6_addName_35 : decode cX6_addName 35 = .ok (.getfield 38, 3) := by decide +kernel
theorem dX6_addName_38 : decode cX6_addName 38 = .ok (.aload_n 0, 1) := by decide +kernel
theorem dX6_addName_39 : decode cX6_addName 39 = .ok (.getfield 47, 3) := by decide +kernel
theorem dX6_addName_42 : decode cX6_addName 42 = .ok (.iconst (-1), 1) := by decide +kernel
theorem dX6_addName_43 : decode cX6_addName 43 = .ok (.iastore, 1) := by decide +kernel
theorem dX6_addName_44 : decode cX6_addName 44 = .ok (.aload_n 0, 1) := by decide +kernel
theorem dX6_addName_45 : decode cX6_addName 45 = .ok (.getfield 41, 3) := by decide +kernel
theorem dX6_addName_48 : decode cX6_addName 48 = .ok (.aload_n 0, 1) := by decide +kernel
theorem dX6_addName_49 : decode cX6_addName 49 = .ok (.getfield 47, 3) := by decide +kernel
theorem dX6_addName_52 : decode cX6_addName 52 = .ok (.iconst 0, 1) := by decide +kernel
theorem dX6_addName_53 : decode cX6_addName 53 = .ok (.iastore, 1) := by decide +kernel
theorem dX6_addName_54 : decode cX6_addName 54 = .ok (.aload_n 0, 1) := by decide +kernel
theorem dX6_addName_55 : decode cX6_addName 55 = .ok (.dup, 1) := by decide +kernel
theorem dX6_addName_56 : decode cX6_addName 56 = .ok (.getfield 47, 3) := by decide +kernel
theorem dX6_addName_59 : decode cX6_addName 59 = .ok (.iconst 1, 1) := by decide +kernel
theorem dX6_addName_60 : decode cX6_addName 60 = .ok (.iadd, 1) := by decide +kernel
theorem dX6_addName_61 : decode cX6_addName 61 = .ok (.putfield 47, 3) := by decide +kernel
theorem dX6_addName_64 : decode cX6_addName 64 = .ok (.aload_n 0, 1) := by decide +kernel
theorem dX6_addName_65 : decode cX6_addName 65 = .ok (.getfield 47, 3) := by decide +kernel
theorem dX6_addName_68 : decode cX6_addName 68 = .ok (.iconst 1, 1) := by decide +kernel
theorem dX6_addName_69 : decode cX6_addName 69 = .ok (.isub, 1) := by decide +kernel
theorem dX6_addName_70 : decode cX6_addName 70 = .ok (.ireturn, 1) := by decide +kernel
theorem dX6_makeRoom_0 : decode cX6_makeRoom 0 = .ok (.aload_n 0, 1) := by decide +kernel
theorem dX6_makeRoom_1 : decode cX6_makeRoom 1 = .ok (.getfield 47, 3) := by decide +kernel
theorem dX6_makeRoom_4 : decode cX6_makeRoom 4 = .ok (.sipush 600, 3) := by decide +kernel
theorem dX6_makeRoom_7 : decode cX6_makeRoom 7 = .ok (.iadd, 1) := by decide +kernel
theorem dX6_makeRoom_8 : decode cX6_makeRoom 8 = .ok (.iconst 1, 1) := by decide +kernel
theorem dX6_makeRoom_9 : decode cX6_makeRoom 9 = .ok (.iadd, 1) := by decide +kernel
theorem dX6_makeRoom_10 : decode cX6_makeRoom 10 = .ok (.aload_n 0, 1) := by decide +kernel
theorem dX6_makeRoom_11 : decode cX6_makeRoom 11 = .ok (.getfield 32, 3) := by decide +kernel
theorem dX6_makeRoom_14 : decode cX6_makeRoom 14 = .ok (.arraylength, 1) := by decide +kernel
theorem dX6_makeRoom_15 : decode cX6_makeRoom 15 = .ok (.if_icmp .le 78, 3) := by decide +kernel
theorem dX6_makeRoom_18 : decode cX6_makeRoom 18 = .ok (.aload_n 0, 1) := by decide +kernel
theorem dX6_makeRoom_19 : decode cX6_makeRoom 19 = .ok (.getfield 32, 3) := by decide +kernel
theorem dX6_makeRoom_22 : decode cX6_makeRoom 22 = .ok (.arraylength, 1) := by decide +kernel
theorem dX6_makeRoom_23 : decode cX6_makeRoom 23 = .ok (.ldc 99, 2) := by decide +kernel
theorem dX6_makeRoom_25 : decode cX6_makeRoom 25 = .ok (.if_icmp .ge 68, 3) := by decide +kernel
theorem dX6_makeRoom_28 : decode cX6_makeRoom 28 = .ok (.aload_n 0, 1) := by decide +kernel
theorem dX6_makeRoom_29 : decode cX6_makeRoom 29 = .ok (.aload_n 0, 1) := by decide +kernel
theorem dX6_makeRoom_30 : decode cX6_makeRoom 30 = .ok (.getfield 32, 3) := by decide +kernel
theorem dX6_makeRoom_33 : decode cX6_makeRoom 33 = .ok (.ldc 99, 2) := by decide +kernel
theorem dX6_makeRoom_35 : decode cX6_makeRoom 35 = .ok (.invokestatic 100, 3) := by decide +kernel
theorem dX6_makeRoom_38 : decode cX6_makeRoom 38 = .ok (.putfield 32, 3) := by decide +kernel
theorem dX6_makeRoom_41 : decode cX6_makeRoom 41 = .ok (.aload_n 0, 1) := by decide +kernel
theorem dX6_makeRoom_42 : decode cX6_makeRoom 42 = .ok (.aload_n 0, 1) := by decide +kernel
theorem dX6_makeRoom_43 : decode cX6_makeRoom 43 = .ok (.getfield 35, 3) := by decide +kernel
theorem dX6_makeRoom_46 : decode cX6_makeRoom 46 = .ok (.ldc 99, 2) := by decide +kernel
theorem dX6_makeRoom_48 : decode cX6_makeRoom 48 = .ok (.invokestatic 100, 3) := by decide +kernel
theorem dX6_makeRoom_51 : decode cX6_makeRoom 51 = .ok (.putfield 35, 3) := by decide +kernel
theorem dX6_makeRoom_54 : decode cX6_makeRoom 54 = .ok (.aload_n 0, 1) := by decide +kernel
theorem dX6_makeRoom_55 : decode cX6_makeRoom 55 = .ok (.aload_n 0, 1) := by decide +kernel
theorem dX6_makeRoom_56 : decode cX6_makeRoom 56 = .ok (.getfield 38, 3) := by decide +kernel
theorem dX6_makeRoom_59 : decode cX6_makeRoom 59 = .ok (.ldc 99, 2) := by decide +kernel
theorem dX6_makeRoom_61 : decode cX6_makeRoom 61 = .ok (.invokestatic 100, 3) := by decide +kernel
theorem dX6_makeRoom_64 : decode cX6_makeRoom 64 = .ok (.putfield 38, 3) := by decide +kernel
theorem dX6_makeRoom_67 : decode cX6_makeRoom 67 = .ok (.aload_n 0, 1) := by decide +kernel
theorem dX6_makeRoom_68 : decode cX6_makeRoom 68 = .ok (.aload_n 0, 1) := by decide +kernel
theorem dX6_makeRoom_69 : decode cX6_makeRoom 69 = .ok (.getfield 41, 3) := by decide +kernel
theorem dX6_makeRoom_72 : decode cX6_makeRoom 72 = .ok (.ldc 99, 2) := by decide +kernel
theorem dX6_makeRoom_74 : decode cX6_makeRoom 74 = .ok (.invokestatic 100, 3) := by decide +kernel
theorem dX6_makeRoom_77 : decode cX6_makeRoom 77 = .ok (.putfield 41, 3) := by decide +kernel
theorem dX6_makeRoom_80 : decode cX6_makeRoom 80 = .ok (.aload_n 0, 1) := by decide +kernel
theorem dX6_makeRoom_81 : decode cX6_makeRoom 81 = .ok (.aload_n 0, 1) := by decide +kernel
theorem dX6_makeRoom_82 : decode cX6_makeRoom 82 = .ok (.getfield 44, 3) := by decide +kernel
theorem dX6_makeRoom_85 : decode cX6_makeRoom 85 = .ok (.ldc 99, 2) := by decide +kernel
theorem dX6_makeRoom_87 : decode cX6_makeRoom 87 = .ok (.invokestatic 100, 3) := by decide +kernel
theorem dX6_makeRoom_90 : decode cX6_makeRoom 90 = .ok (.putfield 44, 3) := by decide +kernel
theorem dX6_makeRoom_93 : decode cX6_makeRoom 93 = .ok (.return_, 1) := by decide +kernel
theorem dX6_has_0 : decode cX6_has 0 = .ok (.iload_n 1, 1) := by decide +kernel
theorem dX6_has_1 : decode cX6_has 1 = .ok (.ifCond .lt 15, 3) := by decide +kernel
theorem dX6_has_4 : decode cX6_has 4 = .ok (.iload_n 1, 1) := by decide +kernel
theorem dX6_has_5 : decode cX6_has 5 = .ok (.aload_n 0, 1) := by decide +kernel
theorem dX6_has_6 : decode cX6_has 6 = .ok (.getfield 47, 3) := by decide +kernel
theorem dX6_has_9 : decode cX6_has 9 = .ok (.if_icmp .ge 7, 3) := by decide +kernel
theorem dX6_has_12 : decode cX6_has 12 = .ok (.iconst 1, 1) := by decide +kernel
theorem dX6_has_13 : decode cX6_has 13 = .ok (.goto 4, 3) := by decide +kernel
theorem dX6_has_16 : decode cX6_has 16 = .ok (.iconst 0, 1) := by decide +kernel
theorem dX6_has_17 : decode cX6_has 17 = .ok (.ireturn, 1) := by decide +kernel
theorem dX6_originalOf_0 : decode cX6_originalOf 0 = .ok (.aload_n 0, 1) := by decide +kernel
theorem dX6_originalOf_1 : decode cX6_originalOf 1 = .ok (.iload_n 1, 1) := by decide +kernel
theorem dX6_originalOf_2 : decode cX6_originalOf 2 = .ok (.invokevirtual 106, 3) := by decide +kernel
theorem dX6_originalOf_5 : decode cX6_originalOf 5 = .ok (.ifCond .eq 12, 3) := by decide +kernel
theorem dX6_originalOf_8 : decode cX6_originalOf 8 = .ok (.aload_n 0, 1) := by decide +kernel
theorem dX6_originalOf_9 : decode cX6_originalOf 9 = .ok (.getfield 32, 3) := by decide +kernel
theorem dX6_originalOf_12 : decode cX6_originalOf 12 = .ok (.iload_n 1, 1) := by decide +kernel
theorem dX6_originalOf_13 : decode cX6_originalOf 13 = .ok (.iaload, 1) := by decide +kernel
theorem dX6_originalOf_14 : decode cX6_originalOf 14 = .ok (.goto 4, 3) := by decide +kernel
theorem dX6_originalOf_17 : decode cX6_originalOf 17 = .ok (.iconst (-1), 1) := by decide +kernel
theorem dX6_originalOf_18 : decode cX6_originalOf 18 = .ok (.ireturn, 1) := by decide +kernel
theorem dX6_root_0 : decode cX6_root 0 = .ok (.iload_n 1, 1) := by decide +kernel
theorem dX6_root_1 : decode cX6_root 1 = .ok (.istore_n 2, 1) := by decide +kernel
theorem dX6_root_2 : decode cX6_root 2 = .ok (.aload_n 0, 1) := by decide +kernel
theorem dX6_root_3 : decode cX6_root 3 = .ok (.iload_n 2, 1) := by decide +kernel
theorem dX6_root_4 : decode cX6_root 4 = .ok (.invokevirtual 110, 3) := by decide +kernel
theorem dX6_root_7 : decode cX6_root 7 = .ok (.istore_n 3, 1) := by decide +kernel
theorem dX6_root_8 : decode cX6_root 8 = .ok (.iload_n 3, 1) := by decide +kernel
theorem dX6_root_9 : decode cX6_root 9 = .ok (.ifCond .lt 19, 3) := by decide +kernel
theorem dX6_root_12 : decode cX6_root 12 = .ok (.iload_n 3, 1) := by decide +kernel
theorem dX6_root_13 : decode cX6_root 13 = .ok (.iload_n 2, 1) := by decide +kernel
theorem dX6_root_14 : decode cX6_root 14 = .ok (.if_icmp .ge 14, 3) := by decide +kernel
theorem dX6_root_17 : decode cX6_root 17 = .ok (.iload_n 3, 1) := by decide +kernel
theorem dX6_root_18 : decode cX6_root 18 = .ok (.istore_n 2, 1) := by decide +kernel
theorem dX6_root_19 : decode cX6_root 19 = .ok (.aload_n 0, 1) := by decide +kernel
theorem dX6_root_20 : decode cX6_root 20 = .ok (.iload_n 2, 1) := by decide +kernel
theorem dX6_root_21 : decode cX6_root 21 = .ok (.invokevirtual 110, 3) := by decide +kernel
theorem dX6_root_24 : decode cX6_root 24 = .ok (.istore_n 3, 1) := by decide +kernel
theorem dX6_root_25 : decode cX6_root 25 = .ok (.goto (-17), 3) := by decide +kernel
theorem dX6_root_28 : decode cX6_root 28 = .ok (.iload_n 2, 1) := by decide +kernel
theorem dX6_root_29 : decode cX6_root 29 = .ok (.ireturn, 1) := by decide +kernel
theorem dX6_rulesOf_0 : decode cX6_rulesOf 0 = .ok (.iload_n 1, 1) := by decide +kernel
theorem dX6_rulesOf_1 : decode cX6_rulesOf 1 = .ok (.ifCond .lt 20, 3) := by decide +kernel
theorem dX6_rulesOf_4 : decode cX6_rulesOf 4 = .ok (.iload_n 1, 1) := by decide +kernel
theorem dX6_rulesOf_5 : decode cX6_rulesOf 5 = .ok (.aload_n 0, 1) := by decide +kernel
theorem dX6_rulesOf_6 : decode cX6_rulesOf 6 = .ok (.getfield 25, 3) := by decide +kernel
theorem dX6_rulesOf_9 : decode cX6_rulesOf 9 = .ok (.if_icmp .ge 12, 3) := by decide +kernel
theorem dX6_rulesOf_12 : decode cX6_rulesOf 12 = .ok (.aload_n 0, 1) := by decide +kernel
theorem dX6_rulesOf_13 : decode cX6_rulesOf 13 = .ok (.getfield 18, 3) := by decide +kernel
theorem dX6_rulesOf_16 : decode cX6_rulesOf 16 = .ok (.iload_n 1, 1) := by decide +kernel
theorem dX6_rulesOf_17 : decode cX6_rulesOf 17 = .ok (.iaload, 1) := by decide +kernel
theorem dX6_rulesOf_18 : decode cX6_rulesOf 18 = .ok (.goto 4, 3) := by decide +kernel
theorem dX6_rulesOf_21 : decode cX6_rulesOf 21 = .ok (.iconst (-1), 1) := by decide +kernel
theorem dX6_rulesOf_22 : decode cX6_rulesOf 22 = .ok (.ireturn, 1) := by decide +kernel
theorem dX6_setRules_0 : decode cX6_setRules 0 = .ok (.iload_n 1, 1) := by decide +kernel
theorem dX6_setRules_1 : decode cX6_setRules 1 = .ok (.ifCond .lt 18, 3) := by decide +kernel
theorem dX6_setRules_4 : decode cX6_setRules 4 = .ok (.iload_n 1, 1) := by decide +kernel
theorem dX6_setRules_5 : decode cX6_setRules 5 = .ok (.aload_n 0, 1) := by decide +kernel
theorem dX6_setRules_6 : decode cX6_setRules 6 = .ok (.getfield 25, 3) := by decide +kernel
theorem dX6_setRules_9 : decode cX6_setRules 9 = .ok (.if_icmp .ge 10, 3) := by decide +kernel
theorem dX6_setRules_12 : decode cX6_setRules 12 = .ok (.aload_n 0, 1) := by decide +kernel
theorem dX6_setRules_13 : decode cX6_setRules 13 = .ok (.getfield 18, 3) := by decide +kernel
theorem dX6_setRules_16 : decode cX6_setRules 16 = .ok (.iload_n 1, 1) := by decide +kernel
theorem dX6_setRules_17 : decode cX6_setRules 17 = .ok (.iload_n 2, 1) := by decide +kernel
theorem dX6_setRules_18 : decode cX6_setRules 18 = .ok (.iastore, 1) := by decide +kernel
theorem dX6_setRules_19 : decode cX6_setRules 19 = .ok (.return_, 1) := by decide +kernel
theorem dX6_macros_0 : decode cX6_macros 0 = .ok (.iconst 0, 1) := by decide +kernel
theorem dX6_macros_1 : decode cX6_macros 1 = .ok (.istore_n 1, 1) := by decide +kernel
theorem dX6_macros_2 : decode cX6_macros 2 = .ok (.iconst 0, 1) := by decide +kernel
theorem dX6_macros_3 : decode cX6_macros 3 = .ok (.istore_n 2, 1) := by decide +kernel
theorem dX6_macros_4 : decode cX6_macros 4 = .ok (.iload_n 2, 1) := by decide +kernel
theorem dX6_macros_5 : decode cX6_macros 5 = .ok (.aload_n 0, 1) := by decide +kernel
theorem dX6_macros_6 : decode cX6_macros 6 = .ok (.getfield 25, 3) := by decide +kernel
theorem dX6_macros_9 : decode cX6_macros 9 = .ok (.if_icmp .ge 22, 3) := by decide +kernel
theorem dX6_macros_12 : decode cX6_macros 12 = .ok (.aload_n 0, 1) := by decide +kernel
theorem dX6_macros_13 : decode cX6_macros 13 = .ok (.getfield 18, 3) := by decide +kernel
theorem dX6_macros_16 : decode cX6_macros 16 = .ok (.iload_n 2, 1) := by decide +kernel
theorem dX6_macros_17 : decode cX6_macros 17 = .ok (.iaload, 1) := by decide +kernel
theorem dX6_macros_18 : decode cX6_macros 18 = .ok (.iconst (-1), 1) := by decide +kernel
theorem dX6_macros_19 : decode cX6_macros 19 = .ok (.if_icmp .eq 6, 3) := by decide +kernel
theorem dX6_macros_22 : decode cX6_macros 22 = .ok (.iinc 1 1, 3) := by decide +kernel
theorem dX6_macros_25 : decode cX6_macros 25 = .ok (.iinc 2 1, 3) := by decide +kernel
theorem dX6_macros_28 : decode cX6_macros 28 = .ok (.goto (-24), 3) := by decide +kernel
theorem dX6_macros_31 : decode cX6_macros 31 = .ok (.iload_n 1, 1) := by decide +kernel
theorem dX6_macros_32 : decode cX6_macros 32 = .ok (.ireturn, 1) := by decide +kernel
theorem dX6_clearNotes_0 : decode cX6_clearNotes 0 = .ok (.aload_n 0, 1) := by decide +kernel
theorem dX6_clearNotes_1 : decode cX6_clearNotes 1 = .ok (.dup, 1) := by decide +kernel
theorem dX6_clearNotes_2 : decode cX6_clearNotes 2 = .ok (.getfield 50, 3) := by decide +kernel
theorem dX6_clearNotes_5 : decode cX6_clearNotes 5 = .ok (.iconst 1, 1) := by decide +kernel
theorem dX6_clearNotes_6 : decode cX6_clearNotes 6 = .ok (.iadd, 1) := by decide +kernel
theorem dX6_clearNotes_7 : decode cX6_clearNotes 7 = .ok (.putfield 50, 3) := by decide +kernel
theorem dX6_clearNotes_10 : decode cX6_clearNotes 10 = .ok (.return_, 1) := by decide +kernel
theorem dX6_isNoted_0 : decode cX6_isNoted 0 = .ok (.iload_n 1, 1) := by decide +kernel
theorem dX6_isNoted_1 : decode cX6_isNoted 1 = .ok (.ifCond .lt 28, 3) := by decide +kernel
theorem dX6_isNoted_4 : decode cX6_isNoted 4 = .ok (.iload_n 1, 1) := by decide +kernel
theorem dX6_isNoted_5 : decode cX6_isNoted 5 = .ok (.aload_n 0, 1) := by decide +kernel
theorem dX6_isNoted_6 : decode cX6_isNoted 6 = .ok (.getfield 47, 3) := by decide +kernel
theorem dX6_isNoted_9 : decode cX6_isNoted 9 = .ok (.if_icmp .ge 20, 3) := by decide +kernel
theorem dX6_isNoted_12 : decode cX6_isNoted 12 = .ok (.aload_n 0, 1) := by decide +kernel
theorem dX6_isNoted_13 : decode cX6_isNoted 13 = .ok (.getfield 41, 3) := by decide +kernel
theorem dX6_isNoted_16 : decode cX6_isNoted 16 = .ok (.iload_n 1, 1) := by decide +kernel
theorem dX6_isNoted_17 : decode cX6_isNoted 17 = .ok (.iaload, 1) := by decide +kernel
theorem dX6_isNoted_18 : decode cX6_isNoted 18 = .ok (.aload_n 0, 1) := by decide +kernel
theorem dX6_isNoted_19 : decode cX6_isNoted 19 = .ok (.getfield 50, 3) := by decide +kernel
theorem dX6_isNoted_22 : decode cX6_isNoted 22 = .ok (.if_icmp .ne 7, 3) := by decide +kernel
theorem dX6_isNoted_25 : decode cX6_isNoted 25 = .ok (.iconst 1, 1) := by decide +kernel
theorem dX6_isNoted_26 : decode cX6_isNoted 26 = .ok (.goto 4, 3) := by decide +kernel
theorem dX6_isNoted_29 : decode cX6_isNoted 29 = .ok (.iconst 0, 1) := by decide +kernel
theorem dX6_isNoted_30 : decode cX6_isNoted 30 = .ok (.ireturn, 1) := by decide +kernel
theorem dX6_noteOf_0 : decode cX6_noteOf 0 = .ok (.iload_n 1, 1) := by decide +kernel
theorem dX6_noteOf_1 : decode cX6_noteOf 1 = .ok (.ifCond .lt 33, 3) := by decide +kernel
theorem dX6_noteOf_4 : decode cX6_noteOf 4 = .ok (.iload_n 1, 1) := by decide +kernel
theorem dX6_noteOf_5 : decode cX6_noteOf 5 = .ok (.aload_n 0, 1) := by decide +kernel
theorem dX6_noteOf_6 : decode cX6_noteOf 6 = .ok (.getfield 47, 3) := by decide +kernel
theorem dX6_noteOf_9 : decode cX6_noteOf 9 = .ok (.if_icmp .ge 25, 3) := by decide +kernel
theorem dX6_noteOf_12 : decode cX6_noteOf 12 = .ok (.aload_n 0, 1) := by decide +kernel
theorem dX6_noteOf_13 : decode cX6_noteOf 13 = .ok (.getfield 41, 3) := by decide +kernel
theorem dX6_noteOf_16 : decode cX6_noteOf 16 = .ok (.iload_n 1, 1) := by decide +kernel
theorem dX6_noteOf_17 : decode cX6_noteOf 17 = .ok (.iaload, 1) := by decide +kernel
theorem dX6_noteOf_18 : decode cX6_noteOf 18 = .ok (.aload_n 0, 1) := by decide +kernel
theorem dX6_noteOf_19 : decode cX6_noteOf 19 = .ok (.getfield 50, 3) := by decide +kernel
theorem dX6_noteOf_22 : decode cX6_noteOf 22 = .ok (.if_icmp .ne 12, 3) := by decide +kernel
theorem dX6_noteOf_25 : decode cX6_noteOf 25 = .ok (.aload_n 0, 1) := by decide +kernel
theorem dX6_noteOf_26 : decode cX6_noteOf 26 = .ok (.getfield 44, 3) := by decide +kernel
theorem dX6_noteOf_29 : decode cX6_noteOf 29 = .ok (.iload_n 1, 1) := by decide +kernel
theorem dX6_noteOf_30 : decode cX6_noteOf 30 = .ok (.iaload, 1) := by decide +kernel
theorem dX6_noteOf_31 : decode cX6_noteOf 31 = .ok (.goto 4, 3) := by decide +kernel
theorem dX6_noteOf_34 : decode cX6_noteOf 34 = .ok (.iconst (-1), 1) := by decide +kernel
theorem dX6_noteOf_35 : decode cX6_noteOf 35 = .ok (.ireturn, 1) := by decide +kernel
theorem dX6_setNote_0 : decode cX6_setNote 0 = .ok (.aload_n 0, 1) := by decide +kernel
theorem dX6_setNote_1 : decode cX6_setNote 1 = .ok (.iload_n 1, 1) := by decide +kernel
theorem dX6_setNote_2 : decode cX6_setNote 2 = .ok (.invokevirtual 106, 3) := by decide +kernel
theorem dX6_setNote_5 : decode cX6_setNote 5 = .ok (.ifCond .eq 20, 3) := by decide +kernel
theorem dX6_setNote_8 : decode cX6_setNote 8 = .ok (.aload_n 0, 1) := by decide +kernel
theorem dX6_setNote_9 : decode cX6_setNote 9 = .ok (.getfield 41, 3) := by decide +kernel
theorem dX6_setNote_12 : decode cX6_setNote 12 = .ok (.iload_n 1, 1) := by decide +kernel
theorem dX6_setNote_13 : decode cX6_setNote 13 = .ok (.aload_n 0, 1) := by decide +kernel
theorem dX6_setNote_14 : decode cX6_setNote 14 = .ok (.getfield 50, 3) := by decide +kernel
theorem dX6_setNote_17 : decode cX6_setNote 17 = .ok (.iastore, 1) := by decide +kernel
theorem dX6_setNote_18 : decode cX6_setNote 18 = .ok (.aload_n 0, 1) := by decide +kernel
theorem dX6_setNote_19 : decode cX6_setNote 19 = .ok (.getfield 44, 3) := by decide +kernel
theorem dX6_setNote_22 : decode cX6_setNote 22 = .ok (.iload_n 1, 1) := by decide +kernel
theorem dX6_setNote_23 : decode cX6_setNote 23 = .ok (.iload_n 2, 1) := by decide +kernel
theorem dX6_setNote_24 : decode cX6_setNote 24 = .ok (.iastore, 1) := by decide +kernel
theorem dX6_setNote_25 : decode cX6_setNote 25 = .ok (.return_, 1) := by decide +kernel
theorem dX6_canBeBound_0 : decode cX6_canBeBound 0 = .ok (.iload_n 0, 1) := by decide +kernel
theorem dX6_canBeBound_1 : decode cX6_canBeBound 1 = .ok (.iconst (-1), 1) := by decide +kernel
theorem dX6_canBeBound_2 : decode cX6_canBeBound 2 = .ok (.if_icmp .eq 19, 3) := by decide +kernel
theorem dX6_canBeBound_5 : decode cX6_canBeBound 5 = .ok (.iload_n 0, 1) := by decide +kernel
theorem dX6_canBeBound_6 : decode cX6_canBeBound 6 = .ok (.bipush 7, 2) := by decide +kernel
theorem dX6_canBeBound_8 : decode cX6_canBeBound 8 = .ok (.if_icmp .eq 13, 3) := by decide +kernel
theorem dX6_canBeBound_11 : decode cX6_canBeBound 11 = .ok (.iload_n 0, 1) := by decide +kernel
theorem dX6_canBeBound_12 : decode cX6_canBeBound 12 = .ok (.bipush 8, 2) := by decide +kernel
theorem dX6_canBeBound_14 : decode cX6_canBeBound 14 = .ok (.if_icmp .eq 7, 3) := by decide +kernel
theorem dX6_canBeBound_17 : decode cX6_canBeBound 17 = .ok (.iconst 1, 1) := by decide +kernel
theorem dX6_canBeBound_18 : decode cX6_canBeBound 18 = .ok (.goto 4, 3) := by decide +kernel
theorem dX6_canBeBound_21 : decode cX6_canBeBound 21 = .ok (.iconst 0, 1) := by decide +kernel
theorem dX6_canBeBound_22 : decode cX6_canBeBound 22 = .ok (.ireturn, 1) := by decide +kernel
theorem dX7_init_0 : decode cX7_init 0 = .ok (.aload_n 0, 1) := by decide +kernel
theorem dX7_init_1 : decode cX7_init 1 = .ok (.invokespecial 3, 3) := by decide +kernel
theorem dX7_init_4 : decode cX7_init 4 = .ok (.aload_n 0, 1) := by decide +kernel
theorem dX7_init_5 : decode cX7_init 5 = .ok (.bipush 61, 2) := by decide +kernel
theorem dX7_init_7 : decode cX7_init 7 = .ok (.newarray .int, 2) := by decide +kernel
theorem dX7_init_9 : decode cX7_init 9 = .ok (.putfield 9, 3) := by decide +kernel
theorem dX7_init_12 : decode cX7_init 12 = .ok (.aload_n 0, 1) := by decide +kernel
theorem dX7_init_13 : decode cX7_init 13 = .ok (.iconst 0, 1) := by decide +kernel
theorem dX7_init_14 : decode cX7_init 14 = .ok (.putfield 15, 3) := by decide +kernel
theorem dX7_init_17 : decode cX7_init 17 = .ok (.aload_n 0, 1) := by decide +kernel
theorem dX7_init_18 : decode cX7_init 18 = .ok (.aload_n 1, 1) := by decide +kernel
theorem dX7_init_19 : decode cX7_init 19 = .ok (.putfield 19, 3) := by decide +kernel
theorem dX7_init_22 : decode cX7_init 22 = .ok (.aload_n 0, 1) := by decide +kernel
theorem dX7_init_23 : decode cX7_init 23 = .ok (.aload_n 2, 1) := by decide +kernel
theorem dX7_init_24 : decode cX7_init 24 = .ok (.putfield 23, 3) := by decide +kernel
theorem dX7_init_27 : decode cX7_init 27 = .ok (.return_, 1) := by decide +kernel
theorem dX7_addForms_0 : decode cX7_addForms 0 = .ok (.aload_n 0, 1) := by decide +kernel
theorem dX7_addForms_1 : decode cX7_addForms 1 = .ok (.iconst 0, 1) := by decide +kernel
theorem dX7_addForms_2 : decode cX7_addForms 2 = .ok (.putfield 15, 3) := by decide +kernel
theorem dX7_addForms_5 : decode cX7_addForms 5 = .ok (.iconst 0, 1) := by decide +kernel
theorem dX7_addForms_6 : decode cX7_addForms 6 = .ok (.istore_n 3, 1) := by decide +kernel
theorem dX7_addForms_7 : decode cX7_addForms 7 = .ok (.iconst 0, 1) := by decide +kernel
theorem dX7_addForms_8 : decode cX7_addForms 8 = .ok (.istore 4, 2) := by decide +kernel
theorem dX7_addForms_10 : decode cX7_addForms 10 = .ok (.aload_n 0, 1) := by decide +kernel
theorem dX7_addForms_11 : decode cX7_addForms 11 = .ok (.aload_n 1, 1) := by decide +kernel
theorem dX7_addForms_12 : decode cX7_addForms 12 = .ok (.iconst 0, 1) := by decide +kernel
theorem dX7_addForms_13 : decode cX7_addForms 13 = .ok (.iload_n 2, 1) := by decide +kernel
theorem dX7_addForms_14 : decode cX7_addForms 14 = .ok (.invokevirtual 27, 3) := by decide +kernel
theorem dX7_addForms_17 : decode cX7_addForms 17 = .ok (.istore 5, 2) := by decide +kernel
theorem dX7_addForms_19 : decode cX7_addForms 19 = .ok (.iload 5, 2) := by decide +kernel
theorem dX7_addForms_21 : decode cX7_addForms 21 = .ok (.iload_n 2, 1) := by decide +kernel
theorem dX7_addForms_22 : decode cX7_addForms 22 = .ok (.if_icmp .ge 51, 3) := by decide +kernel
theorem dX7_addForms_25 : decode cX7_addForms 25 = .ok (.iload_n 3, 1) := by decide +kernel
theorem dX7_addForms_26 : decode cX7_addForms 26 = .ok (.ifCond .ne 47, 3) := by decide +kernel
theorem dX7_addForms_29 : decode cX7_addForms 29 = .ok (.aload_n 0, 1) := by decide +kernel
theorem dX7_addForms_30 : decode cX7_addForms 30 = .ok (.aload_n 1, 1) := by decide +kernel
theorem dX7_addForms_31 : decode cX7_addForms 31 = .ok (.iload 5, 2) := by decide +kernel
theorem dX7_addForms_33 : decode cX7_addForms 33 = .ok (.iload_n 2, 1) := by decide +kernel
theorem dX7_addForms_34 : decode cX7_addForms 34 = .ok (.invokevirtual 31, 3) := by decide +kernel
theorem dX7_addForms_37 : decode cX7_addForms 37 = .ok (.istore 6, 2) := by decide +kernel
theorem dX7_addForms_39 : decode cX7_addForms 39 = .ok (.aload_n 0, 1) := by decide +kernel
theorem dX7_addForms_40 : decode cX7_addForms 40 = .ok (.aload_n 1, 1) := by decide +kernel
theorem dX7_addForms_41 : decode cX7_addForms 41 = .ok (.iload 5, 2) := by decide +kernel
theorem dX7_addForms_43 : decode cX7_addForms 43 = .ok (.iload 6, 2) := by decide +kernel
theorem dX7_addForms_45 : decode cX7_addForms 45 = .ok (.invokevirtual 34, 3) := by decide +kernel
theorem dX7_addForms_48 : decode cX7_addForms 48 = .ok (.istore_n 3, 1) := by decide +kernel
theorem dX7_addForms_49 : decode cX7_addForms 49 = .ok (.aload_n 0, 1) := by decide +kernel
theorem dX7_addForms_50 : decode cX7_addForms 50 = .ok (.aload_n 1, 1) := by decide +kernel
theorem dX7_addForms_51 : decode cX7_addForms 51 = .ok (.iload 6, 2) := by decide +kernel
theorem dX7_addForms_53 : decode cX7_addForms 53 = .ok (.iload_n 2, 1) := by decide +kernel
theorem dX7_addForms_54 : decode cX7_addForms 54 = .ok (.invokevirtual 27, 3) := by decide +kernel
theorem dX7_addForms_57 : decode cX7_addForms 57 = .ok (.istore 4, 2) := by decide +kernel
theorem dX7_addForms_59 : decode cX7_addForms 59 = .ok (.iload 5, 2) := by decide +kernel
theorem dX7_addForms_61 : decode cX7_addForms 61 = .ok (.iconst 1, 1) := by decide +kernel
theorem dX7_addForms_62 : decode cX7_addForms 62 = .ok (.iadd, 1) := by decide +kernel
theorem dX7_addForms_63 : decode cX7_addForms 63 = .ok (.iload 4, 2) := by decide +kernel
theorem dX7_addForms_65 : decode cX7_addForms 65 = .ok (.invokestatic 37, 3) := by decide +kernel
theorem dX7_addForms_68 : decode cX7_addForms 68 = .ok (.istore 5, 2) := by decide +kernel
theorem dX7_addForms_70 : decode cX7_addForms 70 = .ok (.goto (-51), 3) := by decide +kernel
theorem dX7_addForms_73 : decode cX7_addForms 73 = .ok (.iload_n 3, 1) := by decide +kernel
theorem dX7_addForms_74 : decode cX7_addForms 74 = .ok (.ifCond .ne 14, 3) := by decide +kernel
theorem dX7_addForms_77 : decode cX7_addForms 77 = .ok (.aload_n 0, 1) := by decide +kernel
theorem dX7_addForms_78 : decode cX7_addForms 78 = .ok (.getfield 15, 3) := by decide +kernel
theorem dX7_addForms_81 : decode cX7_addForms 81 = .ok (.ifCond .le 7, 3) := by decide +kernel
theorem dX7_addForms_84 : decode cX7_addForms 84 = .ok (.iconst 1, 1) := by decide +kernel
theorem dX7_addForms_85 : decode cX7_addForms 85 = .ok (.goto 4, 3) := by decide +kernel
theorem dX7_addForms_88 : decode cX7_addForms 88 = .ok (.iload_n 3, 1) := by decide +kernel
theorem dX7_addForms_89 : decode cX7_addForms 89 = .ok (.ireturn, 1) := by decide +kernel
theorem dX7_addToken_0 : decode cX7_addToken 0 = .ok (.iload_n 2, 1) := by decide +kernel
theorem dX7_addToken_1 : decode cX7_addToken 1 = .ok (.ifCond .lt 15, 3) := by decide +kernel
theorem dX7_addToken_4 : decode cX7_addToken 4 = .ok (.iload_n 2, 1) := by decide +kernel
theorem dX7_addToken_5 : decode cX7_addToken 5 = .ok (.aload_n 1, 1) := by decide +kernel
theorem dX7_addToken_6 : decode cX7_addToken 6 = .ok (.arraylength, 1) := by decide +kernel
theorem dX7_addToken_7 : decode cX7_addToken 7 = .ok (.if_icmp .ge 9, 3) := by decide +kernel
theorem dX7_addToken_10 : decode cX7_addToken 10 = .ok (.aload_n 1, 1) := by decide +kernel
theorem dX7_addToken_11 : decode cX7_addToken 11 = .ok (.iload_n 2, 1) := by decide +kernel
theorem dX7_addToken_12 : decode cX7_addToken 12 = .ok (.caload, 1) := by decide +kernel
theorem dX7_addToken_13 : decode cX7_addToken 13 = .ok (.goto 5, 3) := by decide +kernel
theorem dX7_addToken_16 : decode cX7_addToken 16 = .ok (.bipush 32, 2) := by decide +kernel
theorem dX7_addToken_18 : decode cX7_addToken 18 = .ok (.istore 4, 2) := by decide +kernel
theorem dX7_addToken_20 : decode cX7_addToken 20 = .ok (.iload 4, 2) := by decide +kernel
theorem dX7_addToken_22 : decode cX7_addToken 22 = .ok (.bipush 40, 2) := by decide +kernel
theorem dX7_addToken_24 : decode cX7_addToken 24 = .ok (.if_icmp .ne 8, 3) := by decide +kernel
theorem dX7_addToken_27 : decode cX7_addToken 27 = .ok (.aload_n 0, 1) := by decide +kernel
theorem dX7_addToken_28 : decode cX7_addToken 28 = .ok (.invokevirtual 43, 3) := by decide +kernel
theorem dX7_addToken_31 : decode cX7_addToken 31 = .ok (.ireturn, 1) := by decide +kernel
theorem dX7_addToken_32 : decode cX7_addToken 32 = .ok (.iload 4, 2) := by decide +kernel
theorem dX7_addToken_34 : decode cX7_addToken 34 = .ok (.bipush 41, 2) := by decide +kernel
theorem dX7_addToken_36 : decode cX7_addToken 36 = .ok (.if_icmp .ne 8, 3) := by decide +kernel
theorem dX7_addToken_39 : decode cX7_addToken 39 = .ok (.aload_n 0, 1) := by decide +kernel
theorem dX7_addToken_40 : decode cX7_addToken 40 = .ok (.invokevirtual 47, 3) := by decide +kernel
theorem dX7_addToken_43 : decode cX7_addToken 43 = .ok (.ireturn, 1) := by decide +kernel
theorem dX7_addToken_44 : decode cX7_addToken 44 = .ok (.aload_n 1, 1) := by decide +kernel
theorem dX7_addToken_45 : decode cX7_addToken 45 = .ok (.iload_n 2, 1) := by decide +kernel
theorem dX7_addToken_46 : decode cX7_addToken 46 = .ok (.iload_n 3, 1) := by decide +kernel
theorem dX7_addToken_47 : decode cX7_addToken 47 = .ok (.invokestatic 50, 3) := by decide +kernel
theorem dX7_addToken_50 : decode cX7_addToken 50 = .ok (.ifCond .eq 11, 3) := by decide +kernel
theorem dX7_addToken_53 : decode cX7_addToken 53 = .ok (.aload_n 0, 1) := by decide +kernel
theorem dX7_addToken_54 : decode cX7_addToken 54 = .ok (.aload_n 1, 1) := by decide +kernel
theorem dX7_addToken_55 : decode cX7_addToken 55 = .ok (.iload_n 2, 1) := by decide +kernel
theorem dX7_addToken_56 : decode cX7_addToken 56 = .ok (.iload_n 3, 1) := by decide +kernel
theorem dX7_addToken_57 : decode cX7_addToken 57 = .ok (.invokevirtual 54, 3) := by decide +kernel
theorem dX7_addToken_60 : decode cX7_addToken 60 = .ok (.ireturn, 1) := by decide +kernel
theorem dX7_addToken_61 : decode cX7_addToken 61 = .ok (.aload_n 0, 1) := by decide +kernel
theorem dX7_addToken_62 : decode cX7_addToken 62 = .ok (.aload_n 1, 1) := by decide +kernel
theorem dX7_addToken_63 : decode cX7_addToken 63 = .ok (.iload_n 2, 1) := by decide +kernel
theorem dX7_addToken_64 : decode cX7_addToken 64 = .ok (.iload_n 3, 1) := by decide +kernel
theorem dX7_addToken_65 : decode cX7_addToken 65 = .ok (.invokevirtual 57, 3) := by decide +kernel
theorem dX7_addToken_68 : decode cX7_addToken 68 = .ok (.ifCond .eq 13, 3) := by decide +kernel
theorem dX7_addToken_71 : decode cX7_addToken 71 = .ok (.aload_n 0, 1) := by decide +kernel
theorem dX7_addToken_72 : decode cX7_addToken 72 = .ok (.aload_n 1, 1) := by decide +kernel
theorem dX7_addToken_73 : decode cX7_addToken 73 = .ok (.iload_n 2, 1) := by decide +kernel
theorem dX7_addToken_74 : decode cX7_addToken 74 = .ok (.iload_n 3, 1) := by decide +kernel
theorem dX7_addToken_75 : decode cX7_addToken 75 = .ok (.invokevirtual 60, 3) := by decide +kernel
theorem dX7_addToken_78 : decode cX7_addToken 78 = .ok (.goto 4, 3) := by decide +kernel
theorem dX7_addToken_81 : decode cX7_addToken 81 = .ok (.iconst 1, 1) := by decide +kernel
theorem dX7_addToken_82 : decode cX7_addToken 82 = .ok (.ireturn, 1) := by decide +kernel
theorem dX7_openList_0 : decode cX7_openList 0 = .ok (.aload_n 0, 1) := by decide +kernel
theorem dX7_openList_1 : decode cX7_openList 1 = .ok (.getfield 15, 3) := by decide +kernel
theorem dX7_openList_4 : decode cX7_openList 4 = .ok (.aload_n 0, 1) := by decide +kernel
theorem dX7_openList_5 : decode cX7_openList 5 = .ok (.getfield 9, 3) := by decide +kernel
theorem dX7_openList_8 : decode cX7_openList 8 = .ok (.arraylength, 1) := by decide +kernel
theorem dX7_openList_9 : decode cX7_openList 9 = .ok (.if_icmp .lt 5, 3) := by decide +kernel
theorem dX7_openList_12 : decode cX7_openList 12 = .ok (.iconst 1, 1) := by decide +kernel
theorem dX7_openList_13 : decode cX7_openList 13 = .ok (.ireturn, 1) := by decide +kernel
theorem dX7_openList_14 : decode cX7_openList 14 = .ok (.aload_n 0, 1) := by decide +kernel
theorem dX7_openList_15 : decode cX7_openList 15 = .ok (.getfield 9, 3) := by decide +kernel
theorem dX7_openList_18 : decode cX7_openList 18 = .ok (.aload_n 0, 1) := by decide +kernel
theorem dX7_openList_19 : decode cX7_openList 19 = .ok (.getfield 15, 3) := by decide +kernel
theorem dX7_openList_22 : decode cX7_openList 22 = .ok (.aload_n 0, 1) := by decide +kernel
theorem dX7_openList_23 : decode cX7_openList 23 = .ok (.getfield 19, 3) := by decide +kernel
theorem dX7_openList_26 : decode cX7_openList 26 = .ok (.iconst (-1), 1) := by decide +kernel
theorem dX7_openList_27 : decode cX7_openList 27 = .ok (.invokevirtual 65, 3) := by decide +kernel
theorem dX7_openList_30 : decode cX7_openList 30 = .ok (.iastore, 1) := by decide +kernel
theorem dX7_openList_31 : decode cX7_openList 31 = .ok (.aload_n 0, 1) := by decide +kernel
theorem dX7_openList_32 : decode cX7_openList 32 = .ok (.dup, 1) := by decide +kernel
theorem dX7_openList_33 : decode cX7_openList 33 = .ok (.getfield 15, 3) := by decide +kernel
theorem dX7_openList_36 : decode cX7_openList 36 = .ok (.iconst 1, 1) := by decide +kernel
theorem dX7_openList_37 : decode cX7_openList 37 = .ok (.iadd, 1) := by decide +kernel
theorem dX7_openList_38 : decode cX7_openList 38 = .ok (.putfield 15, 3) := by decide +kernel
theorem dX7_openList_41 : decode cX7_openList 41 = .ok (.iconst 0, 1) := by decide +kernel
theorem dX7_openList_42 : decode cX7_openList 42 = .ok (.ireturn, 1) := by decide +kernel
theorem dX7_closeList_0 : decode cX7_closeList 0 = .ok (.aload_n 0, 1) := by decide +kernel
theorem dX7_closeList_1 : decode cX7_closeList 1 = .ok (.getfield 15, 3) := by decide +kernel
theorem dX7_closeList_4 : decode cX7_closeList 4 = .ok (.ifCond .ne 5, 3) := by decide +kernel
theorem dX7_closeList_7 : decode cX7_closeList 7 = .ok (.iconst 1, 1) := by decide +kernel
theorem dX7_closeList_8 : decode cX7_closeList 8 = .ok (.ireturn, 1) := by decide +kernel
theorem dX7_closeList_9 : decode cX7_closeList 9 = .ok (.aload_n 0, 1) := by decide +kernel
theorem dX7_closeList_10 : decode cX7_closeList 10 = .ok (.dup, 1) := by decide +kernel
theorem dX7_closeList_11 : decode cX7_closeList 11 = .ok (.getfield 15, 3) := by decide +kernel
theorem dX7_closeList_14 : decode cX7_closeList 14 = .ok (.iconst 1, 1) := by decide +kernel
theorem dX7_closeList_15 : decode cX7_closeList 15 = .ok (.isub, 1) := by decide +kernel
theorem dX7_closeList_16 : decode cX7_closeList 16 = .ok (.putfield 15, 3) := by decide +kernel
theorem dX7_closeList_19 : decode cX7_closeList 19 = .ok (.aload_n 0, 1) := by decide +kernel
theorem dX7_closeList_20 : decode cX7_closeList 20 = .ok (.getfield 19, 3) := by decide +kernel
theorem dX7_closeList_23 : decode cX7_closeList 23 = .ok (.aload_n 0, 1) := by decide +kernel
theorem dX7_closeList_24 : decode cX7_closeList 24 = .ok (.getfield 9, 3) := by decide +kernel
theorem dX7_closeList_27 : decode cX7_closeList 27 = .ok (.aload_n 0, 1) := by decide +kernel
theorem dX7_closeList_28 : decode cX7_closeList 28 = .ok (.getfield 15, 3) := by decide +kernel
theorem dX7_closeList_31 : decode cX7_closeList 31 = .ok (.iaload, 1) := by decide +kernel
theorem dX7_closeList_32 : decode cX7_closeList 32 = .ok (.invokevirtual 69, 3) := by decide +kernel
theorem dX7_closeList_35 : decode cX7_closeList 35 = .ok (.iconst 0, 1) := by decide +kernel
theorem dX7_closeList_36 : decode cX7_closeList 36 = .ok (.ireturn, 1) := by decide +kernel
theorem dX7_addNumber_0 : decode cX7_addNumber 0 = .ok (.iconst 0, 1) := by decide +kernel
theorem dX7_addNumber_1 : decode cX7_addNumber 1 = .ok (.istore 4, 2) := by decide +kernel
theorem dX7_addNumber_3 : decode cX7_addNumber 3 = .ok (.iload_n 2, 1) := by decide +kernel
theorem dX7_addNumber_4 : decode cX7_addNumber 4 = .ok (.istore 5, 2) := by decide +kernel
theorem dX7_addNumber_6 : decode cX7_addNumber 6 = .ok (.iload 5, 2) := by decide +kernel
theorem dX7_addNumber_8 : decode cX7_addNumber 8 = .ok (.ifCond .lt 37, 3) := by decide +kernel
theorem dX7_addNumber_11 : decode cX7_addNumber 11 = .ok (.iload 5, 2) := by decide +kernel
theorem dX7_addNumber_13 : decode cX7_addNumber 13 = .ok (.iload_n 3, 1) := by decide +kernel
theorem dX7_addNumber_14 : decode cX7_addNumber 14 = .ok (.if_icmp .ge 31, 3) := by decide +kernel
theorem dX7_addNumber_17 : decode cX7_addNumber 17 = .ok (.iload 5, 2) := by decide +kernel
theorem dX7_addNumber_19 : decode cX7_addNumber 19 = .ok (.aload_n 1, 1) := by decide +kernel
theorem dX7_addNumber_20 : decode cX7_addNumber 20 = .ok (.arraylength, 1) := by decide +kernel
theorem dX7_addNumber_21 : decode cX7_addNumber 21 = .ok (.if_icmp .ge 24, 3) := by decide +kernel
theorem dX7_addNumber_24 : decode cX7_addNumber 24 = .ok (.bipush 10, 2) := by decide +kernel
theorem dX7_addNumber_26 : decode cX7_addNumber 26 = .ok (.iload 4, 2) := by decide +kernel
theorem dX7_addNumber_28 : decode cX7_addNumber 28 = .ok (.imul, 1) := by decide +kernel
theorem dX7_addNumber_29 : decode cX7_addNumber 29 = .ok (.aload_n 1, 1) := by decide +kernel
theorem dX7_addNumber_30 : decode cX7_addNumber 30 = .ok (.iload 5, 2) := by decide +kernel
theorem dX7_addNumber_32 : decode cX7_addNumber 32 = .ok (.caload, 1) := by decide +kernel
theorem dX7_addNumber_33 : decode cX7_addNumber 33 = .ok (.bipush 48, 2) := by decide +kernel
theorem dX7_addNumber_35 : decode cX7_addNumber 35 = .ok (.isub, 1) := by decide +kernel
theorem dX7_addNumber_36 : decode cX7_addNumber 36 = .ok (.iadd, 1) := by decide +kernel
theorem dX7_addNumber_37 : decode cX7_addNumber 37 = .ok (.istore 4, 2) := by decide +kernel
theorem dX7_addNumber_39 : decode cX7_addNumber 39 = .ok (.iinc 5 1, 3) := by decide +kernel
theorem dX7_addNumber_42 : decode cX7_addNumber 42 = .ok (.goto (-36), 3) := by decide +kernel
theorem dX7_addNumber_45 : decode cX7_addNumber 45 = .ok (.aload_n 0, 1) := by decide +kernel
theorem dX7_addNumber_46 : decode cX7_addNumber 46 = .ok (.getfield 19, 3) := by decide +kernel
theorem dX7_addNumber_49 : decode cX7_addNumber 49 = .ok (.iload 4, 2) := by decide +kernel
theorem dX7_addNumber_51 : decode cX7_addNumber 51 = .ok (.invokestatic 73, 3) := by decide +kernel
theorem dX7_addNumber_54 : decode cX7_addNumber 54 = .ok (.invokevirtual 65, 3) := by decide +kernel
theorem dX7_addNumber_57 : decode cX7_addNumber 57 = .ok (.pop, 1) := by decide +kernel
theorem dX7_addNumber_58 : decode cX7_addNumber 58 = .ok (.iconst 0, 1) := by decide +kernel
theorem dX7_addNumber_59 : decode cX7_addNumber 59 = .ok (.ireturn, 1) := by decide +kernel
theorem dX7_addSymbol_0 : decode cX7_addSymbol 0 = .ok (.aload_n 0, 1) := by decide +kernel
theorem dX7_addSymbol_1 : decode cX7_addSymbol 1 = .ok (.aload_n 1, 1) := by decide +kernel
theorem dX7_addSymbol_2 : decode cX7_addSymbol 2 = .ok (.iload_n 2, 1) := by decide +kernel
theorem dX7_addSymbol_3 : decode cX7_addSymbol 3 = .ok (.iload_n 3, 1) := by decide +kernel
theorem dX7_addSymbol_4 : decode cX7_addSymbol 4 = .ok (.invokevirtual 76, 3) := by decide +kernel
theorem dX7_addSymbol_7 : decode cX7_addSymbol 7 = .ok (.istore 4, 2) := by decide +kernel
theorem dX7_addSymbol_9 : decode cX7_addSymbol 9 = .ok (.iload 4, 2) := by decide +kernel
theorem dX7_addSymbol_11 : decode cX7_addSymbol 11 = .ok (.iconst (-1), 1) := by decide +kernel
theorem dX7_addSymbol_12 : decode cX7_addSymbol 12 = .ok (.if_icmp .ne 27, 3) := by decide +kernel
theorem dX7_addSymbol_15 : decode cX7_addSymbol 15 = .ok (.aload_n 0, 1) := by decide +kernel
theorem dX7_addSymbol_16 : decode cX7_addSymbol 16 = .ok (.getfield 23, 3) := by decide +kernel
theorem dX7_addSymbol_19 : decode cX7_addSymbol 19 = .ok (.aload_n 1, 1) := by decide +kernel
theorem dX7_addSymbol_20 : decode cX7_addSymbol 20 = .ok (.iload_n 2, 1) := by decide +kernel
theorem dX7_addSymbol_21 : decode cX7_addSymbol 21 = .ok (.iload_n 3, 1) := by decide +kernel
theorem dX7_addSymbol_22 : decode cX7_addSymbol 22 = .ok (.invokestatic 79, 3) := by decide +kernel
theorem dX7_addSymbol_25 : decode cX7_addSymbol 25 = .ok (.aload_n 1, 1) := by decide +kernel
theorem dX7_addSymbol_26 : decode cX7_addSymbol 26 = .ok (.iload_n 2, 1) := by decide +kernel
theorem dX7_addSymbol_27 : decode cX7_addSymbol 27 = .ok (.bipush 8, 2) := by decide +kernel
theorem dX7_addSymbol_29 : decode cX7_addSymbol 29 = .ok (.iadd, 1) := by decide +kernel
theorem dX7_addSymbol_30 : decode cX7_addSymbol 30 = .ok (.iload_n 3, 1) := by decide +kernel
theorem dX7_addSymbol_31 : decode cX7_addSymbol 31 = .ok (.invokestatic 79, 3) := by decide +kernel
theorem dX7_addSymbol_34 : decode cX7_addSymbol 34 = .ok (.invokevirtual 85, 3) := by decide +kernel
theorem dX7_addSymbol_37 : decode cX7_addSymbol 37 = .ok (.istore 4, 2) := by decide +kernel
theorem dX7_addSymbol_39 : decode cX7_addSymbol 39 = .ok (.iload 4, 2) := by decide +kernel
theorem dX7_addSymbol_41 : decode cX7_addSymbol 41 = .ok (.iconst (-1), 1) := by decide +kernel
theorem dX7_addSymbol_42 : decode cX7_addSymbol 42 = .ok (.if_icmp .ne 5, 3) := by decide +kernel
theorem dX7_addSymbol_45 : decode cX7_addSymbol 45 = .ok (.iconst 2, 1) := by decide +kernel
theorem dX7_addSymbol_46 : decode cX7_addSymbol 46 = .ok (.ireturn, 1) := by decide +kernel
theorem dX7_addSymbol_47 : decode cX7_addSymbol 47 = .ok (.aload_n 0, 1) := by decide +kernel
theorem dX7_addSymbol_48 : decode cX7_addSymbol 48 = .ok (.getfield 19, 3) := by decide +kernel
theorem dX7_addSymbol_51 : decode cX7_addSymbol 51 = .ok (.iload 4, 2) := by decide +kernel
theorem dX7_addSymbol_53 : decode cX7_addSymbol 53 = .ok (.invokestatic 88, 3) := by decide +kernel
theorem dX7_addSymbol_56 : decode cX7_addSymbol 56 = .ok (.invokevirtual 65, 3) := by decide +kernel
theorem dX7_addSymbol_59 : decode cX7_addSymbol 59 = .ok (.pop, 1) := by decide +kernel
theorem dX7_addSymbol_60 : decode cX7_addSymbol 60 = .ok (.iconst 0, 1) := by decide +kernel
theorem dX7_addSymbol_61 : decode cX7_addSymbol 61 = .ok (.ireturn, 1) := by decide +kernel
theorem dX7_tokenFrom_0 : decode cX7_tokenFrom 0 = .ok (.iload_n 2, 1) := by decide +kernel
theorem dX7_tokenFrom_1 : decode cX7_tokenFrom 1 = .ok (.istore 4, 2) := by decide +kernel
theorem dX7_tokenFrom_3 : decode cX7_tokenFrom 3 = .ok (.iload 4, 2) := by decide +kernel
theorem dX7_tokenFrom_5 : decode cX7_tokenFrom 5 = .ok (.ifCond .lt 31, 3) := by decide +kernel
theorem dX7_tokenFrom_8 : decode cX7_tokenFrom 8 = .ok (.iload 4, 2) := by decide +kernel
theorem dX7_tokenFrom_10 : decode cX7_tokenFrom 10 = .ok (.iload_n 3, 1) := by decide +kernel
theorem dX7_tokenFrom_11 : decode cX7_tokenFrom 11 = .ok (.if_icmp .ge 25, 3) := by decide +kernel
theorem dX7_tokenFrom_14 : decode cX7_tokenFrom 14 = .ok (.iload 4, 2) := by decide +kernel
theorem dX7_tokenFrom_16 : decode cX7_tokenFrom 16 = .ok (.aload_n 1, 1) := by decide +kernel
theorem dX7_tokenFrom_17 : decode cX7_tokenFrom 17 = .ok (.arraylength, 1) := by decide +kernel
theorem dX7_tokenFrom_18 : decode cX7_tokenFrom 18 = .ok (.if_icmp .ge 18, 3) := by decide +kernel
theorem dX7_tokenFrom_21 : decode cX7_tokenFrom 21 = .ok (.aload_n 1, 1) := by decide +kernel
theorem dX7_tokenFrom_22 : decode cX7_tokenFrom 22 = .ok (.iload 4, 2) := by decide +kernel
theorem dX7_tokenFrom_24 : decode cX7_tokenFrom 24 = .ok (.caload, 1) := by decide +kernel
theorem dX7_tokenFrom_25 : decode cX7_tokenFrom 25 = .ok (.bipush 32, 2) := by decide +kernel
theorem dX7_tokenFrom_27 : decode cX7_tokenFrom 27 = .ok (.if_icmp .ne 9, 3) := by decide +kernel
theorem dX7_tokenFrom_30 : decode cX7_tokenFrom 30 = .ok (.iinc 4 1, 3) := by decide +kernel
theorem dX7_tokenFrom_33 : decode cX7_tokenFrom 33 = .ok (.goto (-30), 3) := by decide +kernel
theorem dX7_tokenFrom_36 : decode cX7_tokenFrom 36 = .ok (.iload 4, 2) := by decide +kernel
theorem dX7_tokenFrom_38 : decode cX7_tokenFrom 38 = .ok (.ireturn, 1) := by decide +kernel
theorem dX7_tokenEnd_0 : decode cX7_tokenEnd 0 = .ok (.iload_n 2, 1) := by decide +kernel
theorem dX7_tokenEnd_1 : decode cX7_tokenEnd 1 = .ok (.istore 4, 2) := by decide +kernel
theorem dX7_tokenEnd_3 : decode cX7_tokenEnd 3 = .ok (.iload 4, 2) := by decide +kernel
theorem dX7_tokenEnd_5 : decode cX7_tokenEnd 5 = .ok (.ifCond .lt 32, 3) := by decide +kernel
theorem dX7_tokenEnd_8 : decode cX7_tokenEnd 8 = .ok (.iload 4, 2) := by decide +kernel
theorem dX7_tokenEnd_10 : decode cX7_tokenEnd 10 = .ok (.iload_n 3, 1) := by decide +kernel
theorem dX7_tokenEnd_11 : decode cX7_tokenEnd 11 = .ok (.if_icmp .ge 26, 3) := by decide +kernel
theorem dX7_tokenEnd_14 : decode cX7_tokenEnd 14 = .ok (.iload 4, 2) := by decide +kernel
theorem dX7_tokenEnd_16 : decode cX7_tokenEnd 16 = .ok (.aload_n 1, 1) := by decide +kernel
theorem dX7_tokenEnd_17 : decode cX7_tokenEnd 17 = .ok (.arraylength, 1) := by decide +kernel
theorem dX7_tokenEnd_18 : decode cX7_tokenEnd 18 = .ok (.if_icmp .ge 19, 3) := by decide +kernel
theorem dX7_tokenEnd_21 : decode cX7_tokenEnd 21 = .ok (.aload_n 1, 1) := by decide +kernel
theorem dX7_tokenEnd_22 : decode cX7_tokenEnd 22 = .ok (.iload 4, 2) := by decide +kernel
theorem dX7_tokenEnd_24 : decode cX7_tokenEnd 24 = .ok (.caload, 1) := by decide +kernel
theorem dX7_tokenEnd_25 : decode cX7_tokenEnd 25 = .ok (.invokestatic 91, 3) := by decide +kernel
theorem dX7_tokenEnd_28 : decode cX7_tokenEnd 28 = .ok (.ifCond .ne 9, 3) := by decide +kernel
theorem dX7_tokenEnd_31 : decode cX7_tokenEnd 31 = .ok (.iinc 4 1, 3) := by decide +kernel
theorem dX7_tokenEnd_34 : decode cX7_tokenEnd 34 = .ok (.goto (-31), 3) := by decide +kernel
theorem dX7_tokenEnd_37 : decode cX7_tokenEnd 37 = .ok (.iload 4, 2) := by decide +kernel
theorem dX7_tokenEnd_39 : decode cX7_tokenEnd 39 = .ok (.iload_n 2, 1) := by decide +kernel
theorem dX7_tokenEnd_40 : decode cX7_tokenEnd 40 = .ok (.if_icmp .ne 14, 3) := by decide +kernel
theorem dX7_tokenEnd_43 : decode cX7_tokenEnd 43 = .ok (.iload_n 2, 1) := by decide +kernel
theorem dX7_tokenEnd_44 : decode cX7_tokenEnd 44 = .ok (.iload_n 3, 1) := by decide +kernel
theorem dX7_tokenEnd_45 : decode cX7_tokenEnd 45 = .ok (.if_icmp .ge 9, 3) := by decide +kernel
theorem dX7_tokenEnd_48 : decode cX7_tokenEnd 48 = .ok (.iload_n 2, 1) := by decide +kernel
theorem dX7_tokenEnd_49 : decode cX7_tokenEnd 49 = .ok (.iconst 1, 1) := by decide +kernel
theorem dX7_tokenEnd_50 : decode cX7_tokenEnd 50 = .ok (.iadd, 1) := by decide +kernel
theorem dX7_tokenEnd_51 : decode cX7_tokenEnd 51 = .ok (.goto 5, 3) := by decide +kernel
theorem dX7_tokenEnd_54 : decode cX7_tokenEnd 54 = .ok (.iload 4, 2) := by decide +kernel
theorem dX7_tokenEnd_56 : decode cX7_tokenEnd 56 = .ok (.ireturn, 1) := by decide +kernel
theorem dX7_isBreak_0 : decode cX7_isBreak 0 = .ok (.iload_n 0, 1) := by decide +kernel
theorem dX7_isBreak_1 : decode cX7_isBreak 1 = .ok (.bipush 32, 2) := by decide +kernel
theorem dX7_isBreak_3 : decode cX7_isBreak 3 = .ok (.if_icmp .eq 15, 3) := by decide +kernel
theorem dX7_isBreak_6 : decode cX7_isBreak 6 = .ok (.iload_n 0, 1) := by decide +kernel
theorem dX7_isBreak_7 : decode cX7_isBreak 7 = .ok (.bipush 40, 2) := by decide +kernel
theorem dX7_isBreak_9 : decode cX7_isBreak 9 = .ok (.if_icmp .eq 9, 3) := by decide +kernel
theorem dX7_isBreak_12 : decode cX7_isBreak 12 = .ok (.iload_n 0, 1) := by decide +kernel
theorem dX7_isBreak_13 : decode cX7_isBreak 13 = .ok (.bipush 41, 2) := by decide +kernel
theorem dX7_isBreak_15 : decode cX7_isBreak 15 = .ok (.if_icmp .ne 7, 3) := by decide +kernel
theorem dX7_isBreak_18 : decode cX7_isBreak 18 = .ok (.iconst 1, 1) := by decide +kernel
theorem dX7_isBreak_19 : decode cX7_isBreak 19 = .ok (.goto 4, 3) := by decide +kernel
theorem dX7_isBreak_22 : decode cX7_isBreak 22 = .ok (.iconst 0, 1) := by decide +kernel
theorem dX7_isBreak_23 : decode cX7_isBreak 23 = .ok (.ireturn, 1) := by decide +kernel
theorem dX7_isDigits_0 : decode cX7_isDigits 0 = .ok (.iload_n 1, 1) := by decide +kernel
theorem dX7_isDigits_1 : decode cX7_isDigits 1 = .ok (.istore_n 3, 1) := by decide +kernel
theorem dX7_isDigits_2 : decode cX7_isDigits 2 = .ok (.iload_n 3, 1) := by decide +kernel
theorem dX7_isDigits_3 : decode cX7_isDigits 3 = .ok (.ifCond .lt 38, 3) := by decide +kernel
theorem dX7_isDigits_6 : decode cX7_isDigits 6 = .ok (.iload_n 3, 1) := by decide +kernel
theorem dX7_isDigits_7 : decode cX7_isDigits 7 = .ok (.iload_n 2, 1) := by decide +kernel
theorem dX7_isDigits_8 : decode cX7_isDigits 8 = .ok (.if_icmp .ge 33, 3) := by decide +kernel
theorem dX7_isDigits_11 : decode cX7_isDigits 11 = .ok (.iload_n 3, 1) := by decide +kernel
theorem dX7_isDigits_12 : decode cX7_isDigits 12 = .ok (.aload_n 0, 1) := by decide +kernel
theorem dX7_isDigits_13 : decode cX7_isDigits 13 = .ok (.arraylength, 1) := by decide +kernel
theorem dX7_isDigits_14 : decode cX7_isDigits 14 = .ok (.if_icmp .ge 27, 3) := by decide +kernel
theorem dX7_isDigits_17 : decode cX7_isDigits 17 = .ok (.aload_n 0, 1) := by decide +kernel
theorem dX7_isDigits_18 : decode cX7_isDigits 18 = .ok (.iload_n 3, 1) := by decide +kernel
theorem dX7_isDigits_19 : decode cX7_isDigits 19 = .ok (.caload, 1) := by decide +kernel
theorem dX7_isDigits_20 : decode cX7_isDigits 20 = .ok (.bipush 48, 2) := by decide +kernel
theorem dX7_isDigits_22 : decode cX7_isDigits 22 = .ok (.if_icmp .lt 11, 3) := by decide +kernel
theorem dX7_isDigits_25 : decode cX7_isDigits 25 = .ok (.aload_n 0, 1) := by decide +kernel
theorem dX7_isDigits_26 : decode cX7_isDigits 26 = .ok (.iload_n 3, 1) := by decide +kernel
theorem dX7_isDigits_27 : decode cX7_isDigits 27 = .ok (.caload, 1) := by decide +kernel
theorem dX7_isDigits_28 : decode cX7_isDigits 28 = .ok (.bipush 57, 2) := by decide +kernel
theorem dX7_isDigits_30 : decode cX7_isDigits 30 = .ok (.if_icmp .le 5, 3) := by decide +kernel
theorem dX7_isDigits_33 : decode cX7_isDigits 33 = .ok (.iconst 0, 1) := by decide +kernel
theorem dX7_isDigits_34 : decode cX7_isDigits 34 = .ok (.ireturn, 1) := by decide +kernel
theorem dX7_isDigits_35 : decode cX7_isDigits 35 = .ok (.iinc 3 1, 3) := by decide +kernel
theorem dX7_isDigits_38 : decode cX7_isDigits 38 = .ok (.goto (-36), 3) := by decide +kernel
theorem dX7_isDigits_41 : decode cX7_isDigits 41 = .ok (.iload_n 1, 1) := by decide +kernel
theorem dX7_isDigits_42 : decode cX7_isDigits 42 = .ok (.iload_n 2, 1) := by decide +kernel
theorem dX7_isDigits_43 : decode cX7_isDigits 43 = .ok (.if_icmp .ge 7, 3) := by decide +kernel
theorem dX7_isDigits_46 : decode cX7_isDigits 46 = .ok (.iconst 1, 1) := by decide +kernel
theorem dX7_isDigits_47 : decode cX7_isDigits 47 = .ok (.goto 4, 3) := by decide +kernel
theorem dX7_isDigits_50 : decode cX7_isDigits 50 = .ok (.iconst 0, 1) := by decide +kernel
theorem dX7_isDigits_51 : decode cX7_isDigits 51 = .ok (.ireturn, 1) := by decide +kernel
theorem dX7_isNumber_0 : decode cX7_isNumber 0 = .ok (.iload_n 2, 1) := by decide +kernel
theorem dX7_isNumber_1 : decode cX7_isNumber 1 = .ok (.iload_n 1, 1) := by decide +kernel
theorem dX7_isNumber_2 : decode cX7_isNumber 2 = .ok (.isub, 1) := by decide +kernel
theorem dX7_isNumber_3 : decode cX7_isNumber 3 = .ok (.bipush 6, 2) := by decide +kernel
theorem dX7_isNumber_5 : decode cX7_isNumber 5 = .ok (.if_icmp .gt 16, 3) := by decide +kernel
theorem dX7_isNumber_8 : decode cX7_isNumber 8 = .ok (.aload_n 0, 1) := by decide +kernel
theorem dX7_isNumber_9 : decode cX7_isNumber 9 = .ok (.iload_n 1, 1) := by decide +kernel
theorem dX7_isNumber_10 : decode cX7_isNumber 10 = .ok (.iload_n 2, 1) := by decide +kernel
theorem dX7_isNumber_11 : decode cX7_isNumber 11 = .ok (.invokestatic 95, 3) := by decide +kernel
theorem dX7_isNumber_14 : decode cX7_isNumber 14 = .ok (.ifCond .eq 7, 3) := by decide +kernel
theorem dX7_isNumber_17 : decode cX7_isNumber 17 = .ok (.iconst 1, 1) := by decide +kernel
theorem dX7_isNumber_18 : decode cX7_isNumber 18 = .ok (.goto 4, 3) := by decide +kernel
theorem dX7_isNumber_21 : decode cX7_isNumber 21 = .ok (.iconst 0, 1) := by decide +kernel
theorem dX7_isNumber_22 : decode cX7_isNumber 22 = .ok (.ireturn, 1) := by decide +kernel
theorem dX7_isSymbol_0 : decode cX7_isSymbol 0 = .ok (.iload_n 2, 1) := by decide +kernel
theorem dX7_isSymbol_1 : decode cX7_isSymbol 1 = .ok (.ifCond .lt 32, 3) := by decide +kernel
theorem dX7_isSymbol_4 : decode cX7_isSymbol 4 = .ok (.iload_n 2, 1) := by decide +kernel
theorem dX7_isSymbol_5 : decode cX7_isSymbol 5 = .ok (.iload_n 3, 1) := by decide +kernel
theorem dX7_isSymbol_6 : decode cX7_isSymbol 6 = .ok (.if_icmp .ge 27, 3) := by decide +kernel
theorem dX7_isSymbol_9 : decode cX7_isSymbol 9 = .ok (.iload_n 3, 1) := by decide +kernel
theorem dX7_isSymbol_10 : decode cX7_isSymbol 10 = .ok (.aload_n 1, 1) := by decide +kernel
theorem dX7_isSymbol_11 : decode cX7_isSymbol 11 = .ok (.arraylength, 1) := by decide +kernel
theorem dX7_isSymbol_12 : decode cX7_isSymbol 12 = .ok (.if_icmp .gt 21, 3) := by decide +kernel
theorem dX7_isSymbol_15 : decode cX7_isSymbol 15 = .ok (.aload_n 1, 1) := by decide +kernel
theorem dX7_isSymbol_16 : decode cX7_isSymbol 16 = .ok (.iload_n 2, 1) := by decide +kernel
theorem dX7_isSymbol_17 : decode cX7_isSymbol 17 = .ok (.caload, 1) := by decide +kernel
theorem dX7_isSymbol_18 : decode cX7_isSymbol 18 = .ok (.invokestatic 91, 3) := by decide +kernel
theorem dX7_isSymbol_21 : decode cX7_isSymbol 21 = .ok (.ifCond .ne 12, 3) := by decide +kernel
theorem dX7_isSymbol_24 : decode cX7_isSymbol 24 = .ok (.aload_n 1, 1) := by decide +kernel
theorem dX7_isSymbol_25 : decode cX7_isSymbol 25 = .ok (.iload_n 2, 1) := by decide +kernel
theorem dX7_isSymbol_26 : decode cX7_isSymbol 26 = .ok (.iload_n 3, 1) := by decide +kernel
theorem dX7_isSymbol_27 : decode cX7_isSymbol 27 = .ok (.invokestatic 95, 3) := by decide +kernel
theorem dX7_isSymbol_30 : decode cX7_isSymbol 30 = .ok (.ifCond .eq 5, 3) := by decide +kernel
theorem dX7_isSymbol_33 : decode cX7_isSymbol 33 = .ok (.iconst 0, 1) := by decide +kernel
theorem dX7_isSymbol_34 : decode cX7_isSymbol 34 = .ok (.ireturn, 1) := by decide +kernel
theorem dX7_isSymbol_35 : decode cX7_isSymbol 35 = .ok (.iload_n 3, 1) := by decide +kernel
theorem dX7_isSymbol_36 : decode cX7_isSymbol 36 = .ok (.iload_n 2, 1) := by decide +kernel
theorem dX7_isSymbol_37 : decode cX7_isSymbol 37 = .ok (.isub, 1) := by decide +kernel
theorem dX7_isSymbol_38 : decode cX7_isSymbol 38 = .ok (.bipush 12, 2) := by decide +kernel
theorem dX7_isSymbol_40 : decode cX7_isSymbol 40 = .ok (.if_icmp .le 23, 3) := by decide +kernel
theorem dX7_isSymbol_43 : decode cX7_isSymbol 43 = .ok (.iload_n 3, 1) := by decide +kernel
theorem dX7_isSymbol_44 : decode cX7_isSymbol 44 = .ok (.iload_n 2, 1) := by decide +kernel
theorem dX7_isSymbol_45 : decode cX7_isSymbol 45 = .ok (.isub, 1) := by decide +kernel
theorem dX7_isSymbol_46 : decode cX7_isSymbol 46 = .ok (.bipush 16, 2) := by decide +kernel
theorem dX7_isSymbol_48 : decode cX7_isSymbol 48 = .ok (.if_icmp .gt 19, 3) := by decide +kernel
theorem dX7_isSymbol_51 : decode cX7_isSymbol 51 = .ok (.aload_n 0, 1) := by decide +kernel
theorem dX7_isSymbol_52 : decode cX7_isSymbol 52 = .ok (.aload_n 1, 1) := by decide +kernel
theorem dX7_isSymbol_53 : decode cX7_isSymbol 53 = .ok (.iload_n 2, 1) := by decide +kernel
theorem dX7_isSymbol_54 : decode cX7_isSymbol 54 = .ok (.iload_n 3, 1) := by decide +kernel
theorem dX7_isSymbol_55 : decode cX7_isSymbol 55 = .ok (.invokevirtual 76, 3) := by decide +kernel
theorem dX7_isSymbol_58 : decode cX7_isSymbol 58 = .ok (.bipush 6, 2) := by decide +kernel
theorem dX7_isSymbol_60 : decode cX7_isSymbol 60 = .ok (.if_icmp .ne 7, 3) := by decide +kernel
theorem dX7_isSymbol_63 : decode cX7_isSymbol 63 = .ok (.iconst 1, 1) := by decide +kernel
theorem dX7_isSymbol_64 : decode cX7_isSymbol 64 = .ok (.goto 4, 3) := by decide +kernel
theorem dX7_isSymbol_67 : decode cX7_isSymbol 67 = .ok (.iconst 0, 1) := by decide +kernel
theorem dX7_isSymbol_68 : decode cX7_isSymbol 68 = .ok (.ireturn, 1) := by decide +kernel
theorem dX7_symbolOf_0 : decode cX7_symbolOf 0 = .ok (.aload_n 0, 1) := by decide +kernel
theorem dX7_symbolOf_1 : decode cX7_symbolOf 1 = .ok (.getfield 23, 3) := by decide +kernel
theorem dX7_symbolOf_4 : decode cX7_symbolOf 4 = .ok (.aload_n 1, 1) := by decide +kernel
theorem dX7_symbolOf_5 : decode cX7_symbolOf 5 = .ok (.iload_n 2, 1) := by decide +kernel
theorem dX7_symbolOf_6 : decode cX7_symbolOf 6 = .ok (.iload_n 3, 1) := by decide +kernel
theorem dX7_symbolOf_7 : decode cX7_symbolOf 7 = .ok (.invokestatic 79, 3) := by decide +kernel
theorem dX7_symbolOf_10 : decode cX7_symbolOf 10 = .ok (.aload_n 1, 1) := by decide +kernel
theorem dX7_symbolOf_11 : decode cX7_symbolOf 11 = .ok (.iload_n 2, 1) := by decide +kernel
theorem dX7_symbolOf_12 : decode cX7_symbolOf 12 = .ok (.bipush 8, 2) := by decide +kernel
theorem dX7_symbolOf_14 : decode cX7_symbolOf 14 = .ok (.iadd, 1) := by decide +kernel
theorem dX7_symbolOf_15 : decode cX7_symbolOf 15 = .ok (.iload_n 3, 1) := by decide +kernel
theorem dX7_symbolOf_16 : decode cX7_symbolOf 16 = .ok (.invokestatic 79, 3) := by decide +kernel
theorem dX7_symbolOf_19 : decode cX7_symbolOf 19 = .ok (.invokevirtual 98, 3) := by decide +kernel
theorem dX7_symbolOf_22 : decode cX7_symbolOf 22 = .ok (.ireturn, 1) := by decide +kernel
theorem dX8_init_0 : decode cX8_init 0 = .ok (.aload_n 0, 1) := by decide +kernel
theorem dX8_init_1 : decode cX8_init 1 = .ok (.invokespecial 3, 3) := by decide +kernel
theorem dX8_init_4 : decode cX8_init 4 = .ok (.aload_n 0, 1) := by decide +kernel
theorem dX8_init_5 : decode cX8_init 5 = .ok (.iconst (-1), 1) := by decide +kernel
theorem dX8_init_6 : decode cX8_init 6 = .ok (.putfield 9, 3) := by decide +kernel
theorem dX8_init_9 : decode cX8_init 9 = .ok (.aload_n 0, 1) := by decide +kernel
theorem dX8_init_10 : decode cX8_init 10 = .ok (.aload_n 1, 1) := by decide +kernel
theorem dX8_init_11 : decode cX8_init 11 = .ok (.putfield 15, 3) := by decide +kernel
theorem dX8_init_14 : decode cX8_init 14 = .ok (.aload_n 0, 1) := by decide +kernel
theorem dX8_init_15 : decode cX8_init 15 = .ok (.aload_n 2, 1) := by decide +kernel
theorem dX8_init_16 : decode cX8_init 16 = .ok (.putfield 19, 3) := by decide +kernel
theorem dX8_init_19 : decode cX8_init 19 = .ok (.aload_n 0, 1) := by decide +kernel
theorem dX8_init_20 : decode cX8_init 20 = .ok (.aload_n 3, 1) := by decide +kernel
theorem dX8_init_21 : decode cX8_init 21 = .ok (.putfield 23, 3) := by decide +kernel
theorem dX8_init_24 : decode cX8_init 24 = .ok (.return_, 1) := by decide +kernel
theorem dX8_fits_0 : decode cX8_fits 0 = .ok (.aload_n 0, 1) := by decide +kernel
theorem dX8_fits_1 : decode cX8_fits 1 = .ok (.getfield 15, 3) := by decide +kernel
theorem dX8_fits_4 : decode cX8_fits 4 = .ok (.iload_n 1, 1) := by decide +kernel
theorem dX8_fits_5 : decode cX8_fits 5 = .ok (.invokevirtual 27, 3) := by decide +kernel
theorem dX8_fits_8 : decode cX8_fits 8 = .ok (.istore_n 3, 1) := by decide +kernel
theorem dX8_fits_9 : decode cX8_fits 9 = .ok (.aload_n 0, 1) := by decide +kernel
theorem dX8_fits_10 : decode cX8_fits 10 = .ok (.getfield 15, 3) := by decide +kernel
theorem dX8_fits_13 : decode cX8_fits 13 = .ok (.iload_n 1, 1) := by decide +kernel
theorem dX8_fits_14 : decode cX8_fits 14 = .ok (.invokevirtual 33, 3) := by decide +kernel
theorem dX8_fits_17 : decode cX8_fits 17 = .ok (.istore 4, 2) := by decide +kernel
theorem dX8_fits_19 : decode cX8_fits 19 = .ok (.iload_n 3, 1) := by decide +kernel
theorem dX8_fits_20 : decode cX8_fits 20 = .ok (.iconst 3, 1) := by decide +kernel
theorem dX8_fits_21 : decode cX8_fits 21 = .ok (.if_icmp .lt 15, 3) := by decide +kernel
theorem dX8_fits_24 : decode cX8_fits 24 = .ok (.iload_n 3, 1) := by decide +kernel
theorem dX8_fits_25 : decode cX8_fits 25 = .ok (.bipush 10, 2) := by decide +kernel
theorem dX8_fits_27 : decode cX8_fits 27 = .ok (.if_icmp .gt 9, 3) := by decide +kernel
theorem dX8_fits_30 : decode cX8_fits 30 = .ok (.iload 4, 2) := by decide +kernel
theorem dX8_fits_32 : decode cX8_fits 32 = .ok (.iconst (-1), 1) := by decide +kernel
theorem dX8_fits_33 : decode cX8_fits 33 = .ok (.if_icmp .ne 5, 3) := by decide +kernel
theorem dX8_fits_36 : decode cX8_fits 36 = .ok (.iconst 0, 1) := by decide +kernel
theorem dX8_fits_37 : decode cX8_fits 37 = .ok (.ireturn, 1) := by decide +kernel
theorem dX8_fits_38 : decode cX8_fits 38 = .ok (.aload_n 0, 1) := by decide +kernel
theorem dX8_fits_39 : decode cX8_fits 39 = .ok (.aload_n 0, 1) := by decide +kernel
theorem dX8_fits_40 : decode cX8_fits 40 = .ok (.getfield 15, 3) := by decide +kernel
theorem dX8_fits_43 : decode cX8_fits 43 = .ok (.iload_n 1, 1) := by decide +kernel
theorem dX8_fits_44 : decode cX8_fits 44 = .ok (.iconst 1, 1) := by decide +kernel
theorem dX8_fits_45 : decode cX8_fits 45 = .ok (.invokevirtual 36, 3) := by decide +kernel
theorem dX8_fits_48 : decode cX8_fits 48 = .ok (.putfield 9, 3) := by decide +kernel
theorem dX8_fits_51 : decode cX8_fits 51 = .ok (.aload_n 0, 1) := by decide +kernel
theorem dX8_fits_52 : decode cX8_fits 52 = .ok (.getfield 23, 3) := by decide +kernel
theorem dX8_fits_55 : decode cX8_fits 55 = .ok (.iload 4, 2) := by decide +kernel
theorem dX8_fits_57 : decode cX8_fits 57 = .ok (.iload_n 2, 1) := by decide +kernel
theorem dX8_fits_58 : decode cX8_fits 58 = .ok (.invokevirtual 40, 3) := by decide +kernel
theorem dX8_fits_61 : decode cX8_fits 61 = .ok (.bipush 16, 2) := by decide +kernel
theorem dX8_fits_63 : decode cX8_fits 63 = .ok (.if_icmp .ne 10, 3) := by decide +kernel
theorem dX8_fits_66 : decode cX8_fits 66 = .ok (.aload_n 0, 1) := by decide +kernel
theorem dX8_fits_67 : decode cX8_fits 67 = .ok (.invokevirtual 45, 3) := by decide +kernel
theorem dX8_fits_70 : decode cX8_fits 70 = .ok (.ifCond .ne 5, 3) := by decide +kernel
theorem dX8_fits_73 : decode cX8_fits 73 = .ok (.iconst 0, 1) := by decide +kernel
theorem dX8_fits_74 : decode cX8_fits 74 = .ok (.ireturn, 1) := by decide +kernel
theorem dX8_fits_75 : decode cX8_fits 75 = .ok (.aload_n 0, 1) := by decide +kernel
theorem dX8_fits_76 : decode cX8_fits 76 = .ok (.getfield 15, 3) := by decide +kernel
theorem dX8_fits_79 : decode cX8_fits 79 = .ok (.iload_n 1, 1) := by decide +kernel
theorem dX8_fits_80 : decode cX8_fits 80 = .ok (.iconst 2, 1) := by decide +kernel
theorem dX8_fits_81 : decode cX8_fits 81 = .ok (.invokevirtual 36, 3) := by decide +kernel
theorem dX8_fits_84 : decode cX8_fits 84 = .ok (.istore 5, 2) := by decide +kernel
theorem dX8_fits_86 : decode cX8_fits 86 = .ok (.iload 5, 2) := by decide +kernel
theorem dX8_fits_88 : decode cX8_fits 88 = .ok (.aload_n 0, 1) := by decide +kernel
theorem dX8_fits_89 : decode cX8_fits 89 = .ok (.getfield 15, 3) := by decide +kernel
theorem dX8_fits_92 : decode cX8_fits 92 = .ok (.iload_n 1, 1) := by decide +kernel
theorem dX8_fits_93 : decode cX8_fits 93 = .ok (.invokevirtual 49, 3) := by decide +kernel
theorem dX8_fits_96 : decode cX8_fits 96 = .ok (.if_icmp .ge 28, 3) := by decide +kernel
theorem dX8_fits_99 : decode cX8_fits 99 = .ok (.aload_n 0, 1) := by decide +kernel
theorem dX8_fits_100 : decode cX8_fits 100 = .ok (.iload 5, 2) := by decide +kernel
theorem dX8_fits_102 : decode cX8_fits 102 = .ok (.invokevirtual 52, 3) := by decide +kernel
theorem dX8_fits_105 : decode cX8_fits 105 = .ok (.ifCond .ne 5, 3) := by decide +kernel
theorem dX8_fits_108 : decode cX8_fits 108 = .ok (.iconst 0, 1) := by decide +kernel
theorem dX8_fits_109 : decode cX8_fits 109 = .ok (.ireturn, 1) := by decide +kernel
theorem dX8_fits_110 : decode cX8_fits 110 = .ok (.aload_n 0, 1) := by decide +kernel
theorem dX8_fits_111 : decode cX8_fits 111 = .ok (.getfield 15, 3) := by decide +kernel
theorem dX8_fits_114 : decode cX8_fits 114 = .ok (.iload 5, 2) := by decide +kernel
theorem dX8_fits_116 : decode cX8_fits 116 = .ok (.invokevirtual 49, 3) := by decide +kernel
theorem dX8_fits_119 : decode cX8_fits 119 = .ok (.istore 5, 2) := by decide +kernel
theorem dX8_fits_121 : decode cX8_fits 121 = .ok (.goto (-35), 3) := by decide +kernel
theorem dX8_fits_124 : decode cX8_fits 124 = .ok (.iconst 1, 1) := by decide +kernel
theorem dX8_fits_125 : decode cX8_fits 125 = .ok (.ireturn, 1) := by decide +kernel
theorem dX8_literalsFit_0 : decode cX8_literalsFit 0 = .ok (.aload_n 0, 1) := by decide +kernel
theorem dX8_literalsFit_1 : decode cX8_literalsFit 1 = .ok (.getfield 15, 3) := by decide +kernel
theorem dX8_literalsFit_4 : decode cX8_literalsFit 4 = .ok (.aload_n 0, 1) := by decide +kernel
theorem dX8_literalsFit_5 : decode cX8_literalsFit 5 = .ok (.getfield 9, 3) := by decide +kernel
theorem dX8_literalsFit_8 : decode cX8_literalsFit 8 = .ok (.invokevirtual 56, 3) := by decide +kernel
theorem dX8_literalsFit_11 : decode cX8_literalsFit 11 = .ok (.ifCond .eq 19, 3) := by decide +kernel
theorem dX8_literalsFit_14 : decode cX8_literalsFit 14 = .ok (.aload_n 0, 1) := by decide +kernel
theorem dX8_literalsFit_15 : decode cX8_literalsFit 15 = .ok (.getfield 15, 3) := by decide +kernel
theorem dX8_literalsFit_18 : decode cX8_literalsFit 18 = .ok (.aload_n 0, 1) := by decide +kernel
theorem dX8_literalsFit_19 : decode cX8_literalsFit 19 = .ok (.getfield 9, 3) := by decide +kernel
theorem dX8_literalsFit_22 : decode cX8_literalsFit 22 = .ok (.invokevirtual 27, 3) := by decide +kernel
theorem dX8_literalsFit_25 : decode cX8_literalsFit 25 = .ok (.bipush 6, 2) := by decide +kernel
theorem dX8_literalsFit_27 : decode cX8_literalsFit 27 = .ok (.if_icmp .le 5, 3) := by decide +kernel
theorem dX8_literalsFit_30 : decode cX8_literalsFit 30 = .ok (.iconst 0, 1) := by decide +kernel
theorem dX8_literalsFit_31 : decode cX8_literalsFit 31 = .ok (.ireturn, 1) := by decide +kernel
theorem dX8_literalsFit_32 : decode cX8_literalsFit 32 = .ok (.aload_n 0, 1) := by decide +kernel
theorem dX8_literalsFit_33 : decode cX8_literalsFit 33 = .ok (.getfield 9, 3) := by decide +kernel
theorem dX8_literalsFit_36 : decode cX8_literalsFit 36 = .ok (.iconst 1, 1) := by decide +kernel
theorem dX8_literalsFit_37 : decode cX8_literalsFit 37 = .ok (.iadd, 1) := by decide +kernel
theorem dX8_literalsFit_38 : decode cX8_literalsFit 38 = .ok (.istore_n 1, 1) := by decide +kernel
theorem dX8_literalsFit_39 : decode cX8_literalsFit 39 = .ok (.iload_n 1, 1) := by decide +kernel
theorem dX8_literalsFit_40 : decode cX8_literalsFit 40 = .ok (.aload_n 0, 1) := by decide +kernel
theorem dX8_literalsFit_41 : decode cX8_literalsFit 41 = .ok (.getfield 15, 3) := by decide +kernel
theorem dX8_literalsFit_44 : decode cX8_literalsFit 44 = .ok (.aload_n 0, 1) := by decide +kernel
theorem dX8_literalsFit_45 : decode cX8_literalsFit 45 = .ok (.getfield 9, 3) := by decide +kernel
theorem dX8_literalsFit_48 : decode cX8_literalsFit 48 = .ok (.invokevirtual 49, 3) := by decide +kernel
theorem dX8_literalsFit_51 : decode cX8_literalsFit 51 = .ok (.if_icmp .ge 31, 3) := by decide +kernel
theorem dX8_literalsFit_54 : decode cX8_literalsFit 54 = .ok (.aload_n 0, 1) := by decide +kernel
theorem dX8_literalsFit_55 : decode cX8_literalsFit 55 = .ok (.getfield 15, 3) := by decide +kernel
theorem dX8_literalsFit_58 : decode cX8_literalsFit 58 = .ok (.iload_n 1, 1) := by decide +kernel
theorem dX8_literalsFit_59 : decode cX8_literalsFit 59 = .ok (.invokevirtual 59, 3) := by decide +kernel
theorem dX8_literalsFit_62 : decode cX8_literalsFit 62 = .ok (.invokestatic 62, 3) := by decide +kernel
theorem dX8_literalsFit_65 : decode cX8_literalsFit 65 = .ok (.ifCond .ne 5, 3) := by decide +kernel
theorem dX8_literalsFit_68 : decode cX8_literalsFit 68 = .ok (.iconst 0, 1) := by decide +kernel
theorem dX8_literalsFit_69 : decode cX8_literalsFit 69 = .ok (.ireturn, 1) := by decide +kernel
theorem dX8_literalsFit_70 : decode cX8_literalsFit 70 = .ok (.aload_n 0, 1) := by decide +kernel
theorem dX8_literalsFit_71 : decode cX8_literalsFit 71 = .ok (.getfield 15, 3) := by decide +kernel
theorem dX8_literalsFit_74 : decode cX8_literalsFit 74 = .ok (.iload_n 1, 1) := by decide +kernel
theorem dX8_literalsFit_75 : decode cX8_literalsFit 75 = .ok (.invokevirtual 49, 3) := by decide +kernel
theorem dX8_literalsFit_78 : decode cX8_literalsFit 78 = .ok (.istore_n 1, 1) := by decide +kernel
theorem dX8_literalsFit_79 : decode cX8_literalsFit 79 = .ok (.goto (-40), 3) := by decide +kernel
theorem dX8_literalsFit_82 : decode cX8_literalsFit 82 = .ok (.iconst 1, 1) := by decide +kernel
theorem dX8_literalsFit_83 : decode cX8_literalsFit 83 = .ok (.ireturn, 1) := by decide +kernel
theorem dX8_ruleFits_0 : decode cX8_ruleFits 0 = .ok (.iload_n 1, 1) := by decide +kernel
theorem dX8_ruleFits_1 : decode cX8_ruleFits 1 = .ok (.iconst 1, 1) := by decide +kernel
theorem dX8_ruleFits_2 : decode cX8_ruleFits 2 = .ok (.iadd, 1) := by decide +kernel
theorem dX8_ruleFits_3 : decode cX8_ruleFits 3 = .ok (.istore_n 2, 1) := by decide +kernel
theorem dX8_ruleFits_4 : decode cX8_ruleFits 4 = .ok (.aload_n 0, 1) := by decide +kernel
theorem dX8_ruleFits_5 : decode cX8_ruleFits 5 = .ok (.getfield 15, 3) := by decide +kernel
theorem dX8_ruleFits_8 : decode cX8_ruleFits 8 = .ok (.iload_n 1, 1) := by decide +kernel
theorem dX8_ruleFits_9 : decode cX8_ruleFits 9 = .ok (.invokevirtual 27, 3) := by decide +kernel
theorem dX8_ruleFits_12 : decode cX8_ruleFits 12 = .ok (.iconst 2, 1) := by decide +kernel
theorem dX8_ruleFits_13 : decode cX8_ruleFits 13 = .ok (.if_icmp .ne 14, 3) := by decide +kernel
theorem dX8_ruleFits_16 : decode cX8_ruleFits 16 = .ok (.aload_n 0, 1) := by decide +kernel
theorem dX8_ruleFits_17 : decode cX8_ruleFits 17 = .ok (.getfield 15, 3) := by decide +kernel
theorem dX8_ruleFits_20 : decode cX8_ruleFits 20 = .ok (.iload_n 2, 1) := by decide +kernel
theorem dX8_ruleFits_21 : decode cX8_ruleFits 21 = .ok (.invokevirtual 27, 3) := by decide +kernel
theorem dX8_ruleFits_24 : decode cX8_ruleFits 24 = .ok (.ifCond .ne 5, 3) := by decide +kernel
theorem dX8_ruleFits_27 : decode cX8_ruleFits 27 = .ok (.iconst 0, 1) := by decide +kernel
theorem dX8_ruleFits_28 : decode cX8_ruleFits 28 = .ok (.ireturn, 1) := by decide +kernel
theorem dX8_ruleFits_29 : decode cX8_ruleFits 29 = .ok (.aload_n 0, 1) := by decide +kernel
theorem dX8_ruleFits_30 : decode cX8_ruleFits 30 = .ok (.getfield 19, 3) := by decide +kernel
theorem dX8_ruleFits_33 : decode cX8_ruleFits 33 = .ok (.invokevirtual 67, 3) := by decide +kernel
theorem dX8_ruleFits_36 : decode cX8_ruleFits 36 = .ok (.aload_n 0, 1) := by decide +kernel
theorem dX8_ruleFits_37 : decode cX8_ruleFits 37 = .ok (.aload_n 0, 1) := by decide +kernel
theorem dX8_ruleFits_38 : decode cX8_ruleFits 38 = .ok (.getfield 15, 3) := by decide +kernel
theorem dX8_ruleFits_41 : decode cX8_ruleFits 41 = .ok (.iload_n 2, 1) := by decide +kernel
theorem dX8_ruleFits_42 : decode cX8_ruleFits 42 = .ok (.iconst 1, 1) := by decide +kernel
theorem dX8_ruleFits_43 : decode cX8_ruleFits 43 = .ok (.invokevirtual 36, 3) := by decide +kernel
theorem dX8_ruleFits_46 : decode cX8_ruleFits 46 = .ok (.aload_n 0, 1) := by decide +kernel
theorem dX8_ruleFits_47 : decode cX8_ruleFits 47 = .ok (.getfield 15, 3) := by decide +kernel
theorem dX8_ruleFits_50 : decode cX8_ruleFits 50 = .ok (.iload_n 2, 1) := by decide +kernel
theorem dX8_ruleFits_51 : decode cX8_ruleFits 51 = .ok (.invokevirtual 49, 3) := by decide +kernel
theorem dX8_ruleFits_54 : decode cX8_ruleFits 54 = .ok (.iconst 0, 1) := by decide +kernel
theorem dX8_ruleFits_55 : decode cX8_ruleFits 55 = .ok (.invokevirtual 70, 3) := by decide +kernel
theorem dX8_ruleFits_58 : decode cX8_ruleFits 58 = .ok (.ifCond .eq 23, 3) := by decide +kernel
theorem dX8_ruleFits_61 : decode cX8_ruleFits 61 = .ok (.aload_n 0, 1) := by decide +kernel
theorem dX8_ruleFits_62 : decode cX8_ruleFits 62 = .ok (.aload_n 0, 1) := by decide +kernel
theorem dX8_ruleFits_63 : decode cX8_ruleFits 63 = .ok (.getfield 15, 3) := by decide +kernel
theorem dX8_ruleFits_66 : decode cX8_ruleFits 66 = .ok (.iload_n 2, 1) := by decide +kernel
theorem dX8_ruleFits_67 : decode cX8_ruleFits 67 = .ok (.invokevirtual 49, 3) := by decide +kernel
theorem dX8_ruleFits_70 : decode cX8_ruleFits 70 = .ok (.iconst 0, 1) := by decide +kernel
theorem dX8_ruleFits_71 : decode cX8_ruleFits 71 = .ok (.invokevirtual 74, 3) := by decide +kernel
theorem dX8_ruleFits_74 : decode cX8_ruleFits 74 = .ok (.ifCond .eq 7, 3) := by decide +kernel
theorem dX8_ruleFits_77 : decode cX8_ruleFits 77 = .ok (.iconst 1, 1) := by decide +kernel
theorem dX8_ruleFits_78 : decode cX8_ruleFits 78 = .ok (.goto 4, 3) := by decide +kernel
theorem dX8_ruleFits_81 : decode cX8_ruleFits 81 = .ok (.iconst 0, 1) := by decide +kernel
theorem dX8_ruleFits_82 : decode cX8_ruleFits 82 = .ok (.ireturn, 1) := by decide +kernel
theorem dX8_patternsFit_0 : decode cX8_patternsFit 0 = .ok (.iload_n 1, 1) := by decide +kernel
theorem dX8_patternsFit_1 : decode cX8_patternsFit 1 = .ok (.istore 4, 2) := by decide +kernel
theorem dX8_patternsFit_3 : decode cX8_patternsFit 3 = .ok (.iload 4, 2) := by decide +kernel
theorem dX8_patternsFit_5 : decode cX8_patternsFit 5 = .ok (.iload_n 2, 1) := by decide +kernel
theorem dX8_patternsFit_6 : decode cX8_patternsFit 6 = .ok (.if_icmp .ge 91, 3) := by decide +kernel
theorem dX8_patternsFit_9 : decode cX8_patternsFit 9 = .ok (.aload_n 0, 1) := by decide +kernel
theorem dX8_patternsFit_10 : decode cX8_patternsFit 10 = .ok (.getfield 15, 3) := by decide +kernel
theorem dX8_patternsFit_13 : decode cX8_patternsFit 13 = .ok (.iload 4, 2) := by decide +kernel
theorem dX8_patternsFit_15 : decode cX8_patternsFit 15 = .ok (.invokevirtual 59, 3) := by decide +kernel
theorem dX8_patternsFit_18 : decode cX8_patternsFit 18 = .ok (.bipush 7, 2) := by decide +kernel
theorem dX8_patternsFit_20 : decode cX8_patternsFit 20 = .ok (.if_icmp .ne 7, 3) := by decide +kernel
theorem dX8_patternsFit_23 : decode cX8_patternsFit 23 = .ok (.iconst 1, 1) := by decide +kernel
theorem dX8_patternsFit_24 : decode cX8_patternsFit 24 = .ok (.goto 4, 3) := by decide +kernel
theorem dX8_patternsFit_27 : decode cX8_patternsFit 27 = .ok (.iconst 0, 1) := by decide +kernel
theorem dX8_patternsFit_28 : decode cX8_patternsFit 28 = .ok (.istore 5, 2) := by decide +kernel
theorem dX8_patternsFit_30 : decode cX8_patternsFit 30 = .ok (.iload 5, 2) := by decide +kernel
theorem dX8_patternsFit_32 : decode cX8_patternsFit 32 = .ok (.ifCond .eq 24, 3) := by decide +kernel
theorem dX8_patternsFit_35 : decode cX8_patternsFit 35 = .ok (.iload 4, 2) := by decide +kernel
theorem dX8_patternsFit_37 : decode cX8_patternsFit 37 = .ok (.iload_n 1, 1) := by decide +kernel
theorem dX8_patternsFit_38 : decode cX8_patternsFit 38 = .ok (.if_icmp .eq 16, 3) := by decide +kernel
theorem dX8_patternsFit_41 : decode cX8_patternsFit 41 = .ok (.aload_n 0, 1) := by decide +kernel
theorem dX8_patternsFit_42 : decode cX8_patternsFit 42 = .ok (.getfield 15, 3) := by decide +kernel
theorem dX8_patternsFit_45 : decode cX8_patternsFit 45 = .ok (.iload 4, 2) := by decide +kernel
theorem dX8_patternsFit_47 : decode cX8_patternsFit 47 = .ok (.invokevirtual 49, 3) := by decide +kernel
theorem dX8_patternsFit_50 : decode cX8_patternsFit 50 = .ok (.iload_n 2, 1) := by decide +kernel
theorem dX8_patternsFit_51 : decode cX8_patternsFit 51 = .ok (.if_icmp .ge 5, 3) := by decide +kernel
theorem dX8_patternsFit_54 : decode cX8_patternsFit 54 = .ok (.iconst 0, 1) := by decide +kernel
theorem dX8_patternsFit_55 : decode cX8_patternsFit 55 = .ok (.ireturn, 1) := by decide +kernel
theorem dX8_patternsFit_56 : decode cX8_patternsFit 56 = .ok (.iload 5, 2) := by decide +kernel
theorem dX8_patternsFit_58 : decode cX8_patternsFit 58 = .ok (.ifCond .ne 25, 3) := by decide +kernel
theorem dX8_patternsFit_61 : decode cX8_patternsFit 61 = .ok (.aload_n 0, 1) := by decide +kernel
theorem dX8_patternsFit_62 : decode cX8_patternsFit 62 = .ok (.iload 4, 2) := by decide +kernel
theorem dX8_patternsFit_64 : decode cX8_patternsFit 64 = .ok (.aload_n 0, 1) := by decide +kernel
theorem dX8_patternsFit_65 : decode cX8_patternsFit 65 = .ok (.getfield 15, 3) := by decide +kernel
theorem dX8_patternsFit_68 : decode cX8_patternsFit 68 = .ok (.iload 4, 2) := by decide +kernel
theorem dX8_patternsFit_70 : decode cX8_patternsFit 70 = .ok (.iload_n 2, 1) := by decide +kernel
theorem dX8_patternsFit_71 : decode cX8_patternsFit 71 = .ok (.invokevirtual 78, 3) := by decide +kernel
theorem dX8_patternsFit_74 : decode cX8_patternsFit 74 = .ok (.iload_n 3, 1) := by decide +kernel
theorem dX8_patternsFit_75 : decode cX8_patternsFit 75 = .ok (.invokevirtual 81, 3) := by decide +kernel
theorem dX8_patternsFit_78 : decode cX8_patternsFit 78 = .ok (.ifCond .ne 5, 3) := by decide +kernel
theorem dX8_patternsFit_81 : decode cX8_patternsFit 81 = .ok (.iconst 0, 1) := by decide +kernel
theorem dX8_patternsFit_82 : decode cX8_patternsFit 82 = .ok (.ireturn, 1) := by decide +kernel
theorem dX8_patternsFit_83 : decode cX8_patternsFit 83 = .ok (.aload_n 0, 1) := by decide +kernel
theorem dX8_patternsFit_84 : decode cX8_patternsFit 84 = .ok (.getfield 15, 3) := by decide +kernel
theorem dX8_patternsFit_87 : decode cX8_patternsFit 87 = .ok (.iload 4, 2) := by decide +kernel
theorem dX8_patternsFit_89 : decode cX8_patternsFit 89 = .ok (.invokevirtual 49, 3) := by decide +kernel
theorem dX8_patternsFit_92 : decode cX8_patternsFit 92 = .ok (.istore 4, 2) := by decide +kernel
theorem dX8_patternsFit_94 : decode cX8_patternsFit 94 = .ok (.goto (-91), 3) := by decide +kernel
theorem dX8_patternsFit_97 : decode cX8_patternsFit 97 = .ok (.iconst 1, 1) := by decide +kernel
theorem dX8_patternsFit_98 : decode cX8_patternsFit 98 = .ok (.ireturn, 1) := by decide +kernel
theorem dX8_patternFits_0 : decode cX8_patternFits 0 = .ok (.iload_n 2, 1) := by decide +kernel
theorem dX8_patternFits_1 : decode cX8_patternFits 1 = .ok (.ifCond .eq 16, 3) := by decide +kernel
theorem dX8_patternFits_4 : decode cX8_patternFits 4 = .ok (.aload_n 0, 1) := by decide +kernel
theorem dX8_patternFits_5 : decode cX8_patternFits 5 = .ok (.getfield 15, 3) := by decide +kernel
theorem dX8_patternFits_8 : decode cX8_patternFits 8 = .ok (.iload_n 1, 1) := by decide +kernel
theorem dX8_patternFits_9 : decode cX8_patternFits 9 = .ok (.invokevirtual 85, 3) := by decide +kernel
theorem dX8_patternFits_12 : decode cX8_patternFits 12 = .ok (.ifCond .eq 5, 3) := by decide +kernel
theorem dX8_patternFits_15 : decode cX8_patternFits 15 = .ok (.iconst 0, 1) := by decide +kernel
theorem dX8_patternFits_16 : decode cX8_patternFits 16 = .ok (.ireturn, 1) := by decide +kernel
theorem dX8_patternFits_17 : decode cX8_patternFits 17 = .ok (.iload_n 2, 1) := by decide +kernel
theorem dX8_patternFits_18 : decode cX8_patternFits 18 = .ok (.ifCond .eq 7, 3) := by decide +kernel
theorem dX8_patternFits_21 : decode cX8_patternFits 21 = .ok (.iconst 1, 1) := by decide +kernel
theorem dX8_patternFits_22 : decode cX8_patternFits 22 = .ok (.goto 4, 3) := by decide +kernel
theorem dX8_patternFits_25 : decode cX8_patternFits 25 = .ok (.iload_n 3, 1) := by decide +kernel
theorem dX8_patternFits_26 : decode cX8_patternFits 26 = .ok (.istore 4, 2) := by decide +kernel
theorem dX8_patternFits_28 : decode cX8_patternFits 28 = .ok (.aload_n 0, 1) := by decide +kernel
theorem dX8_patternFits_29 : decode cX8_patternFits 29 = .ok (.getfield 15, 3) := by decide +kernel
theorem dX8_patternFits_32 : decode cX8_patternFits 32 = .ok (.iload_n 1, 1) := by decide +kernel
theorem dX8_patternFits_33 : decode cX8_patternFits 33 = .ok (.invokevirtual 56, 3) := by decide +kernel
theorem dX8_patternFits_36 : decode cX8_patternFits 36 = .ok (.ifCond .eq 21, 3) := by decide +kernel
theorem dX8_patternFits_39 : decode cX8_patternFits 39 = .ok (.aload_n 0, 1) := by decide +kernel
theorem dX8_patternFits_40 : decode cX8_patternFits 40 = .ok (.iload_n 1, 1) := by decide +kernel
theorem dX8_patternFits_41 : decode cX8_patternFits 41 = .ok (.iconst 1, 1) := by decide +kernel
theorem dX8_patternFits_42 : decode cX8_patternFits 42 = .ok (.iadd, 1) := by decide +kernel
theorem dX8_patternFits_43 : decode cX8_patternFits 43 = .ok (.aload_n 0, 1) := by decide +kernel
theorem dX8_patternFits_44 : decode cX8_patternFits 44 = .ok (.getfield 15, 3) := by decide +kernel
theorem dX8_patternFits_47 : decode cX8_patternFits 47 = .ok (.iload_n 1, 1) := by decide +kernel
theorem dX8_patternFits_48 : decode cX8_patternFits 48 = .ok (.invokevirtual 49, 3) := by decide +kernel
theorem dX8_patternFits_51 : decode cX8_patternFits 51 = .ok (.iload 4, 2) := by decide +kernel
theorem dX8_patternFits_53 : decode cX8_patternFits 53 = .ok (.invokevirtual 70, 3) := by decide +kernel
theorem dX8_patternFits_56 : decode cX8_patternFits 56 = .ok (.ireturn, 1) := by decide +kernel
theorem dX8_patternFits_57 : decode cX8_patternFits 57 = .ok (.aload_n 0, 1) := by decide +kernel
theorem dX8_patternFits_58 : decode cX8_patternFits 58 = .ok (.getfield 15, 3) := by decide +kernel
theorem dX8_patternFits_61 : decode cX8_patternFits 61 = .ok (.iload_n 1, 1) := by decide +kernel
theorem dX8_patternFits_62 : decode cX8_patternFits 62 = .ok (.invokevirtual 59, 3) := by decide +kernel
theorem dX8_patternFits_65 : decode cX8_patternFits 65 = .ok (.istore 5, 2) := by decide +kernel
theorem dX8_patternFits_67 : decode cX8_patternFits 67 = .ok (.iload 5, 2) := by decide +kernel
theorem dX8_patternFits_69 : decode cX8_patternFits 69 = .ok (.iconst (-1), 1) := by decide +kernel
theorem dX8_patternFits_70 : decode cX8_patternFits 70 = .ok (.if_icmp .eq 26, 3) := by decide +kernel
theorem dX8_patternFits_73 : decode cX8_patternFits 73 = .ok (.iload 5, 2) := by decide +kernel
theorem dX8_patternFits_75 : decode cX8_patternFits 75 = .ok (.bipush 8, 2) := by decide +kernel
theorem dX8_patternFits_77 : decode cX8_patternFits 77 = .ok (.if_icmp .eq 19, 3) := by decide +kernel
theorem dX8_patternFits_80 : decode cX8_patternFits 80 = .ok (.aload_n 0, 1) := by decide +kernel
theorem dX8_patternFits_81 : decode cX8_patternFits 81 = .ok (.getfield 15, 3) := by decide +kernel
theorem dX8_patternFits_84 : decode cX8_patternFits 84 = .ok (.aload_n 0, 1) := by decide +kernel
theorem dX8_patternFits_85 : decode cX8_patternFits 85 = .ok (.getfield 9, 3) := by decide +kernel
theorem dX8_patternFits_88 : decode cX8_patternFits 88 = .ok (.iload 5, 2) := by decide +kernel
theorem dX8_patternFits_90 : decode cX8_patternFits 90 = .ok (.invokestatic 88, 3) := by decide +kernel
theorem dX8_patternFits_93 : decode cX8_patternFits 93 = .ok (.ifCond .eq 5, 3) := by decide +kernel
theorem dX8_patternFits_96 : decode cX8_patternFits 96 = .ok (.iconst 1, 1) := by decide +kernel
theorem dX8_patternFits_97 : decode cX8_patternFits 97 = .ok (.ireturn, 1) := by decide +kernel
theorem dX8_patternFits_98 : decode cX8_patternFits 98 = .ok (.aload_n 0, 1) := by decide +kernel
theorem dX8_patternFits_99 : decode cX8_patternFits 99 = .ok (.getfield 19, 3) := by decide +kernel
theorem dX8_patternFits_102 : decode cX8_patternFits 102 = .ok (.iload 5, 2) := by decide +kernel
theorem dX8_patternFits_104 : decode cX8_patternFits 104 = .ok (.invokevirtual 92, 3) := by decide +kernel
theorem dX8_patternFits_107 : decode cX8_patternFits 107 = .ok (.ifCond .eq 5, 3) := by decide +kernel
theorem dX8_patternFits_110 : decode cX8_patternFits 110 = .ok (.iconst 0, 1) := by decide +kernel
theorem dX8_patternFits_111 : decode cX8_patternFits 111 = .ok (.ireturn, 1) := by decide +kernel
theorem dX8_patternFits_112 : decode cX8_patternFits 112 = .ok (.aload_n 0, 1) := by decide +kernel
theorem dX8_patternFits_113 : decode cX8_patternFits 113 = .ok (.getfield 19, 3) := by decide +kernel
theorem dX8_patternFits_116 : decode cX8_patternFits 116 = .ok (.iload 5, 2) := by decide +kernel
theorem dX8_patternFits_118 : decode cX8_patternFits 118 = .ok (.iload 4, 2) := by decide +kernel
theorem dX8_patternFits_120 : decode cX8_patternFits 120 = .ok (.invokevirtual 95, 3) := by decide +kernel
theorem dX8_patternFits_123 : decode cX8_patternFits 123 = .ok (.iconst 1, 1) := by decide +kernel
theorem dX8_patternFits_124 : decode cX8_patternFits 124 = .ok (.ireturn, 1) := by decide +kernel
theorem dX8_templateFits_0 : decode cX8_templateFits 0 = .ok (.aload_n 0, 1) := by decide +kernel
theorem dX8_templateFits_1 : decode cX8_templateFits 1 = .ok (.getfield 15, 3) := by decide +kernel
theorem dX8_templateFits_4 : decode cX8_templateFits 4 = .ok (.iload_n 1, 1) := by decide +kernel
theorem dX8_templateFits_5 : decode cX8_templateFits 5 = .ok (.invokevirtual 56, 3) := by decide +kernel
theorem dX8_templateFits_8 : decode cX8_templateFits 8 = .ok (.ifCond .ne 35, 3) := by decide +kernel
theorem dX8_templateFits_11 : decode cX8_templateFits 11 = .ok (.aload_n 0, 1) := by decide +kernel
theorem dX8_templateFits_12 : decode cX8_templateFits 12 = .ok (.getfield 15, 3) := by decide +kernel
theorem dX8_templateFits_15 : decode cX8_templateFits 15 = .ok (.iload_n 1, 1) := by decide +kernel
theorem dX8_templateFits_16 : decode cX8_templateFits 16 = .ok (.invokevirtual 59, 3) := by decide +kernel
theorem dX8_templateFits_19 : decode cX8_templateFits 19 = .ok (.bipush 7, 2) := by decide +kernel
theorem dX8_templateFits_21 : decode cX8_templateFits 21 = .ok (.if_icmp .eq 20, 3) := by decide +kernel
theorem dX8_templateFits_24 : decode cX8_templateFits 24 = .ok (.iload_n 2, 1) := by decide +kernel
theorem dX8_templateFits_25 : decode cX8_templateFits 25 = .ok (.iconst 1, 1) := by decide +kernel
theorem dX8_templateFits_26 : decode cX8_templateFits 26 = .ok (.if_icmp .eq 11, 3) := by decide +kernel
theorem dX8_templateFits_29 : decode cX8_templateFits 29 = .ok (.aload_n 0, 1) := by decide +kernel
theorem dX8_templateFits_30 : decode cX8_templateFits 30 = .ok (.iload_n 1, 1) := by decide +kernel
theorem dX8_templateFits_31 : decode cX8_templateFits 31 = .ok (.invokevirtual 99, 3) := by decide +kernel
theorem dX8_templateFits_34 : decode cX8_templateFits 34 = .ok (.ifCond .ne 7, 3) := by decide +kernel
theorem dX8_templateFits_37 : decode cX8_templateFits 37 = .ok (.iconst 1, 1) := by decide +kernel
theorem dX8_templateFits_38 : decode cX8_templateFits 38 = .ok (.goto 4, 3) := by decide +kernel
theorem dX8_templateFits_41 : decode cX8_templateFits 41 = .ok (.iconst 0, 1) := by decide +kernel
theorem dX8_templateFits_42 : decode cX8_templateFits 42 = .ok (.ireturn, 1) := by decide +kernel
theorem dX8_templateFits_43 : decode cX8_templateFits 43 = .ok (.aload_n 0, 1) := by decide +kernel
theorem dX8_templateFits_44 : decode cX8_templateFits 44 = .ok (.getfield 15, 3) := by decide +kernel
theorem dX8_templateFits_47 : decode cX8_templateFits 47 = .ok (.iload_n 1, 1) := by decide +kernel
theorem dX8_templateFits_48 : decode cX8_templateFits 48 = .ok (.invokevirtual 49, 3) := by decide +kernel
theorem dX8_templateFits_51 : decode cX8_templateFits 51 = .ok (.istore_n 3, 1) := by decide +kernel
theorem dX8_templateFits_52 : decode cX8_templateFits 52 = .ok (.iconst 0, 1) := by decide +kernel
theorem dX8_templateFits_53 : decode cX8_templateFits 53 = .ok (.istore 4, 2) := by decide +kernel
theorem dX8_templateFits_55 : decode cX8_templateFits 55 = .ok (.iload_n 1, 1) := by decide +kernel
theorem dX8_templateFits_56 : decode cX8_templateFits 56 = .ok (.iconst 1, 1) := by decide +kernel
theorem dX8_templateFits_57 : decode cX8_templateFits 57 = .ok (.iadd, 1) := by decide +kernel
theorem dX8_templateFits_58 : decode cX8_templateFits 58 = .ok (.istore 5, 2) := by decide +kernel
theorem dX8_templateFits_60 : decode cX8_templateFits 60 = .ok (.iload 5, 2) := by decide +kernel
theorem dX8_templateFits_62 : decode cX8_templateFits 62 = .ok (.iload_n 3, 1) := by decide +kernel
theorem dX8_templateFits_63 : decode cX8_templateFits 63 = .ok (.if_icmp .ge 106, 3) := by decide +kernel
theorem dX8_templateFits_66 : decode cX8_templateFits 66 = .ok (.aload_n 0, 1) := by decide +kernel
theorem dX8_templateFits_67 : decode cX8_templateFits 67 = .ok (.getfield 15, 3) := by decide +kernel
theorem dX8_templateFits_70 : decode cX8_templateFits 70 = .ok (.iload 5, 2) := by decide +kernel
theorem dX8_templateFits_72 : decode cX8_templateFits 72 = .ok (.iload_n 3, 1) := by decide +kernel
theorem dX8_templateFits_73 : decode cX8_templateFits 73 = .ok (.invokevirtual 78, 3) := by decide +kernel
theorem dX8_templateFits_76 : decode cX8_templateFits 76 = .ok (.istore 6, 2) := by decide +kernel
theorem dX8_templateFits_78 : decode cX8_templateFits 78 = .ok (.iload 6, 2) := by decide +kernel
theorem dX8_templateFits_80 : decode cX8_templateFits 80 = .ok (.ifCond .eq 26, 3) := by decide +kernel
theorem dX8_templateFits_83 : decode cX8_templateFits 83 = .ok (.aload_n 0, 1) := by decide +kernel
theorem dX8_templateFits_84 : decode cX8_templateFits 84 = .ok (.getfield 15, 3) := by decide +kernel
theorem dX8_templateFits_87 : decode cX8_templateFits 87 = .ok (.iload 5, 2) := by decide +kernel
theorem dX8_templateFits_89 : decode cX8_templateFits 89 = .ok (.invokevirtual 85, 3) := by decide +kernel
theorem dX8_templateFits_92 : decode cX8_templateFits 92 = .ok (.ifCond .ne 12, 3) := by decide +kernel
theorem dX8_templateFits_95 : decode cX8_templateFits 95 = .ok (.aload_n 0, 1) := by decide +kernel
theorem dX8_templateFits_96 : decode cX8_templateFits 96 = .ok (.iload 5, 2) := by decide +kernel
theorem dX8_templateFits_98 : decode cX8_templateFits 98 = .ok (.invokevirtual 99, 3) := by decide +kernel
theorem dX8_templateFits_101 : decode cX8_templateFits 101 = .ok (.ifCond .ne 5, 3) := by decide +kernel
theorem dX8_templateFits_104 : decode cX8_templateFits 104 = .ok (.iconst 0, 1) := by decide +kernel
theorem dX8_templateFits_105 : decode cX8_templateFits 105 = .ok (.ireturn, 1) := by decide +kernel
theorem dX8_templateFits_106 : decode cX8_templateFits 106 = .ok (.aload_n 0, 1) := by decide +kernel
theorem dX8_templateFits_107 : decode cX8_templateFits 107 = .ok (.iload 5, 2) := by decide +kernel
theorem dX8_templateFits_109 : decode cX8_templateFits 109 = .ok (.iload 6, 2) := by decide +kernel
theorem dX8_templateFits_111 : decode cX8_templateFits 111 = .ok (.ifCond .eq 7, 3) := by decide +kernel
theorem dX8_templateFits_114 : decode cX8_templateFits 114 = .ok (.iconst 1, 1) := by decide +kernel
theorem dX8_templateFits_115 : decode cX8_templateFits 115 = .ok (.goto 4, 3) := by decide +kernel
theorem dX8_templateFits_118 : decode cX8_templateFits 118 = .ok (.iload_n 2, 1) := by decide +kernel
theorem dX8_templateFits_119 : decode cX8_templateFits 119 = .ok (.invokevirtual 74, 3) := by decide +kernel
theorem dX8_templateFits_122 : decode cX8_templateFits 122 = .ok (.ifCond .ne 5, 3) := by decide +kernel
theorem dX8_templateFits_125 : decode cX8_templateFits 125 = .ok (.iconst 0, 1) := by decide +kernel
theorem dX8_templateFits_126 : decode cX8_templateFits 126 = .ok (.ireturn, 1) := by decide +kernel
theorem dX8_templateFits_127 : decode cX8_templateFits 127 = .ok (.iload 6, 2) := by decide +kernel
theorem dX8_templateFits_129 : decode cX8_templateFits 129 = .ok (.ifCond .eq 22, 3) := by decide +kernel
theorem dX8_templateFits_132 : decode cX8_templateFits 132 = .ok (.aload_n 0, 1) := by decide +kernel
theorem dX8_templateFits_133 : decode cX8_templateFits 133 = .ok (.getfield 15, 3) := by decide +kernel
theorem dX8_templateFits_136 : decode cX8_templateFits 136 = .ok (.aload_n 0, 1) := by decide +kernel
theorem dX8_templateFits_137 : decode cX8_templateFits 137 = .ok (.getfield 15, 3) := by decide +kernel
theorem dX8_templateFits_140 : decode cX8_templateFits 140 = .ok (.iload 5, 2) := by decide +kernel
theorem dX8_templateFits_142 : decode cX8_templateFits 142 = .ok (.invokevirtual 49, 3) := by decide +kernel
theorem dX8_templateFits_145 : decode cX8_templateFits 145 = .ok (.invokevirtual 49, 3) := by decide +kernel
theorem dX8_templateFits_148 : decode cX8_templateFits 148 = .ok (.goto 12, 3) := by decide +kernel
theorem dX8_templateFits_151 : decode cX8_templateFits 151 = .ok (.aload_n 0, 1) := by decide +kernel
theorem dX8_templateFits_152 : decode cX8_templateFits 152 = .ok (.getfield 15, 3) := by decide +kernel
theorem dX8_templateFits_155 : decode cX8_templateFits 155 = .ok (.iload 5, 2) := by decide +kernel
theorem dX8_templateFits_157 : decode cX8_templateFits 157 = .ok (.invokevirtual 49, 3) := by decide +kernel
theorem dX8_templateFits_160 : decode cX8_templateFits 160 = .ok (.istore 4, 2) := by decide +kernel
theorem dX8_templateFits_162 : decode cX8_templateFits 162 = .ok (.iload 4, 2) := by decide +kernel
theorem dX8_templateFits_164 : decode cX8_templateFits 164 = .ok (.istore 5, 2) := by decide +kernel
theorem dX8_templateFits_166 : decode cX8_templateFits 166 = .ok (.goto (-106), 3) := by decide +kernel
theorem dX8_templateFits_169 : decode cX8_templateFits 169 = .ok (.iconst 1, 1) := by decide +kernel
theorem dX8_templateFits_170 : decode cX8_templateFits 170 = .ok (.ireturn, 1) := by decide +kernel
theorem dX8_holdsRepeated_0 : decode cX8_holdsRepeated 0 = .ok (.iload_n 1, 1) := by decide +kernel
theorem dX8_holdsRepeated_1 : decode cX8_holdsRepeated 1 = .ok (.istore_n 2, 1) := by decide +kernel
theorem dX8_holdsRepeated_2 : decode cX8_holdsRepeated 2 = .ok (.iload_n 2, 1) := by decide +kernel
theorem dX8_holdsRepeated_3 : decode cX8_holdsRepeated 3 = .ok (.aload_n 0, 1) := by decide +kernel
theorem dX8_holdsRepeated_4 : decode cX8_holdsRepeated 4 = .ok (.getfield 15, 3) := by decide +kernel
theorem dX8_holdsRepeated_7 : decode cX8_holdsRepeated 7 = .ok (.iload_n 1, 1) := by decide +kernel
theorem dX8_holdsRepeated_8 : decode cX8_holdsRepeated 8 = .ok (.invokevirtual 49, 3) := by decide +kernel
theorem dX8_holdsRepeated_11 : decode cX8_holdsRepeated 11 = .ok (.if_icmp .ge 30, 3) := by decide +kernel
theorem dX8_holdsRepeated_14 : decode cX8_holdsRepeated 14 = .ok (.aload_n 0, 1) := by decide +kernel
theorem dX8_holdsRepeated_15 : decode cX8_holdsRepeated 15 = .ok (.getfield 19, 3) := by decide +kernel
theorem dX8_holdsRepeated_18 : decode cX8_holdsRepeated 18 = .ok (.aload_n 0, 1) := by decide +kernel
theorem dX8_holdsRepeated_19 : decode cX8_holdsRepeated 19 = .ok (.getfield 15, 3) := by decide +kernel
theorem dX8_holdsRepeated_22 : decode cX8_holdsRepeated 22 = .ok (.iload_n 2, 1) := by decide +kernel
theorem dX8_holdsRepeated_23 : decode cX8_holdsRepeated 23 = .ok (.invokevirtual 59, 3) := by decide +kernel
theorem dX8_holdsRepeated_26 : decode cX8_holdsRepeated 26 = .ok (.invokevirtual 102, 3) := by decide +kernel
theorem dX8_holdsRepeated_29 : decode cX8_holdsRepeated 29 = .ok (.iconst 1, 1) := by decide +kernel
theorem dX8_holdsRepeated_30 : decode cX8_holdsRepeated 30 = .ok (.if_icmp .ne 5, 3) := by decide +kernel
theorem dX8_holdsRepeated_33 : decode cX8_holdsRepeated 33 = .ok (.iconst 1, 1) := by decide +kernel
theorem dX8_holdsRepeated_34 : decode cX8_holdsRepeated 34 = .ok (.ireturn, 1) := by decide +kernel
theorem dX8_holdsRepeated_35 : decode cX8_holdsRepeated 35 = .ok (.iinc 2 1, 3) := by decide +kernel
theorem dX8_holdsRepeated_38 : decode cX8_holdsRepeated 38 = .ok (.goto (-36), 3) := by decide +kernel
theorem dX8_holdsRepeated_41 : decode cX8_holdsRepeated 41 = .ok (.iconst 0, 1) := by decide +kernel
theorem dX8_holdsRepeated_42 : decode cX8_holdsRepeated 42 = .ok (.ireturn, 1) := by decide +kernel
theorem dX8_isLiteral_0 : decode cX8_isLiteral 0 = .ok (.iload_n 1, 1) := by decide +kernel
theorem dX8_isLiteral_1 : decode cX8_isLiteral 1 = .ok (.iconst 1, 1) := by decide +kernel
theorem dX8_isLiteral_2 : decode cX8_isLiteral 2 = .ok (.iadd, 1) := by decide +kernel
theorem dX8_isLiteral_3 : decode cX8_isLiteral 3 = .ok (.istore_n 3, 1) := by decide +kernel
theorem dX8_isLiteral_4 : decode cX8_isLiteral 4 = .ok (.iload_n 3, 1) := by decide +kernel
theorem dX8_isLiteral_5 : decode cX8_isLiteral 5 = .ok (.aload_n 0, 1) := by decide +kernel
theorem dX8_isLiteral_6 : decode cX8_isLiteral 6 = .ok (.iload_n 1, 1) := by decide +kernel
theorem dX8_isLiteral_7 : decode cX8_isLiteral 7 = .ok (.invokevirtual 49, 3) := by decide +kernel
theorem dX8_isLiteral_10 : decode cX8_isLiteral 10 = .ok (.if_icmp .ge 20, 3) := by decide +kernel
theorem dX8_isLiteral_13 : decode cX8_isLiteral 13 = .ok (.aload_n 0, 1) := by decide +kernel
theorem dX8_isLiteral_14 : decode cX8_isLiteral 14 = .ok (.iload_n 3, 1) := by decide +kernel
theorem dX8_isLiteral_15 : decode cX8_isLiteral 15 = .ok (.invokevirtual 59, 3) := by decide +kernel
theorem dX8_isLiteral_18 : decode cX8_isLiteral 18 = .ok (.iload_n 2, 1) := by decide +kernel
theorem dX8_isLiteral_19 : decode cX8_isLiteral 19 = .ok (.if_icmp .ne 5, 3) := by decide +kernel
theorem dX8_isLiteral_22 : decode cX8_isLiteral 22 = .ok (.iconst 1, 1) := by decide +kernel
theorem dX8_isLiteral_23 : decode cX8_isLiteral 23 = .ok (.ireturn, 1) := by decide +kernel
theorem dX8_isLiteral_24 : decode cX8_isLiteral 24 = .ok (.iinc 3 1, 3) := by decide +kernel
theorem dX8_isLiteral_27 : decode cX8_isLiteral 27 = .ok (.goto (-23), 3) := by decide +kernel
theorem dX8_isLiteral_30 : decode cX8_isLiteral 30 = .ok (.iconst 0, 1) := by decide +kernel
theorem dX8_isLiteral_31 : decode cX8_isLiteral 31 = .ok (.ireturn, 1) := by decide +kernel
theorem dX9_init_0 : decode cX9_init 0 = .ok (.aload_n 0, 1) := by decide +kernel
theorem dX9_init_1 : decode cX9_init 1 = .ok (.invokespecial 3, 3) := by decide +kernel
theorem dX9_init_4 : decode cX9_init 4 = .ok (.aload_n 0, 1) := by decide +kernel
theorem dX9_init_5 : decode cX9_init 5 = .ok (.sipush 606, 3) := by decide +kernel
theorem dX9_init_8 : decode cX9_init 8 = .ok (.newarray .int, 2) := by decide +kernel
theorem dX9_init_10 : decode cX9_init 10 = .ok (.putfield 11, 3) := by decide +kernel
theorem dX9_init_13 : decode cX9_init 13 = .ok (.aload_n 0, 1) := by decide +kernel
theorem dX9_init_14 : decode cX9_init 14 = .ok (.sipush 606, 3) := by decide +kernel
theorem dX9_init_17 : decode cX9_init 17 = .ok (.newarray .int, 2) := by decide +kernel
theorem dX9_init_19 : decode cX9_init 19 = .ok (.putfield 15, 3) := by decide +kernel
theorem dX9_init_22 : decode cX9_init 22 = .ok (.aload_n 0, 1) := by decide +kernel
theorem dX9_init_23 : decode cX9_init 23 = .ok (.sipush 606, 3) := by decide +kernel
theorem dX9_init_26 : decode cX9_init 26 = .ok (.newarray .int, 2) := by decide +kernel
theorem dX9_init_28 : decode cX9_init 28 = .ok (.putfield 18, 3) := by decide +kernel
theorem dX9_init_31 : decode cX9_init 31 = .ok (.aload_n 0, 1) := by decide +kernel
theorem dX9_init_32 : decode cX9_init 32 = .ok (.sipush 606, 3) := by decide +kernel
theorem dX9_init_35 : decode cX9_init 35 = .ok (.newarray .int, 2) := by decide +kernel
theorem dX9_init_37 : decode cX9_init 37 = .ok (.putfield 21, 3) := by decide +kernel
theorem dX9_init_40 : decode cX9_init 40 = .ok (.aload_n 0, 1) := by decide +kernel
theorem dX9_init_41 : decode cX9_init 41 = .ok (.iconst 0, 1) := by decide +kernel
theorem dX9_init_42 : decode cX9_init 42 = .ok (.putfield 24, 3) := by decide +kernel
theorem dX9_init_45 : decode cX9_init 45 = .ok (.aload_n 0, 1) := by decide +kernel
theorem dX9_init_46 : decode cX9_init 46 = .ok (.aload_n 1, 1) := by decide +kernel
theorem dX9_init_47 : decode cX9_init 47 = .ok (.putfield 28, 3) := by decide +kernel
theorem dX9_init_50 : decode cX9_init 50 = .ok (.return_, 1) := by decide +kernel
theorem dX9_bindVariable_0 : decode cX9_bindVariable 0 = .ok (.aload_n 0, 1) := by decide +kernel
theorem dX9_bindVariable_1 : decode cX9_bindVariable 1 = .ok (.iload_n 1, 1) := by decide +kernel
theorem dX9_bindVariable_2 : decode cX9_bindVariable 2 = .ok (.iload_n 2, 1) := by decide +kernel
theorem dX9_bindVariable_3 : decode cX9_bindVariable 3 = .ok (.iconst (-1), 1) := by decide +kernel
theorem dX9_bindVariable_4 : decode cX9_bindVariable 4 = .ok (.invokevirtual 32, 3) := by decide +kernel
theorem dX9_bindVariable_7 : decode cX9_bindVariable 7 = .ok (.return_, 1) := by decide +kernel
theorem dX9_bindMacro_0 : decode cX9_bindMacro 0 = .ok (.aload_n 0, 1) := by decide +kernel
theorem dX9_bindMacro_1 : decode cX9_bindMacro 1 = .ok (.iload_n 1, 1) := by decide +kernel
theorem dX9_bindMacro_2 : decode cX9_bindMacro 2 = .ok (.iload_n 2, 1) := by decide +kernel
theorem dX9_bindMacro_3 : decode cX9_bindMacro 3 = .ok (.iload_n 3, 1) := by decide +kernel
theorem dX9_bindMacro_4 : decode cX9_bindMacro 4 = .ok (.invokevirtual 32, 3) := by decide +kernel
theorem dX9_bindMacro_7 : decode cX9_bindMacro 7 = .ok (.return_, 1) := by decide +kernel
theorem dX9_bind_0 : decode cX9_bind 0 = .ok (.aload_n 0, 1) := by decide +kernel
theorem dX9_bind_1 : decode cX9_bind 1 = .ok (.getfield 24, 3) := by decide +kernel
theorem dX9_bind_4 : decode cX9_bind 4 = .ok (.sipush 606, 3) := by decide +kernel
theorem dX9_bind_7 : decode cX9_bind 7 = .ok (.if_icmp .ge 85, 3) := by decide +kernel
theorem dX9_bind_10 : decode cX9_bind 10 = .ok (.aload_n 0, 1) := by decide +kernel
theorem dX9_bind_11 : decode cX9_bind 11 = .ok (.getfield 28, 3) := by decide +kernel
theorem dX9_bind_14 : decode cX9_bind 14 = .ok (.iload_n 1, 1) := by decide +kernel
theorem dX9_bind_15 : decode cX9_bind 15 = .ok (.invokevirtual 36, 3) := by decide +kernel
theorem dX9_bind_18 : decode cX9_bind 18 = .ok (.ifCond .eq 74, 3) := by decide +kernel
theorem dX9_bind_21 : decode cX9_bind 21 = .ok (.aload_n 0, 1) := by decide +kernel
theorem dX9_bind_22 : decode cX9_bind 22 = .ok (.getfield 11, 3) := by decide +kernel
theorem dX9_bind_25 : decode cX9_bind 25 = .ok (.aload_n 0, 1) := by decide +kernel
theorem dX9_bind_26 : decode cX9_bind 26 = .ok (.getfield 24, 3) := by decide +kernel
theorem dX9_bind_29 : decode cX9_bind 29 = .ok (.iload_n 1, 1) := by decide +kernel
theorem dX9_bind_30 : decode cX9_bind 30 = .ok (.iastore, 1) := by decide +kernel
theorem dX9_bind_31 : decode cX9_bind 31 = .ok (.aload_n 0, 1) := by decide +kernel
theorem dX9_bind_32 : decode cX9_bind 32 = .ok (.getfield 15, 3) := by decide +kernel
theorem dX9_bind_35 : decode cX9_bind 35 = .ok (.aload_n 0, 1) := by decide +kernel
theorem dX9_bind_36 : decode cX9_bind 36 = .ok (.getfield 24, 3) := by decide +kernel
theorem dX9_bind_39 : decode cX9_bind 39 = .ok (.aload_n 0, 1) := by decide +kernel
theorem dX9_bind_40 : decode cX9_bind 40 = .ok (.getfield 28, 3) := by decide +kernel
theorem dX9_bind_43 : decode cX9_bind 43 = .ok (.getfield 42, 3) := by decide +kernel
theorem dX9_bind_46 : decode cX9_bind 46 = .ok (.iload_n 1, 1) := by decide +kernel
theorem dX9_bind_47 : decode cX9_bind 47 = .ok (.iaload, 1) := by decide +kernel
theorem dX9_bind_48 : decode cX9_bind 48 = .ok (.iastore, 1) := by decide +kernel
theorem dX9_bind_49 : decode cX9_bind 49 = .ok (.aload_n 0, 1) := by decide +kernel
theorem dX9_bind_50 : decode cX9_bind 50 = .ok (.getfield 18, 3) := by decide +kernel
theorem dX9_bind_53 : decode cX9_bind 53 = .ok (.aload_n 0, 1) := by decide +kernel
theorem dX9_bind_54 : decode cX9_bind 54 = .ok (.getfield 24, 3) := by decide +kernel
theorem dX9_bind_57 : decode cX9_bind 57 = .ok (.iload_n 2, 1) := by decide +kernel
theorem dX9_bind_58 : decode cX9_bind 58 = .ok (.iastore, 1) := by decide +kernel
theorem dX9_bind_59 : decode cX9_bind 59 = .ok (.aload_n 0, 1) := by decide +kernel
theorem dX9_bind_60 : decode cX9_bind 60 = .ok (.getfield 21, 3) := by decide +kernel
theorem dX9_bind_63 : decode cX9_bind 63 = .ok (.aload_n 0, 1) := by decide +kernel
theorem dX9_bind_64 : decode cX9_bind 64 = .ok (.getfield 24, 3) := by decide +kernel
theorem dX9_bind_67 : decode cX9_bind 67 = .ok (.iload_n 3, 1) := by decide +kernel
theorem dX9_bind_68 : decode cX9_bind 68 = .ok (.iastore, 1) := by decide +kernel
theorem dX9_bind_69 : decode cX9_bind 69 = .ok (.aload_n 0, 1) := by decide +kernel
theorem dX9_bind_70 : decode cX9_bind 70 = .ok (.getfield 28, 3) := by decide +kernel
theorem dX9_bind_73 : decode cX9_bind 73 = .ok (.getfield 42, 3) := by decide +kernel
theorem dX9_bind_76 : decode cX9_bind 76 = .ok (.iload_n 1, 1) := by decide +kernel
theorem dX9_bind_77 : decode cX9_bind 77 = .ok (.aload_n 0, 1) := by decide +kernel
theorem dX9_bind_78 : decode cX9_bind 78 = .ok (.getfield 24, 3) := by decide +kernel
theorem dX9_bind_81 : decode cX9_bind 81 = .ok (.iastore, 1) := by decide +kernel
theorem dX9_bind_82 : decode cX9_bind 82 = .ok (.aload_n 0, 1) := by decide +kernel
theorem dX9_bind_83 : decode cX9_bind 83 = .ok (.dup, 1) := by decide +kernel
theorem dX9_bind_84 : decode cX9_bind 84 = .ok (.getfield 24, 3) := by decide +kernel
theorem dX9_bind_87 : decode cX9_bind 87 = .ok (.iconst 1, 1) := by decide +kernel
theorem dX9_bind_88 : decode cX9_bind 88 = .ok (.iadd, 1) := by decide +kernel
theorem dX9_bind_89 : decode cX9_bind 89 = .ok (.putfield 24, 3) := by decide +kernel
theorem dX9_bind_92 : decode cX9_bind 92 = .ok (.return_, 1) := by decide +kernel
theorem dX9_isBoundSince_0 : decode cX9_isBoundSince 0 = .ok (.aload_n 0, 1) := by decide +kernel
theorem dX9_isBoundSince_1 : decode cX9_isBoundSince 1 = .ok (.getfield 28, 3) := by decide +kernel
theorem dX9_isBoundSince_4 : decode cX9_isBoundSince 4 = .ok (.iload_n 2, 1) := by decide +kernel
theorem dX9_isBoundSince_5 : decode cX9_isBoundSince 5 = .ok (.invokevirtual 36, 3) := by decide +kernel
theorem dX9_isBoundSince_8 : decode cX9_isBoundSince 8 = .ok (.ifCond .eq 20, 3) := by decide +kernel
theorem dX9_isBoundSince_11 : decode cX9_isBoundSince 11 = .ok (.aload_n 0, 1) := by decide +kernel
theorem dX9_isBoundSince_12 : decode cX9_isBoundSince 12 = .ok (.getfield 28, 3) := by decide +kernel
theorem dX9_isBoundSince_15 : decode cX9_isBoundSince 15 = .ok (.getfield 42, 3) := by decide +kernel
theorem dX9_isBoundSince_18 : decode cX9_isBoundSince 18 = .ok (.iload_n 2, 1) := by decide +kernel
theorem dX9_isBoundSince_19 : decode cX9_isBoundSince 19 = .ok (.iaload, 1) := by decide +kernel
theorem dX9_isBoundSince_20 : decode cX9_isBoundSince 20 = .ok (.iload_n 1, 1) := by decide +kernel
theorem dX9_isBoundSince_21 : decode cX9_isBoundSince 21 = .ok (.if_icmp .lt 7, 3) := by decide +kernel
theorem dX9_isBoundSince_24 : decode cX9_isBoundSince 24 = .ok (.iconst 1, 1) := by decide +kernel
theorem dX9_isBoundSince_25 : decode cX9_isBoundSince 25 = .ok (.goto 4, 3) := by decide +kernel
theorem dX9_isBoundSince_28 : decode cX9_isBoundSince 28 = .ok (.iconst 0, 1) := by decide +kernel
theorem dX9_isBoundSince_29 : decode cX9_isBoundSince 29 = .ok (.ireturn, 1) := by decide +kernel
theorem dX9_leaveTo_0 : decode cX9_leaveTo 0 = .ok (.aload_n 0, 1) := by decide +kernel
theorem dX9_leaveTo_1 : decode cX9_leaveTo 1 = .ok (.getfield 24, 3) := by decide +kernel
theorem dX9_leaveTo_4 : decode cX9_leaveTo 4 = .ok (.ifCond .le 69, 3) := by decide +kernel
theorem dX9_leaveTo_7 : decode cX9_leaveTo 7 = .ok (.aload_n 0, 1) := by decide +kernel
theorem dX9_leaveTo_8 : decode cX9_leaveTo 8 = .ok (.getfield 24, 3) := by decide +kernel
theorem dX9_leaveTo_11 : decode cX9_leaveTo 11 = .ok (.iload_n 1, 1) := by decide +kernel
theorem dX9_leaveTo_12 : decode cX9_leaveTo 12 = .ok (.if_icmp .le 61, 3) := by decide +kernel
theorem dX9_leaveTo_15 : decode cX9_leaveTo 15 = .ok (.aload_n 0, 1) := by decide +kernel
theorem dX9_leaveTo_16 : decode cX9_leaveTo 16 = .ok (.dup, 1) := by decide +kernel
theorem dX9_leaveTo_17 : decode cX9_leaveTo 17 = .ok (.getfield 24, 3) := by decide +kernel
theorem dX9_leaveTo_20 : decode cX9_leaveTo 20 = .ok (.iconst 1, 1) := by decide +kernel
theorem dX9_leaveTo_21 : decode cX9_leaveTo 21 = .ok (.isub, 1) := by decide +kernel
theorem dX9_leaveTo_22 : decode cX9_leaveTo 22 = .ok (.putfield 24, 3) := by decide +kernel
theorem dX9_leaveTo_25 : decode cX9_leaveTo 25 = .ok (.aload_n 0, 1) := by decide +kernel
theorem dX9_leaveTo_26 : decode cX9_leaveTo 26 = .ok (.getfield 28, 3) := by decide +kernel
theorem dX9_leaveTo_29 : decode cX9_leaveTo 29 = .ok (.aload_n 0, 1) := by decide +kernel
theorem dX9_leaveTo_30 : decode cX9_leaveTo 30 = .ok (.getfield 11, 3) := by decide +kernel
theorem dX9_leaveTo_33 : decode cX9_leaveTo 33 = .ok (.aload_n 0, 1) := by decide +kernel
theorem dX9_leaveTo_34 : decode cX9_leaveTo 34 = .ok (.getfield 24, 3) := by decide +kernel
theorem dX9_leaveTo_37 : decode cX9_leaveTo 37 = .ok (.iaload, 1) := by decide +kernel
theorem dX9_leaveTo_38 : decode cX9_leaveTo 38 = .ok (.invokevirtual 36, 3) := by decide +kernel
theorem dX9_leaveTo_41 : decode cX9_leaveTo 41 = .ok (.ifCond .eq (-41), 3) := by decide +kernel
theorem dX9_leaveTo_44 : decode cX9_leaveTo 44 = .ok (.aload_n 0, 1) := by decide +kernel
theorem dX9_leaveTo_45 : decode cX9_leaveTo 45 = .ok (.getfield 28, 3) := by decide +kernel
theorem dX9_leaveTo_48 : decode cX9_leaveTo 48 = .ok (.getfield 42, 3) := by decide +kernel
theorem dX9_leaveTo_51 : decode cX9_leaveTo 51 = .ok (.aload_n 0, 1) := by decide +kernel
theorem dX9_leaveTo_52 : decode cX9_leaveTo 52 = .ok (.getfield 11, 3) := by decide +kernel
theorem dX9_leaveTo_55 : decode cX9_leaveTo 55 = .ok (.aload_n 0, 1) := by decide +kernel
theorem dX9_leaveTo_56 : decode cX9_leaveTo 56 = .ok (.getfield 24, 3) := by decide +kernel
theorem dX9_leaveTo_59 : decode cX9_leaveTo 59 = .ok (.iaload, 1) := by decide +kernel
theorem dX9_leaveTo_60 : decode cX9_leaveTo 60 = .ok (.aload_n 0, 1) := by decide +kernel
theorem dX9_leaveTo_61 : decode cX9_leaveTo 61 = .ok (.getfield 15, 3) := by decide +kernel
theorem dX9_leaveTo_64 : decode cX9_leaveTo 64 = .ok (.aload_n 0, 1) := by decide +kernel
theorem dX9_leaveTo_65 : decode cX9_leaveTo 65 = .ok (.getfield 24, 3) := by decide +kernel
theorem dX9_leaveTo_68 : decode cX9_leaveTo 68 = .ok (.iaload, 1) := by decide +kernel
theorem dX9_leaveTo_69 : decode cX9_leaveTo 69 = .ok (.iastore, 1) := by decide +kernel
theorem dX9_leaveTo_70 : decode cX9_leaveTo 70 = .ok (.goto (-70), 3) := by decide +kernel
theorem dX9_leaveTo_73 : decode cX9_leaveTo 73 = .ok (.return_, 1) := by decide +kernel
theorem dX9_meaning_0 : decode cX9_meaning 0 = .ok (.iload_n 2, 1) := by decide +kernel
theorem dX9_meaning_1 : decode cX9_meaning 1 = .ok (.istore_n 3, 1) := by decide +kernel
theorem dX9_meaning_2 : decode cX9_meaning 2 = .ok (.iload_n 1, 1) := by decide +kernel
theorem dX9_meaning_3 : decode cX9_meaning 3 = .ok (.istore 4, 2) := by decide +kernel
theorem dX9_meaning_5 : decode cX9_meaning 5 = .ok (.aload_n 0, 1) := by decide +kernel
theorem dX9_meaning_6 : decode cX9_meaning 6 = .ok (.getfield 28, 3) := by decide +kernel
theorem dX9_meaning_9 : decode cX9_meaning 9 = .ok (.iload 4, 2) := by decide +kernel
theorem dX9_meaning_11 : decode cX9_meaning 11 = .ok (.invokevirtual 36, 3) := by decide +kernel
theorem dX9_meaning_14 : decode cX9_meaning 14 = .ok (.ifCond .eq 169, 3) := by decide +kernel
theorem dX9_meaning_17 : decode cX9_meaning 17 = .ok (.aload_n 0, 1) := by decide +kernel
theorem dX9_meaning_18 : decode cX9_meaning 18 = .ok (.getfield 28, 3) := by decide +kernel
theorem dX9_meaning_21 : decode cX9_meaning 21 = .ok (.getfield 42, 3) := by decide +kernel
theorem dX9_meaning_24 : decode cX9_meaning 24 = .ok (.iload 4, 2) := by decide +kernel
theorem dX9_meaning_26 : decode cX9_meaning 26 = .ok (.iaload, 1) := by decide +kernel
theorem dX9_meaning_27 : decode cX9_meaning 27 = .ok (.istore 5, 2) := by decide +kernel
theorem dX9_meaning_29 : decode cX9_meaning 29 = .ok (.iload 5, 2) := by decide +kernel
theorem dX9_meaning_31 : decode cX9_meaning 31 = .ok (.ifCond .lt 36, 3) := by decide +kernel
theorem dX9_meaning_34 : decode cX9_meaning 34 = .ok (.iload 5, 2) := by decide +kernel
theorem dX9_meaning_36 : decode cX9_meaning 36 = .ok (.iload_n 3, 1) := by decide +kernel
theorem dX9_meaning_37 : decode cX9_meaning 37 = .ok (.if_icmp .lt 30, 3) := by decide +kernel
theorem dX9_meaning_40 : decode cX9_meaning 40 = .ok (.iload 5, 2) := by decide +kernel
theorem dX9_meaning_42 : decode cX9_meaning 42 = .ok (.sipush 606, 3) := by decide +kernel
theorem dX9_meaning_45 : decode cX9_meaning 45 = .ok (.if_icmp .ge 22, 3) := by decide +kernel
theorem dX9_meaning_48 : decode cX9_meaning 48 = .ok (.iload 5, 2) := by decide +kernel
theorem dX9_meaning_50 : decode cX9_meaning 50 = .ok (.iconst 1, 1) := by decide +kernel
theorem dX9_meaning_51 : decode cX9_meaning 51 = .ok (.isub, 1) := by decide +kernel
theorem dX9_meaning_52 : decode cX9_meaning 52 = .ok (.aload_n 0, 1) := by decide +kernel
theorem dX9_meaning_53 : decode cX9_meaning 53 = .ok (.getfield 15, 3) := by decide +kernel
theorem dX9_meaning_56 : decode cX9_meaning 56 = .ok (.iload 5, 2) := by decide +kernel
theorem dX9_meaning_58 : decode cX9_meaning 58 = .ok (.iaload, 1) := by decide +kernel
theorem dX9_meaning_59 : decode cX9_meaning 59 = .ok (.invokestatic 45, 3) := by decide +kernel
theorem dX9_meaning_62 : decode cX9_meaning 62 = .ok (.istore 5, 2) := by decide +kernel
theorem dX9_meaning_64 : decode cX9_meaning 64 = .ok (.goto (-35), 3) := by decide +kernel
theorem dX9_meaning_67 : decode cX9_meaning 67 = .ok (.iload 5, 2) := by decide +kernel
theorem dX9_meaning_69 : decode cX9_meaning 69 = .ok (.ifCond .lt 43, 3) := by decide +kernel
theorem dX9_meaning_72 : decode cX9_meaning 72 = .ok (.iload 5, 2) := by decide +kernel
theorem dX9_meaning_74 : decode cX9_meaning 74 = .ok (.sipush 606, 3) := by decide +kernel
theorem dX9_meaning_77 : decode cX9_meaning 77 = .ok (.if_icmp .ge 35, 3) := by decide +kernel
theorem dX9_meaning_80 : decode cX9_meaning 80 = .ok (.aload_n 0, 1) := by decide +kernel
theorem dX9_meaning_81 : decode cX9_meaning 81 = .ok (.getfield 21, 3) := by decide +kernel
theorem dX9_meaning_84 : decode cX9_meaning 84 = .ok (.iload 5, 2) := by decide +kernel
theorem dX9_meaning_86 : decode cX9_meaning 86 = .ok (.iaload, 1) := by decide +kernel
theorem dX9_meaning_87 : decode cX9_meaning 87 = .ok (.iconst (-1), 1) := by decide +kernel
theorem dX9_meaning_88 : decode cX9_meaning 88 = .ok (.if_icmp .ne 17, 3) := by decide +kernel
theorem dX9_meaning_91 : decode cX9_meaning 91 = .ok (.iconst 4, 1) := by decide +kernel
theorem dX9_meaning_92 : decode cX9_meaning 92 = .ok (.aload_n 0, 1) := by decide +kernel
theorem dX9_meaning_93 : decode cX9_meaning 93 = .ok (.getfield 18, 3) := by decide +kernel
theorem dX9_meaning_96 : decode cX9_meaning 96 = .ok (.iload 5, 2) := by decide +kernel
theorem dX9_meaning_98 : decode cX9_meaning 98 = .ok (.iaload, 1) := by decide +kernel
theorem dX9_meaning_99 : decode cX9_meaning 99 = .ok (.imul, 1) := by decide +kernel
theorem dX9_meaning_100 : decode cX9_meaning 100 = .ok (.iconst 1, 1) := by decide +kernel
theorem dX9_meaning_101 : decode cX9_meaning 101 = .ok (.iadd, 1) := by decide +kernel
theorem dX9_meaning_102 : decode cX9_meaning 102 = .ok (.goto 9, 3) := by decide +kernel
theorem dX9_meaning_105 : decode cX9_meaning 105 = .ok (.iconst 4, 1) := by decide +kernel
theorem dX9_meaning_106 : decode cX9_meaning 106 = .ok (.iload 5, 2) := by decide +kernel
theorem dX9_meaning_108 : decode cX9_meaning 108 = .ok (.imul, 1) := by decide +kernel
theorem dX9_meaning_109 : decode cX9_meaning 109 = .ok (.iconst 2, 1) := by decide +kernel
theorem dX9_meaning_110 : decode cX9_meaning 110 = .ok (.iadd, 1) := by decide +kernel
theorem dX9_meaning_111 : decode cX9_meaning 111 = .ok (.ireturn, 1) := by decide +kernel
theorem dX9_meaning_112 : decode cX9_meaning 112 = .ok (.aload_n 0, 1) := by decide +kernel
theorem dX9_meaning_113 : decode cX9_meaning 113 = .ok (.getfield 28, 3) := by decide +kernel
theorem dX9_meaning_116 : decode cX9_meaning 116 = .ok (.getfield 51, 3) := by decide +kernel
theorem dX9_meaning_119 : decode cX9_meaning 119 = .ok (.iload 4, 2) := by decide +kernel
theorem dX9_meaning_121 : decode cX9_meaning 121 = .ok (.iaload, 1) := by decide +kernel
theorem dX9_meaning_122 : decode cX9_meaning 122 = .ok (.iconst (-1), 1) := by decide +kernel
theorem dX9_meaning_123 : decode cX9_meaning 123 = .ok (.if_icmp .ne 27, 3) := by decide +kernel
theorem dX9_meaning_126 : decode cX9_meaning 126 = .ok (.iconst 4, 1) := by decide +kernel
theorem dX9_meaning_127 : decode cX9_meaning 127 = .ok (.iload 4, 2) := by decide +kernel
theorem dX9_meaning_129 : decode cX9_meaning 129 = .ok (.imul, 1) := by decide +kernel
theorem dX9_meaning_130 : decode cX9_meaning 130 = .ok (.aload_n 0, 1) := by decide +kernel
theorem dX9_meaning_131 : decode cX9_meaning 131 = .ok (.getfield 28, 3) := by decide +kernel
theorem dX9_meaning_134 : decode cX9_meaning 134 = .ok (.iload 4, 2) := by decide +kernel
theorem dX9_meaning_136 : decode cX9_meaning 136 = .ok (.invokevirtual 54, 3) := by decide +kernel
theorem dX9_meaning_139 : decode cX9_meaning 139 = .ok (.iconst (-1), 1) := by decide +kernel
theorem dX9_meaning_140 : decode cX9_meaning 140 = .ok (.if_icmp .ne 7, 3) := by decide +kernel
theorem dX9_meaning_143 : decode cX9_meaning 143 = .ok (.iconst 0, 1) := by decide +kernel
theorem dX9_meaning_144 : decode cX9_meaning 144 = .ok (.goto 4, 3) := by decide +kernel
theorem dX9_meaning_147 : decode cX9_meaning 147 = .ok (.iconst 3, 1) := by decide +kernel
theorem dX9_meaning_148 : decode cX9_meaning 148 = .ok (.iadd, 1) := by decide +kernel
theorem dX9_meaning_149 : decode cX9_meaning 149 = .ok (.ireturn, 1) := by decide +kernel
theorem dX9_meaning_150 : decode cX9_meaning 150 = .ok (.aload_n 0, 1) := by decide +kernel
theorem dX9_meaning_151 : decode cX9_meaning 151 = .ok (.getfield 28, 3) := by decide +kernel
theorem dX9_meaning_154 : decode cX9_meaning 154 = .ok (.getfield 58, 3) := by decide +kernel
theorem dX9_meaning_157 : decode cX9_meaning 157 = .ok (.iload 4, 2) := by decide +kernel
theorem dX9_meaning_159 : decode cX9_meaning 159 = .ok (.iaload, 1) := by decide +kernel
theorem dX9_meaning_160 : decode cX9_meaning 160 = .ok (.istore_n 3, 1) := by decide +kernel
theorem dX9_meaning_161 : decode cX9_meaning 161 = .ok (.iload 4, 2) := by decide +kernel
theorem dX9_meaning_163 : decode cX9_meaning 163 = .ok (.iconst 1, 1) := by decide +kernel
theorem dX9_meaning_164 : decode cX9_meaning 164 = .ok (.isub, 1) := by decide +kernel
theorem dX9_meaning_165 : decode cX9_meaning 165 = .ok (.aload_n 0, 1) := by decide +kernel
theorem dX9_meaning_166 : decode cX9_meaning 166 = .ok (.getfield 28, 3) := by decide +kernel
theorem dX9_meaning_169 : decode cX9_meaning 169 = .ok (.getfield 51, 3) := by decide +kernel
theorem dX9_meaning_172 : decode cX9_meaning 172 = .ok (.iload 4, 2) := by decide +kernel
theorem dX9_meaning_174 : decode cX9_meaning 174 = .ok (.iaload, 1) := by decide +kernel
theorem dX9_meaning_175 : decode cX9_meaning 175 = .ok (.invokestatic 45, 3) := by decide +kernel
theorem dX9_meaning_178 : decode cX9_meaning 178 = .ok (.istore 4, 2) := by decide +kernel
theorem dX9_meaning_180 : decode cX9_meaning 180 = .ok (.goto (-175), 3) := by decide +kernel
theorem dX9_meaning_183 : decode cX9_meaning 183 = .ok (.iconst (-1), 1) := by decide +kernel
theorem dX9_meaning_184 : decode cX9_meaning 184 = .ok (.ireturn, 1) := by decide +kernel
theorem dX9_isWord_0 : decode cX9_isWord 0 = .ok (.iload_n 0, 1) := by decide +kernel
theorem dX9_isWord_1 : decode cX9_isWord 1 = .ok (.ifCond .lt 20, 3) := by decide +kernel
theorem dX9_isWord_4 : decode cX9_isWord 4 = .ok (.iload_n 0, 1) := by decide +kernel
theorem dX9_isWord_5 : decode cX9_isWord 5 = .ok (.iconst 3, 1) := by decide +kernel
theorem dX9_isWord_6 : decode cX9_isWord 6 = .ok (.iand, 1) := by decide +kernel
theorem dX9_isWord_7 : decode cX9_isWord 7 = .ok (.ifCond .ne 14, 3) := by decide +kernel
theorem dX9_isWord_10 : decode cX9_isWord 10 = .ok (.iload_n 0, 1) := by decide +kernel
theorem dX9_isWord_11 : decode cX9_isWord 11 = .ok (.iconst 2, 1) := by decide +kernel
theorem dX9_isWord_12 : decode cX9_isWord 12 = .ok (.ishr, 1) := by decide +kernel
theorem dX9_isWord_13 : decode cX9_isWord 13 = .ok (.iconst 5, 1) := by decide +kernel
theorem dX9_isWord_14 : decode cX9_isWord 14 = .ok (.if_icmp .ge 7, 3) := by decide +kernel
theorem dX9_isWord_17 : decode cX9_isWord 17 = .ok (.iconst 1, 1) := by decide +kernel
theorem dX9_isWord_18 : decode cX9_isWord 18 = .ok (.goto 4, 3) := by decide +kernel
theorem dX9_isWord_21 : decode cX9_isWord 21 = .ok (.iconst 0, 1) := by decide +kernel
theorem dX9_isWord_22 : decode cX9_isWord 22 = .ok (.ireturn, 1) := by decide +kernel
theorem dX9_isMacro_0 : decode cX9_isMacro 0 = .ok (.iload_n 0, 1) := by decide +kernel
theorem dX9_isMacro_1 : decode cX9_isMacro 1 = .ok (.ifCond .lt 14, 3) := by decide +kernel
theorem dX9_isMacro_4 : decode cX9_isMacro 4 = .ok (.iload_n 0, 1) := by decide +kernel
theorem dX9_isMacro_5 : decode cX9_isMacro 5 = .ok (.iconst 3, 1) := by decide +kernel
theorem dX9_isMacro_6 : decode cX9_isMacro 6 = .ok (.iand, 1) := by decide +kernel
theorem dX9_isMacro_7 : decode cX9_isMacro 7 = .ok (.iconst 2, 1) := by decide +kernel
theorem dX9_isMacro_8 : decode cX9_isMacro 8 = .ok (.if_icmp .lt 7, 3) := by decide +kernel
theorem dX9_isMacro_11 : decode cX9_isMacro 11 = .ok (.iconst 1, 1) := by decide +kernel
theorem dX9_isMacro_12 : decode cX9_isMacro 12 = .ok (.goto 4, 3) := by decide +kernel
theorem dX9_isMacro_15 : decode cX9_isMacro 15 = .ok (.iconst 0, 1) := by decide +kernel
theorem dX9_isMacro_16 : decode cX9_isMacro 16 = .ok (.ireturn, 1) := by decide +kernel
theorem dX9_rulesOf_0 : decode cX9_rulesOf 0 = .ok (.iload_n 1, 1) := by decide +kernel
theorem dX9_rulesOf_1 : decode cX9_rulesOf 1 = .ok (.iconst 2, 1) := by decide +kernel
theorem dX9_rulesOf_2 : decode cX9_rulesOf 2 = .ok (.ishr, 1) := by decide +kernel
theorem dX9_rulesOf_3 : decode cX9_rulesOf 3 = .ok (.istore_n 2, 1) := by decide +kernel
theorem dX9_rulesOf_4 : decode cX9_rulesOf 4 = .ok (.iload_n 1, 1) := by decide +kernel
theorem dX9_rulesOf_5 : decode cX9_rulesOf 5 = .ok (.iconst 3, 1) := by decide +kernel
theorem dX9_rulesOf_6 : decode cX9_rulesOf 6 = .ok (.iand, 1) := by decide +kernel
theorem dX9_rulesOf_7 : decode cX9_rulesOf 7 = .ok (.iconst 3, 1) := by decide +kernel
theorem dX9_rulesOf_8 : decode cX9_rulesOf 8 = .ok (.if_icmp .ne 12, 3) := by decide +kernel
theorem dX9_rulesOf_11 : decode cX9_rulesOf 11 = .ok (.aload_n 0, 1) := by decide +kernel
theorem dX9_rulesOf_12 : decode cX9_rulesOf 12 = .ok (.getfield 28, 3) := by decide +kernel
theorem dX9_rulesOf_15 : decode cX9_rulesOf 15 = .ok (.iload_n 2, 1) := by decide +kernel
theorem dX9_rulesOf_16 : decode cX9_rulesOf 16 = .ok (.invokevirtual 54, 3) := by decide +kernel
theorem dX9_rulesOf_19 : decode cX9_rulesOf 19 = .ok (.ireturn, 1) := by decide +kernel
theorem dX9_rulesOf_20 : decode cX9_rulesOf 20 = .ok (.iload_n 2, 1) := by decide +kernel
theorem dX9_rulesOf_21 : decode cX9_rulesOf 21 = .ok (.ifCond .lt 20, 3) := by decide +kernel
theorem dX9_rulesOf_24 : decode cX9_rulesOf 24 = .ok (.iload_n 2, 1) := by decide +kernel
theorem dX9_rulesOf_25 : decode cX9_rulesOf 25 = .ok (.aload_n 0, 1) := by decide +kernel
theorem dX9_rulesOf_26 : decode cX9_rulesOf 26 = .ok (.getfield 24, 3) := by decide +kernel
theorem dX9_rulesOf_29 : decode cX9_rulesOf 29 = .ok (.if_icmp .ge 12, 3) := by decide +kernel
theorem dX9_rulesOf_32 : decode cX9_rulesOf 32 = .ok (.aload_n 0, 1) := by decide +kernel
theorem dX9_rulesOf_33 : decode cX9_rulesOf 33 = .ok (.getfield 18, 3) := by decide +kernel
theorem dX9_rulesOf_36 : decode cX9_rulesOf 36 = .ok (.iload_n 2, 1) := by decide +kernel
theorem dX9_rulesOf_37 : decode cX9_rulesOf 37 = .ok (.iaload, 1) := by decide +kernel
theorem dX9_rulesOf_38 : decode cX9_rulesOf 38 = .ok (.goto 4, 3) := by decide +kernel
theorem dX9_rulesOf_41 : decode cX9_rulesOf 41 = .ok (.iconst (-1), 1) := by decide +kernel
theorem dX9_rulesOf_42 : decode cX9_rulesOf 42 = .ok (.ireturn, 1) := by decide +kernel
theorem dX9_homeOf_0 : decode cX9_homeOf 0 = .ok (.iload_n 1, 1) := by decide +kernel
theorem dX9_homeOf_1 : decode cX9_homeOf 1 = .ok (.iconst 2, 1) := by decide +kernel
theorem dX9_homeOf_2 : decode cX9_homeOf 2 = .ok (.ishr, 1) := by decide +kernel
theorem dX9_homeOf_3 : decode cX9_homeOf 3 = .ok (.istore_n 2, 1) := by decide +kernel
theorem dX9_homeOf_4 : decode cX9_homeOf 4 = .ok (.iload_n 1, 1) := by decide +kernel
theorem dX9_homeOf_5 : decode cX9_homeOf 5 = .ok (.iconst 3, 1) := by decide +kernel
theorem dX9_homeOf_6 : decode cX9_homeOf 6 = .ok (.iand, 1) := by decide +kernel
theorem dX9_homeOf_7 : decode cX9_homeOf 7 = .ok (.iconst 2, 1) := by decide +kernel
theorem dX9_homeOf_8 : decode cX9_homeOf 8 = .ok (.if_icmp .ne 24, 3) := by decide +kernel
theorem dX9_homeOf_11 : decode cX9_homeOf 11 = .ok (.iload_n 2, 1) := by decide +kernel
theorem dX9_homeOf_12 : decode cX9_homeOf 12 = .ok (.ifCond .lt 20, 3) := by decide +kernel
theorem dX9_homeOf_15 : decode cX9_homeOf 15 = .ok (.iload_n 2, 1) := by decide +kernel
theorem dX9_homeOf_16 : decode cX9_homeOf 16 = .ok (.aload_n 0, 1) := by decide +kernel
theorem dX9_homeOf_17 : decode cX9_homeOf 17 = .ok (.getfield 24, 3) := by decide +kernel
theorem dX9_homeOf_20 : decode cX9_homeOf 20 = .ok (.if_icmp .ge 12, 3) := by decide +kernel
theorem dX9_homeOf_23 : decode cX9_homeOf 23 = .ok (.aload_n 0, 1) := by decide +kernel
theorem dX9_homeOf_24 : decode cX9_homeOf 24 = .ok (.getfield 21, 3) := by decide +kernel
theorem dX9_homeOf_27 : decode cX9_homeOf 27 = .ok (.iload_n 2, 1) := by decide +kernel
theorem dX9_homeOf_28 : decode cX9_homeOf 28 = .ok (.iaload, 1) := by decide +kernel
theorem dX9_homeOf_29 : decode cX9_homeOf 29 = .ok (.goto 4, 3) := by decide +kernel
theorem dX9_homeOf_32 : decode cX9_homeOf 32 = .ok (.iconst 0, 1) := by decide +kernel
theorem dX9_homeOf_33 : decode cX9_homeOf 33 = .ok (.ireturn, 1) := by decide +kernel
theorem dX10_init_0 : decode cX10_init 0 = .ok (.aload_n 0, 1) := by decide +kernel
theorem dX10_init_1 : decode cX10_init 1 = .ok (.invokespecial 3, 3) := by decide +kernel
theorem dX10_init_4 : decode cX10_init 4 = .ok (.aload_n 0, 1) := by decide +kernel
theorem dX10_init_5 : decode cX10_init 5 = .ok (.sipush 4000, 3) := by decide +kernel
theorem dX10_init_8 : decode cX10_init 8 = .ok (.newarray .char, 2) := by decide +kernel
theorem dX10_init_10 : decode cX10_init 10 = .ok (.putfield 9, 3) := by decide +kernel
theorem dX10_init_13 : decode cX10_init 13 = .ok (.aload_n 0, 1) := by decide +kernel
theorem dX10_init_14 : decode cX10_init 14 = .ok (.iconst 0, 1) := by decide +kernel
theorem dX10_init_15 : decode cX10_init 15 = .ok (.putfield 15, 3) := by decide +kernel
theorem dX10_init_18 : decode cX10_init 18 = .ok (.aload_n 0, 1) := by decide +kernel
theorem dX10_init_19 : decode cX10_init 19 = .ok (.sipush 4000, 3) := by decide +kernel
theorem dX10_init_22 : decode cX10_init 22 = .ok (.newarray .char, 2) := by decide +kernel
theorem dX10_init_24 : decode cX10_init 24 = .ok (.putfield 19, 3) := by decide +kernel
theorem dX10_init_27 : decode cX10_init 27 = .ok (.aload_n 0, 1) := by decide +kernel
theorem dX10_init_28 : decode cX10_init 28 = .ok (.iconst 0, 1) := by decide +kernel
theorem dX10_init_29 : decode cX10_init 29 = .ok (.putfield 22, 3) := by decide +kernel
theorem dX10_init_32 : decode cX10_init 32 = .ok (.aload_n 0, 1) := by decide +kernel
theorem dX10_init_33 : decode cX10_init 33 = .ok (.bipush 32, 2) := by decide +kernel
theorem dX10_init_35 : decode cX10_init 35 = .ok (.putfield 25, 3) := by decide +kernel
theorem dX10_init_38 : decode cX10_init 38 = .ok (.return_, 1) := by decide +kernel
theorem dX10_startText_0 : decode cX10_startText 0 = .ok (.aload_n 0, 1) := by decide +kernel
theorem dX10_startText_1 : decode cX10_startText 1 = .ok (.iconst 0, 1) := by decide +kernel
theorem dX10_startText_2 : decode cX10_startText 2 = .ok (.putfield 22, 3) := by decide +kernel
theorem dX10_startText_5 : decode cX10_startText 5 = .ok (.return_, 1) := by decide +kernel
theorem dX10_take_0 : decode cX10_take 0 = .ok (.aload_n 0, 1) := by decide +kernel
theorem dX10_take_1 : decode cX10_take 1 = .ok (.getfield 9, 3) := by decide +kernel
theorem dX10_take_4 : decode cX10_take 4 = .ok (.astore_n 1, 1) := by decide +kernel
theorem dX10_take_5 : decode cX10_take 5 = .ok (.aload_n 0, 1) := by decide +kernel
theorem dX10_take_6 : decode cX10_take 6 = .ok (.aload_n 0, 1) := by decide +kernel
theorem dX10_take_7 : decode cX10_take 7 = .ok (.getfield 19, 3) := by decide +kernel
theorem dX10_take_10 : decode cX10_take 10 = .ok (.putfield 9, 3) := by decide +kernel
theorem dX10_take_13 : decode cX10_take 13 = .ok (.aload_n 0, 1) := by decide +kernel
theorem dX10_take_14 : decode cX10_take 14 = .ok (.aload_n 0, 1) := by decide +kernel
theorem dX10_take_15 : decode cX10_take 15 = .ok (.getfield 22, 3) := by decide +kernel
theorem dX10_take_18 : decode cX10_take 18 = .ok (.putfield 15, 3) := by decide +kernel
theorem dX10_take_21 : decode cX10_take 21 = .ok (.aload_n 0, 1) := by decide +kernel
theorem dX10_take_22 : decode cX10_take 22 = .ok (.aload_n 1, 1) := by decide +kernel
theorem dX10_take_23 : decode cX10_take 23 = .ok (.putfield 19, 3) := by decide +kernel
theorem dX10_take_26 : decode cX10_take 26 = .ok (.return_, 1) := by decide +kernel
theorem dX10_add_0 : decode cX10_add 0 = .ok (.aload_n 0, 1) := by decide +kernel
theorem dX10_add_1 : decode cX10_add 1 = .ok (.getfield 22, 3) := by decide +kernel
theorem dX10_add_4 : decode cX10_add 4 = .ok (.aload_n 0, 1) := by decide +kernel
theorem dX10_add_5 : decode cX10_add 5 = .ok (.getfield 19, 3) := by decide +kernel
theorem dX10_add_8 : decode cX10_add 8 = .ok (.arraylength, 1) := by decide +kernel
theorem dX10_add_9 : decode cX10_add 9 = .ok (.if_icmp .ge 13, 3) := by decide +kernel
theorem dX10_add_12 : decode cX10_add 12 = .ok (.aload_n 0, 1) := by decide +kernel
theorem dX10_add_13 : decode cX10_add 13 = .ok (.getfield 19, 3) := by decide +kernel
theorem dX10_add_16 : decode cX10_add 16 = .ok (.aload_n 0, 1) := by decide +kernel
theorem dX10_add_17 : decode cX10_add 17 = .ok (.getfield 22, 3) := by decide +kernel
theorem dX10_add_20 : decode cX10_add 20 = .ok (.iload_n 1, 1) := by decide +kernel
theorem dX10_add_21 : decode cX10_add 21 = .ok (.castore, 1) := by decide +kernel
theorem dX10_add_22 : decode cX10_add 22 = .ok (.aload_n 0, 1) := by decide +kernel
theorem dX10_add_23 : decode cX10_add 23 = .ok (.dup, 1) := by decide +kernel
theorem dX10_add_24 : decode cX10_add 24 = .ok (.getfield 22, 3) := by decide +kernel
theorem dX10_add_27 : decode cX10_add 27 = .ok (.iconst 1, 1) := by decide +kernel
theorem dX10_add_28 : decode cX10_add 28 = .ok (.iadd, 1) := by decide +kernel
theorem dX10_add_29 : decode cX10_add 29 = .ok (.putfield 22, 3) := by decide +kernel
theorem dX10_add_32 : decode cX10_add 32 = .ok (.aload_n 0, 1) := by decide +kernel
theorem dX10_add_33 : decode cX10_add 33 = .ok (.iload_n 1, 1) := by decide +kernel
theorem dX10_add_34 : decode cX10_add 34 = .ok (.putfield 25, 3) := by decide +kernel
theorem dX10_add_37 : decode cX10_add 37 = .ok (.return_, 1) := by decide +kernel
theorem dX10_addBlank_0 : decode cX10_addBlank 0 = .ok (.aload_n 0, 1) := by decide +kernel
theorem dX10_addBlank_1 : decode cX10_addBlank 1 = .ok (.getfield 22, 3) := by decide +kernel
theorem dX10_addBlank_4 : decode cX10_addBlank 4 = .ok (.ifCond .le 18, 3) := by decide +kernel
theorem dX10_addBlank_7 : decode cX10_addBlank 7 = .ok (.aload_n 0, 1) := by decide +kernel
theorem dX10_addBlank_8 : decode cX10_addBlank 8 = .ok (.getfield 25, 3) := by decide +kernel
theorem dX10_addBlank_11 : decode cX10_addBlank 11 = .ok (.bipush 40, 2) := by decide +kernel
theorem dX10_addBlank_13 : decode cX10_addBlank 13 = .ok (.if_icmp .eq 9, 3) := by decide +kernel
theorem dX10_addBlank_16 : decode cX10_addBlank 16 = .ok (.aload_n 0, 1) := by decide +kernel
theorem dX10_addBlank_17 : decode cX10_addBlank 17 = .ok (.bipush 32, 2) := by decide +kernel
theorem dX10_addBlank_19 : decode cX10_addBlank 19 = .ok (.invokevirtual 29, 3) := by decide +kernel
theorem dX10_addBlank_22 : decode cX10_addBlank 22 = .ok (.return_, 1) := by decide +kernel
theorem dX10_open_0 : decode cX10_open 0 = .ok (.aload_n 0, 1) := by decide +kernel
theorem dX10_open_1 : decode cX10_open 1 = .ok (.invokevirtual 33, 3) := by decide +kernel
theorem dX10_open_4 : decode cX10_open 4 = .ok (.aload_n 0, 1) := by decide +kernel
theorem dX10_open_5 : decode cX10_open 5 = .ok (.bipush 40, 2) := by decide +kernel
theorem dX10_open_7 : decode cX10_open 7 = .ok (.invokevirtual 29, 3) := by decide +kernel
theorem dX10_open_10 : decode cX10_open 10 = .ok (.return_, 1) := by decide +kernel
theorem dX10_close_0 : decode cX10_close 0 = .ok (.aload_n 0, 1) := by decide +kernel
theorem dX10_close_1 : decode cX10_close 1 = .ok (.bipush 41, 2) := by decide +kernel
theorem dX10_close_3 : decode cX10_close 3 = .ok (.invokevirtual 29, 3) := by decide +kernel
theorem dX10_close_6 : decode cX10_close 6 = .ok (.return_, 1) := by decide +kernel
theorem dX10_addNumber_0 : decode cX10_addNumber 0 = .ok (.aload_n 0, 1) := by decide +kernel
theorem dX10_addNumber_1 : decode cX10_addNumber 1 = .ok (.invokevirtual 33, 3) := by decide +kernel
theorem dX10_addNumber_4 : decode cX10_addNumber 4 = .ok (.aload_n 0, 1) := by decide +kernel
theorem dX10_addNumber_5 : decode cX10_addNumber 5 = .ok (.iload_n 1, 1) := by decide +kernel
theorem dX10_addNumber_6 : decode cX10_addNumber 6 = .ok (.invokevirtual 36, 3) := by decide +kernel
theorem dX10_addNumber_9 : decode cX10_addNumber 9 = .ok (.return_, 1) := by decide +kernel
theorem dX10_addVariable_0 : decode cX10_addVariable 0 = .ok (.aload_n 0, 1) := by decide +kernel
theorem dX10_addVariable_1 : decode cX10_addVariable 1 = .ok (.invokevirtual 33, 3) := by decide +kernel
theorem dX10_addVariable_4 : decode cX10_addVariable 4 = .ok (.aload_n 0, 1) := by decide +kernel
theorem dX10_addVariable_5 : decode cX10_addVariable 5 = .ok (.bipush 37, 2) := by decide +kernel
theorem dX10_addVariable_7 : decode cX10_addVariable 7 = .ok (.invokevirtual 29, 3) := by decide +kernel
theorem dX10_addVariable_10 : decode cX10_addVariable 10 = .ok (.aload_n 0, 1) := by decide +kernel
theorem dX10_addVariable_11 : decode cX10_addVariable 11 = .ok (.iload_n 1, 1) := by decide +kernel
theorem dX10_addVariable_12 : decode cX10_addVariable 12 = .ok (.invokevirtual 36, 3) := by decide +kernel
theorem dX10_addVariable_15 : decode cX10_addVariable 15 = .ok (.return_, 1) := by decide +kernel
theorem dX10_addDigits_0 : decode cX10_addDigits 0 = .ok (.iconst 1, 1) := by decide +kernel
theorem dX10_addDigits_1 : decode cX10_addDigits 1 = .ok (.istore_n 2, 1) := by decide +kernel
theorem dX10_addDigits_2 : decode cX10_addDigits 2 = .ok (.iconst 0, 1) := by decide +kernel
theorem dX10_addDigits_3 : decode cX10_addDigits 3 = .ok (.istore_n 3, 1) := by decide +kernel
theorem dX10_addDigits_4 : decode cX10_addDigits 4 = .ok (.iload_n 3, 1) := by decide +kernel
theorem dX10_addDigits_5 : decode cX10_addDigits 5 = .ok (.bipush 9, 2) := by decide +kernel
theorem dX10_addDigits_7 : decode cX10_addDigits 7 = .ok (.if_icmp .ge 22, 3) := by decide +kernel
theorem dX10_addDigits_10 : decode cX10_addDigits 10 = .ok (.iload_n 1, 1) := by decide +kernel
theorem dX10_addDigits_11 : decode cX10_addDigits 11 = .ok (.iload_n 2, 1) := by decide +kernel
theorem dX10_addDigits_12 : decode cX10_addDigits 12 = .ok (.idiv, 1) := by decide +kernel
theorem dX10_addDigits_13 : decode cX10_addDigits 13 = .ok (.bipush 10, 2) := by decide +kernel
theorem dX10_addDigits_15 : decode cX10_addDigits 15 = .ok (.if_icmp .lt 14, 3) := by decide +kernel
theorem dX10_addDigits_18 : decode cX10_addDigits 18 = .ok (.iload_n 2, 1) := by decide +kernel
theorem dX10_addDigits_19 : decode cX10_addDigits 19 = .ok (.bipush 10, 2) := by decide +kernel
theorem dX10_addDigits_21 : decode cX10_addDigits 21 = .ok (.imul, 1) := by decide +kernel
theorem dX10_addDigits_22 : decode cX10_addDigits 22 = .ok (.istore_n 2, 1) := by decide +kernel
theorem dX10_addDigits_23 : decode cX10_addDigits 23 = .ok (.iinc 3 1, 3) := by decide +kernel
theorem dX10_addDigits_26 : decode cX10_addDigits 26 = .ok (.goto (-22), 3) := by decide +kernel
theorem dX10_addDigits_29 : decode cX10_addDigits 29 = .ok (.iload_n 2, 1) := by decide +kernel
theorem dX10_addDigits_30 : decode cX10_addDigits 30 = .ok (.ifCond .le 25, 3) := by decide +kernel
theorem dX10_addDigits_33 : decode cX10_addDigits 33 = .ok (.aload_n 0, 1) := by decide +kernel
theorem dX10_addDigits_34 : decode cX10_addDigits 34 = .ok (.bipush 48, 2) := by decide +kernel
theorem dX10_addDigits_36 : decode cX10_addDigits 36 = .ok (.iload_n 1, 1) := by decide +kernel
theorem dX10_addDigits_37 : decode cX10_addDigits 37 = .ok (.iload_n 2, 1) := by decide +kernel
theorem dX10_addDigits_38 : decode cX10_addDigits 38 = .ok (.idiv, 1) := by decide +kernel
theorem dX10_addDigits_39 : decode cX10_addDigits 39 = .ok (.bipush 10, 2) := by decide +kernel
theorem dX10_addDigits_41 : decode cX10_addDigits 41 = .ok (.irem, 1) := by decide +kernel
theorem dX10_addDigits_42 : decode cX10_addDigits 42 = .ok (.iadd, 1) := by decide +kernel
theorem dX10_addDigits_43 : decode cX10_addDigits 43 = .ok (.i2c, 1) := by decide +kernel
theorem dX10_addDigits_44 : decode cX10_addDigits 44 = .ok (.invokevirtual 29, 3) := by decide +kernel
theorem dX10_addDigits_47 : decode cX10_addDigits 47 = .ok (.iload_n 2, 1) := by decide +kernel
theorem dX10_addDigits_48 : decode cX10_addDigits 48 = .ok (.bipush 10, 2) := by decide +kernel
theorem dX10_addDigits_50 : decode cX10_addDigits 50 = .ok (.idiv, 1) := by decide +kernel
theorem dX10_addDigits_51 : decode cX10_addDigits 51 = .ok (.istore_n 2, 1) := by decide +kernel
theorem dX10_addDigits_52 : decode cX10_addDigits 52 = .ok (.goto (-23), 3) := by decide +kernel
theorem dX10_addDigits_55 : decode cX10_addDigits 55 = .ok (.return_, 1) := by decide +kernel
theorem dX10_addSymbol_0 : decode cX10_addSymbol 0 = .ok (.aload_n 0, 1) := by decide +kernel
theorem dX10_addSymbol_1 : decode cX10_addSymbol 1 = .ok (.invokevirtual 33, 3) := by decide +kernel
theorem dX10_addSymbol_4 : decode cX10_addSymbol 4 = .ok (.iload_n 2, 1) := by decide +kernel
theorem dX10_addSymbol_5 : decode cX10_addSymbol 5 = .ok (.ifCond .lt 30, 3) := by decide +kernel
theorem dX10_addSymbol_8 : decode cX10_addSymbol 8 = .ok (.iload_n 2, 1) := by decide +kernel
theorem dX10_addSymbol_9 : decode cX10_addSymbol 9 = .ok (.sipush 2560, 3) := by decide +kernel
theorem dX10_addSymbol_12 : decode cX10_addSymbol 12 = .ok (.if_icmp .ge 23, 3) := by decide +kernel
theorem dX10_addSymbol_15 : decode cX10_addSymbol 15 = .ok (.aload_n 0, 1) := by decide +kernel
theorem dX10_addSymbol_16 : decode cX10_addSymbol 16 = .ok (.aload_n 1, 1) := by decide +kernel
theorem dX10_addSymbol_17 : decode cX10_addSymbol 17 = .ok (.getfield 40, 3) := by decide +kernel
theorem dX10_addSymbol_20 : decode cX10_addSymbol 20 = .ok (.iload_n 2, 1) := by decide +kernel
theorem dX10_addSymbol_21 : decode cX10_addSymbol 21 = .ok (.laload, 1) := by decide +kernel
theorem dX10_addSymbol_22 : decode cX10_addSymbol 22 = .ok (.invokevirtual 46, 3) := by decide +kernel
theorem dX10_addSymbol_25 : decode cX10_addSymbol 25 = .ok (.aload_n 0, 1) := by decide +kernel
theorem dX10_addSymbol_26 : decode cX10_addSymbol 26 = .ok (.aload_n 1, 1) := by decide +kernel
theorem dX10_addSymbol_27 : decode cX10_addSymbol 27 = .ok (.getfield 50, 3) := by decide +kernel
theorem dX10_addSymbol_30 : decode cX10_addSymbol 30 = .ok (.iload_n 2, 1) := by decide +kernel
theorem dX10_addSymbol_31 : decode cX10_addSymbol 31 = .ok (.laload, 1) := by decide +kernel
theorem dX10_addSymbol_32 : decode cX10_addSymbol 32 = .ok (.invokevirtual 46, 3) := by decide +kernel
theorem dX10_addSymbol_35 : decode cX10_addSymbol 35 = .ok (.return_, 1) := by decide +kernel
theorem dX10_addHalf_0 : decode cX10_addHalf 0 = .ok (.bipush 56, 2) := by decide +kernel
theorem dX10_addHalf_2 : decode cX10_addHalf 2 = .ok (.istore_n 3, 1) := by decide +kernel
theorem dX10_addHalf_3 : decode cX10_addHalf 3 = .ok (.iload_n 3, 1) := by decide +kernel
theorem dX10_addHalf_4 : decode cX10_addHalf 4 = .ok (.ifCond .lt 31, 3) := by decide +kernel
theorem dX10_addHalf_7 : decode cX10_addHalf 7 = .ok (.lload_n 1, 1) := by decide +kernel
theorem dX10_addHalf_8 : decode cX10_addHalf 8 = .ok (.iload_n 3, 1) := by decide +kernel
theorem dX10_addHalf_9 : decode cX10_addHalf 9 = .ok (.lushr, 1) := by decide +kernel
theorem dX10_addHalf_10 : decode cX10_addHalf 10 = .ok (.ldc2_w 53, 3) := by decide +kernel
theorem dX10_addHalf_13 : decode cX10_addHalf 13 = .ok (.land, 1) := by decide +kernel
theorem dX10_addHalf_14 : decode cX10_addHalf 14 = .ok (.l2i, 1) := by decide +kernel
theorem dX10_addHalf_15 : decode cX10_addHalf 15 = .ok (.i2c, 1) := by decide +kernel
theorem dX10_addHalf_16 : decode cX10_addHalf 16 = .ok (.istore 4, 2) := by decide +kernel
theorem dX10_addHalf_18 : decode cX10_addHalf 18 = .ok (.iload 4, 2) := by decide +kernel
theorem dX10_addHalf_20 : decode cX10_addHalf 20 = .ok (.ifCond .eq 9, 3) := by decide +kernel
theorem dX10_addHalf_23 : decode cX10_addHalf 23 = .ok (.aload_n 0, 1) := by decide +kernel
theorem dX10_addHalf_24 : decode cX10_addHalf 24 = .ok (.iload 4, 2) := by decide +kernel
theorem dX10_addHalf_26 : decode cX10_addHalf 26 = .ok (.invokevirtual 29, 3) := by decide +kernel
theorem dX10_addHalf_29 : decode cX10_addHalf 29 = .ok (.iinc 3 (-8), 3) := by decide +kernel
theorem dX10_addHalf_32 : decode cX10_addHalf 32 = .ok (.goto (-29), 3) := by decide +kernel
theorem dX10_addHalf_35 : decode cX10_addHalf 35 = .ok (.return_, 1) := by decide +kernel
theorem dX10_at_0 : decode cX10_at 0 = .ok (.iload_n 1, 1) := by decide +kernel
theorem dX10_at_1 : decode cX10_at 1 = .ok (.ifCond .lt 29, 3) := by decide +kernel
theorem dX10_at_4 : decode cX10_at 4 = .ok (.iload_n 1, 1) := by decide +kernel
theorem dX10_at_5 : decode cX10_at 5 = .ok (.aload_n 0, 1) := by decide +kernel
theorem dX10_at_6 : decode cX10_at 6 = .ok (.getfield 15, 3) := by decide +kernel
theorem dX10_at_9 : decode cX10_at 9 = .ok (.if_icmp .ge 21, 3) := by decide +kernel
theorem dX10_at_12 : decode cX10_at 12 = .ok (.iload_n 1, 1) := by decide +kernel
theorem dX10_at_13 : decode cX10_at 13 = .ok (.aload_n 0, 1) := by decide +kernel
theorem dX10_at_14 : decode cX10_at 14 = .ok (.getfield 9, 3) := by decide +kernel
theorem dX10_at_17 : decode cX10_at 17 = .ok (.arraylength, 1) := by decide +kernel
theorem dX10_at_18 : decode cX10_at 18 = .ok (.if_icmp .ge 12, 3) := by decide +kernel
theorem dX10_at_21 : decode cX10_at 21 = .ok (.aload_n 0, 1) := by decide +kernel
theorem dX10_at_22 : decode cX10_at 22 = .ok (.getfield 9, 3) := by decide +kernel
theorem dX10_at_25 : decode cX10_at 25 = .ok (.iload_n 1, 1) := by decide +kernel
theorem dX10_at_26 : decode cX10_at 26 = .ok (.caload, 1) := by decide +kernel
theorem dX10_at_27 : decode cX10_at 27 = .ok (.goto 4, 3) := by decide +kernel
theorem dX10_at_30 : decode cX10_at 30 = .ok (.iconst (-1), 1) := by decide +kernel
theorem dX10_at_31 : decode cX10_at 31 = .ok (.ireturn, 1) := by decide +kernel
theorem dX10_canBeRead_0 : decode cX10_canBeRead 0 = .ok (.iconst 0, 1) := by decide +kernel
theorem dX10_canBeRead_1 : decode cX10_canBeRead 1 = .ok (.istore_n 1, 1) := by decide +kernel
theorem dX10_canBeRead_2 : decode cX10_canBeRead 2 = .ok (.iconst 0, 1) := by decide +kernel
theorem dX10_canBeRead_3 : decode cX10_canBeRead 3 = .ok (.istore_n 2, 1) := by decide +kernel
theorem dX10_canBeRead_4 : decode cX10_canBeRead 4 = .ok (.iload_n 2, 1) := by decide +kernel
theorem dX10_canBeRead_5 : decode cX10_canBeRead 5 = .ok (.aload_n 0, 1) := by decide +kernel
theorem dX10_canBeRead_6 : decode cX10_canBeRead 6 = .ok (.getfield 15, 3) := by decide +kernel
theorem dX10_canBeRead_9 : decode cX10_canBeRead 9 = .ok (.if_icmp .ge 61, 3) := by decide +kernel
theorem dX10_canBeRead_12 : decode cX10_canBeRead 12 = .ok (.iload_n 2, 1) := by decide +kernel
theorem dX10_canBeRead_13 : decode cX10_canBeRead 13 = .ok (.aload_n 0, 1) := by decide +kernel
theorem dX10_canBeRead_14 : decode cX10_canBeRead 14 = .ok (.getfield 9, 3) := by decide +kernel
theorem dX10_canBeRead_17 : decode cX10_canBeRead 17 = .ok (.arraylength, 1) := by decide +kernel
theorem dX10_canBeRead_18 : decode cX10_canBeRead 18 = .ok (.if_icmp .ge 52, 3) := by decide +kernel
theorem dX10_canBeRead_21 : decode cX10_canBeRead 21 = .ok (.aload_n 0, 1) := by decide +kernel
theorem dX10_canBeRead_22 : decode cX10_canBeRead 22 = .ok (.getfield 9, 3) := by decide +kernel
theorem dX10_canBeRead_25 : decode cX10_canBeRead 25 = .ok (.iload_n 2, 1) := by decide +kernel
theorem dX10_canBeRead_26 : decode cX10_canBeRead 26 = .ok (.caload, 1) := by decide +kernel
theorem dX10_canBeRead_27 : decode cX10_canBeRead 27 = .ok (.bipush 40, 2) := by decide +kernel
theorem dX10_canBeRead_29 : decode cX10_canBeRead 29 = .ok (.if_icmp .ne 9, 3) := by decide +kernel
theorem dX10_canBeRead_32 : decode cX10_canBeRead 32 = .ok (.iinc 1 1, 3) := by decide +kernel
theorem dX10_canBeRead_35 : decode cX10_canBeRead 35 = .ok (.goto 17, 3) := by decide +kernel
theorem dX10_canBeRead_38 : decode cX10_canBeRead 38 = .ok (.aload_n 0, 1) := by decide +kernel
theorem dX10_canBeRead_39 : decode cX10_canBeRead 39 = .ok (.getfield 9, 3) := by decide +kernel
theorem dX10_canBeRead_42 : decode cX10_canBeRead 42 = .ok (.iload_n 2, 1) := by decide +kernel
theorem dX10_canBeRead_43 : decode cX10_canBeRead 43 = .ok (.caload, 1) := by decide +kernel
theorem dX10_canBeRead_44 : decode cX10_canBeRead 44 = .ok (.bipush 41, 2) := by decide +kernel
theorem dX10_canBeRead_46 : decode cX10_canBeRead 46 = .ok (.if_icmp .ne 6, 3) := by decide +kernel
theorem dX10_canBeRead_49 : decode cX10_canBeRead 49 = .ok (.iinc 1 (-1), 3) := by decide +kernel
theorem dX10_canBeRead_52 : decode cX10_canBeRead 52 = .ok (.iload_n 1, 1) := by decide +kernel
theorem dX10_canBeRead_53 : decode cX10_canBeRead 53 = .ok (.ifCond .lt 9, 3) := by decide +kernel
theorem dX10_canBeRead_56 : decode cX10_canBeRead 56 = .ok (.iload_n 1, 1) := by decide +kernel
theorem dX10_canBeRead_57 : decode cX10_canBeRead 57 = .ok (.bipush 61, 2) := by decide +kernel
theorem dX10_canBeRead_59 : decode cX10_canBeRead 59 = .ok (.if_icmp .le 5, 3) := by decide +kernel
theorem dX10_canBeRead_62 : decode cX10_canBeRead 62 = .ok (.iconst 0, 1) := by decide +kernel
theorem dX10_canBeRead_63 : decode cX10_canBeRead 63 = .ok (.ireturn, 1) := by decide +kernel
theorem dX10_canBeRead_64 : decode cX10_canBeRead 64 = .ok (.iinc 2 1, 3) := by decide +kernel
theorem dX10_canBeRead_67 : decode cX10_canBeRead 67 = .ok (.goto (-63), 3) := by decide +kernel
theorem dX10_canBeRead_70 : decode cX10_canBeRead 70 = .ok (.iload_n 1, 1) := by decide +kernel
theorem dX10_canBeRead_71 : decode cX10_canBeRead 71 = .ok (.ifCond .ne 7, 3) := by decide +kernel
theorem dX10_canBeRead_74 : decode cX10_canBeRead 74 = .ok (.iconst 1, 1) := by decide +kernel
theorem dX10_canBeRead_75 : decode cX10_canBeRead 75 = .ok (.goto 4, 3) := by decide +kernel
theorem dX10_canBeRead_78 : decode cX10_canBeRead 78 = .ok (.iconst 0, 1) := by decide +kernel
theorem dX10_canBeRead_79 : decode cX10_canBeRead 79 = .ok (.ireturn, 1) := by decide +kernel
theorem dX11_init_0 : decode cX11_init 0 = .ok (.aload_n 0, 1) := by decide +kernel
theorem dX11_init_1 : decode cX11_init 1 = .ok (.invokespecial 1, 3) := by decide +kernel
theorem dX11_init_4 : decode cX11_init 4 = .ok (.aload_n 0, 1) := by decide +kernel
theorem dX11_init_5 : decode cX11_init 5 = .ok (.sipush 3000, 3) := by decide +kernel
theorem dX11_init_8 : decode cX11_init 8 = .ok (.newarray .char, 2) := by decide +kernel
theorem dX11_init_10 : decode cX11_init 10 = .ok (.putfield 9, 3) := by decide +kernel
theorem dX11_init_13 : decode cX11_init 13 = .ok (.aload_n 0, 1) := by decide +kernel
theorem dX11_init_14 : decode cX11_init 14 = .ok (.new 13, 3) := by decide +kernel
theorem dX11_init_17 : decode cX11_init 17 = .ok (.dup, 1) := by decide +kernel
theorem dX11_init_18 : decode cX11_init 18 = .ok (.invokespecial 15, 3) := by decide +kernel
theorem dX11_init_21 : decode cX11_init 21 = .ok (.putfield 16, 3) := by decide +kernel
theorem dX11_init_24 : decode cX11_init 24 = .ok (.aload_n 0, 1) := by decide +kernel
theorem dX11_init_25 : decode cX11_init 25 = .ok (.new 20, 3) := by decide +kernel
theorem dX11_init_28 : decode cX11_init 28 = .ok (.dup, 1) := by decide +kernel
theorem dX11_init_29 : decode cX11_init 29 = .ok (.invokespecial 22, 3) := by decide +kernel
theorem dX11_init_32 : decode cX11_init 32 = .ok (.putfield 23, 3) := by decide +kernel
theorem dX11_init_35 : decode cX11_init 35 = .ok (.aload_n 0, 1) := by decide +kernel
theorem dX11_init_36 : decode cX11_init 36 = .ok (.new 27, 3) := by decide +kernel
theorem dX11_init_39 : decode cX11_init 39 = .ok (.dup, 1) := by decide +kernel
theorem dX11_init_40 : decode cX11_init 40 = .ok (.invokespecial 29, 3) := by decide +kernel
theorem dX11_init_43 : decode cX11_init 43 = .ok (.putfield 30, 3) := by decide +kernel
theorem dX11_init_46 : decode cX11_init 46 = .ok (.aload_n 0, 1) := by decide +kernel
theorem dX11_init_47 : decode cX11_init 47 = .ok (.new 34, 3) := by decide +kernel
theorem dX11_init_50 : decode cX11_init 50 = .ok (.dup, 1) := by decide +kernel
theorem dX11_init_51 : decode cX11_init 51 = .ok (.aload_n 0, 1) := by decide +kernel
theorem dX11_init_52 : decode cX11_init 52 = .ok (.getfield 23, 3) := by decide +kernel
theorem dX11_init_55 : decode cX11_init 55 = .ok (.aload_n 0, 1) := by decide +kernel
theorem dX11_init_56 : decode cX11_init 56 = .ok (.getfield 16, 3) := by decide +kernel
theorem dX11_init_59 : decode cX11_init 59 = .ok (.invokespecial 36, 3) := by decide +kernel
theorem dX11_init_62 : decode cX11_init 62 = .ok (.putfield 39, 3) := by decide +kernel
theorem dX11_init_65 : decode cX11_init 65 = .ok (.aload_n 0, 1) := by decide +kernel
theorem dX11_init_66 : decode cX11_init 66 = .ok (.new 43, 3) := by decide +kernel
theorem dX11_init_69 : decode cX11_init 69 = .ok (.dup, 1) := by decide +kernel
theorem dX11_init_70 : decode cX11_init 70 = .ok (.aload_n 0, 1) := by decide +kernel
theorem dX11_init_71 : decode cX11_init 71 = .ok (.getfield 23, 3) := by decide +kernel
theorem dX11_init_74 : decode cX11_init 74 = .ok (.aload_n 0, 1) := by decide +kernel
theorem dX11_init_75 : decode cX11_init 75 = .ok (.getfield 16, 3) := by decide +kernel
theorem dX11_init_78 : decode cX11_init 78 = .ok (.aload_n 0, 1) := by decide +kernel
theorem dX11_init_79 : decode cX11_init 79 = .ok (.getfield 30, 3) := by decide +kernel
theorem dX11_init_82 : decode cX11_init 82 = .ok (.invokespecial 45, 3) := by decide +kernel
theorem dX11_init_85 : decode cX11_init 85 = .ok (.putfield 48, 3) := by decide +kernel
theorem dX11_init_88 : decode cX11_init 88 = .ok (.aload_n 0, 1) := by decide +kernel
theorem dX11_init_89 : decode cX11_init 89 = .ok (.iconst 0, 1) := by decide +kernel
theorem dX11_init_90 : decode cX11_init 90 = .ok (.putfield 52, 3) := by decide +kernel
theorem dX11_init_93 : decode cX11_init 93 = .ok (.aload_n 0, 1) := by decide +kernel
theorem dX11_init_94 : decode cX11_init 94 = .ok (.iconst (-1), 1) := by decide +kernel
theorem dX11_init_95 : decode cX11_init 95 = .ok (.putfield 56, 3) := by decide +kernel
theorem dX11_init_98 : decode cX11_init 98 = .ok (.aload_n 0, 1) := by decide +kernel
theorem dX11_init_99 : decode cX11_init 99 = .ok (.iconst 0, 1) := by decide +kernel
theorem dX11_init_100 : decode cX11_init 100 = .ok (.putfield 59, 3) := by decide +kernel
theorem dX11_init_103 : decode cX11_init 103 = .ok (.aload_n 0, 1) := by decide +kernel
theorem dX11_init_104 : decode cX11_init 104 = .ok (.iconst 0, 1) := by decide +kernel
theorem dX11_init_105 : decode cX11_init 105 = .ok (.putfield 62, 3) := by decide +kernel
theorem dX11_init_108 : decode cX11_init 108 = .ok (.aload_n 0, 1) := by decide +kernel
theorem dX11_init_109 : decode cX11_init 109 = .ok (.iconst 0, 1) := by decide +kernel
theorem dX11_init_110 : decode cX11_init 110 = .ok (.putfield 65, 3) := by decide +kernel
theorem dX11_init_113 : decode cX11_init 113 = .ok (.return_, 1) := by decide +kernel
theorem dX11_type_0 : decode cX11_type 0 = .ok (.iload_n 3, 1) := by decide +kernel
theorem dX11_type_1 : decode cX11_type 1 = .ok (.iconst 1, 1) := by decide +kernel
theorem dX11_type_2 : decode cX11_type 2 = .ok (.if_icmp .lt 21, 3) := by decide +kernel
theorem dX11_type_5 : decode cX11_type 5 = .ok (.iload_n 3, 1) := by decide +kernel
theorem dX11_type_6 : decode cX11_type 6 = .ok (.bipush 8, 2) := by decide +kernel
theorem dX11_type_8 : decode cX11_type 8 = .ok (.if_icmp .gt 15, 3) := by decide +kernel
theorem dX11_type_11 : decode cX11_type 11 = .ok (.aload_n 0, 1) := by decide +kernel
theorem dX11_type_12 : decode cX11_type 12 = .ok (.getfield 52, 3) := by decide +kernel
theorem dX11_type_15 : decode cX11_type 15 = .ok (.iload_n 3, 1) := by decide +kernel
theorem dX11_type_16 : decode cX11_type 16 = .ok (.iadd, 1) := by decide +kernel
theorem dX11_type_17 : decode cX11_type 17 = .ok (.sipush 3000, 3) := by decide +kernel
theorem dX11_type_20 : decode cX11_type 20 = .ok (.if_icmp .le 5, 3) := by decide +kernel
theorem dX11_type_23 : decode cX11_type 23 = .ok (.iconst (-1), 1) := by decide +kernel
theorem dX11_type_24 : decode cX11_type 24 = .ok (.ireturn, 1) := by decide +kernel
theorem dX11_type_25 : decode cX11_type 25 = .ok (.iconst 0, 1) := by decide +kernel
theorem dX11_type_26 : decode cX11_type 26 = .ok (.istore 4, 2) := by decide +kernel
theorem dX11_type_28 : decode cX11_type 28 = .ok (.iload 4, 2) := by decide +kernel
theorem dX11_type_30 : decode cX11_type 30 = .ok (.iload_n 3, 1) := by decide +kernel
theorem dX11_type_31 : decode cX11_type 31 = .ok (.if_icmp .ge 33, 3) := by decide +kernel
theorem dX11_type_34 : decode cX11_type 34 = .ok (.lload_n 1, 1) := by decide +kernel
theorem dX11_type_35 : decode cX11_type 35 = .ok (.iload 4, 2) := by decide +kernel
theorem dX11_type_37 : decode cX11_type 37 = .ok (.invokestatic 68, 3) := by decide +kernel
theorem dX11_type_40 : decode cX11_type 40 = .ok (.istore 5, 2) := by decide +kernel
theorem dX11_type_42 : decode cX11_type 42 = .ok (.iload 5, 2) := by decide +kernel
theorem dX11_type_44 : decode cX11_type 44 = .ok (.bipush 32, 2) := by decide +kernel
theorem dX11_type_46 : decode cX11_type 46 = .ok (.if_icmp .lt 10, 3) := by decide +kernel
theorem dX11_type_49 : decode cX11_type 49 = .ok (.iload 5, 2) := by decide +kernel
theorem dX11_type_51 : decode cX11_type 51 = .ok (.bipush 126, 2) := by decide +kernel
theorem dX11_type_53 : decode cX11_type 53 = .ok (.if_icmp .le 5, 3) := by decide +kernel
theorem dX11_type_56 : decode cX11_type 56 = .ok (.iconst (-1), 1) := by decide +kernel
theorem dX11_type_57 : decode cX11_type 57 = .ok (.ireturn, 1) := by decide +kernel
theorem dX11_type_58 : decode cX11_type 58 = .ok (.iinc 4 1, 3) := by decide +kernel
theorem dX11_type_61 : decode cX11_type 61 = .ok (.goto (-33), 3) := by decide +kernel
theorem dX11_type_64 : decode cX11_type 64 = .ok (.iload_n 3, 1) := by decide +kernel
theorem dX11_type_65 : decode cX11_type 65 = .ok (.iconst 1, 1) := by decide +kernel
theorem dX11_type_66 : decode cX11_type 66 = .ok (.isub, 1) := by decide +kernel
theorem dX11_type_67 : decode cX11_type 67 = .ok (.istore 4, 2) := by decide +kernel
theorem dX11_type_69 : decode cX11_type 69 = .ok (.iload 4, 2) := by decide +kernel
theorem dX11_type_71 : decode cX11_type 71 = .ok (.ifCond .lt 35, 3) := by decide +kernel
theorem dX11_type_74 : decode cX11_type 74 = .ok (.aload_n 0, 1) := by decide +kernel
theorem dX11_type_75 : decode cX11_type 75 = .ok (.getfield 9, 3) := by decide +kernel
theorem dX11_type_78 : decode cX11_type 78 = .ok (.aload_n 0, 1) := by decide +kernel
theorem dX11_type_79 : decode cX11_type 79 = .ok (.getfield 52, 3) := by decide +kernel
theorem dX11_type_82 : decode cX11_type 82 = .ok (.lload_n 1, 1) := by decide +kernel
theorem dX11_type_83 : decode cX11_type 83 = .ok (.iload 4, 2) := by decide +kernel
theorem dX11_type_85 : decode cX11_type 85 = .ok (.invokestatic 68, 3) := by decide +kernel
theorem dX11_type_88 : decode cX11_type 88 = .ok (.i2c, 1) := by decide +kernel
theorem dX11_type_89 : decode cX11_type 89 = .ok (.castore, 1) := by decide +kernel
theorem dX11_type_90 : decode cX11_type 90 = .ok (.aload_n 0, 1) := by decide +kernel
theorem dX11_type_91 : decode cX11_type 91 = .ok (.dup, 1) := by decide +kernel
theorem dX11_type_92 : decode cX11_type 92 = .ok (.getfield 52, 3) := by decide +kernel
theorem dX11_type_95 : decode cX11_type 95 = .ok (.iconst 1, 1) := by decide +kernel
theorem dX11_type_96 : decode cX11_type 96 = .ok (.iadd, 1) := by decide +kernel
theorem dX11_type_97 : decode cX11_type 97 = .ok (.putfield 52, 3) := by decide +kernel
theorem dX11_type_100 : decode cX11_type 100 = .ok (.iinc 4 (-1), 3) := by decide +kernel
theorem dX11_type_103 : decode cX11_type 103 = .ok (.goto (-34), 3) := by decide +kernel
theorem dX11_type_106 : decode cX11_type 106 = .ok (.aload_n 0, 1) := by decide +kernel
theorem dX11_type_107 : decode cX11_type 107 = .ok (.getfield 52, 3) := by decide +kernel
theorem dX11_type_110 : decode cX11_type 110 = .ok (.ireturn, 1) := by decide +kernel
theorem dX11_read_0 : decode cX11_read 0 = .ok (.aload_n 0, 1) := by decide +kernel
theorem dX11_read_1 : decode cX11_read 1 = .ok (.getfield 23, 3) := by decide +kernel
theorem dX11_read_4 : decode cX11_read 4 = .ok (.getfield 72, 3) := by decide +kernel
theorem dX11_read_7 : decode cX11_read 7 = .ok (.istore_n 1, 1) := by decide +kernel
theorem dX11_read_8 : decode cX11_read 8 = .ok (.aload_n 0, 1) := by decide +kernel
theorem dX11_read_9 : decode cX11_read 9 = .ok (.getfield 16, 3) := by decide +kernel
theorem dX11_read_12 : decode cX11_read 12 = .ok (.invokevirtual 75, 3) := by decide +kernel
theorem dX11_read_15 : decode cX11_read 15 = .ok (.aload_n 0, 1) := by decide +kernel
theorem dX11_read_16 : decode cX11_read 16 = .ok (.getfield 23, 3) := by decide +kernel
theorem dX11_read_19 : decode cX11_read 19 = .ok (.invokevirtual 78, 3) := by decide +kernel
theorem dX11_read_22 : decode cX11_read 22 = .ok (.aload_n 0, 1) := by decide +kernel
theorem dX11_read_23 : decode cX11_read 23 = .ok (.getfield 30, 3) := by decide +kernel
theorem dX11_read_26 : decode cX11_read 26 = .ok (.invokevirtual 79, 3) := by decide +kernel
theorem dX11_read_29 : decode cX11_read 29 = .ok (.aload_n 0, 1) := by decide +kernel
theorem dX11_read_30 : decode cX11_read 30 = .ok (.iconst (-1), 1) := by decide +kernel
theorem dX11_read_31 : decode cX11_read 31 = .ok (.putfield 56, 3) := by decide +kernel
theorem dX11_read_34 : decode cX11_read 34 = .ok (.aload_n 0, 1) := by decide +kernel
theorem dX11_read_35 : decode cX11_read 35 = .ok (.getfield 39, 3) := by decide +kernel
theorem dX11_read_38 : decode cX11_read 38 = .ok (.aload_n 0, 1) := by decide +kernel
theorem dX11_read_39 : decode cX11_read 39 = .ok (.getfield 9, 3) := by decide +kernel
theorem dX11_read_42 : decode cX11_read 42 = .ok (.aload_n 0, 1) := by decide +kernel
theorem dX11_read_43 : decode cX11_read 43 = .ok (.getfield 52, 3) := by decide +kernel
theorem dX11_read_46 : decode cX11_read 46 = .ok (.invokevirtual 80, 3) := by decide +kernel
theorem dX11_read_49 : decode cX11_read 49 = .ok (.istore_n 2, 1) := by decide +kernel
theorem dX11_read_50 : decode cX11_read 50 = .ok (.aload_n 0, 1) := by decide +kernel
theorem dX11_read_51 : decode cX11_read 51 = .ok (.iconst 0, 1) := by decide +kernel
theorem dX11_read_52 : decode cX11_read 52 = .ok (.putfield 52, 3) := by decide +kernel
theorem dX11_read_55 : decode cX11_read 55 = .ok (.iload_n 2, 1) := by decide +kernel
theorem dX11_read_56 : decode cX11_read 56 = .ok (.ifCond .ne 30, 3) := by decide +kernel
theorem dX11_read_59 : decode cX11_read 59 = .ok (.aload_n 0, 1) := by decide +kernel
theorem dX11_read_60 : decode cX11_read 60 = .ok (.getfield 48, 3) := by decide +kernel
theorem dX11_read_63 : decode cX11_read 63 = .ok (.invokevirtual 84, 3) := by decide +kernel
theorem dX11_read_66 : decode cX11_read 66 = .ok (.istore_n 2, 1) := by decide +kernel
theorem dX11_read_67 : decode cX11_read 67 = .ok (.aload_n 0, 1) := by decide +kernel
theorem dX11_read_68 : decode cX11_read 68 = .ok (.iload_n 2, 1) := by decide +kernel
theorem dX11_read_69 : decode cX11_read 69 = .ok (.ifCond .ne 7, 3) := by decide +kernel
theorem dX11_read_72 : decode cX11_read 72 = .ok (.iconst (-1), 1) := by decide +kernel
theorem dX11_read_73 : decode cX11_read 73 = .ok (.goto 10, 3) := by decide +kernel
theorem dX11_read_76 : decode cX11_read 76 = .ok (.aload_n 0, 1) := by decide +kernel
theorem dX11_read_77 : decode cX11_read 77 = .ok (.getfield 48, 3) := by decide +kernel
theorem dX11_read_80 : decode cX11_read 80 = .ok (.getfield 88, 3) := by decide +kernel
theorem dX11_read_83 : decode cX11_read 83 = .ok (.putfield 56, 3) := by decide +kernel
theorem dX11_read_86 : decode cX11_read 86 = .ok (.iload_n 2, 1) := by decide +kernel
theorem dX11_read_87 : decode cX11_read 87 = .ok (.ifCond .ne 26, 3) := by decide +kernel
theorem dX11_read_90 : decode cX11_read 90 = .ok (.aload_n 0, 1) := by decide +kernel
theorem dX11_read_91 : decode cX11_read 91 = .ok (.aload_n 0, 1) := by decide +kernel
theorem dX11_read_92 : decode cX11_read 92 = .ok (.getfield 23, 3) := by decide +kernel
theorem dX11_read_95 : decode cX11_read 95 = .ok (.getfield 72, 3) := by decide +kernel
theorem dX11_read_98 : decode cX11_read 98 = .ok (.iload_n 1, 1) := by decide +kernel
theorem dX11_read_99 : decode cX11_read 99 = .ok (.if_icmp .le 7, 3) := by decide +kernel
theorem dX11_read_102 : decode cX11_read 102 = .ok (.iconst 1, 1) := by decide +kernel
theorem dX11_read_103 : decode cX11_read 103 = .ok (.goto 4, 3) := by decide +kernel
theorem dX11_read_106 : decode cX11_read 106 = .ok (.iconst 0, 1) := by decide +kernel
theorem dX11_read_107 : decode cX11_read 107 = .ok (.invokevirtual 89, 3) := by decide +kernel
theorem dX11_read_110 : decode cX11_read 110 = .ok (.goto 18, 3) := by decide +kernel
theorem dX11_read_113 : decode cX11_read 113 = .ok (.aload_n 0, 1) := by decide +kernel
theorem dX11_read_114 : decode cX11_read 114 = .ok (.getfield 23, 3) := by decide +kernel
theorem dX11_read_117 : decode cX11_read 117 = .ok (.iload_n 1, 1) := by decide +kernel
theorem dX11_read_118 : decode cX11_read 118 = .ok (.putfield 72, 3) := by decide +kernel
theorem dX11_read_121 : decode cX11_read 121 = .ok (.aload_n 0, 1) := by decide +kernel
theorem dX11_read_122 : decode cX11_read 122 = .ok (.getfield 16, 3) := by decide +kernel
theorem dX11_read_125 : decode cX11_read 125 = .ok (.invokevirtual 93, 3) := by decide +kernel
theorem dX11_read_128 : decode cX11_read 128 = .ok (.iload_n 2, 1) := by decide +kernel
theorem dX11_read_129 : decode cX11_read 129 = .ok (.ireturn, 1) := by decide +kernel
theorem dX11_place_0 : decode cX11_place 0 = .ok (.aload_n 0, 1) := by decide +kernel
theorem dX11_place_1 : decode cX11_place 1 = .ok (.getfield 56, 3) := by decide +kernel
theorem dX11_place_4 : decode cX11_place 4 = .ok (.ireturn, 1) := by decide +kernel
theorem dX11_count_0 : decode cX11_count 0 = .ok (.iload_n 1, 1) := by decide +kernel
theorem dX11_count_1 : decode cX11_count 1 = .ok (.tableswitch 78 0 5 #[39, 47, 52, 57, 62, 70], 39) := by decide +kernel
theorem dX11_count_40 : decode cX11_count 40 = .ok (.aload_n 0, 1) := by decide +kernel
theorem dX11_count_41 : decode cX11_count 41 = .ok (.getfield 30, 3) := by decide +kernel
theorem dX11_count_44 : decode cX11_count 44 = .ok (.getfield 96, 3) := by decide +kernel
theorem dX11_count_47 : decode cX11_count 47 = .ok (.ireturn, 1) := by decide +kernel
theorem dX11_count_48 : decode cX11_count 48 = .ok (.aload_n 0, 1) := by decide +kernel
theorem dX11_count_49 : decode cX11_count 49 = .ok (.getfield 59, 3) := by decide +kernel
theorem dX11_count_52 : decode cX11_count 52 = .ok (.ireturn, 1) := by decide +kernel
theorem dX11_count_53 : decode cX11_count 53 = .ok (.aload_n 0, 1) := by decide +kernel
theorem dX11_count_54 : decode cX11_count 54 = .ok (.getfield 62, 3) := by decide +kernel
theorem dX11_count_57 : decode cX11_count 57 = .ok (.ireturn, 1) := by decide +kernel
theorem dX11_count_58 : decode cX11_count 58 = .ok (.aload_n 0, 1) := by decide +kernel
theorem dX11_count_59 : decode cX11_count 59 = .ok (.getfield 65, 3) := by decide +kernel
theorem dX11_count_62 : decode cX11_count 62 = .ok (.ireturn, 1) := by decide +kernel
theorem dX11_count_63 : decode cX11_count 63 = .ok (.aload_n 0, 1) := by decide +kernel
theorem dX11_count_64 : decode cX11_count 64 = .ok (.getfield 16, 3) := by decide +kernel
theorem dX11_count_67 : decode cX11_count 67 = .ok (.invokevirtual 99, 3) := by decide +kernel
theorem dX11_count_70 : decode cX11_count 70 = .ok (.ireturn, 1) := by decide +kernel
theorem dX11_count_71 : decode cX11_count 71 = .ok (.aload_n 0, 1) := by decide +kernel
theorem dX11_count_72 : decode cX11_count 72 = .ok (.getfield 23, 3) := by decide +kernel
theorem dX11_count_75 : decode cX11_count 75 = .ok (.getfield 72, 3) := by decide +kernel
theorem dX11_count_78 : decode cX11_count 78 = .ok (.ireturn, 1) := by decide +kernel
theorem dX11_count_79 : decode cX11_count 79 = .ok (.iconst (-1), 1) := by decide +kernel
theorem dX11_count_80 : decode cX11_count 80 = .ok (.ireturn, 1) := by decide +kernel
theorem dX11_character_0 : decode cX11_character 0 = .ok (.aload_n 0, 1) := by decide +kernel
theorem dX11_character_1 : decode cX11_character 1 = .ok (.getfield 30, 3) := by decide +kernel
theorem dX11_character_4 : decode cX11_character 4 = .ok (.iload_n 1, 1) := by decide +kernel
theorem dX11_character_5 : decode cX11_character 5 = .ok (.invokevirtual 102, 3) := by decide +kernel
theorem dX11_character_8 : decode cX11_character 8 = .ok (.ireturn, 1) := by decide +kernel
theorem dX11_means_0 : decode cX11_means 0 = .ok (.aload_n 0, 1) := by decide +kernel
theorem dX11_means_1 : decode cX11_means 1 = .ok (.getfield 39, 3) := by decide +kernel
theorem dX11_means_4 : decode cX11_means 4 = .ok (.aload_n 0, 1) := by decide +kernel
theorem dX11_means_5 : decode cX11_means 5 = .ok (.getfield 9, 3) := by decide +kernel
theorem dX11_means_8 : decode cX11_means 8 = .ok (.iconst 0, 1) := by decide +kernel
theorem dX11_means_9 : decode cX11_means 9 = .ok (.aload_n 0, 1) := by decide +kernel
theorem dX11_means_10 : decode cX11_means 10 = .ok (.getfield 52, 3) := by decide +kernel
theorem dX11_means_13 : decode cX11_means 13 = .ok (.invokevirtual 106, 3) := by decide +kernel
theorem dX11_means_16 : decode cX11_means 16 = .ok (.istore_n 1, 1) := by decide +kernel
theorem dX11_means_17 : decode cX11_means 17 = .ok (.aload_n 0, 1) := by decide +kernel
theorem dX11_means_18 : decode cX11_means 18 = .ok (.getfield 39, 3) := by decide +kernel
theorem dX11_means_21 : decode cX11_means 21 = .ok (.aload_n 0, 1) := by decide +kernel
theorem dX11_means_22 : decode cX11_means 22 = .ok (.getfield 9, 3) := by decide +kernel
theorem dX11_means_25 : decode cX11_means 25 = .ok (.iload_n 1, 1) := by decide +kernel
theorem dX11_means_26 : decode cX11_means 26 = .ok (.aload_n 0, 1) := by decide +kernel
theorem dX11_means_27 : decode cX11_means 27 = .ok (.getfield 52, 3) := by decide +kernel
theorem dX11_means_30 : decode cX11_means 30 = .ok (.invokevirtual 110, 3) := by decide +kernel
theorem dX11_means_33 : decode cX11_means 33 = .ok (.istore_n 2, 1) := by decide +kernel
theorem dX11_means_34 : decode cX11_means 34 = .ok (.aload_n 0, 1) := by decide +kernel
theorem dX11_means_35 : decode cX11_means 35 = .ok (.getfield 39, 3) := by decide +kernel
theorem dX11_means_38 : decode cX11_means 38 = .ok (.aload_n 0, 1) := by decide +kernel
theorem dX11_means_39 : decode cX11_means 39 = .ok (.getfield 9, 3) := by decide +kernel
theorem dX11_means_42 : decode cX11_means 42 = .ok (.iload_n 2, 1) := by decide +kernel
theorem dX11_means_43 : decode cX11_means 43 = .ok (.aload_n 0, 1) := by decide +kernel
theorem dX11_means_44 : decode cX11_means 44 = .ok (.getfield 52, 3) := by decide +kernel
theorem dX11_means_47 : decode cX11_means 47 = .ok (.invokevirtual 106, 3) := by decide +kernel
theorem dX11_means_50 : decode cX11_means 50 = .ok (.aload_n 0, 1) := by decide +kernel
theorem dX11_means_51 : decode cX11_means 51 = .ok (.getfield 52, 3) := by decide +kernel
theorem dX11_means_54 : decode cX11_means 54 = .ok (.if_icmp .ne 7, 3) := by decide +kernel
theorem dX11_means_57 : decode cX11_means 57 = .ok (.iconst 1, 1) := by decide +kernel
theorem dX11_means_58 : decode cX11_means 58 = .ok (.goto 4, 3) := by decide +kernel
theorem dX11_means_61 : decode cX11_means 61 = .ok (.iconst 0, 1) := by decide +kernel
theorem dX11_means_62 : decode cX11_means 62 = .ok (.istore_n 3, 1) := by decide +kernel
theorem dX11_means_63 : decode cX11_means 63 = .ok (.aload_n 0, 1) := by decide +kernel
theorem dX11_means_64 : decode cX11_means 64 = .ok (.iconst 0, 1) := by decide +kernel
theorem dX11_means_65 : decode cX11_means 65 = .ok (.putfield 52, 3) := by decide +kernel
theorem dX11_means_68 : decode cX11_means 68 = .ok (.iload_n 3, 1) := by decide +kernel
theorem dX11_means_69 : decode cX11_means 69 = .ok (.ifCond .eq 19, 3) := by decide +kernel
theorem dX11_means_72 : decode cX11_means 72 = .ok (.aload_n 0, 1) := by decide +kernel
theorem dX11_means_73 : decode cX11_means 73 = .ok (.getfield 39, 3) := by decide +kernel
theorem dX11_means_76 : decode cX11_means 76 = .ok (.aload_n 0, 1) := by decide +kernel
theorem dX11_means_77 : decode cX11_means 77 = .ok (.getfield 9, 3) := by decide +kernel
theorem dX11_means_80 : decode cX11_means 80 = .ok (.iload_n 1, 1) := by decide +kernel
theorem dX11_means_81 : decode cX11_means 81 = .ok (.iload_n 2, 1) := by decide +kernel
theorem dX11_means_82 : decode cX11_means 82 = .ok (.invokevirtual 113, 3) := by decide +kernel
theorem dX11_means_85 : decode cX11_means 85 = .ok (.ifCond .ne 5, 3) := by decide +kernel
theorem dX11_means_88 : decode cX11_means 88 = .ok (.iconst (-1), 1) := by decide +kernel
theorem dX11_means_89 : decode cX11_means 89 = .ok (.ireturn, 1) := by decide +kernel
theorem dX11_means_90 : decode cX11_means 90 = .ok (.aload_n 0, 1) := by decide +kernel
theorem dX11_means_91 : decode cX11_means 91 = .ok (.getfield 39, 3) := by decide +kernel
theorem dX11_means_94 : decode cX11_means 94 = .ok (.aload_n 0, 1) := by decide +kernel
theorem dX11_means_95 : decode cX11_means 95 = .ok (.getfield 9, 3) := by decide +kernel
theorem dX11_means_98 : decode cX11_means 98 = .ok (.iload_n 1, 1) := by decide +kernel
theorem dX11_means_99 : decode cX11_means 99 = .ok (.iload_n 2, 1) := by decide +kernel
theorem dX11_means_100 : decode cX11_means 100 = .ok (.invokevirtual 117, 3) := by decide +kernel
theorem dX11_means_103 : decode cX11_means 103 = .ok (.istore 4, 2) := by decide +kernel
theorem dX11_means_105 : decode cX11_means 105 = .ok (.iload 4, 2) := by decide +kernel
theorem dX11_means_107 : decode cX11_means 107 = .ok (.iconst (-1), 1) := by decide +kernel
theorem dX11_means_108 : decode cX11_means 108 = .ok (.if_icmp .ne 5, 3) := by decide +kernel
theorem dX11_means_111 : decode cX11_means 111 = .ok (.iconst 0, 1) := by decide +kernel
theorem dX11_means_112 : decode cX11_means 112 = .ok (.ireturn, 1) := by decide +kernel
theorem dX11_means_113 : decode cX11_means 113 = .ok (.iload 4, 2) := by decide +kernel
theorem dX11_means_115 : decode cX11_means 115 = .ok (.bipush 6, 2) := by decide +kernel
theorem dX11_means_117 : decode cX11_means 117 = .ok (.if_icmp .gt 5, 3) := by decide +kernel
theorem dX11_means_120 : decode cX11_means 120 = .ok (.iconst 1, 1) := by decide +kernel
theorem dX11_means_121 : decode cX11_means 121 = .ok (.ireturn, 1) := by decide +kernel
theorem dX11_means_122 : decode cX11_means 122 = .ok (.aload_n 0, 1) := by decide +kernel
theorem dX11_means_123 : decode cX11_means 123 = .ok (.getfield 16, 3) := by decide +kernel
theorem dX11_means_126 : decode cX11_means 126 = .ok (.iload 4, 2) := by decide +kernel
theorem dX11_means_128 : decode cX11_means 128 = .ok (.invokevirtual 120, 3) := by decide +kernel
theorem dX11_means_131 : decode cX11_means 131 = .ok (.iconst (-1), 1) := by decide +kernel
theorem dX11_means_132 : decode cX11_means 132 = .ok (.if_icmp .ne 7, 3) := by decide +kernel
theorem dX11_means_135 : decode cX11_means 135 = .ok (.iconst 0, 1) := by decide +kernel
theorem dX11_means_136 : decode cX11_means 136 = .ok (.goto 4, 3) := by decide +kernel
theorem dX11_means_139 : decode cX11_means 139 = .ok (.iconst 2, 1) := by decide +kernel
theorem dX11_means_140 : decode cX11_means 140 = .ok (.ireturn, 1) := by decide +kernel
theorem dX11_check_0 : decode cX11_check 0 = .ok (.aload_n 0, 1) := by decide +kernel
theorem dX11_check_1 : decode cX11_check 1 = .ok (.getfield 30, 3) := by decide +kernel
theorem dX11_check_4 : decode cX11_check 4 = .ok (.invokevirtual 123, 3) := by decide +kernel
theorem dX11_check_7 : decode cX11_check 7 = .ok (.ifCond .eq 7, 3) := by decide +kernel
theorem dX11_check_10 : decode cX11_check 10 = .ok (.iconst 1, 1) := by decide +kernel
theorem dX11_check_11 : decode cX11_check 11 = .ok (.goto 4, 3) := by decide +kernel
theorem dX11_check_14 : decode cX11_check 14 = .ok (.iconst 0, 1) := by decide +kernel
theorem dX11_check_15 : decode cX11_check 15 = .ok (.ireturn, 1) := by decide +kernel
theorem dX11_byteOf_0 : decode cX11_byteOf 0 = .ok (.lload_n 0, 1) := by decide +kernel
theorem dX11_byteOf_1 : decode cX11_byteOf 1 = .ok (.bipush 8, 2) := by decide +kernel
theorem dX11_byteOf_3 : decode cX11_byteOf 3 = .ok (.iload_n 2, 1) := by decide +kernel
theorem dX11_byteOf_4 : decode cX11_byteOf 4 = .ok (.imul, 1) := by decide +kernel
theorem dX11_byteOf_5 : decode cX11_byteOf 5 = .ok (.lushr, 1) := by decide +kernel
theorem dX11_byteOf_6 : decode cX11_byteOf 6 = .ok (.l2i, 1) := by decide +kernel
theorem dX11_byteOf_7 : decode cX11_byteOf 7 = .ok (.sipush 255, 3) := by decide +kernel
theorem dX11_byteOf_10 : decode cX11_byteOf 10 = .ok (.iand, 1) := by decide +kernel
theorem dX11_byteOf_11 : decode cX11_byteOf 11 = .ok (.ireturn, 1) := by decide +kernel
theorem dX11_takeText_0 : decode cX11_takeText 0 = .ok (.aload_n 0, 1) := by decide +kernel
theorem dX11_takeText_1 : decode cX11_takeText 1 = .ok (.getfield 30, 3) := by decide +kernel
theorem dX11_takeText_4 : decode cX11_takeText 4 = .ok (.invokevirtual 127, 3) := by decide +kernel
theorem dX11_takeText_7 : decode cX11_takeText 7 = .ok (.aload_n 0, 1) := by decide +kernel
theorem dX11_takeText_8 : decode cX11_takeText 8 = .ok (.aload_n 0, 1) := by decide +kernel
theorem dX11_takeText_9 : decode cX11_takeText 9 = .ok (.getfield 48, 3) := by decide +kernel
theorem dX11_takeText_12 : decode cX11_takeText 12 = .ok (.getfield 130, 3) := by decide +kernel
theorem dX11_takeText_15 : decode cX11_takeText 15 = .ok (.putfield 59, 3) := by decide +kernel
theorem dX11_takeText_18 : decode cX11_takeText 18 = .ok (.aload_n 0, 1) := by decide +kernel
theorem dX11_takeText_19 : decode cX11_takeText 19 = .ok (.aload_n 0, 1) := by decide +kernel
theorem dX11_takeText_20 : decode cX11_takeText 20 = .ok (.getfield 48, 3) := by decide +kernel
theorem dX11_takeText_23 : decode cX11_takeText 23 = .ok (.getfield 131, 3) := by decide +kernel
theorem dX11_takeText_26 : decode cX11_takeText 26 = .ok (.putfield 62, 3) := by decide +kernel
theorem dX11_takeText_29 : decode cX11_takeText 29 = .ok (.aload_n 0, 1) := by decide +kernel
theorem dX11_takeText_30 : decode cX11_takeText 30 = .ok (.aload_n 0, 1) := by decide +kernel
theorem dX11_takeText_31 : decode cX11_takeText 31 = .ok (.getfield 48, 3) := by decide +kernel
theorem dX11_takeText_34 : decode cX11_takeText 34 = .ok (.getfield 88, 3) := by decide +kernel
theorem dX11_takeText_37 : decode cX11_takeText 37 = .ok (.iconst 1, 1) := by decide +kernel
theorem dX11_takeText_38 : decode cX11_takeText 38 = .ok (.iadd, 1) := by decide +kernel
theorem dX11_takeText_39 : decode cX11_takeText 39 = .ok (.putfield 65, 3) := by decide +kernel
theorem dX11_takeText_42 : decode cX11_takeText 42 = .ok (.aload_n 0, 1) := by decide +kernel
theorem dX11_takeText_43 : decode cX11_takeText 43 = .ok (.getfield 16, 3) := by decide +kernel
theorem dX11_takeText_46 : decode cX11_takeText 46 = .ok (.iload_n 1, 1) := by decide +kernel
theorem dX11_takeText_47 : decode cX11_takeText 47 = .ok (.invokevirtual 132, 3) := by decide +kernel
theorem dX11_takeText_50 : decode cX11_takeText 50 = .ok (.return_, 1) := by decide +kernel
theorem dJ9_max_7cf53_0 : decode cJ9_max_7cf53 0 = .ok (.iload_n 0, 1) := by decide +kernel
theorem dJ9_max_7cf53_1 : decode cJ9_max_7cf53 1 = .ok (.iload_n 1, 1) := by decide +kernel
theorem dJ9_max_7cf53_2 : decode cJ9_max_7cf53 2 = .ok (.if_icmp .lt 7, 3) := by decide +kernel
theorem dJ9_max_7cf53_5 : decode cJ9_max_7cf53 5 = .ok (.iload_n 0, 1) := by decide +kernel
theorem dJ9_max_7cf53_6 : decode cJ9_max_7cf53 6 = .ok (.goto 4, 3) := by decide +kernel
theorem dJ9_max_7cf53_9 : decode cJ9_max_7cf53 9 = .ok (.iload_n 1, 1) := by decide +kernel
theorem dJ9_max_7cf53_10 : decode cJ9_max_7cf53 10 = .ok (.ireturn, 1) := by decide +kernel
theorem dJ9_min_7cf53_0 : decode cJ9_min_7cf53 0 = .ok (.iload_n 0, 1) := by decide +kernel
theorem dJ9_min_7cf53_1 : decode cJ9_min_7cf53 1 = .ok (.iload_n 1, 1) := by decide +kernel
theorem dJ9_min_7cf53_2 : decode cJ9_min_7cf53 2 = .ok (.if_icmp .gt 7, 3) := by decide +kernel
theorem dJ9_min_7cf53_5 : decode cJ9_min_7cf53 5 = .ok (.iload_n 0, 1) := by decide +kernel
theorem dJ9_min_7cf53_6 : decode cJ9_min_7cf53 6 = .ok (.goto 4, 3) := by decide +kernel
theorem dJ9_min_7cf53_9 : decode cJ9_min_7cf53 9 = .ok (.iload_n 1, 1) := by decide +kernel
theorem dJ9_min_7cf53_10 : decode cJ9_min_7cf53 10 = .ok (.ireturn, 1) := by decide +kernel
theorem dJ0_toCharArray_70df3_0 : decode cJ0_toCharArray_70df3 0 = .ok (.aload_n 0, 1) := by decide +kernel
theorem dJ0_toCharArray_70df3_1 : decode cJ0_toCharArray_70df3 1 = .ok (.invokevirtual 492, 3) := by decide +kernel
theorem dJ0_toCharArray_70df3_4 : decode cJ0_toCharArray_70df3 4 = .ok (.ifCond .eq 13, 3) := by decide +kernel
theorem dJ0_toCharArray_70df3_7 : decode cJ0_toCharArray_70df3 7 = .ok (.aload_n 0, 1) := by decide +kernel
theorem dJ0_toCharArray_70df3_8 : decode cJ0_toCharArray_70df3 8 = .ok (.getfield 9, 3) := by decide +kernel
theorem dJ0_toCharArray_70df3_11 : decode cJ0_toCharArray_70df3 11 = .ok (.invokestatic 299, 3) := by decide +kernel
theorem dJ0_toCharArray_70df3_14 : decode cJ0_toCharArray_70df3 14 = .ok (.goto 10, 3) := by decide +kernel
theorem dJ0_toCharArray_70df3_17 : decode cJ0_toCharArray_70df3 17 = .ok (.aload_n 0, 1) := by decide +kernel
theorem dJ0_toCharArray_70df3_18 : decode cJ0_toCharArray_70df3 18 = .ok (.getfield 9, 3) := by decide +kernel
theorem dJ0_toCharArray_70df3_21 : decode cJ0_toCharArray_70df3 21 = .ok (.invokestatic 303, 3) := by decide +kernel
theorem dJ0_toCharArray_70df3_24 : decode cJ0_toCharArray_70df3 24 = .ok (.areturn, 1) := by decide +kernel
theorem dJ0_isLatin1_aae02_0 : decode cJ0_isLatin1_aae02 0 = .ok (.getstatic 38, 3) := by decide +kernel
theorem dJ0_isLatin1_aae02_3 : decode cJ0_isLatin1_aae02 3 = .ok (.ifCond .eq 14, 3) := by decide +kernel
theorem dJ0_isLatin1_aae02_6 : decode cJ0_isLatin1_aae02 6 = .ok (.aload_n 0, 1) := by decide +kernel
theorem dJ0_isLatin1_aae02_7 : decode cJ0_isLatin1_aae02 7 = .ok (.getfield 15, 3) := by decide +kernel
theorem dJ0_isLatin1_aae02_10 : decode cJ0_isLatin1_aae02 10 = .ok (.ifCond .ne 7, 3) := by decide +kernel
theorem dJ0_isLatin1_aae02_13 : decode cJ0_isLatin1_aae02 13 = .ok (.iconst 1, 1) := by decide +kernel
theorem dJ0_isLatin1_aae02_14 : decode cJ0_isLatin1_aae02 14 = .ok (.goto 4, 3) := by decide +kernel
theorem dJ0_isLatin1_aae02_17 : decode cJ0_isLatin1_aae02 17 = .ok (.iconst 0, 1) := by decide +kernel
theorem dJ0_isLatin1_aae02_18 : decode cJ0_isLatin1_aae02 18 = .ok (.ireturn, 1) := by decide +kernel
theorem dJ0_checkBoundsOffCount_cabcc_0 : decode cJ0_checkBoundsOffCount_cabcc 0 = .ok (.iload_n 0, 1) := by decide +kernel
theorem dJ0_checkBoundsOffCount_cabcc_1 : decode cJ0_checkBoundsOffCount_cabcc 1 = .ok (.iload_n 1, 1) := by decide +kernel
theorem dJ0_checkBoundsOffCount_cabcc_2 : decode cJ0_checkBoundsOffCount_cabcc 2 = .ok (.iload_n 2, 1) := by decide +kernel
theorem dJ0_checkBoundsOffCount_cabcc_3 : decode cJ0_checkBoundsOffCount_cabcc 3 = .ok (.getstatic 1053, 3) := by decide +kernel
theorem dJ0_checkBoundsOffCount_cabcc_6 : decode cJ0_checkBoundsOffCount_cabcc 6 = .ok (.invokestatic 1065, 3) := by decide +kernel
theorem dJ0_checkBoundsOffCount_cabcc_9 : decode cJ0_checkBoundsOffCount_cabcc 9 = .ok (.ireturn, 1) := by decide +kernel
theorem dJ1_toChars_9d188_0 : decode cJ1_toChars_9d188 0 = .ok (.aload_n 0, 1) := by decide +kernel
theorem dJ1_toChars_9d188_1 : decode cJ1_toChars_9d188 1 = .ok (.arraylength, 1) := by decide +kernel
theorem dJ1_toChars_9d188_2 : decode cJ1_toChars_9d188 2 = .ok (.newarray .char, 2) := by decide +kernel
theorem dJ1_toChars_9d188_4 : decode cJ1_toChars_9d188 4 = .ok (.astore_n 1, 1) := by decide +kernel
theorem dJ1_toChars_9d188_5 : decode cJ1_toChars_9d188 5 = .ok (.aload_n 0, 1) := by decide +kernel
theorem dJ1_toChars_9d188_6 : decode cJ1_toChars_9d188 6 = .ok (.iconst 0, 1) := by decide +kernel
theorem dJ1_toChars_9d188_7 : decode cJ1_toChars_9d188 7 = .ok (.aload_n 1, 1) := by decide +kernel
theorem dJ1_toChars_9d188_8 : decode cJ1_toChars_9d188 8 = .ok (.iconst 0, 1) := by decide +kernel
theorem dJ1_toChars_9d188_9 : decode cJ1_toChars_9d188 9 = .ok (.aload_n 0, 1) := by decide +kernel
theorem dJ1_toChars_9d188_10 : decode cJ1_toChars_9d188 10 = .ok (.arraylength, 1) := by decide +kernel
theorem dJ1_toChars_9d188_11 : decode cJ1_toChars_9d188 11 = .ok (.invokestatic 13, 3) := by decide +kernel
theorem dJ1_toChars_9d188_14 : decode cJ1_toChars_9d188 14 = .ok (.aload_n 1, 1) := by decide +kernel
theorem dJ1_toChars_9d188_15 : decode cJ1_toChars_9d188 15 = .ok (.areturn, 1) := by decide +kernel
theorem dJ1_inflate_03870_0 : decode cJ1_inflate_03870 0 = .ok (.iconst 0, 1) := by decide +kernel
theorem dJ1_inflate_03870_1 : decode cJ1_inflate_03870 1 = .ok (.istore 5, 2) := by decide +kernel
theorem dJ1_inflate_03870_3 : decode cJ1_inflate_03870 3 = .ok (.iload 5, 2) := by decide +kernel
theorem dJ1_inflate_03870_5 : decode cJ1_inflate_03870 5 = .ok (.iload 4, 2) := by decide +kernel
theorem dJ1_inflate_03870_7 : decode cJ1_inflate_03870 7 = .ok (.if_icmp .ge 26, 3) := by decide +kernel
theorem dJ1_inflate_03870_10 : decode cJ1_inflate_03870 10 = .ok (.aload_n 2, 1) := by decide +kernel
theorem dJ1_inflate_03870_11 : decode cJ1_inflate_03870 11 = .ok (.iload_n 3, 1) := by decide +kernel
theorem dJ1_inflate_03870_12 : decode cJ1_inflate_03870 12 = .ok (.iinc 3 1, 3) := by decide +kernel
theorem dJ1_inflate_03870_15 : decode cJ1_inflate_03870 15 = .ok (.aload_n 0, 1) := by decide +kernel
theorem dJ1_inflate_03870_16 : decode cJ1_inflate_03870 16 = .ok (.iload_n 1, 1) := by decide +kernel
theorem dJ1_inflate_03870_17 : decode cJ1_inflate_03870 17 = .ok (.iinc 1 1, 3) := by decide +kernel
theorem dJ1_inflate_03870_20 : decode cJ1_inflate_03870 20 = .ok (.baload, 1) := by decide +kernel
theorem dJ1_inflate_03870_21 : decode cJ1_inflate_03870 21 = .ok (.sipush 255, 3) := by decide +kernel
theorem dJ1_inflate_03870_24 : decode cJ1_inflate_03870 24 = .ok (.iand, 1) := by decide +kernel
theorem dJ1_inflate_03870_25 : decode cJ1_inflate_03870 25 = .ok (.i2c, 1) := by decide +kernel
theorem dJ1_inflate_03870_26 : decode cJ1_inflate_03870 26 = .ok (.castore, 1) := by decide +kernel
theorem dJ1_inflate_03870_27 : decode cJ1_inflate_03870 27 = .ok (.iinc 5 1, 3) := by decide +kernel
theorem dJ1_inflate_03870_30 : decode cJ1_inflate_03870 30 = .ok (.goto (-27), 3) := by decide +kernel
theorem dJ1_inflate_03870_33 : decode cJ1_inflate_03870 33 = .ok (.return_, 1) := by decide +kernel
theorem dJ2_getChar_3b067_0 : decode cJ2_getChar_3b067 0 = .ok (.getstatic 44, 3) := by decide +kernel
theorem dJ2_getChar_3b067_3 : decode cJ2_getChar_3b067 3 = .ok (.ifCond .ne 25, 3) := by decide +kernel
theorem dJ2_getChar_3b067_6 : decode cJ2_getChar_3b067 6 = .ok (.iload_n 1, 1) := by decide +kernel
theorem dJ2_getChar_3b067_7 : decode cJ2_getChar_3b067 7 = .ok (.ifCond .lt 11, 3) := by decide +kernel
theorem dJ2_getChar_3b067_10 : decode cJ2_getChar_3b067 10 = .ok (.iload_n 1, 1) := by decide +kernel
theorem dJ2_getChar_3b067_11 : decode cJ2_getChar_3b067 11 = .ok (.aload_n 0, 1) := by decide +kernel
theorem dJ2_getChar_3b067_12 : decode cJ2_getChar_3b067 12 = .ok (.invokestatic 48, 3) := by decide +kernel
theorem dJ2_getChar_3b067_15 : decode cJ2_getChar_3b067 15 = .ok (.if_icmp .lt 13, 3) := by decide +kernel
theorem dJ2_getChar_3b067_18 : decode cJ2_getChar_3b067 18 = .ok (.new 52, 3) := by decide +kernel
theorem dJ2_getChar_3b067_21 : decode cJ2_getChar_3b067 21 = .ok (.dup, 1) := by decide +kernel
theorem dJ2_getChar_3b067_22 : decode cJ2_getChar_3b067 22 = .ok (.ldc 54, 2) := by decide +kernel
theorem dJ2_getChar_3b067_24 : decode cJ2_getChar_3b067 24 = .ok (.invokespecial 56, 3) := by decide +kernel
theorem dJ2_getChar_3b067_27 : decode cJ2_getChar_3b067 27 = .ok (.athrow, 1) := by decide +kernel
theorem dJ2_getChar_3b067_28 : decode cJ2_getChar_3b067 28 = .ok (.iload_n 1, 1) := by decide +kernel
theorem dJ2_getChar_3b067_29 : decode cJ2_getChar_3b067 29 = .ok (.iconst 1, 1) := by decide +kernel
theorem dJ2_getChar_3b067_30 : decode cJ2_getChar_3b067 30 = .ok (.ishl, 1) := by decide +kernel
theorem dJ2_getChar_3b067_31 : decode cJ2_getChar_3b067 31 = .ok (.istore_n 1, 1) := by decide +kernel
theorem dJ2_getChar_3b067_32 : decode cJ2_getChar_3b067 32 = .ok (.aload_n 0, 1) := by decide +kernel
theorem dJ2_getChar_3b067_33 : decode cJ2_getChar_3b067 33 = .ok (.iload_n 1, 1) := by decide +kernel
theorem dJ2_getChar_3b067_34 : decode cJ2_getChar_3b067 34 = .ok (.iinc 1 1, 3) := by decide +kernel
theorem dJ2_getChar_3b067_37 : decode cJ2_getChar_3b067 37 = .ok (.baload, 1) := by decide +kernel
theorem dJ2_getChar_3b067_38 : decode cJ2_getChar_3b067 38 = .ok (.sipush 255, 3) := by decide +kernel
theorem dJ2_getChar_3b067_41 : decode cJ2_getChar_3b067 41 = .ok (.iand, 1) := by decide +kernel
theorem dJ2_getChar_3b067_42 : decode cJ2_getChar_3b067 42 = .ok (.getstatic 59, 3) := by decide +kernel
theorem dJ2_getChar_3b067_45 : decode cJ2_getChar_3b067 45 = .ok (.ishl, 1) := by decide +kernel
theorem dJ2_getChar_3b067_46 : decode cJ2_getChar_3b067 46 = .ok (.aload_n 0, 1) := by decide +kernel
theorem dJ2_getChar_3b067_47 : decode cJ2_getChar_3b067 47 = .ok (.iload_n 1, 1) := by decide +kernel
theorem dJ2_getChar_3b067_48 : decode cJ2_getChar_3b067 48 = .ok (.baload, 1) := by decide +kernel
theorem dJ2_getChar_3b067_49 : decode cJ2_getChar_3b067 49 = .ok (.sipush 255, 3) := by decide +kernel
theorem dJ2_getChar_3b067_52 : decode cJ2_getChar_3b067 52 = .ok (.iand, 1) := by decide +kernel
theorem dJ2_getChar_3b067_53 : decode cJ2_getChar_3b067 53 = .ok (.getstatic 63, 3) := by decide +kernel
theorem dJ2_getChar_3b067_56 : decode cJ2_getChar_3b067 56 = .ok (.ishl, 1) := by decide +kernel
theorem dJ2_getChar_3b067_57 : decode cJ2_getChar_3b067 57 = .ok (.ior, 1) := by decide +kernel
theorem dJ2_getChar_3b067_58 : decode cJ2_getChar_3b067 58 = .ok (.i2c, 1) := by decide +kernel
theorem dJ2_getChar_3b067_59 : decode cJ2_getChar_3b067 59 = .ok (.ireturn, 1) := by decide +kernel
theorem dJ2_length_9d52b_0 : decode cJ2_length_9d52b 0 = .ok (.aload_n 0, 1) := by decide +kernel
theorem dJ2_length_9d52b_1 : decode cJ2_length_9d52b 1 = .ok (.arraylength, 1) := by decide +kernel
theorem dJ2_length_9d52b_2 : decode cJ2_length_9d52b 2 = .ok (.iconst 1, 1) := by decide +kernel
theorem dJ2_length_9d52b_3 : decode cJ2_length_9d52b 3 = .ok (.ishr, 1) := by decide +kernel
theorem dJ2_length_9d52b_4 : decode cJ2_length_9d52b 4 = .ok (.ireturn, 1) := by decide +kernel
theorem dJ2_toChars_9d188_0 : decode cJ2_toChars_9d188 0 = .ok (.aload_n 0, 1) := by decide +kernel
theorem dJ2_toChars_9d188_1 : decode cJ2_toChars_9d188 1 = .ok (.arraylength, 1) := by decide +kernel
theorem dJ2_toChars_9d188_2 : decode cJ2_toChars_9d188 2 = .ok (.iconst 1, 1) := by decide +kernel
theorem dJ2_toChars_9d188_3 : decode cJ2_toChars_9d188 3 = .ok (.ishr, 1) := by decide +kernel
theorem dJ2_toChars_9d188_4 : decode cJ2_toChars_9d188 4 = .ok (.newarray .char, 2) := by decide +kernel
theorem dJ2_toChars_9d188_6 : decode cJ2_toChars_9d188 6 = .ok (.astore_n 1, 1) := by decide +kernel
theorem dJ2_toChars_9d188_7 : decode cJ2_toChars_9d188 7 = .ok (.aload_n 0, 1) := by decide +kernel
theorem dJ2_toChars_9d188_8 : decode cJ2_toChars_9d188 8 = .ok (.iconst 0, 1) := by decide +kernel
theorem dJ2_toChars_9d188_9 : decode cJ2_toChars_9d188 9 = .ok (.aload_n 1, 1) := by decide +kernel
theorem dJ2_toChars_9d188_10 : decode cJ2_toChars_9d188 10 = .ok (.arraylength, 1) := by decide +kernel
theorem dJ2_toChars_9d188_11 : decode cJ2_toChars_9d188 11 = .ok (.aload_n 1, 1) := by decide +kernel
theorem dJ2_toChars_9d188_12 : decode cJ2_toChars_9d188 12 = .ok (.iconst 0, 1) := by decide +kernel
theorem dJ2_toChars_9d188_13 : decode cJ2_toChars_9d188 13 = .ok (.invokestatic 103, 3) := by decide +kernel
theorem dJ2_toChars_9d188_16 : decode cJ2_toChars_9d188 16 = .ok (.aload_n 1, 1) := by decide +kernel
theorem dJ2_toChars_9d188_17 : decode cJ2_toChars_9d188 17 = .ok (.areturn, 1) := by decide +kernel
theorem dJ2_getChars_a1a8b_0 : decode cJ2_getChars_a1a8b 0 = .ok (.iload_n 1, 1) := by decide +kernel
theorem dJ2_getChars_a1a8b_1 : decode cJ2_getChars_a1a8b 1 = .ok (.iload_n 2, 1) := by decide +kernel
theorem dJ2_getChars_a1a8b_2 : decode cJ2_getChars_a1a8b 2 = .ok (.if_icmp .ge 11, 3) := by decide +kernel
theorem dJ2_getChars_a1a8b_5 : decode cJ2_getChars_a1a8b 5 = .ok (.iload_n 1, 1) := by decide +kernel
theorem dJ2_getChars_a1a8b_6 : decode cJ2_getChars_a1a8b 6 = .ok (.iload_n 2, 1) := by decide +kernel
theorem dJ2_getChars_a1a8b_7 : decode cJ2_getChars_a1a8b 7 = .ok (.iload_n 1, 1) := by decide +kernel
theorem dJ2_getChars_a1a8b_8 : decode cJ2_getChars_a1a8b 8 = .ok (.isub, 1) := by decide +kernel
theorem dJ2_getChars_a1a8b_9 : decode cJ2_getChars_a1a8b 9 = .ok (.aload_n 0, 1) := by decide +kernel
theorem dJ2_getChars_a1a8b_10 : decode cJ2_getChars_a1a8b 10 = .ok (.invokestatic 173, 3) := by decide +kernel
theorem dJ2_getChars_a1a8b_13 : decode cJ2_getChars_a1a8b 13 = .ok (.iload_n 1, 1) := by decide +kernel
theorem dJ2_getChars_a1a8b_14 : decode cJ2_getChars_a1a8b 14 = .ok (.istore 5, 2) := by decide +kernel
theorem dJ2_getChars_a1a8b_16 : decode cJ2_getChars_a1a8b 16 = .ok (.iload 5, 2) := by decide +kernel
theorem dJ2_getChars_a1a8b_18 : decode cJ2_getChars_a1a8b 18 = .ok (.iload_n 2, 1) := by decide +kernel
theorem dJ2_getChars_a1a8b_19 : decode cJ2_getChars_a1a8b 19 = .ok (.if_icmp .ge 22, 3) := by decide +kernel
theorem dJ2_getChars_a1a8b_22 : decode cJ2_getChars_a1a8b 22 = .ok (.aload_n 3, 1) := by decide +kernel
theorem dJ2_getChars_a1a8b_23 : decode cJ2_getChars_a1a8b 23 = .ok (.iload 4, 2) := by decide +kernel
theorem dJ2_getChars_a1a8b_25 : decode cJ2_getChars_a1a8b 25 = .ok (.iinc 4 1, 3) := by decide +kernel
theorem dJ2_getChars_a1a8b_28 : decode cJ2_getChars_a1a8b 28 = .ok (.aload_n 0, 1) := by decide +kernel
theorem dJ2_getChars_a1a8b_29 : decode cJ2_getChars_a1a8b 29 = .ok (.iload 5, 2) := by decide +kernel
theorem dJ2_getChars_a1a8b_31 : decode cJ2_getChars_a1a8b 31 = .ok (.invokestatic 71, 3) := by decide +kernel
theorem dJ2_getChars_a1a8b_34 : decode cJ2_getChars_a1a8b 34 = .ok (.castore, 1) := by decide +kernel
theorem dJ2_getChars_a1a8b_35 : decode cJ2_getChars_a1a8b 35 = .ok (.iinc 5 1, 3) := by decide +kernel
theorem dJ2_getChars_a1a8b_38 : decode cJ2_getChars_a1a8b 38 = .ok (.goto (-22), 3) := by decide +kernel
theorem dJ2_getChars_a1a8b_41 : decode cJ2_getChars_a1a8b 41 = .ok (.return_, 1) := by decide +kernel
theorem dJ2_checkBoundsOffCount_d044e_0 : decode cJ2_checkBoundsOffCount_d044e 0 = .ok (.iload_n 0, 1) := by decide +kernel
theorem dJ2_checkBoundsOffCount_d044e_1 : decode cJ2_checkBoundsOffCount_d044e 1 = .ok (.iload_n 1, 1) := by decide +kernel
theorem dJ2_checkBoundsOffCount_d044e_2 : decode cJ2_checkBoundsOffCount_d044e 2 = .ok (.aload_n 2, 1) := by decide +kernel
theorem dJ2_checkBoundsOffCount_d044e_3 : decode cJ2_checkBoundsOffCount_d044e 3 = .ok (.invokestatic 48, 3) := by decide +kernel
theorem dJ2_checkBoundsOffCount_d044e_6 : decode cJ2_checkBoundsOffCount_d044e 6 = .ok (.invokestatic 419, 3) := by decide +kernel
theorem dJ2_checkBoundsOffCount_d044e_9 : decode cJ2_checkBoundsOffCount_d044e 9 = .ok (.pop, 1) := by decide +kernel
theorem dJ2_checkBoundsOffCount_d044e_10 : decode cJ2_checkBoundsOffCount_d044e 10 = .ok (.return_, 1) := by decide +kernel
theorem dJ7_copyOf_59c91_0 : decode cJ7_copyOf_59c91 0 = .ok (.iload_n 1, 1) := by decide +kernel
theorem dJ7_copyOf_59c91_1 : decode cJ7_copyOf_59c91 1 = .ok (.aload_n 0, 1) := by decide +kernel
theorem dJ7_copyOf_59c91_2 : decode cJ7_copyOf_59c91 2 = .ok (.arraylength, 1) := by decide +kernel
theorem dJ7_copyOf_59c91_3 : decode cJ7_copyOf_59c91 3 = .ok (.if_icmp .ne 11, 3) := by decide +kernel
theorem dJ7_copyOf_59c91_6 : decode cJ7_copyOf_59c91 6 = .ok (.aload_n 0, 1) := by decide +kernel
theorem dJ7_copyOf_59c91_7 : decode cJ7_copyOf_59c91 7 = .ok (.invokevirtual 316, 3) := by decide +kernel
theorem dJ7_copyOf_59c91_10 : decode cJ7_copyOf_59c91 10 = .ok (.checkcast 317, 3) := by decide +kernel
theorem dJ7_copyOf_59c91_13 : decode cJ7_copyOf_59c91 13 = .ok (.areturn, 1) := by decide +kernel
theorem dJ7_copyOf_59c91_14 : decode cJ7_copyOf_59c91 14 = .ok (.iload_n 1, 1) := by decide +kernel
theorem dJ7_copyOf_59c91_15 : decode cJ7_copyOf_59c91 15 = .ok (.newarray .int, 2) := by decide +kernel
theorem dJ7_copyOf_59c91_17 : decode cJ7_copyOf_59c91 17 = .ok (.astore_n 2, 1) := by decide +kernel
theorem dJ7_copyOf_59c91_18 : decode cJ7_copyOf_59c91 18 = .ok (.aload_n 0, 1) := by decide +kernel
theorem dJ7_copyOf_59c91_19 : decode cJ7_copyOf_59c91 19 = .ok (.iconst 0, 1) := by decide +kernel
theorem dJ7_copyOf_59c91_20 : decode cJ7_copyOf_59c91 20 = .ok (.aload_n 2, 1) := by decide +kernel
theorem dJ7_copyOf_59c91_21 : decode cJ7_copyOf_59c91 21 = .ok (.iconst 0, 1) := by decide +kernel
theorem dJ7_copyOf_59c91_22 : decode cJ7_copyOf_59c91 22 = .ok (.aload_n 0, 1) := by decide +kernel
theorem dJ7_copyOf_59c91_23 : decode cJ7_copyOf_59c91 23 = .ok (.arraylength, 1) := by decide +kernel
theorem dJ7_copyOf_59c91_24 : decode cJ7_copyOf_59c91 24 = .ok (.iload_n 1, 1) := by decide +kernel
theorem dJ7_copyOf_59c91_25 : decode cJ7_copyOf_59c91 25 = .ok (.invokestatic 304, 3) := by decide +kernel
theorem dJ7_copyOf_59c91_28 : decode cJ7_copyOf_59c91 28 = .ok (.invokestatic 150, 3) := by decide +kernel
theorem dJ7_copyOf_59c91_31 : decode cJ7_copyOf_59c91 31 = .ok (.aload_n 2, 1) := by decide +kernel
theorem dJ7_copyOf_59c91_32 : decode cJ7_copyOf_59c91 32 = .ok (.areturn, 1) := by decide +kernel
theorem dJ3_checkFromIndexSize_8c36e_0 : decode cJ3_checkFromIndexSize_8c36e 0 = .ok (.iload_n 2, 1) := by decide +kernel
theorem dJ3_checkFromIndexSize_8c36e_1 : decode cJ3_checkFromIndexSize_8c36e 1 = .ok (.iload_n 0, 1) := by decide +kernel
theorem dJ3_checkFromIndexSize_8c36e_2 : decode cJ3_checkFromIndexSize_8c36e 2 = .ok (.ior, 1) := by decide +kernel
theorem dJ3_checkFromIndexSize_8c36e_3 : decode cJ3_checkFromIndexSize_8c36e 3 = .ok (.iload_n 1, 1) := by decide +kernel
theorem dJ3_checkFromIndexSize_8c36e_4 : decode cJ3_checkFromIndexSize_8c36e 4 = .ok (.ior, 1) := by decide +kernel
theorem dJ3_checkFromIndexSize_8c36e_5 : decode cJ3_checkFromIndexSize_8c36e 5 = .ok (.ifCond .lt 10, 3) := by decide +kernel
theorem dJ3_checkFromIndexSize_8c36e_8 : decode cJ3_checkFromIndexSize_8c36e 8 = .ok (.iload_n 1, 1) := by decide +kernel
theorem dJ3_checkFromIndexSize_8c36e_9 : decode cJ3_checkFromIndexSize_8c36e 9 = .ok (.iload_n 2, 1) := by decide +kernel
theorem dJ3_checkFromIndexSize_8c36e_10 : decode cJ3_checkFromIndexSize_8c36e 10 = .ok (.iload_n 0, 1) := by decide +kernel
theorem dJ3_checkFromIndexSize_8c36e_11 : decode cJ3_checkFromIndexSize_8c36e 11 = .ok (.isub, 1) := by decide +kernel
theorem dJ3_checkFromIndexSize_8c36e_12 : decode cJ3_checkFromIndexSize_8c36e 12 = .ok (.if_icmp .le 11, 3) := by decide +kernel
theorem dJ3_checkFromIndexSize_8c36e_15 : decode cJ3_checkFromIndexSize_8c36e 15 = .ok (.aload_n 3, 1) := by decide +kernel
theorem dJ3_checkFromIndexSize_8c36e_16 : decode cJ3_checkFromIndexSize_8c36e 16 = .ok (.iload_n 0, 1) := by decide +kernel
theorem dJ3_checkFromIndexSize_8c36e_17 : decode cJ3_checkFromIndexSize_8c36e 17 = .ok (.iload_n 1, 1) := by decide +kernel
theorem dJ3_checkFromIndexSize_8c36e_18 : decode cJ3_checkFromIndexSize_8c36e 18 = .ok (.iload_n 2, 1) := by decide +kernel
theorem dJ3_checkFromIndexSize_8c36e_19 : decode cJ3_checkFromIndexSize_8c36e 19 = .ok (.invokestatic 103, 3) := by decide +kernel
theorem dJ3_checkFromIndexSize_8c36e_22 : decode cJ3_checkFromIndexSize_8c36e 22 = .ok (.athrow, 1) := by decide +kernel
theorem dJ3_checkFromIndexSize_8c36e_23 : decode cJ3_checkFromIndexSize_8c36e 23 = .ok (.iload_n 0, 1) := by decide +kernel
theorem dJ3_checkFromIndexSize_8c36e_24 : decode cJ3_checkFromIndexSize_8c36e 24 = .ok (.ireturn, 1) := by decide +kernel
theorem dL_law_0 : decode cL_law 0 = .ok (.new 7, 3) := by decide +kernel
theorem dL_law_3 : decode cL_law 3 = .ok (.dup, 1) := by decide +kernel
theorem dL_law_4 : decode cL_law 4 = .ok (.invokespecial 9, 3) := by decide +kernel
theorem dL_law_7 : decode cL_law 7 = .ok (.astore_n 1, 1) := by decide +kernel
theorem dL_law_8 : decode cL_law 8 = .ok (.new 10, 3) := by decide +kernel
theorem dL_law_11 : decode cL_law 11 = .ok (.dup, 1) := by decide +kernel
theorem dL_law_12 : decode cL_law 12 = .ok (.invokespecial 12, 3) := by decide +kernel
theorem dL_law_15 : decode cL_law 15 = .ok (.astore_n 2, 1) := by decide +kernel
theorem dL_law_16 : decode cL_law 16 = .ok (.iconst 0, 1) := by decide +kernel
theorem dL_law_17 : decode cL_law 17 = .ok (.istore_n 3, 1) := by decide +kernel
theorem dL_law_18 : decode cL_law 18 = .ok (.iload_n 3, 1) := by decide +kernel
theorem dL_law_19 : decode cL_law 19 = .ok (.aload_n 0, 1) := by decide +kernel
theorem dL_law_20 : decode cL_law 20 = .ok (.arraylength, 1) := by decide +kernel
theorem dL_law_21 : decode cL_law 21 = .ok (.iconst 4, 1) := by decide +kernel
theorem dL_law_22 : decode cL_law 22 = .ok (.isub, 1) := by decide +kernel
theorem dL_law_23 : decode cL_law 23 = .ok (.if_icmp .gt 220, 3) := by decide +kernel
theorem dL_law_26 : decode cL_law 26 = .ok (.aload_n 0, 1) := by decide +kernel
theorem dL_law_27 : decode cL_law 27 = .ok (.iload_n 3, 1) := by decide +kernel
theorem dL_law_28 : decode cL_law 28 = .ok (.iaload, 1) := by decide +kernel
theorem dL_law_29 : decode cL_law 29 = .ok (.bipush 7, 2) := by decide +kernel
theorem dL_law_31 : decode cL_law 31 = .ok (.iand, 1) := by decide +kernel
theorem dL_law_32 : decode cL_law 32 = .ok (.tableswitch 205 0 6 #[44, 107, 120, 133, 156, 179, 192], 44) := by decide +kernel
theorem dL_law_76 : decode cL_law 76 = .ok (.aload_n 1, 1) := by decide +kernel
theorem dL_law_77 : decode cL_law 77 = .ok (.aload_n 0, 1) := by decide +kernel
theorem dL_law_78 : decode cL_law 78 = .ok (.iload_n 3, 1) := by decide +kernel
theorem dL_law_79 : decode cL_law 79 = .ok (.iconst 1, 1) := by decide +kernel
theorem dL_law_80 : decode cL_law 80 = .ok (.iadd, 1) := by decide +kernel
theorem dL_law_81 : decode cL_law 81 = .ok (.iaload, 1) := by decide +kernel
theorem dL_law_82 : decode cL_law 82 = .ok (.i2l, 1) := by decide +kernel
theorem dL_law_83 : decode cL_law 83 = .ok (.bipush 32, 2) := by decide +kernel
theorem dL_law_85 : decode cL_law 85 = .ok (.lshl, 1) := by decide +kernel
theorem dL_law_86 : decode cL_law 86 = .ok (.aload_n 0, 1) := by decide +kernel
theorem dL_law_87 : decode cL_law 87 = .ok (.iload_n 3, 1) := by decide +kernel
theorem dL_law_88 : decode cL_law 88 = .ok (.iconst 2, 1) := by decide +kernel
theorem dL_law_89 : decode cL_law 89 = .ok (.iadd, 1) := by decide +kernel
theorem dL_law_90 : decode cL_law 90 = .ok (.iaload, 1) := by decide +kernel
theorem dL_law_91 : decode cL_law 91 = .ok (.i2l, 1) := by decide +kernel
theorem dL_law_92 : decode cL_law 92 = .ok (.ldc2_w 13, 3) := by decide +kernel
theorem dL_law_95 : decode cL_law 95 = .ok (.land, 1) := by decide +kernel
theorem dL_law_96 : decode cL_law 96 = .ok (.lor, 1) := by decide +kernel
theorem dL_law_97 : decode cL_law 97 = .ok (.aload_n 0, 1) := by decide +kernel
theorem dL_law_98 : decode cL_law 98 = .ok (.iload_n 3, 1) := by decide +kernel
theorem dL_law_99 : decode cL_law 99 = .ok (.iconst 3, 1) := by decide +kernel
theorem dL_law_100 : decode cL_law 100 = .ok (.iadd, 1) := by decide +kernel
theorem dL_law_101 : decode cL_law 101 = .ok (.iaload, 1) := by decide +kernel
theorem dL_law_102 : decode cL_law 102 = .ok (.invokevirtual 15, 3) := by decide +kernel
theorem dL_law_105 : decode cL_law 105 = .ok (.aload_n 2, 1) := by decide +kernel
theorem dL_law_106 : decode cL_law 106 = .ok (.aload_n 0, 1) := by decide +kernel
theorem dL_law_107 : decode cL_law 107 = .ok (.iload_n 3, 1) := by decide +kernel
theorem dL_law_108 : decode cL_law 108 = .ok (.iconst 1, 1) := by decide +kernel
theorem dL_law_109 : decode cL_law 109 = .ok (.iadd, 1) := by decide +kernel
theorem dL_law_110 : decode cL_law 110 = .ok (.iaload, 1) := by decide +kernel
theorem dL_law_111 : decode cL_law 111 = .ok (.i2l, 1) := by decide +kernel
theorem dL_law_112 : decode cL_law 112 = .ok (.bipush 32, 2) := by decide +kernel
theorem dL_law_114 : decode cL_law 114 = .ok (.lshl, 1) := by decide +kernel
theorem dL_law_115 : decode cL_law 115 = .ok (.aload_n 0, 1) := by decide +kernel
theorem dL_law_116 : decode cL_law 116 = .ok (.iload_n 3, 1) := by decide +kernel
theorem dL_law_117 : decode cL_law 117 = .ok (.iconst 2, 1) := by decide +kernel
theorem dL_law_118 : decode cL_law 118 = .ok (.iadd, 1) := by decide +kernel
theorem dL_law_119 : decode cL_law 119 = .ok (.iaload, 1) := by decide +kernel
theorem dL_law_120 : decode cL_law 120 = .ok (.i2l, 1) := by decide +kernel
theorem dL_law_121 : decode cL_law 121 = .ok (.ldc2_w 13, 3) := by decide +kernel
theorem dL_law_124 : decode cL_law 124 = .ok (.land, 1) := by decide +kernel
theorem dL_law_125 : decode cL_law 125 = .ok (.lor, 1) := by decide +kernel
theorem dL_law_126 : decode cL_law 126 = .ok (.aload_n 0, 1) := by decide +kernel
theorem dL_law_127 : decode cL_law 127 = .ok (.iload_n 3, 1) := by decide +kernel
theorem dL_law_128 : decode cL_law 128 = .ok (.iconst 3, 1) := by decide +kernel
theorem dL_law_129 : decode cL_law 129 = .ok (.iadd, 1) := by decide +kernel
theorem dL_law_130 : decode cL_law 130 = .ok (.iaload, 1) := by decide +kernel
theorem dL_law_131 : decode cL_law 131 = .ok (.invokevirtual 19, 3) := by decide +kernel
theorem dL_law_134 : decode cL_law 134 = .ok (.if_icmp .eq 103, 3) := by decide +kernel
theorem dL_law_137 : decode cL_law 137 = .ok (.iconst 0, 1) := by decide +kernel
theorem dL_law_138 : decode cL_law 138 = .ok (.ireturn, 1) := by decide +kernel
theorem dL_law_139 : decode cL_law 139 = .ok (.aload_n 1, 1) := by decide +kernel
theorem dL_law_140 : decode cL_law 140 = .ok (.invokevirtual 20, 3) := by decide +kernel
theorem dL_law_143 : decode cL_law 143 = .ok (.pop, 1) := by decide +kernel
theorem dL_law_144 : decode cL_law 144 = .ok (.aload_n 2, 1) := by decide +kernel
theorem dL_law_145 : decode cL_law 145 = .ok (.invokevirtual 24, 3) := by decide +kernel
theorem dL_law_148 : decode cL_law 148 = .ok (.pop, 1) := by decide +kernel
theorem dL_law_149 : decode cL_law 149 = .ok (.goto 88, 3) := by decide +kernel
theorem dL_law_152 : decode cL_law 152 = .ok (.aload_n 1, 1) := by decide +kernel
theorem dL_law_153 : decode cL_law 153 = .ok (.invokevirtual 25, 3) := by decide +kernel
theorem dL_law_156 : decode cL_law 156 = .ok (.pop, 1) := by decide +kernel
theorem dL_law_157 : decode cL_law 157 = .ok (.aload_n 2, 1) := by decide +kernel
theorem dL_law_158 : decode cL_law 158 = .ok (.invokevirtual 28, 3) := by decide +kernel
theorem dL_law_161 : decode cL_law 161 = .ok (.pop, 1) := by decide +kernel
theorem dL_law_162 : decode cL_law 162 = .ok (.goto 75, 3) := by decide +kernel
theorem dL_law_165 : decode cL_law 165 = .ok (.aload_n 1, 1) := by decide +kernel
theorem dL_law_166 : decode cL_law 166 = .ok (.aload_n 0, 1) := by decide +kernel
theorem dL_law_167 : decode cL_law 167 = .ok (.iload_n 3, 1) := by decide +kernel
theorem dL_law_168 : decode cL_law 168 = .ok (.iconst 1, 1) := by decide +kernel
theorem dL_law_169 : decode cL_law 169 = .ok (.iadd, 1) := by decide +kernel
theorem dL_law_170 : decode cL_law 170 = .ok (.iaload, 1) := by decide +kernel
theorem dL_law_171 : decode cL_law 171 = .ok (.invokevirtual 29, 3) := by decide +kernel
theorem dL_law_174 : decode cL_law 174 = .ok (.pop, 1) := by decide +kernel
theorem dL_law_175 : decode cL_law 175 = .ok (.aload_n 2, 1) := by decide +kernel
theorem dL_law_176 : decode cL_law 176 = .ok (.aload_n 0, 1) := by decide +kernel
theorem dL_law_177 : decode cL_law 177 = .ok (.iload_n 3, 1) := by decide +kernel
theorem dL_law_178 : decode cL_law 178 = .ok (.iconst 1, 1) := by decide +kernel
theorem dL_law_179 : decode cL_law 179 = .ok (.iadd, 1) := by decide +kernel
theorem dL_law_180 : decode cL_law 180 = .ok (.iaload, 1) := by decide +kernel
theorem dL_law_181 : decode cL_law 181 = .ok (.invokevirtual 33, 3) := by decide +kernel
theorem dL_law_184 : decode cL_law 184 = .ok (.pop, 1) := by decide +kernel
theorem dL_law_185 : decode cL_law 185 = .ok (.goto 52, 3) := by decide +kernel
theorem dL_law_188 : decode cL_law 188 = .ok (.aload_n 1, 1) := by decide +kernel
theorem dL_law_189 : decode cL_law 189 = .ok (.aload_n 0, 1) := by decide +kernel
theorem dL_law_190 : decode cL_law 190 = .ok (.iload_n 3, 1) := by decide +kernel
theorem dL_law_191 : decode cL_law 191 = .ok (.iconst 1, 1) := by decide +kernel
theorem dL_law_192 : decode cL_law 192 = .ok (.iadd, 1) := by decide +kernel
theorem dL_law_193 : decode cL_law 193 = .ok (.iaload, 1) := by decide +kernel
theorem dL_law_194 : decode cL_law 194 = .ok (.invokevirtual 34, 3) := by decide +kernel
theorem dL_law_197 : decode cL_law 197 = .ok (.pop, 1) := by decide +kernel
theorem dL_law_198 : decode cL_law 198 = .ok (.aload_n 2, 1) := by decide +kernel
theorem dL_law_199 : decode cL_law 199 = .ok (.aload_n 0, 1) := by decide +kernel
theorem dL_law_200 : decode cL_law 200 = .ok (.iload_n 3, 1) := by decide +kernel
theorem dL_law_201 : decode cL_law 201 = .ok (.iconst 1, 1) := by decide +kernel
theorem dL_law_202 : decode cL_law 202 = .ok (.iadd, 1) := by decide +kernel
theorem dL_law_203 : decode cL_law 203 = .ok (.iaload, 1) := by decide +kernel
theorem dL_law_204 : decode cL_law 204 = .ok (.invokevirtual 37, 3) := by decide +kernel
theorem dL_law_207 : decode cL_law 207 = .ok (.pop, 1) := by decide +kernel
theorem dL_law_208 : decode cL_law 208 = .ok (.goto 29, 3) := by decide +kernel
theorem dL_law_211 : decode cL_law 211 = .ok (.aload_n 1, 1) := by decide +kernel
theorem dL_law_212 : decode cL_law 212 = .ok (.invokevirtual 38, 3) := by decide +kernel
theorem dL_law_215 : decode cL_law 215 = .ok (.pop, 1) := by decide +kernel
theorem dL_law_216 : decode cL_law 216 = .ok (.aload_n 2, 1) := by decide +kernel
theorem dL_law_217 : decode cL_law 217 = .ok (.invokevirtual 41, 3) := by decide +kernel
theorem dL_law_220 : decode cL_law 220 = .ok (.pop, 1) := by decide +kernel
theorem dL_law_221 : decode cL_law 221 = .ok (.goto 16, 3) := by decide +kernel
theorem dL_law_224 : decode cL_law 224 = .ok (.aload_n 1, 1) := by decide +kernel
theorem dL_law_225 : decode cL_law 225 = .ok (.invokevirtual 42, 3) := by decide +kernel
theorem dL_law_228 : decode cL_law 228 = .ok (.pop, 1) := by decide +kernel
theorem dL_law_229 : decode cL_law 229 = .ok (.aload_n 2, 1) := by decide +kernel
theorem dL_law_230 : decode cL_law 230 = .ok (.invokevirtual 45, 3) := by decide +kernel
theorem dL_law_233 : decode cL_law 233 = .ok (.pop, 1) := by decide +kernel
theorem dL_law_234 : decode cL_law 234 = .ok (.goto 3, 3) := by decide +kernel
theorem dL_law_237 : decode cL_law 237 = .ok (.iinc 3 4, 3) := by decide +kernel
theorem dL_law_240 : decode cL_law 240 = .ok (.goto (-222), 3) := by decide +kernel
theorem dL_law_243 : decode cL_law 243 = .ok (.iconst 1, 1) := by decide +kernel
theorem dL_law_244 : decode cL_law 244 = .ok (.ireturn, 1) := by decide +kernel

