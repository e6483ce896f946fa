theorem dX0_init_0 : decode cX0_init 0 = .ok (.aload_n 0, 1) := by decide +kernel
theorem dX0_init_1 : decode cX0_init 1 = .ok (.iconst 2, 1) := by decide +kernel
theorem dX0_init_2 : decode cX0_init 2 = .ok (.iload_n 1, 1) := by decide +kernel
theorem dX0_init_3 : decode cX0_init 3 = .ok (.iload_n 2, 1) := by decide +kernel
theorem dX0_init_4 : decode cX0_init 4 = .ok (.invokespecial 3, 3) := by decide +kernel
theorem dX0_init_7 : decode cX0_init 7 = .ok (.aload_n 0, 1) := by decide +kernel
theorem dX0_init_8 : decode cX0_init 8 = .ok (.iload_n 3, 1) := by decide +kernel
theorem dX0_init_9 : decode cX0_init 9 = .ok (.putfield 9, 3) := by decide +kernel
theorem dX0_init_12 : decode cX0_init 12 = .ok (.return_, 1) := by decide +kernel
theorem dX0_mayBeAsked_0 : decode cX0_mayBeAsked 0 = .ok (.iload_n 1, 1) := by decide +kernel
theorem dX0_mayBeAsked_1 : decode cX0_mayBeAsked 1 = .ok (.ifCond .ne 20, 3) := by decide +kernel
theorem dX0_mayBeAsked_4 : decode cX0_mayBeAsked 4 = .ok (.iload_n 2, 1) := by decide +kernel
theorem dX0_mayBeAsked_5 : decode cX0_mayBeAsked 5 = .ok (.iconst 1, 1) := by decide +kernel
theorem dX0_mayBeAsked_6 : decode cX0_mayBeAsked 6 = .ok (.if_icmp .lt 15, 3) := by decide +kernel
theorem dX0_mayBeAsked_9 : decode cX0_mayBeAsked 9 = .ok (.iload_n 2, 1) := by decide +kernel
theorem dX0_mayBeAsked_10 : decode cX0_mayBeAsked 10 = .ok (.aload_n 0, 1) := by decide +kernel
theorem dX0_mayBeAsked_11 : decode cX0_mayBeAsked 11 = .ok (.getfield 9, 3) := by decide +kernel
theorem dX0_mayBeAsked_14 : decode cX0_mayBeAsked 14 = .ok (.if_icmp .gt 7, 3) := by decide +kernel
theorem dX0_mayBeAsked_17 : decode cX0_mayBeAsked 17 = .ok (.iconst 1, 1) := by decide +kernel
theorem dX0_mayBeAsked_18 : decode cX0_mayBeAsked 18 = .ok (.goto 4, 3) := by decide +kernel
theorem dX0_mayBeAsked_21 : decode cX0_mayBeAsked 21 = .ok (.iconst 0, 1) := by decide +kernel
theorem dX0_mayBeAsked_22 : decode cX0_mayBeAsked 22 = .ok (.ireturn, 1) := by decide +kernel
theorem dX0_fits_0 : decode cX0_fits 0 = .ok (.iload_n 3, 1) := by decide +kernel
theorem dX0_fits_1 : decode cX0_fits 1 = .ok (.istore 4, 2) := by decide +kernel
theorem dX0_fits_3 : decode cX0_fits 3 = .ok (.iconst 0, 1) := by decide +kernel
theorem dX0_fits_4 : decode cX0_fits 4 = .ok (.istore 5, 2) := by decide +kernel
theorem dX0_fits_6 : decode cX0_fits 6 = .ok (.iload 5, 2) := by decide +kernel
theorem dX0_fits_8 : decode cX0_fits 8 = .ok (.aload_n 0, 1) := by decide +kernel
theorem dX0_fits_9 : decode cX0_fits 9 = .ok (.getfield 15, 3) := by decide +kernel
theorem dX0_fits_12 : decode cX0_fits 12 = .ok (.invokevirtual 19, 3) := by decide +kernel
theorem dX0_fits_15 : decode cX0_fits 15 = .ok (.if_icmp .ge 29, 3) := by decide +kernel
theorem dX0_fits_18 : decode cX0_fits 18 = .ok (.iload 4, 2) := by decide +kernel
theorem dX0_fits_20 : decode cX0_fits 20 = .ok (.aload_n 0, 1) := by decide +kernel
theorem dX0_fits_21 : decode cX0_fits 21 = .ok (.getfield 15, 3) := by decide +kernel
theorem dX0_fits_24 : decode cX0_fits 24 = .ok (.iload 5, 2) := by decide +kernel
theorem dX0_fits_26 : decode cX0_fits 26 = .ok (.invokevirtual 25, 3) := by decide +kernel
theorem dX0_fits_29 : decode cX0_fits 29 = .ok (.checkcast 29, 3) := by decide +kernel
theorem dX0_fits_32 : decode cX0_fits 32 = .ok (.getfield 31, 3) := by decide +kernel
theorem dX0_fits_35 : decode cX0_fits 35 = .ok (.iadd, 1) := by decide +kernel
theorem dX0_fits_36 : decode cX0_fits 36 = .ok (.istore 4, 2) := by decide +kernel
theorem dX0_fits_38 : decode cX0_fits 38 = .ok (.iinc 5 1, 3) := by decide +kernel
theorem dX0_fits_41 : decode cX0_fits 41 = .ok (.goto (-35), 3) := by decide +kernel
theorem dX0_fits_44 : decode cX0_fits 44 = .ok (.iload 4, 2) := by decide +kernel
theorem dX0_fits_46 : decode cX0_fits 46 = .ok (.aload_n 0, 1) := by decide +kernel
theorem dX0_fits_47 : decode cX0_fits 47 = .ok (.getfield 9, 3) := by decide +kernel
theorem dX0_fits_50 : decode cX0_fits 50 = .ok (.if_icmp .gt 7, 3) := by decide +kernel
theorem dX0_fits_53 : decode cX0_fits 53 = .ok (.iconst 1, 1) := by decide +kernel
theorem dX0_fits_54 : decode cX0_fits 54 = .ok (.goto 4, 3) := by decide +kernel
theorem dX0_fits_57 : decode cX0_fits 57 = .ok (.iconst 0, 1) := by decide +kernel
theorem dX0_fits_58 : decode cX0_fits 58 = .ok (.ireturn, 1) := by decide +kernel
theorem dX1_init_0 : decode cX1_init 0 = .ok (.aload_n 0, 1) := by decide +kernel
theorem dX1_init_1 : decode cX1_init 1 = .ok (.invokespecial 1, 3) := by decide +kernel
theorem dX1_init_4 : decode cX1_init 4 = .ok (.aload_n 0, 1) := by decide +kernel
theorem dX1_init_5 : decode cX1_init 5 = .ok (.lconst 0, 1) := by decide +kernel
theorem dX1_init_6 : decode cX1_init 6 = .ok (.putfield 7, 3) := by decide +kernel
theorem dX1_init_9 : decode cX1_init 9 = .ok (.aload_n 0, 1) := by decide +kernel
theorem dX1_init_10 : decode cX1_init 10 = .ok (.lconst 0, 1) := by decide +kernel
theorem dX1_init_11 : decode cX1_init 11 = .ok (.putfield 13, 3) := by decide +kernel
theorem dX1_init_14 : decode cX1_init 14 = .ok (.aload_n 0, 1) := by decide +kernel
theorem dX1_init_15 : decode cX1_init 15 = .ok (.iload_n 1, 1) := by decide +kernel
theorem dX1_init_16 : decode cX1_init 16 = .ok (.putfield 16, 3) := by decide +kernel
theorem dX1_init_19 : decode cX1_init 19 = .ok (.aload_n 0, 1) := by decide +kernel
theorem dX1_init_20 : decode cX1_init 20 = .ok (.iload_n 2, 1) := by decide +kernel
theorem dX1_init_21 : decode cX1_init 21 = .ok (.putfield 20, 3) := by decide +kernel
theorem dX1_init_24 : decode cX1_init 24 = .ok (.aload_n 0, 1) := by decide +kernel
theorem dX1_init_25 : decode cX1_init 25 = .ok (.iload_n 3, 1) := by decide +kernel
theorem dX1_init_26 : decode cX1_init 26 = .ok (.putfield 23, 3) := by decide +kernel
theorem dX1_init_29 : decode cX1_init 29 = .ok (.return_, 1) := by decide +kernel
theorem dX2_init_0 : decode cX2_init 0 = .ok (.aload_n 0, 1) := by decide +kernel
theorem dX2_init_1 : decode cX2_init 1 = .ok (.invokespecial 3, 3) := by decide +kernel
theorem dX2_init_4 : decode cX2_init 4 = .ok (.aload_n 0, 1) := by decide +kernel
theorem dX2_init_5 : decode cX2_init 5 = .ok (.iconst 0, 1) := by decide +kernel
theorem dX2_init_6 : decode cX2_init 6 = .ok (.putfield 9, 3) := by decide +kernel
theorem dX2_init_9 : decode cX2_init 9 = .ok (.aload_n 0, 1) := by decide +kernel
theorem dX2_init_10 : decode cX2_init 10 = .ok (.iconst 0, 1) := by decide +kernel
theorem dX2_init_11 : decode cX2_init 11 = .ok (.putfield 15, 3) := by decide +kernel
theorem dX2_init_14 : decode cX2_init 14 = .ok (.aload_n 0, 1) := by decide +kernel
theorem dX2_init_15 : decode cX2_init 15 = .ok (.lconst 0, 1) := by decide +kernel
theorem dX2_init_16 : decode cX2_init 16 = .ok (.putfield 18, 3) := by decide +kernel
theorem dX2_init_19 : decode cX2_init 19 = .ok (.aload_n 0, 1) := by decide +kernel
theorem dX2_init_20 : decode cX2_init 20 = .ok (.iconst 0, 1) := by decide +kernel
theorem dX2_init_21 : decode cX2_init 21 = .ok (.putfield 22, 3) := by decide +kernel
theorem dX2_init_24 : decode cX2_init 24 = .ok (.aload_n 0, 1) := by decide +kernel
theorem dX2_init_25 : decode cX2_init 25 = .ok (.lconst 0, 1) := by decide +kernel
theorem dX2_init_26 : decode cX2_init 26 = .ok (.putfield 25, 3) := by decide +kernel
theorem dX2_init_29 : decode cX2_init 29 = .ok (.aload_n 0, 1) := by decide +kernel
theorem dX2_init_30 : decode cX2_init 30 = .ok (.iconst 0, 1) := by decide +kernel
theorem dX2_init_31 : decode cX2_init 31 = .ok (.putfield 28, 3) := by decide +kernel
theorem dX2_init_34 : decode cX2_init 34 = .ok (.aload_n 0, 1) := by decide +kernel
theorem dX2_init_35 : decode cX2_init 35 = .ok (.iload_n 1, 1) := by decide +kernel
theorem dX2_init_36 : decode cX2_init 36 = .ok (.putfield 31, 3) := by decide +kernel
theorem dX2_init_39 : decode cX2_init 39 = .ok (.aload_n 0, 1) := by decide +kernel
theorem dX2_init_40 : decode cX2_init 40 = .ok (.iload_n 2, 1) := by decide +kernel
theorem dX2_init_41 : decode cX2_init 41 = .ok (.putfield 34, 3) := by decide +kernel
theorem dX2_init_44 : decode cX2_init 44 = .ok (.aload_n 0, 1) := by decide +kernel
theorem dX2_init_45 : decode cX2_init 45 = .ok (.iload_n 3, 1) := by decide +kernel
theorem dX2_init_46 : decode cX2_init 46 = .ok (.putfield 37, 3) := by decide +kernel
theorem dX2_init_49 : decode cX2_init 49 = .ok (.aload_n 0, 1) := by decide +kernel
theorem dX2_init_50 : decode cX2_init 50 = .ok (.iload 4, 2) := by decide +kernel
theorem dX2_init_52 : decode cX2_init 52 = .ok (.putfield 40, 3) := by decide +kernel
theorem dX2_init_55 : decode cX2_init 55 = .ok (.return_, 1) := by decide +kernel
theorem dX2_isToKeeper_0 : decode cX2_isToKeeper 0 = .ok (.aload_n 0, 1) := by decide +kernel
theorem dX2_isToKeeper_1 : decode cX2_isToKeeper 1 = .ok (.getfield 31, 3) := by decide +kernel
theorem dX2_isToKeeper_4 : decode cX2_isToKeeper 4 = .ok (.iconst 3, 1) := by decide +kernel
theorem dX2_isToKeeper_5 : decode cX2_isToKeeper 5 = .ok (.if_icmp .gt 7, 3) := by decide +kernel
theorem dX2_isToKeeper_8 : decode cX2_isToKeeper 8 = .ok (.iconst 1, 1) := by decide +kernel
theorem dX2_isToKeeper_9 : decode cX2_isToKeeper 9 = .ok (.goto 4, 3) := by decide +kernel
theorem dX2_isToKeeper_12 : decode cX2_isToKeeper 12 = .ok (.iconst 0, 1) := by decide +kernel
theorem dX2_isToKeeper_13 : decode cX2_isToKeeper 13 = .ok (.ireturn, 1) := by decide +kernel
theorem dX2_takeMarkOf_0 : decode cX2_takeMarkOf 0 = .ok (.aload_n 0, 1) := by decide +kernel
theorem dX2_takeMarkOf_1 : decode cX2_takeMarkOf 1 = .ok (.aload_n 1, 1) := by decide +kernel
theorem dX2_takeMarkOf_2 : decode cX2_takeMarkOf 2 = .ok (.getfield 22, 3) := by decide +kernel
theorem dX2_takeMarkOf_5 : decode cX2_takeMarkOf 5 = .ok (.putfield 22, 3) := by decide +kernel
theorem dX2_takeMarkOf_8 : decode cX2_takeMarkOf 8 = .ok (.aload_n 0, 1) := by decide +kernel
theorem dX2_takeMarkOf_9 : decode cX2_takeMarkOf 9 = .ok (.aload_n 1, 1) := by decide +kernel
theorem dX2_takeMarkOf_10 : decode cX2_takeMarkOf 10 = .ok (.getfield 25, 3) := by decide +kernel
theorem dX2_takeMarkOf_13 : decode cX2_takeMarkOf 13 = .ok (.putfield 25, 3) := by decide +kernel
theorem dX2_takeMarkOf_16 : decode cX2_takeMarkOf 16 = .ok (.return_, 1) := by decide +kernel
theorem dX2_fill_0 : decode cX2_fill 0 = .ok (.aload_n 0, 1) := by decide +kernel
theorem dX2_fill_1 : decode cX2_fill 1 = .ok (.iload_n 1, 1) := by decide +kernel
theorem dX2_fill_2 : decode cX2_fill 2 = .ok (.putfield 9, 3) := by decide +kernel
theorem dX2_fill_5 : decode cX2_fill 5 = .ok (.aload_n 0, 1) := by decide +kernel
theorem dX2_fill_6 : decode cX2_fill 6 = .ok (.iload_n 2, 1) := by decide +kernel
theorem dX2_fill_7 : decode cX2_fill 7 = .ok (.putfield 15, 3) := by decide +kernel
theorem dX2_fill_10 : decode cX2_fill 10 = .ok (.aload_n 0, 1) := by decide +kernel
theorem dX2_fill_11 : decode cX2_fill 11 = .ok (.lload_n 3, 1) := by decide +kernel
theorem dX2_fill_12 : decode cX2_fill 12 = .ok (.putfield 18, 3) := by decide +kernel
theorem dX2_fill_15 : decode cX2_fill 15 = .ok (.return_, 1) := by decide +kernel
theorem dX3_init_0 : decode cX3_init 0 = .ok (.aload_n 0, 1) := by decide +kernel
theorem dX3_init_1 : decode cX3_init 1 = .ok (.invokespecial 1, 3) := by decide +kernel
theorem dX3_init_4 : decode cX3_init 4 = .ok (.aload_n 0, 1) := by decide +kernel
theorem dX3_init_5 : decode cX3_init 5 = .ok (.iconst 0, 1) := by decide +kernel
theorem dX3_init_6 : decode cX3_init 6 = .ok (.putfield 7, 3) := by decide +kernel
theorem dX3_init_9 : decode cX3_init 9 = .ok (.aload_n 0, 1) := by decide +kernel
theorem dX3_init_10 : decode cX3_init 10 = .ok (.iconst 0, 1) := by decide +kernel
theorem dX3_init_11 : decode cX3_init 11 = .ok (.putfield 13, 3) := by decide +kernel
theorem dX3_init_14 : decode cX3_init 14 = .ok (.aload_n 0, 1) := by decide +kernel
theorem dX3_init_15 : decode cX3_init 15 = .ok (.iconst 0, 1) := by decide +kernel
theorem dX3_init_16 : decode cX3_init 16 = .ok (.putfield 17, 3) := by decide +kernel
theorem dX3_init_19 : decode cX3_init 19 = .ok (.aload_n 0, 1) := by decide +kernel
theorem dX3_init_20 : decode cX3_init 20 = .ok (.iconst 0, 1) := by decide +kernel
theorem dX3_init_21 : decode cX3_init 21 = .ok (.putfield 20, 3) := by decide +kernel
theorem dX3_init_24 : decode cX3_init 24 = .ok (.aload_n 0, 1) := by decide +kernel
theorem dX3_init_25 : decode cX3_init 25 = .ok (.lconst 0, 1) := by decide +kernel
theorem dX3_init_26 : decode cX3_init 26 = .ok (.putfield 23, 3) := by decide +kernel
theorem dX3_init_29 : decode cX3_init 29 = .ok (.aload_n 0, 1) := by decide +kernel
theorem dX3_init_30 : decode cX3_init 30 = .ok (.lconst 0, 1) := by decide +kernel
theorem dX3_init_31 : decode cX3_init 31 = .ok (.putfield 27, 3) := by decide +kernel
theorem dX3_init_34 : decode cX3_init 34 = .ok (.return_, 1) := by decide +kernel
theorem dX3_keep_0 : decode cX3_keep 0 = .ok (.aload_n 0, 1) := by decide +kernel
theorem dX3_keep_1 : decode cX3_keep 1 = .ok (.iconst 1, 1) := by decide +kernel
theorem dX3_keep_2 : decode cX3_keep 2 = .ok (.putfield 13, 3) := by decide +kernel
theorem dX3_keep_5 : decode cX3_keep 5 = .ok (.aload_n 0, 1) := by decide +kernel
theorem dX3_keep_6 : decode cX3_keep 6 = .ok (.aload_n 1, 1) := by decide +kernel
theorem dX3_keep_7 : decode cX3_keep 7 = .ok (.getfield 30, 3) := by decide +kernel
theorem dX3_keep_10 : decode cX3_keep 10 = .ok (.putfield 17, 3) := by decide +kernel
theorem dX3_keep_13 : decode cX3_keep 13 = .ok (.aload_n 0, 1) := by decide +kernel
theorem dX3_keep_14 : decode cX3_keep 14 = .ok (.aload_n 1, 1) := by decide +kernel
theorem dX3_keep_15 : decode cX3_keep 15 = .ok (.getfield 33, 3) := by decide +kernel
theorem dX3_keep_18 : decode cX3_keep 18 = .ok (.putfield 20, 3) := by decide +kernel
theorem dX3_keep_21 : decode cX3_keep 21 = .ok (.aload_n 0, 1) := by decide +kernel
theorem dX3_keep_22 : decode cX3_keep 22 = .ok (.aload_n 1, 1) := by decide +kernel
theorem dX3_keep_23 : decode cX3_keep 23 = .ok (.getfield 34, 3) := by decide +kernel
theorem dX3_keep_26 : decode cX3_keep 26 = .ok (.putfield 23, 3) := by decide +kernel
theorem dX3_keep_29 : decode cX3_keep 29 = .ok (.aload_n 0, 1) := by decide +kernel
theorem dX3_keep_30 : decode cX3_keep 30 = .ok (.lload_n 2, 1) := by decide +kernel
theorem dX3_keep_31 : decode cX3_keep 31 = .ok (.putfield 27, 3) := by decide +kernel
theorem dX3_keep_34 : decode cX3_keep 34 = .ok (.return_, 1) := by decide +kernel
theorem dX3_forget_0 : decode cX3_forget 0 = .ok (.aload_n 0, 1) := by decide +kernel
theorem dX3_forget_1 : decode cX3_forget 1 = .ok (.iconst 0, 1) := by decide +kernel
theorem dX3_forget_2 : decode cX3_forget 2 = .ok (.putfield 13, 3) := by decide +kernel
theorem dX3_forget_5 : decode cX3_forget 5 = .ok (.aload_n 0, 1) := by decide +kernel
theorem dX3_forget_6 : decode cX3_forget 6 = .ok (.iconst 0, 1) := by decide +kernel
theorem dX3_forget_7 : decode cX3_forget 7 = .ok (.putfield 7, 3) := by decide +kernel
theorem dX3_forget_10 : decode cX3_forget 10 = .ok (.return_, 1) := by decide +kernel
theorem dX4_init_0 : decode cX4_init 0 = .ok (.aload_n 0, 1) := by decide +kernel
theorem dX4_init_1 : decode cX4_init 1 = .ok (.invokespecial 3, 3) := by decide +kernel
theorem dX4_init_4 : decode cX4_init 4 = .ok (.aload_n 0, 1) := by decide +kernel
theorem dX4_init_5 : decode cX4_init 5 = .ok (.new 9, 3) := by decide +kernel
theorem dX4_init_8 : decode cX4_init 8 = .ok (.dup, 1) := by decide +kernel
theorem dX4_init_9 : decode cX4_init 9 = .ok (.invokespecial 11, 3) := by decide +kernel
theorem dX4_init_12 : decode cX4_init 12 = .ok (.putfield 12, 3) := by decide +kernel
theorem dX4_init_15 : decode cX4_init 15 = .ok (.aload_n 0, 1) := by decide +kernel
theorem dX4_init_16 : decode cX4_init 16 = .ok (.lconst 0, 1) := by decide +kernel
theorem dX4_init_17 : decode cX4_init 17 = .ok (.putfield 18, 3) := by decide +kernel
theorem dX4_init_20 : decode cX4_init 20 = .ok (.aload_n 0, 1) := by decide +kernel
theorem dX4_init_21 : decode cX4_init 21 = .ok (.iload_n 1, 1) := by decide +kernel
theorem dX4_init_22 : decode cX4_init 22 = .ok (.putfield 22, 3) := by decide +kernel
theorem dX4_init_25 : decode cX4_init 25 = .ok (.aload_n 0, 1) := by decide +kernel
theorem dX4_init_26 : decode cX4_init 26 = .ok (.iload_n 2, 1) := by decide +kernel
theorem dX4_init_27 : decode cX4_init 27 = .ok (.putfield 26, 3) := by decide +kernel
theorem dX4_init_30 : decode cX4_init 30 = .ok (.aload_n 0, 1) := by decide +kernel
theorem dX4_init_31 : decode cX4_init 31 = .ok (.iload_n 3, 1) := by decide +kernel
theorem dX4_init_32 : decode cX4_init 32 = .ok (.putfield 29, 3) := by decide +kernel
theorem dX4_init_35 : decode cX4_init 35 = .ok (.return_, 1) := by decide +kernel
theorem dX4_mayBeAsked_0 : decode cX4_mayBeAsked 0 = .ok (.iload_n 1, 1) := by decide +kernel
theorem dX4_mayBeAsked_1 : decode cX4_mayBeAsked 1 = .ok (.ifCond .ne 11, 3) := by decide +kernel
theorem dX4_mayBeAsked_4 : decode cX4_mayBeAsked 4 = .ok (.iload_n 2, 1) := by decide +kernel
theorem dX4_mayBeAsked_5 : decode cX4_mayBeAsked 5 = .ok (.ifCond .ne 7, 3) := by decide +kernel
theorem dX4_mayBeAsked_8 : decode cX4_mayBeAsked 8 = .ok (.iconst 1, 1) := by decide +kernel
theorem dX4_mayBeAsked_9 : decode cX4_mayBeAsked 9 = .ok (.goto 4, 3) := by decide +kernel
theorem dX4_mayBeAsked_12 : decode cX4_mayBeAsked 12 = .ok (.iconst 0, 1) := by decide +kernel
theorem dX4_mayBeAsked_13 : decode cX4_mayBeAsked 13 = .ok (.ireturn, 1) := by decide +kernel
theorem dX4_fits_0 : decode cX4_fits 0 = .ok (.aload_n 0, 1) := by decide +kernel
theorem dX4_fits_1 : decode cX4_fits 1 = .ok (.getfield 12, 3) := by decide +kernel
theorem dX4_fits_4 : decode cX4_fits 4 = .ok (.invokevirtual 32, 3) := by decide +kernel
theorem dX4_fits_7 : decode cX4_fits 7 = .ok (.ireturn, 1) := by decide +kernel
theorem dX4_isWritten_0 : decode cX4_isWritten 0 = .ok (.iconst 0, 1) := by decide +kernel
theorem dX4_isWritten_1 : decode cX4_isWritten 1 = .ok (.istore_n 1, 1) := by decide +kernel
theorem dX4_isWritten_2 : decode cX4_isWritten 2 = .ok (.iload_n 1, 1) := by decide +kernel
theorem dX4_isWritten_3 : decode cX4_isWritten 3 = .ok (.aload_n 0, 1) := by decide +kernel
theorem dX4_isWritten_4 : decode cX4_isWritten 4 = .ok (.getfield 12, 3) := by decide +kernel
theorem dX4_isWritten_7 : decode cX4_isWritten 7 = .ok (.invokevirtual 36, 3) := by decide +kernel
theorem dX4_isWritten_10 : decode cX4_isWritten 10 = .ok (.if_icmp .ge 28, 3) := by decide +kernel
theorem dX4_isWritten_13 : decode cX4_isWritten 13 = .ok (.aload_n 0, 1) := by decide +kernel
theorem dX4_isWritten_14 : decode cX4_isWritten 14 = .ok (.getfield 12, 3) := by decide +kernel
theorem dX4_isWritten_17 : decode cX4_isWritten 17 = .ok (.iload_n 1, 1) := by decide +kernel
theorem dX4_isWritten_18 : decode cX4_isWritten 18 = .ok (.invokevirtual 40, 3) := by decide +kernel
theorem dX4_isWritten_21 : decode cX4_isWritten 21 = .ok (.checkcast 44, 3) := by decide +kernel
theorem dX4_isWritten_24 : decode cX4_isWritten 24 = .ok (.getfield 46, 3) := by decide +kernel
theorem dX4_isWritten_27 : decode cX4_isWritten 27 = .ok (.ifCond .ne 5, 3) := by decide +kernel
theorem dX4_isWritten_30 : decode cX4_isWritten 30 = .ok (.iconst 1, 1) := by decide +kernel
theorem dX4_isWritten_31 : decode cX4_isWritten 31 = .ok (.ireturn, 1) := by decide +kernel
theorem dX4_isWritten_32 : decode cX4_isWritten 32 = .ok (.iinc 1 1, 3) := by decide +kernel
theorem dX4_isWritten_35 : decode cX4_isWritten 35 = .ok (.goto (-33), 3) := by decide +kernel
theorem dX4_isWritten_38 : decode cX4_isWritten 38 = .ok (.iconst 0, 1) := by decide +kernel
theorem dX4_isWritten_39 : decode cX4_isWritten 39 = .ok (.ireturn, 1) := by decide +kernel
theorem dX4_grantOf_0 : decode cX4_grantOf 0 = .ok (.iconst 0, 1) := by decide +kernel
theorem dX4_grantOf_1 : decode cX4_grantOf 1 = .ok (.istore_n 2, 1) := by decide +kernel
theorem dX4_grantOf_2 : decode cX4_grantOf 2 = .ok (.iload_n 2, 1) := by decide +kernel
theorem dX4_grantOf_3 : decode cX4_grantOf 3 = .ok (.aload_n 0, 1) := by decide +kernel
theorem dX4_grantOf_4 : decode cX4_grantOf 4 = .ok (.getfield 12, 3) := by decide +kernel
theorem dX4_grantOf_7 : decode cX4_grantOf 7 = .ok (.invokevirtual 36, 3) := by decide +kernel
theorem dX4_grantOf_10 : decode cX4_grantOf 10 = .ok (.if_icmp .ge 39, 3) := by decide +kernel
theorem dX4_grantOf_13 : decode cX4_grantOf 13 = .ok (.aload_n 0, 1) := by decide +kernel
theorem dX4_grantOf_14 : decode cX4_grantOf 14 = .ok (.getfield 12, 3) := by decide +kernel
theorem dX4_grantOf_17 : decode cX4_grantOf 17 = .ok (.iload_n 2, 1) := by decide +kernel
theorem dX4_grantOf_18 : decode cX4_grantOf 18 = .ok (.invokevirtual 40, 3) := by decide +kernel
theorem dX4_grantOf_21 : decode cX4_grantOf 21 = .ok (.checkcast 44, 3) := by decide +kernel
theorem dX4_grantOf_24 : decode cX4_grantOf 24 = .ok (.getfield 49, 3) := by decide +kernel
theorem dX4_grantOf_27 : decode cX4_grantOf 27 = .ok (.iload_n 1, 1) := by decide +kernel
theorem dX4_grantOf_28 : decode cX4_grantOf 28 = .ok (.if_icmp .ne 15, 3) := by decide +kernel
theorem dX4_grantOf_31 : decode cX4_grantOf 31 = .ok (.aload_n 0, 1) := by decide +kernel
theorem dX4_grantOf_32 : decode cX4_grantOf 32 = .ok (.getfield 12, 3) := by decide +kernel
theorem dX4_grantOf_35 : decode cX4_grantOf 35 = .ok (.iload_n 2, 1) := by decide +kernel
theorem dX4_grantOf_36 : decode cX4_grantOf 36 = .ok (.invokevirtual 40, 3) := by decide +kernel
theorem dX4_grantOf_39 : decode cX4_grantOf 39 = .ok (.checkcast 44, 3) := by decide +kernel
theorem dX4_grantOf_42 : decode cX4_grantOf 42 = .ok (.areturn, 1) := by decide +kernel
theorem dX4_grantOf_43 : decode cX4_grantOf 43 = .ok (.iinc 2 1, 3) := by decide +kernel
theorem dX4_grantOf_46 : decode cX4_grantOf 46 = .ok (.goto (-44), 3) := by decide +kernel
theorem dX4_grantOf_49 : decode cX4_grantOf 49 = .ok (.aconst_null, 1) := by decide +kernel
theorem dX4_grantOf_50 : decode cX4_grantOf 50 = .ok (.areturn, 1) := by decide +kernel
theorem dX4_grantMeantBy_0 : decode cX4_grantMeantBy 0 = .ok (.aload_n 0, 1) := by decide +kernel
theorem dX4_grantMeantBy_1 : decode cX4_grantMeantBy 1 = .ok (.aload_n 1, 1) := by decide +kernel
theorem dX4_grantMeantBy_2 : decode cX4_grantMeantBy 2 = .ok (.getfield 52, 3) := by decide +kernel
theorem dX4_grantMeantBy_5 : decode cX4_grantMeantBy 5 = .ok (.invokevirtual 55, 3) := by decide +kernel
theorem dX4_grantMeantBy_8 : decode cX4_grantMeantBy 8 = .ok (.astore_n 2, 1) := by decide +kernel
theorem dX4_grantMeantBy_9 : decode cX4_grantMeantBy 9 = .ok (.aload_n 2, 1) := by decide +kernel
theorem dX4_grantMeantBy_10 : decode cX4_grantMeantBy 10 = .ok (.ifnull 15, 3) := by decide +kernel
theorem dX4_grantMeantBy_13 : decode cX4_grantMeantBy 13 = .ok (.aload_n 2, 1) := by decide +kernel
theorem dX4_grantMeantBy_14 : decode cX4_grantMeantBy 14 = .ok (.getfield 59, 3) := by decide +kernel
theorem dX4_grantMeantBy_17 : decode cX4_grantMeantBy 17 = .ok (.aload_n 1, 1) := by decide +kernel
theorem dX4_grantMeantBy_18 : decode cX4_grantMeantBy 18 = .ok (.getfield 62, 3) := by decide +kernel
theorem dX4_grantMeantBy_21 : decode cX4_grantMeantBy 21 = .ok (.lcmp, 1) := by decide +kernel
theorem dX4_grantMeantBy_22 : decode cX4_grantMeantBy 22 = .ok (.ifCond .eq 7, 3) := by decide +kernel
theorem dX4_grantMeantBy_25 : decode cX4_grantMeantBy 25 = .ok (.aconst_null, 1) := by decide +kernel
theorem dX4_grantMeantBy_26 : decode cX4_grantMeantBy 26 = .ok (.goto 4, 3) := by decide +kernel
theorem dX4_grantMeantBy_29 : decode cX4_grantMeantBy 29 = .ok (.aload_n 2, 1) := by decide +kernel
theorem dX4_grantMeantBy_30 : decode cX4_grantMeantBy 30 = .ok (.areturn, 1) := by decide +kernel
theorem dX4_numberAnew_0 : decode cX4_numberAnew 0 = .ok (.aload_n 0, 1) := by decide +kernel
theorem dX4_numberAnew_1 : decode cX4_numberAnew 1 = .ok (.dup, 1) := by decide +kernel
theorem dX4_numberAnew_2 : decode cX4_numberAnew 2 = .ok (.getfield 18, 3) := by decide +kernel
theorem dX4_numberAnew_5 : decode cX4_numberAnew 5 = .ok (.lconst 1, 1) := by decide +kernel
theorem dX4_numberAnew_6 : decode cX4_numberAnew 6 = .ok (.ladd, 1) := by decide +kernel
theorem dX4_numberAnew_7 : decode cX4_numberAnew 7 = .ok (.putfield 18, 3) := by decide +kernel
theorem dX4_numberAnew_10 : decode cX4_numberAnew 10 = .ok (.aload_n 1, 1) := by decide +kernel
theorem dX4_numberAnew_11 : decode cX4_numberAnew 11 = .ok (.aload_n 0, 1) := by decide +kernel
theorem dX4_numberAnew_12 : decode cX4_numberAnew 12 = .ok (.getfield 18, 3) := by decide +kernel
theorem dX4_numberAnew_15 : decode cX4_numberAnew 15 = .ok (.putfield 59, 3) := by decide +kernel
theorem dX4_numberAnew_18 : decode cX4_numberAnew 18 = .ok (.aload_n 1, 1) := by decide +kernel
theorem dX4_numberAnew_19 : decode cX4_numberAnew 19 = .ok (.lload_n 2, 1) := by decide +kernel
theorem dX4_numberAnew_20 : decode cX4_numberAnew 20 = .ok (.aload_n 0, 1) := by decide +kernel
theorem dX4_numberAnew_21 : decode cX4_numberAnew 21 = .ok (.getfield 29, 3) := by decide +kernel
theorem dX4_numberAnew_24 : decode cX4_numberAnew 24 = .ok (.i2l, 1) := by decide +kernel
theorem dX4_numberAnew_25 : decode cX4_numberAnew 25 = .ok (.ladd, 1) := by decide +kernel
theorem dX4_numberAnew_26 : decode cX4_numberAnew 26 = .ok (.putfield 63, 3) := by decide +kernel
theorem dX4_numberAnew_29 : decode cX4_numberAnew 29 = .ok (.return_, 1) := by decide +kernel
theorem dX4_dropEnded_0 : decode cX4_dropEnded 0 = .ok (.aload_n 0, 1) := by decide +kernel
theorem dX4_dropEnded_1 : decode cX4_dropEnded 1 = .ok (.getfield 12, 3) := by decide +kernel
theorem dX4_dropEnded_4 : decode cX4_dropEnded 4 = .ok (.invokevirtual 36, 3) := by decide +kernel
theorem dX4_dropEnded_7 : decode cX4_dropEnded 7 = .ok (.iconst 1, 1) := by decide +kernel
theorem dX4_dropEnded_8 : decode cX4_dropEnded 8 = .ok (.isub, 1) := by decide +kernel
theorem dX4_dropEnded_9 : decode cX4_dropEnded 9 = .ok (.istore_n 3, 1) := by decide +kernel
theorem dX4_dropEnded_10 : decode cX4_dropEnded 10 = .ok (.iload_n 3, 1) := by decide +kernel
theorem dX4_dropEnded_11 : decode cX4_dropEnded 11 = .ok (.ifCond .lt 37, 3) := by decide +kernel
theorem dX4_dropEnded_14 : decode cX4_dropEnded 14 = .ok (.aload_n 0, 1) := by decide +kernel
theorem dX4_dropEnded_15 : decode cX4_dropEnded 15 = .ok (.getfield 12, 3) := by decide +kernel
theorem dX4_dropEnded_18 : decode cX4_dropEnded 18 = .ok (.iload_n 3, 1) := by decide +kernel
theorem dX4_dropEnded_19 : decode cX4_dropEnded 19 = .ok (.invokevirtual 40, 3) := by decide +kernel
theorem dX4_dropEnded_22 : decode cX4_dropEnded 22 = .ok (.checkcast 44, 3) := by decide +kernel
theorem dX4_dropEnded_25 : decode cX4_dropEnded 25 = .ok (.getfield 63, 3) := by decide +kernel
theorem dX4_dropEnded_28 : decode cX4_dropEnded 28 = .ok (.lload_n 1, 1) := by decide +kernel
theorem dX4_dropEnded_29 : decode cX4_dropEnded 29 = .ok (.lcmp, 1) := by decide +kernel
theorem dX4_dropEnded_30 : decode cX4_dropEnded 30 = .ok (.ifCond .gt 12, 3) := by decide +kernel
theorem dX4_dropEnded_33 : decode cX4_dropEnded 33 = .ok (.aload_n 0, 1) := by decide +kernel
theorem dX4_dropEnded_34 : decode cX4_dropEnded 34 = .ok (.getfield 12, 3) := by decide +kernel
theorem dX4_dropEnded_37 : decode cX4_dropEnded 37 = .ok (.iload_n 3, 1) := by decide +kernel
theorem dX4_dropEnded_38 : decode cX4_dropEnded 38 = .ok (.invokevirtual 66, 3) := by decide +kernel
theorem dX4_dropEnded_41 : decode cX4_dropEnded 41 = .ok (.pop, 1) := by decide +kernel
theorem dX4_dropEnded_42 : decode cX4_dropEnded 42 = .ok (.iinc 3 (-1), 3) := by decide +kernel
theorem dX4_dropEnded_45 : decode cX4_dropEnded 45 = .ok (.goto (-35), 3) := by decide +kernel
theorem dX4_dropEnded_48 : decode cX4_dropEnded 48 = .ok (.return_, 1) := by decide +kernel
theorem dX4_dropGrantOf_0 : decode cX4_dropGrantOf 0 = .ok (.aload_n 0, 1) := by decide +kernel
theorem dX4_dropGrantOf_1 : decode cX4_dropGrantOf 1 = .ok (.getfield 12, 3) := by decide +kernel
theorem dX4_dropGrantOf_4 : decode cX4_dropGrantOf 4 = .ok (.invokevirtual 36, 3) := by decide +kernel
theorem dX4_dropGrantOf_7 : decode cX4_dropGrantOf 7 = .ok (.iconst 1, 1) := by decide +kernel
theorem dX4_dropGrantOf_8 : decode cX4_dropGrantOf 8 = .ok (.isub, 1) := by decide +kernel
theorem dX4_dropGrantOf_9 : decode cX4_dropGrantOf 9 = .ok (.istore_n 2, 1) := by decide +kernel
theorem dX4_dropGrantOf_10 : decode cX4_dropGrantOf 10 = .ok (.iload_n 2, 1) := by decide +kernel
theorem dX4_dropGrantOf_11 : decode cX4_dropGrantOf 11 = .ok (.ifCond .lt 36, 3) := by decide +kernel
theorem dX4_dropGrantOf_14 : decode cX4_dropGrantOf 14 = .ok (.aload_n 0, 1) := by decide +kernel
theorem dX4_dropGrantOf_15 : decode cX4_dropGrantOf 15 = .ok (.getfield 12, 3) := by decide +kernel
theorem dX4_dropGrantOf_18 : decode cX4_dropGrantOf 18 = .ok (.iload_n 2, 1) := by decide +kernel
theorem dX4_dropGrantOf_19 : decode cX4_dropGrantOf 19 = .ok (.invokevirtual 40, 3) := by decide +kernel
theorem dX4_dropGrantOf_22 : decode cX4_dropGrantOf 22 = .ok (.checkcast 44, 3) := by decide +kernel
theorem dX4_dropGrantOf_25 : decode cX4_dropGrantOf 25 = .ok (.getfield 49, 3) := by decide +kernel
theorem dX4_dropGrantOf_28 : decode cX4_dropGrantOf 28 = .ok (.iload_n 1, 1) := by decide +kernel
theorem dX4_dropGrantOf_29 : decode cX4_dropGrantOf 29 = .ok (.if_icmp .ne 12, 3) := by decide +kernel
theorem dX4_dropGrantOf_32 : decode cX4_dropGrantOf 32 = .ok (.aload_n 0, 1) := by decide +kernel
theorem dX4_dropGrantOf_33 : decode cX4_dropGrantOf 33 = .ok (.getfield 12, 3) := by decide +kernel
theorem dX4_dropGrantOf_36 : decode cX4_dropGrantOf 36 = .ok (.iload_n 2, 1) := by decide +kernel
theorem dX4_dropGrantOf_37 : decode cX4_dropGrantOf 37 = .ok (.invokevirtual 66, 3) := by decide +kernel
theorem dX4_dropGrantOf_40 : decode cX4_dropGrantOf 40 = .ok (.pop, 1) := by decide +kernel
theorem dX4_dropGrantOf_41 : decode cX4_dropGrantOf 41 = .ok (.iinc 2 (-1), 3) := by decide +kernel
theorem dX4_dropGrantOf_44 : decode cX4_dropGrantOf 44 = .ok (.goto (-34), 3) := by decide +kernel
theorem dX4_dropGrantOf_47 : decode cX4_dropGrantOf 47 = .ok (.return_, 1) := by decide +kernel
theorem dX4_prolongAll_0 : decode cX4_prolongAll 0 = .ok (.iconst 0, 1) := by decide +kernel
theorem dX4_prolongAll_1 : decode cX4_prolongAll 1 = .ok (.istore_n 3, 1) := by decide +kernel
theorem dX4_prolongAll_2 : decode cX4_prolongAll 2 = .ok (.iload_n 3, 1) := by decide +kernel
theorem dX4_prolongAll_3 : decode cX4_prolongAll 3 = .ok (.aload_n 0, 1) := by decide +kernel
theorem dX4_prolongAll_4 : decode cX4_prolongAll 4 = .ok (.getfield 12, 3) := by decide +kernel
theorem dX4_prolongAll_7 : decode cX4_prolongAll 7 = .ok (.invokevirtual 36, 3) := by decide +kernel
theorem dX4_prolongAll_10 : decode cX4_prolongAll 10 = .ok (.if_icmp .ge 30, 3) := by decide +kernel
theorem dX4_prolongAll_13 : decode cX4_prolongAll 13 = .ok (.aload_n 0, 1) := by decide +kernel
theorem dX4_prolongAll_14 : decode cX4_prolongAll 14 = .ok (.getfield 12, 3) := by decide +kernel
theorem dX4_prolongAll_17 : decode cX4_prolongAll 17 = .ok (.iload_n 3, 1) := by decide +kernel
theorem dX4_prolongAll_18 : decode cX4_prolongAll 18 = .ok (.invokevirtual 40, 3) := by decide +kernel
theorem dX4_prolongAll_21 : decode cX4_prolongAll 21 = .ok (.checkcast 44, 3) := by decide +kernel
theorem dX4_prolongAll_24 : decode cX4_prolongAll 24 = .ok (.lload_n 1, 1) := by decide +kernel
theorem dX4_prolongAll_25 : decode cX4_prolongAll 25 = .ok (.aload_n 0, 1) := by decide +kernel
theorem dX4_prolongAll_26 : decode cX4_prolongAll 26 = .ok (.getfield 29, 3) := by decide +kernel
theorem dX4_prolongAll_29 : decode cX4_prolongAll 29 = .ok (.i2l, 1) := by decide +kernel
theorem dX4_prolongAll_30 : decode cX4_prolongAll 30 = .ok (.ladd, 1) := by decide +kernel
theorem dX4_prolongAll_31 : decode cX4_prolongAll 31 = .ok (.putfield 63, 3) := by decide +kernel
theorem dX4_prolongAll_34 : decode cX4_prolongAll 34 = .ok (.iinc 3 1, 3) := by decide +kernel
theorem dX4_prolongAll_37 : decode cX4_prolongAll 37 = .ok (.goto (-35), 3) := by decide +kernel
theorem dX4_prolongAll_40 : decode cX4_prolongAll 40 = .ok (.return_, 1) := by decide +kernel
theorem dX5_init_0 : decode cX5_init 0 = .ok (.aload_n 0, 1) := by decide +kernel
theorem dX5_init_1 : decode cX5_init 1 = .ok (.invokespecial 1, 3) := by decide +kernel
theorem dX5_init_4 : decode cX5_init 4 = .ok (.aload_n 0, 1) := by decide +kernel
theorem dX5_init_5 : decode cX5_init 5 = .ok (.iconst 1, 1) := by decide +kernel
theorem dX5_init_6 : decode cX5_init 6 = .ok (.putfield 7, 3) := by decide +kernel
theorem dX5_init_9 : decode cX5_init 9 = .ok (.aload_n 0, 1) := by decide +kernel
theorem dX5_init_10 : decode cX5_init 10 = .ok (.iload_n 1, 1) := by decide +kernel
theorem dX5_init_11 : decode cX5_init 11 = .ok (.putfield 13, 3) := by decide +kernel
theorem dX5_init_14 : decode cX5_init 14 = .ok (.aload_n 0, 1) := by decide +kernel
theorem dX5_init_15 : decode cX5_init 15 = .ok (.iload_n 2, 1) := by decide +kernel
theorem dX5_init_16 : decode cX5_init 16 = .ok (.putfield 17, 3) := by decide +kernel
theorem dX5_init_19 : decode cX5_init 19 = .ok (.return_, 1) := by decide +kernel
theorem dX5_shows_0 : decode cX5_shows 0 = .ok (.aload_n 0, 1) := by decide +kernel
theorem dX5_shows_1 : decode cX5_shows 1 = .ok (.getfield 13, 3) := by decide +kernel
theorem dX5_shows_4 : decode cX5_shows 4 = .ok (.i2l, 1) := by decide +kernel
theorem dX5_shows_5 : decode cX5_shows 5 = .ok (.iload_n 1, 1) := by decide +kernel
theorem dX5_shows_6 : decode cX5_shows 6 = .ok (.i2l, 1) := by decide +kernel
theorem dX5_shows_7 : decode cX5_shows 7 = .ok (.aload_n 0, 1) := by decide +kernel
theorem dX5_shows_8 : decode cX5_shows 8 = .ok (.getfield 17, 3) := by decide +kernel
theorem dX5_shows_11 : decode cX5_shows 11 = .ok (.i2l, 1) := by decide +kernel
theorem dX5_shows_12 : decode cX5_shows 12 = .ok (.lmul, 1) := by decide +kernel
theorem dX5_shows_13 : decode cX5_shows 13 = .ok (.ldc2_w 20, 3) := by decide +kernel
theorem dX5_shows_16 : decode cX5_shows 16 = .ok (.ldiv, 1) := by decide +kernel
theorem dX5_shows_17 : decode cX5_shows 17 = .ok (.ladd, 1) := by decide +kernel
theorem dX5_shows_18 : decode cX5_shows 18 = .ok (.lreturn, 1) := by decide +kernel
theorem dX6_init_0 : decode cX6_init 0 = .ok (.aload_n 0, 1) := by decide +kernel
theorem dX6_init_1 : decode cX6_init 1 = .ok (.iconst 3, 1) := by decide +kernel
theorem dX6_init_2 : decode cX6_init 2 = .ok (.iload_n 1, 1) := by decide +kernel
theorem dX6_init_3 : decode cX6_init 3 = .ok (.iload_n 2, 1) := by decide +kernel
theorem dX6_init_4 : decode cX6_init 4 = .ok (.invokespecial 3, 3) := by decide +kernel
theorem dX6_init_7 : decode cX6_init 7 = .ok (.aload_n 0, 1) := by decide +kernel
theorem dX6_init_8 : decode cX6_init 8 = .ok (.iconst (-1), 1) := by decide +kernel
theorem dX6_init_9 : decode cX6_init 9 = .ok (.putfield 9, 3) := by decide +kernel
theorem dX6_init_12 : decode cX6_init 12 = .ok (.return_, 1) := by decide +kernel
theorem dX6_mayBeAsked_0 : decode cX6_mayBeAsked 0 = .ok (.iload_n 1, 1) := by decide +kernel
theorem dX6_mayBeAsked_1 : decode cX6_mayBeAsked 1 = .ok (.ifCond .eq 8, 3) := by decide +kernel
theorem dX6_mayBeAsked_4 : decode cX6_mayBeAsked 4 = .ok (.iload_n 1, 1) := by decide +kernel
theorem dX6_mayBeAsked_5 : decode cX6_mayBeAsked 5 = .ok (.iconst 1, 1) := by decide +kernel
theorem dX6_mayBeAsked_6 : decode cX6_mayBeAsked 6 = .ok (.if_icmp .ne 11, 3) := by decide +kernel
theorem dX6_mayBeAsked_9 : decode cX6_mayBeAsked 9 = .ok (.iload_n 2, 1) := by decide +kernel
theorem dX6_mayBeAsked_10 : decode cX6_mayBeAsked 10 = .ok (.ifCond .ne 7, 3) := by decide +kernel
theorem dX6_mayBeAsked_13 : decode cX6_mayBeAsked 13 = .ok (.iconst 1, 1) := by decide +kernel
theorem dX6_mayBeAsked_14 : decode cX6_mayBeAsked 14 = .ok (.goto 4, 3) := by decide +kernel
theorem dX6_mayBeAsked_17 : decode cX6_mayBeAsked 17 = .ok (.iconst 0, 1) := by decide +kernel
theorem dX6_mayBeAsked_18 : decode cX6_mayBeAsked 18 = .ok (.ireturn, 1) := by decide +kernel
theorem dX6_fits_0 : decode cX6_fits 0 = .ok (.iload_n 2, 1) := by decide +kernel
theorem dX6_fits_1 : decode cX6_fits 1 = .ok (.iconst 1, 1) := by decide +kernel
theorem dX6_fits_2 : decode cX6_fits 2 = .ok (.if_icmp .ne 26, 3) := by decide +kernel
theorem dX6_fits_5 : decode cX6_fits 5 = .ok (.aload_n 0, 1) := by decide +kernel
theorem dX6_fits_6 : decode cX6_fits 6 = .ok (.invokevirtual 15, 3) := by decide +kernel
theorem dX6_fits_9 : decode cX6_fits 9 = .ok (.ifCond .ne 15, 3) := by decide +kernel
theorem dX6_fits_12 : decode cX6_fits 12 = .ok (.aload_n 0, 1) := by decide +kernel
theorem dX6_fits_13 : decode cX6_fits 13 = .ok (.getfield 9, 3) := by decide +kernel
theorem dX6_fits_16 : decode cX6_fits 16 = .ok (.iconst (-1), 1) := by decide +kernel
theorem dX6_fits_17 : decode cX6_fits 17 = .ok (.if_icmp .ne 7, 3) := by decide +kernel
theorem dX6_fits_20 : decode cX6_fits 20 = .ok (.iconst 1, 1) := by decide +kernel
theorem dX6_fits_21 : decode cX6_fits 21 = .ok (.goto 14, 3) := by decide +kernel
theorem dX6_fits_24 : decode cX6_fits 24 = .ok (.iconst 0, 1) := by decide +kernel
theorem dX6_fits_25 : decode cX6_fits 25 = .ok (.goto 10, 3) := by decide +kernel
theorem dX6_fits_28 : decode cX6_fits 28 = .ok (.aload_n 0, 1) := by decide +kernel
theorem dX6_fits_29 : decode cX6_fits 29 = .ok (.getfield 19, 3) := by decide +kernel
theorem dX6_fits_32 : decode cX6_fits 32 = .ok (.invokevirtual 23, 3) := by decide +kernel
theorem dX6_fits_35 : decode cX6_fits 35 = .ok (.ireturn, 1) := by decide +kernel
theorem dX6_dropLoneRiser_0 : decode cX6_dropLoneRiser 0 = .ok (.aload_n 0, 1) := by decide +kernel
theorem dX6_dropLoneRiser_1 : decode cX6_dropLoneRiser 1 = .ok (.aload_n 0, 1) := by decide +kernel
theorem dX6_dropLoneRiser_2 : decode cX6_dropLoneRiser 2 = .ok (.getfield 9, 3) := by decide +kernel
theorem dX6_dropLoneRiser_5 : decode cX6_dropLoneRiser 5 = .ok (.invokevirtual 28, 3) := by decide +kernel
theorem dX6_dropLoneRiser_8 : decode cX6_dropLoneRiser 8 = .ok (.ifnonnull 8, 3) := by decide +kernel
theorem dX6_dropLoneRiser_11 : decode cX6_dropLoneRiser 11 = .ok (.aload_n 0, 1) := by decide +kernel
theorem dX6_dropLoneRiser_12 : decode cX6_dropLoneRiser 12 = .ok (.iconst (-1), 1) := by decide +kernel
theorem dX6_dropLoneRiser_13 : decode cX6_dropLoneRiser 13 = .ok (.putfield 9, 3) := by decide +kernel
theorem dX6_dropLoneRiser_16 : decode cX6_dropLoneRiser 16 = .ok (.return_, 1) := by decide +kernel
theorem dX7_init_0 : decode cX7_init 0 = .ok (.aload_n 0, 1) := by decide +kernel
theorem dX7_init_1 : decode cX7_init 1 = .ok (.iload_n 1, 1) := by decide +kernel
theorem dX7_init_2 : decode cX7_init 2 = .ok (.iload_n 2, 1) := by decide +kernel
theorem dX7_init_3 : decode cX7_init 3 = .ok (.iload_n 3, 1) := by decide +kernel
theorem dX7_init_4 : decode cX7_init 4 = .ok (.invokespecial 3, 3) := by decide +kernel
theorem dX7_init_7 : decode cX7_init 7 = .ok (.return_, 1) := by decide +kernel
theorem dX7_mayBeAsked_0 : decode cX7_mayBeAsked 0 = .ok (.iload_n 1, 1) := by decide +kernel
theorem dX7_mayBeAsked_1 : decode cX7_mayBeAsked 1 = .ok (.ifCond .eq 8, 3) := by decide +kernel
theorem dX7_mayBeAsked_4 : decode cX7_mayBeAsked 4 = .ok (.iload_n 1, 1) := by decide +kernel
theorem dX7_mayBeAsked_5 : decode cX7_mayBeAsked 5 = .ok (.iconst 1, 1) := by decide +kernel
theorem dX7_mayBeAsked_6 : decode cX7_mayBeAsked 6 = .ok (.if_icmp .ne 11, 3) := by decide +kernel
theorem dX7_mayBeAsked_9 : decode cX7_mayBeAsked 9 = .ok (.iload_n 2, 1) := by decide +kernel
theorem dX7_mayBeAsked_10 : decode cX7_mayBeAsked 10 = .ok (.ifCond .ne 7, 3) := by decide +kernel
theorem dX7_mayBeAsked_13 : decode cX7_mayBeAsked 13 = .ok (.iconst 1, 1) := by decide +kernel
theorem dX7_mayBeAsked_14 : decode cX7_mayBeAsked 14 = .ok (.goto 4, 3) := by decide +kernel
theorem dX7_mayBeAsked_17 : decode cX7_mayBeAsked 17 = .ok (.iconst 0, 1) := by decide +kernel
theorem dX7_mayBeAsked_18 : decode cX7_mayBeAsked 18 = .ok (.ireturn, 1) := by decide +kernel
theorem dX7_fits_0 : decode cX7_fits 0 = .ok (.iload_n 2, 1) := by decide +kernel
theorem dX7_fits_1 : decode cX7_fits 1 = .ok (.iconst 1, 1) := by decide +kernel
theorem dX7_fits_2 : decode cX7_fits 2 = .ok (.if_icmp .ne 18, 3) := by decide +kernel
theorem dX7_fits_5 : decode cX7_fits 5 = .ok (.aload_n 0, 1) := by decide +kernel
theorem dX7_fits_6 : decode cX7_fits 6 = .ok (.invokevirtual 9, 3) := by decide +kernel
theorem dX7_fits_9 : decode cX7_fits 9 = .ok (.ifCond .ne 7, 3) := by decide +kernel
theorem dX7_fits_12 : decode cX7_fits 12 = .ok (.iconst 1, 1) := by decide +kernel
theorem dX7_fits_13 : decode cX7_fits 13 = .ok (.goto 14, 3) := by decide +kernel
theorem dX7_fits_16 : decode cX7_fits 16 = .ok (.iconst 0, 1) := by decide +kernel
theorem dX7_fits_17 : decode cX7_fits 17 = .ok (.goto 10, 3) := by decide +kernel
theorem dX7_fits_20 : decode cX7_fits 20 = .ok (.aload_n 0, 1) := by decide +kernel
theorem dX7_fits_21 : decode cX7_fits 21 = .ok (.getfield 15, 3) := by decide +kernel
theorem dX7_fits_24 : decode cX7_fits 24 = .ok (.invokevirtual 19, 3) := by decide +kernel
theorem dX7_fits_27 : decode cX7_fits 27 = .ok (.ireturn, 1) := by decide +kernel
theorem dX8_init_0 : decode cX8_init 0 = .ok (.aload_n 0, 1) := by decide +kernel
theorem dX8_init_1 : decode cX8_init 1 = .ok (.invokespecial 1, 3) := by decide +kernel
theorem dX8_init_4 : decode cX8_init 4 = .ok (.aload_n 0, 1) := by decide +kernel
theorem dX8_init_5 : decode cX8_init 5 = .ok (.aconst_null, 1) := by decide +kernel
theorem dX8_init_6 : decode cX8_init 6 = .ok (.putfield 7, 3) := by decide +kernel
theorem dX8_init_9 : decode cX8_init 9 = .ok (.aload_n 0, 1) := by decide +kernel
theorem dX8_init_10 : decode cX8_init 10 = .ok (.aconst_null, 1) := by decide +kernel
theorem dX8_init_11 : decode cX8_init 11 = .ok (.putfield 13, 3) := by decide +kernel
theorem dX8_init_14 : decode cX8_init 14 = .ok (.aload_n 0, 1) := by decide +kernel
theorem dX8_init_15 : decode cX8_init 15 = .ok (.aconst_null, 1) := by decide +kernel
theorem dX8_init_16 : decode cX8_init 16 = .ok (.putfield 17, 3) := by decide +kernel
theorem dX8_init_19 : decode cX8_init 19 = .ok (.aload_n 0, 1) := by decide +kernel
theorem dX8_init_20 : decode cX8_init 20 = .ok (.aconst_null, 1) := by decide +kernel
theorem dX8_init_21 : decode cX8_init 21 = .ok (.putfield 21, 3) := by decide +kernel
theorem dX8_init_24 : decode cX8_init 24 = .ok (.return_, 1) := by decide +kernel
theorem dX8_clear_0 : decode cX8_clear 0 = .ok (.aload_n 0, 1) := by decide +kernel
theorem dX8_clear_1 : decode cX8_clear 1 = .ok (.aconst_null, 1) := by decide +kernel
theorem dX8_clear_2 : decode cX8_clear 2 = .ok (.putfield 7, 3) := by decide +kernel
theorem dX8_clear_5 : decode cX8_clear 5 = .ok (.aload_n 0, 1) := by decide +kernel
theorem dX8_clear_6 : decode cX8_clear 6 = .ok (.aconst_null, 1) := by decide +kernel
theorem dX8_clear_7 : decode cX8_clear 7 = .ok (.putfield 13, 3) := by decide +kernel
theorem dX8_clear_10 : decode cX8_clear 10 = .ok (.aload_n 0, 1) := by decide +kernel
theorem dX8_clear_11 : decode cX8_clear 11 = .ok (.aconst_null, 1) := by decide +kernel
theorem dX8_clear_12 : decode cX8_clear 12 = .ok (.putfield 17, 3) := by decide +kernel
theorem dX8_clear_15 : decode cX8_clear 15 = .ok (.aload_n 0, 1) := by decide +kernel
theorem dX8_clear_16 : decode cX8_clear 16 = .ok (.aconst_null, 1) := by decide +kernel
theorem dX8_clear_17 : decode cX8_clear 17 = .ok (.putfield 21, 3) := by decide +kernel
theorem dX8_clear_20 : decode cX8_clear 20 = .ok (.return_, 1) := by decide +kernel
theorem dX8_isEmpty_0 : decode cX8_isEmpty 0 = .ok (.aload_n 0, 1) := by decide +kernel
theorem dX8_isEmpty_1 : decode cX8_isEmpty 1 = .ok (.getfield 7, 3) := by decide +kernel
theorem dX8_isEmpty_4 : decode cX8_isEmpty 4 = .ok (.ifnonnull 28, 3) := by decide +kernel
theorem dX8_isEmpty_7 : decode cX8_isEmpty 7 = .ok (.aload_n 0, 1) := by decide +kernel
theorem dX8_isEmpty_8 : decode cX8_isEmpty 8 = .ok (.getfield 13, 3) := by decide +kernel
theorem dX8_isEmpty_11 : decode cX8_isEmpty 11 = .ok (.ifnonnull 21, 3) := by decide +kernel
theorem dX8_isEmpty_14 : decode cX8_isEmpty 14 = .ok (.aload_n 0, 1) := by decide +kernel
theorem dX8_isEmpty_15 : decode cX8_isEmpty 15 = .ok (.getfield 17, 3) := by decide +kernel
theorem dX8_isEmpty_18 : decode cX8_isEmpty 18 = .ok (.ifnonnull 14, 3) := by decide +kernel
theorem dX8_isEmpty_21 : decode cX8_isEmpty 21 = .ok (.aload_n 0, 1) := by decide +kernel
theorem dX8_isEmpty_22 : decode cX8_isEmpty 22 = .ok (.getfield 21, 3) := by decide +kernel
theorem dX8_isEmpty_25 : decode cX8_isEmpty 25 = .ok (.ifnonnull 7, 3) := by decide +kernel
theorem dX8_isEmpty_28 : decode cX8_isEmpty 28 = .ok (.iconst 1, 1) := by decide +kernel
theorem dX8_isEmpty_29 : decode cX8_isEmpty 29 = .ok (.goto 4, 3) := by decide +kernel
theorem dX8_isEmpty_32 : decode cX8_isEmpty 32 = .ok (.iconst 0, 1) := by decide +kernel
theorem dX8_isEmpty_33 : decode cX8_isEmpty 33 = .ok (.ireturn, 1) := by decide +kernel
theorem dX9_init_0 : decode cX9_init 0 = .ok (.aload_n 0, 1) := by decide +kernel
theorem dX9_init_1 : decode cX9_init 1 = .ok (.iconst 4, 1) := by decide +kernel
theorem dX9_init_2 : decode cX9_init 2 = .ok (.iload_n 1, 1) := by decide +kernel
theorem dX9_init_3 : decode cX9_init 3 = .ok (.iload_n 2, 1) := by decide +kernel
theorem dX9_init_4 : decode cX9_init 4 = .ok (.invokespecial 3, 3) := by decide +kernel
theorem dX9_init_7 : decode cX9_init 7 = .ok (.aload_n 0, 1) := by decide +kernel
theorem dX9_init_8 : decode cX9_init 8 = .ok (.bipush 8, 2) := by decide +kernel
theorem dX9_init_10 : decode cX9_init 10 = .ok (.newarray .int, 2) := by decide +kernel
theorem dX9_init_12 : decode cX9_init 12 = .ok (.putfield 9, 3) := by decide +kernel
theorem dX9_init_15 : decode cX9_init 15 = .ok (.aload_n 0, 1) := by decide +kernel
theorem dX9_init_16 : decode cX9_init 16 = .ok (.iconst 0, 1) := by decide +kernel
theorem dX9_init_17 : decode cX9_init 17 = .ok (.putfield 15, 3) := by decide +kernel
theorem dX9_init_20 : decode cX9_init 20 = .ok (.aload_n 0, 1) := by decide +kernel
theorem dX9_init_21 : decode cX9_init 21 = .ok (.iconst 0, 1) := by decide +kernel
theorem dX9_init_22 : decode cX9_init 22 = .ok (.putfield 19, 3) := by decide +kernel
theorem dX9_init_25 : decode cX9_init 25 = .ok (.aload_n 0, 1) := by decide +kernel
theorem dX9_init_26 : decode cX9_init 26 = .ok (.lconst 0, 1) := by decide +kernel
theorem dX9_init_27 : decode cX9_init 27 = .ok (.putfield 23, 3) := by decide +kernel
theorem dX9_init_30 : decode cX9_init 30 = .ok (.return_, 1) := by decide +kernel
theorem dX9_fits_0 : decode cX9_fits 0 = .ok (.aload_n 0, 1) := by decide +kernel
theorem dX9_fits_1 : decode cX9_fits 1 = .ok (.getfield 27, 3) := by decide +kernel
theorem dX9_fits_4 : decode cX9_fits 4 = .ok (.invokevirtual 31, 3) := by decide +kernel
theorem dX9_fits_7 : decode cX9_fits 7 = .ok (.ifCond .eq 24, 3) := by decide +kernel
theorem dX9_fits_10 : decode cX9_fits 10 = .ok (.aload_n 0, 1) := by decide +kernel
theorem dX9_fits_11 : decode cX9_fits 11 = .ok (.getfield 15, 3) := by decide +kernel
theorem dX9_fits_14 : decode cX9_fits 14 = .ok (.ifCond .eq 13, 3) := by decide +kernel
theorem dX9_fits_17 : decode cX9_fits 17 = .ok (.aload_n 0, 1) := by decide +kernel
theorem dX9_fits_18 : decode cX9_fits 18 = .ok (.getfield 9, 3) := by decide +kernel
theorem dX9_fits_21 : decode cX9_fits 21 = .ok (.iconst 0, 1) := by decide +kernel
theorem dX9_fits_22 : decode cX9_fits 22 = .ok (.iaload, 1) := by decide +kernel
theorem dX9_fits_23 : decode cX9_fits 23 = .ok (.iload_n 1, 1) := by decide +kernel
theorem dX9_fits_24 : decode cX9_fits 24 = .ok (.if_icmp .ne 7, 3) := by decide +kernel
theorem dX9_fits_27 : decode cX9_fits 27 = .ok (.iconst 1, 1) := by decide +kernel
theorem dX9_fits_28 : decode cX9_fits 28 = .ok (.goto 4, 3) := by decide +kernel
theorem dX9_fits_31 : decode cX9_fits 31 = .ok (.iconst 0, 1) := by decide +kernel
theorem dX9_fits_32 : decode cX9_fits 32 = .ok (.ireturn, 1) := by decide +kernel
theorem dX9_queuedAt_0 : decode cX9_queuedAt 0 = .ok (.iload_n 1, 1) := by decide +kernel
theorem dX9_queuedAt_1 : decode cX9_queuedAt 1 = .ok (.ifCond .lt 20, 3) := by decide +kernel
theorem dX9_queuedAt_4 : decode cX9_queuedAt 4 = .ok (.iload_n 1, 1) := by decide +kernel
theorem dX9_queuedAt_5 : decode cX9_queuedAt 5 = .ok (.aload_n 0, 1) := by decide +kernel
theorem dX9_queuedAt_6 : decode cX9_queuedAt 6 = .ok (.getfield 15, 3) := by decide +kernel
theorem dX9_queuedAt_9 : decode cX9_queuedAt 9 = .ok (.if_icmp .ge 12, 3) := by decide +kernel
theorem dX9_queuedAt_12 : decode cX9_queuedAt 12 = .ok (.iload_n 1, 1) := by decide +kernel
theorem dX9_queuedAt_13 : decode cX9_queuedAt 13 = .ok (.aload_n 0, 1) := by decide +kernel
theorem dX9_queuedAt_14 : decode cX9_queuedAt 14 = .ok (.getfield 9, 3) := by decide +kernel
theorem dX9_queuedAt_17 : decode cX9_queuedAt 17 = .ok (.arraylength, 1) := by decide +kernel
theorem dX9_queuedAt_18 : decode cX9_queuedAt 18 = .ok (.if_icmp .lt 7, 3) := by decide +kernel
theorem dX9_queuedAt_21 : decode cX9_queuedAt 21 = .ok (.iconst (-1), 1) := by decide +kernel
theorem dX9_queuedAt_22 : decode cX9_queuedAt 22 = .ok (.goto 9, 3) := by decide +kernel
theorem dX9_queuedAt_25 : decode cX9_queuedAt 25 = .ok (.aload_n 0, 1) := by decide +kernel
theorem dX9_queuedAt_26 : decode cX9_queuedAt 26 = .ok (.getfield 9, 3) := by decide +kernel
theorem dX9_queuedAt_29 : decode cX9_queuedAt 29 = .ok (.iload_n 1, 1) := by decide +kernel
theorem dX9_queuedAt_30 : decode cX9_queuedAt 30 = .ok (.iaload, 1) := by decide +kernel
theorem dX9_queuedAt_31 : decode cX9_queuedAt 31 = .ok (.ireturn, 1) := by decide +kernel
theorem dX9_isQueued_0 : decode cX9_isQueued 0 = .ok (.iconst 0, 1) := by decide +kernel
theorem dX9_isQueued_1 : decode cX9_isQueued 1 = .ok (.istore_n 2, 1) := by decide +kernel
theorem dX9_isQueued_2 : decode cX9_isQueued 2 = .ok (.iload_n 2, 1) := by decide +kernel
theorem dX9_isQueued_3 : decode cX9_isQueued 3 = .ok (.aload_n 0, 1) := by decide +kernel
theorem dX9_isQueued_4 : decode cX9_isQueued 4 = .ok (.getfield 15, 3) := by decide +kernel
theorem dX9_isQueued_7 : decode cX9_isQueued 7 = .ok (.if_icmp .ge 30, 3) := by decide +kernel
theorem dX9_isQueued_10 : decode cX9_isQueued 10 = .ok (.iload_n 2, 1) := by decide +kernel
theorem dX9_isQueued_11 : decode cX9_isQueued 11 = .ok (.aload_n 0, 1) := by decide +kernel
theorem dX9_isQueued_12 : decode cX9_isQueued 12 = .ok (.getfield 9, 3) := by decide +kernel
theorem dX9_isQueued_15 : decode cX9_isQueued 15 = .ok (.arraylength, 1) := by decide +kernel
theorem dX9_isQueued_16 : decode cX9_isQueued 16 = .ok (.if_icmp .ge 21, 3) := by decide +kernel
theorem dX9_isQueued_19 : decode cX9_isQueued 19 = .ok (.aload_n 0, 1) := by decide +kernel
theorem dX9_isQueued_20 : decode cX9_isQueued 20 = .ok (.getfield 9, 3) := by decide +kernel
theorem dX9_isQueued_23 : decode cX9_isQueued 23 = .ok (.iload_n 2, 1) := by decide +kernel
theorem dX9_isQueued_24 : decode cX9_isQueued 24 = .ok (.iaload, 1) := by decide +kernel
theorem dX9_isQueued_25 : decode cX9_isQueued 25 = .ok (.iload_n 1, 1) := by decide +kernel
theorem dX9_isQueued_26 : decode cX9_isQueued 26 = .ok (.if_icmp .ne 5, 3) := by decide +kernel
theorem dX9_isQueued_29 : decode cX9_isQueued 29 = .ok (.iconst 1, 1) := by decide +kernel
theorem dX9_isQueued_30 : decode cX9_isQueued 30 = .ok (.ireturn, 1) := by decide +kernel
theorem dX9_isQueued_31 : decode cX9_isQueued 31 = .ok (.iinc 2 1, 3) := by decide +kernel
theorem dX9_isQueued_34 : decode cX9_isQueued 34 = .ok (.goto (-32), 3) := by decide +kernel
theorem dX9_isQueued_37 : decode cX9_isQueued 37 = .ok (.iconst 0, 1) := by decide +kernel
theorem dX9_isQueued_38 : decode cX9_isQueued 38 = .ok (.ireturn, 1) := by decide +kernel
theorem dX9_isQueueFull_0 : decode cX9_isQueueFull 0 = .ok (.aload_n 0, 1) := by decide +kernel
theorem dX9_isQueueFull_1 : decode cX9_isQueueFull 1 = .ok (.getfield 15, 3) := by decide +kernel
theorem dX9_isQueueFull_4 : decode cX9_isQueueFull 4 = .ok (.aload_n 0, 1) := by decide +kernel
theorem dX9_isQueueFull_5 : decode cX9_isQueueFull 5 = .ok (.getfield 9, 3) := by decide +kernel
theorem dX9_isQueueFull_8 : decode cX9_isQueueFull 8 = .ok (.arraylength, 1) := by decide +kernel
theorem dX9_isQueueFull_9 : decode cX9_isQueueFull 9 = .ok (.if_icmp .lt 7, 3) := by decide +kernel
theorem dX9_isQueueFull_12 : decode cX9_isQueueFull 12 = .ok (.iconst 1, 1) := by decide +kernel
theorem dX9_isQueueFull_13 : decode cX9_isQueueFull 13 = .ok (.goto 4, 3) := by decide +kernel
theorem dX9_isQueueFull_16 : decode cX9_isQueueFull 16 = .ok (.iconst 0, 1) := by decide +kernel
theorem dX9_isQueueFull_17 : decode cX9_isQueueFull 17 = .ok (.ireturn, 1) := by decide +kernel
theorem dX9_join_0 : decode cX9_join 0 = .ok (.aload_n 0, 1) := by decide +kernel
theorem dX9_join_1 : decode cX9_join 1 = .ok (.getfield 15, 3) := by decide +kernel
theorem dX9_join_4 : decode cX9_join 4 = .ok (.aload_n 0, 1) := by decide +kernel
theorem dX9_join_5 : decode cX9_join 5 = .ok (.getfield 9, 3) := by decide +kernel
theorem dX9_join_8 : decode cX9_join 8 = .ok (.arraylength, 1) := by decide +kernel
theorem dX9_join_9 : decode cX9_join 9 = .ok (.if_icmp .ge 23, 3) := by decide +kernel
theorem dX9_join_12 : decode cX9_join 12 = .ok (.aload_n 0, 1) := by decide +kernel
theorem dX9_join_13 : decode cX9_join 13 = .ok (.getfield 9, 3) := by decide +kernel
theorem dX9_join_16 : decode cX9_join 16 = .ok (.aload_n 0, 1) := by decide +kernel
theorem dX9_join_17 : decode cX9_join 17 = .ok (.getfield 15, 3) := by decide +kernel
theorem dX9_join_20 : decode cX9_join 20 = .ok (.iload_n 1, 1) := by decide +kernel
theorem dX9_join_21 : decode cX9_join 21 = .ok (.iastore, 1) := by decide +kernel
theorem dX9_join_22 : decode cX9_join 22 = .ok (.aload_n 0, 1) := by decide +kernel
theorem dX9_join_23 : decode cX9_join 23 = .ok (.dup, 1) := by decide +kernel
theorem dX9_join_24 : decode cX9_join 24 = .ok (.getfield 15, 3) := by decide +kernel
theorem dX9_join_27 : decode cX9_join 27 = .ok (.iconst 1, 1) := by decide +kernel
theorem dX9_join_28 : decode cX9_join 28 = .ok (.iadd, 1) := by decide +kernel
theorem dX9_join_29 : decode cX9_join 29 = .ok (.putfield 15, 3) := by decide +kernel
theorem dX9_join_32 : decode cX9_join 32 = .ok (.return_, 1) := by decide +kernel
theorem dX9_dropFirst_0 : decode cX9_dropFirst 0 = .ok (.aload_n 0, 1) := by decide +kernel
theorem dX9_dropFirst_1 : decode cX9_dropFirst 1 = .ok (.getfield 15, 3) := by decide +kernel
theorem dX9_dropFirst_4 : decode cX9_dropFirst 4 = .ok (.ifCond .le 57, 3) := by decide +kernel
theorem dX9_dropFirst_7 : decode cX9_dropFirst 7 = .ok (.iconst 1, 1) := by decide +kernel
theorem dX9_dropFirst_8 : decode cX9_dropFirst 8 = .ok (.istore_n 1, 1) := by decide +kernel
theorem dX9_dropFirst_9 : decode cX9_dropFirst 9 = .ok (.iload_n 1, 1) := by decide +kernel
theorem dX9_dropFirst_10 : decode cX9_dropFirst 10 = .ok (.aload_n 0, 1) := by decide +kernel
theorem dX9_dropFirst_11 : decode cX9_dropFirst 11 = .ok (.getfield 15, 3) := by decide +kernel
theorem dX9_dropFirst_14 : decode cX9_dropFirst 14 = .ok (.if_icmp .ge 32, 3) := by decide +kernel
theorem dX9_dropFirst_17 : decode cX9_dropFirst 17 = .ok (.iload_n 1, 1) := by decide +kernel
theorem dX9_dropFirst_18 : decode cX9_dropFirst 18 = .ok (.aload_n 0, 1) := by decide +kernel
theorem dX9_dropFirst_19 : decode cX9_dropFirst 19 = .ok (.getfield 9, 3) := by decide +kernel
theorem dX9_dropFirst_22 : decode cX9_dropFirst 22 = .ok (.arraylength, 1) := by decide +kernel
theorem dX9_dropFirst_23 : decode cX9_dropFirst 23 = .ok (.if_icmp .ge 23, 3) := by decide +kernel
theorem dX9_dropFirst_26 : decode cX9_dropFirst 26 = .ok (.aload_n 0, 1) := by decide +kernel
theorem dX9_dropFirst_27 : decode cX9_dropFirst 27 = .ok (.getfield 9, 3) := by decide +kernel
theorem dX9_dropFirst_30 : decode cX9_dropFirst 30 = .ok (.iload_n 1, 1) := by decide +kernel
theorem dX9_dropFirst_31 : decode cX9_dropFirst 31 = .ok (.iconst 1, 1) := by decide +kernel
theorem dX9_dropFirst_32 : decode cX9_dropFirst 32 = .ok (.isub, 1) := by decide +kernel
theorem dX9_dropFirst_33 : decode cX9_dropFirst 33 = .ok (.aload_n 0, 1) := by decide +kernel
theorem dX9_dropFirst_34 : decode cX9_dropFirst 34 = .ok (.getfield 9, 3) := by decide +kernel
theorem dX9_dropFirst_37 : decode cX9_dropFirst 37 = .ok (.iload_n 1, 1) := by decide +kernel
theorem dX9_dropFirst_38 : decode cX9_dropFirst 38 = .ok (.iaload, 1) := by decide +kernel
theorem dX9_dropFirst_39 : decode cX9_dropFirst 39 = .ok (.iastore, 1) := by decide +kernel
theorem dX9_dropFirst_40 : decode cX9_dropFirst 40 = .ok (.iinc 1 1, 3) := by decide +kernel
theorem dX9_dropFirst_43 : decode cX9_dropFirst 43 = .ok (.goto (-34), 3) := by decide +kernel
theorem dX9_dropFirst_46 : decode cX9_dropFirst 46 = .ok (.aload_n 0, 1) := by decide +kernel
theorem dX9_dropFirst_47 : decode cX9_dropFirst 47 = .ok (.dup, 1) := by decide +kernel
theorem dX9_dropFirst_48 : decode cX9_dropFirst 48 = .ok (.getfield 15, 3) := by decide +kernel
theorem dX9_dropFirst_51 : decode cX9_dropFirst 51 = .ok (.iconst 1, 1) := by decide +kernel
theorem dX9_dropFirst_52 : decode cX9_dropFirst 52 = .ok (.isub, 1) := by decide +kernel
theorem dX9_dropFirst_53 : decode cX9_dropFirst 53 = .ok (.putfield 15, 3) := by decide +kernel
theorem dX9_dropFirst_56 : decode cX9_dropFirst 56 = .ok (.aload_n 0, 1) := by decide +kernel
theorem dX9_dropFirst_57 : decode cX9_dropFirst 57 = .ok (.iconst 0, 1) := by decide +kernel
theorem dX9_dropFirst_58 : decode cX9_dropFirst 58 = .ok (.putfield 19, 3) := by decide +kernel
theorem dX9_dropFirst_61 : decode cX9_dropFirst 61 = .ok (.return_, 1) := by decide +kernel
theorem dX9_dropLateFirst_0 : decode cX9_dropLateFirst 0 = .ok (.aload_n 0, 1) := by decide +kernel
theorem dX9_dropLateFirst_1 : decode cX9_dropLateFirst 1 = .ok (.getfield 19, 3) := by decide +kernel
theorem dX9_dropLateFirst_4 : decode cX9_dropLateFirst 4 = .ok (.ifCond .eq 16, 3) := by decide +kernel
theorem dX9_dropLateFirst_7 : decode cX9_dropLateFirst 7 = .ok (.aload_n 0, 1) := by decide +kernel
theorem dX9_dropLateFirst_8 : decode cX9_dropLateFirst 8 = .ok (.getfield 23, 3) := by decide +kernel
theorem dX9_dropLateFirst_11 : decode cX9_dropLateFirst 11 = .ok (.lload_n 1, 1) := by decide +kernel
theorem dX9_dropLateFirst_12 : decode cX9_dropLateFirst 12 = .ok (.lcmp, 1) := by decide +kernel
theorem dX9_dropLateFirst_13 : decode cX9_dropLateFirst 13 = .ok (.ifCond .gt 7, 3) := by decide +kernel
theorem dX9_dropLateFirst_16 : decode cX9_dropLateFirst 16 = .ok (.aload_n 0, 1) := by decide +kernel
theorem dX9_dropLateFirst_17 : decode cX9_dropLateFirst 17 = .ok (.invokevirtual 37, 3) := by decide +kernel
theorem dX9_dropLateFirst_20 : decode cX9_dropLateFirst 20 = .ok (.return_, 1) := by decide +kernel
theorem dX9_isFirstDue_0 : decode cX9_isFirstDue 0 = .ok (.aload_n 0, 1) := by decide +kernel
theorem dX9_isFirstDue_1 : decode cX9_isFirstDue 1 = .ok (.getfield 15, 3) := by decide +kernel
theorem dX9_isFirstDue_4 : decode cX9_isFirstDue 4 = .ok (.ifCond .le 24, 3) := by decide +kernel
theorem dX9_isFirstDue_7 : decode cX9_isFirstDue 7 = .ok (.aload_n 0, 1) := by decide +kernel
theorem dX9_isFirstDue_8 : decode cX9_isFirstDue 8 = .ok (.getfield 27, 3) := by decide +kernel
theorem dX9_isFirstDue_11 : decode cX9_isFirstDue 11 = .ok (.invokevirtual 31, 3) := by decide +kernel
theorem dX9_isFirstDue_14 : decode cX9_isFirstDue 14 = .ok (.ifCond .eq 14, 3) := by decide +kernel
theorem dX9_isFirstDue_17 : decode cX9_isFirstDue 17 = .ok (.aload_n 0, 1) := by decide +kernel
theorem dX9_isFirstDue_18 : decode cX9_isFirstDue 18 = .ok (.getfield 19, 3) := by decide +kernel
theorem dX9_isFirstDue_21 : decode cX9_isFirstDue 21 = .ok (.ifCond .ne 7, 3) := by decide +kernel
theorem dX9_isFirstDue_24 : decode cX9_isFirstDue 24 = .ok (.iconst 1, 1) := by decide +kernel
theorem dX9_isFirstDue_25 : decode cX9_isFirstDue 25 = .ok (.goto 4, 3) := by decide +kernel
theorem dX9_isFirstDue_28 : decode cX9_isFirstDue 28 = .ok (.iconst 0, 1) := by decide +kernel
theorem dX9_isFirstDue_29 : decode cX9_isFirstDue 29 = .ok (.ireturn, 1) := by decide +kernel
theorem dX9_callFirst_0 : decode cX9_callFirst 0 = .ok (.aload_n 0, 1) := by decide +kernel
theorem dX9_callFirst_1 : decode cX9_callFirst 1 = .ok (.iconst 1, 1) := by decide +kernel
theorem dX9_callFirst_2 : decode cX9_callFirst 2 = .ok (.putfield 19, 3) := by decide +kernel
theorem dX9_callFirst_5 : decode cX9_callFirst 5 = .ok (.aload_n 0, 1) := by decide +kernel
theorem dX9_callFirst_6 : decode cX9_callFirst 6 = .ok (.lload_n 1, 1) := by decide +kernel
theorem dX9_callFirst_7 : decode cX9_callFirst 7 = .ok (.aload_n 0, 1) := by decide +kernel
theorem dX9_callFirst_8 : decode cX9_callFirst 8 = .ok (.getfield 41, 3) := by decide +kernel
theorem dX9_callFirst_11 : decode cX9_callFirst 11 = .ok (.i2l, 1) := by decide +kernel
theorem dX9_callFirst_12 : decode cX9_callFirst 12 = .ok (.ladd, 1) := by decide +kernel
theorem dX9_callFirst_13 : decode cX9_callFirst 13 = .ok (.putfield 23, 3) := by decide +kernel
theorem dX9_callFirst_16 : decode cX9_callFirst 16 = .ok (.return_, 1) := by decide +kernel
theorem dX10_init_0 : decode cX10_init 0 = .ok (.aload_n 0, 1) := by decide +kernel
theorem dX10_init_1 : decode cX10_init 1 = .ok (.iload_n 1, 1) := by decide +kernel
theorem dX10_init_2 : decode cX10_init 2 = .ok (.iload_n 2, 1) := by decide +kernel
theorem dX10_init_3 : decode cX10_init 3 = .ok (.invokespecial 3, 3) := by decide +kernel
theorem dX10_init_6 : decode cX10_init 6 = .ok (.aload_n 0, 1) := by decide +kernel
theorem dX10_init_7 : decode cX10_init 7 = .ok (.bipush 20, 2) := by decide +kernel
theorem dX10_init_9 : decode cX10_init 9 = .ok (.anewarray 9, 3) := by decide +kernel
theorem dX10_init_12 : decode cX10_init 12 = .ok (.putfield 11, 3) := by decide +kernel
theorem dX10_init_15 : decode cX10_init 15 = .ok (.aload_n 0, 1) := by decide +kernel
theorem dX10_init_16 : decode cX10_init 16 = .ok (.iconst 0, 1) := by decide +kernel
theorem dX10_init_17 : decode cX10_init 17 = .ok (.putfield 17, 3) := by decide +kernel
theorem dX10_init_20 : decode cX10_init 20 = .ok (.iconst 0, 1) := by decide +kernel
theorem dX10_init_21 : decode cX10_init 21 = .ok (.istore_n 3, 1) := by decide +kernel
theorem dX10_init_22 : decode cX10_init 22 = .ok (.iload_n 3, 1) := by decide +kernel
theorem dX10_init_23 : decode cX10_init 23 = .ok (.aload_n 0, 1) := by decide +kernel
theorem dX10_init_24 : decode cX10_init 24 = .ok (.getfield 11, 3) := by decide +kernel
theorem dX10_init_27 : decode cX10_init 27 = .ok (.arraylength, 1) := by decide +kernel
theorem dX10_init_28 : decode cX10_init 28 = .ok (.if_icmp .ge 22, 3) := by decide +kernel
theorem dX10_init_31 : decode cX10_init 31 = .ok (.aload_n 0, 1) := by decide +kernel
theorem dX10_init_32 : decode cX10_init 32 = .ok (.getfield 11, 3) := by decide +kernel
theorem dX10_init_35 : decode cX10_init 35 = .ok (.iload_n 3, 1) := by decide +kernel
theorem dX10_init_36 : decode cX10_init 36 = .ok (.new 9, 3) := by decide +kernel
theorem dX10_init_39 : decode cX10_init 39 = .ok (.dup, 1) := by decide +kernel
theorem dX10_init_40 : decode cX10_init 40 = .ok (.invokespecial 21, 3) := by decide +kernel
theorem dX10_init_43 : decode cX10_init 43 = .ok (.aastore, 1) := by decide +kernel
theorem dX10_init_44 : decode cX10_init 44 = .ok (.iinc 3 1, 3) := by decide +kernel
theorem dX10_init_47 : decode cX10_init 47 = .ok (.goto (-25), 3) := by decide +kernel
theorem dX10_init_50 : decode cX10_init 50 = .ok (.return_, 1) := by decide +kernel
theorem dX10_memoryOf_0 : decode cX10_memoryOf 0 = .ok (.iload_n 1, 1) := by decide +kernel
theorem dX10_memoryOf_1 : decode cX10_memoryOf 1 = .ok (.ifCond .lt 12, 3) := by decide +kernel
theorem dX10_memoryOf_4 : decode cX10_memoryOf 4 = .ok (.iload_n 1, 1) := by decide +kernel
theorem dX10_memoryOf_5 : decode cX10_memoryOf 5 = .ok (.aload_n 0, 1) := by decide +kernel
theorem dX10_memoryOf_6 : decode cX10_memoryOf 6 = .ok (.getfield 11, 3) := by decide +kernel
theorem dX10_memoryOf_9 : decode cX10_memoryOf 9 = .ok (.arraylength, 1) := by decide +kernel
theorem dX10_memoryOf_10 : decode cX10_memoryOf 10 = .ok (.if_icmp .lt 7, 3) := by decide +kernel
theorem dX10_memoryOf_13 : decode cX10_memoryOf 13 = .ok (.aconst_null, 1) := by decide +kernel
theorem dX10_memoryOf_14 : decode cX10_memoryOf 14 = .ok (.goto 9, 3) := by decide +kernel
theorem dX10_memoryOf_17 : decode cX10_memoryOf 17 = .ok (.aload_n 0, 1) := by decide +kernel
theorem dX10_memoryOf_18 : decode cX10_memoryOf 18 = .ok (.getfield 11, 3) := by decide +kernel
theorem dX10_memoryOf_21 : decode cX10_memoryOf 21 = .ok (.iload_n 1, 1) := by decide +kernel
theorem dX10_memoryOf_22 : decode cX10_memoryOf 22 = .ok (.aaload, 1) := by decide +kernel
theorem dX10_memoryOf_23 : decode cX10_memoryOf 23 = .ok (.areturn, 1) := by decide +kernel
theorem dX11_init_0 : decode cX11_init 0 = .ok (.aload_n 0, 1) := by decide +kernel
theorem dX11_init_1 : decode cX11_init 1 = .ok (.invokespecial 1, 3) := by decide +kernel
theorem dX11_init_4 : decode cX11_init 4 = .ok (.aload_n 0, 1) := by decide +kernel
theorem dX11_init_5 : decode cX11_init 5 = .ok (.new 7, 3) := by decide +kernel
theorem dX11_init_8 : decode cX11_init 8 = .ok (.dup, 1) := by decide +kernel
theorem dX11_init_9 : decode cX11_init 9 = .ok (.invokespecial 9, 3) := by decide +kernel
theorem dX11_init_12 : decode cX11_init 12 = .ok (.putfield 10, 3) := by decide +kernel
theorem dX11_init_15 : decode cX11_init 15 = .ok (.aload_n 0, 1) := by decide +kernel
theorem dX11_init_16 : decode cX11_init 16 = .ok (.new 7, 3) := by decide +kernel
theorem dX11_init_19 : decode cX11_init 19 = .ok (.dup, 1) := by decide +kernel
theorem dX11_init_20 : decode cX11_init 20 = .ok (.invokespecial 9, 3) := by decide +kernel
theorem dX11_init_23 : decode cX11_init 23 = .ok (.putfield 16, 3) := by decide +kernel
theorem dX11_init_26 : decode cX11_init 26 = .ok (.aload_n 0, 1) := by decide +kernel
theorem dX11_init_27 : decode cX11_init 27 = .ok (.new 7, 3) := by decide +kernel
theorem dX11_init_30 : decode cX11_init 30 = .ok (.dup, 1) := by decide +kernel
theorem dX11_init_31 : decode cX11_init 31 = .ok (.invokespecial 9, 3) := by decide +kernel
theorem dX11_init_34 : decode cX11_init 34 = .ok (.putfield 19, 3) := by decide +kernel
theorem dX11_init_37 : decode cX11_init 37 = .ok (.aload_n 0, 1) := by decide +kernel
theorem dX11_init_38 : decode cX11_init 38 = .ok (.new 7, 3) := by decide +kernel
theorem dX11_init_41 : decode cX11_init 41 = .ok (.dup, 1) := by decide +kernel
theorem dX11_init_42 : decode cX11_init 42 = .ok (.invokespecial 9, 3) := by decide +kernel
theorem dX11_init_45 : decode cX11_init 45 = .ok (.putfield 22, 3) := by decide +kernel
theorem dX11_init_48 : decode cX11_init 48 = .ok (.aload_n 0, 1) := by decide +kernel
theorem dX11_init_49 : decode cX11_init 49 = .ok (.bipush 6, 2) := by decide +kernel
theorem dX11_init_51 : decode cX11_init 51 = .ok (.bipush 20, 2) := by decide +kernel
theorem dX11_init_53 : decode cX11_init 53 = .ok (.multianewarray 25 2, 4) := by decide +kernel
theorem dX11_init_57 : decode cX11_init 57 = .ok (.putfield 27, 3) := by decide +kernel
theorem dX11_init_60 : decode cX11_init 60 = .ok (.aload_n 0, 1) := by decide +kernel
theorem dX11_init_61 : decode cX11_init 61 = .ok (.bipush 6, 2) := by decide +kernel
theorem dX11_init_63 : decode cX11_init 63 = .ok (.bipush 20, 2) := by decide +kernel
theorem dX11_init_65 : decode cX11_init 65 = .ok (.multianewarray 25 2, 4) := by decide +kernel
theorem dX11_init_69 : decode cX11_init 69 = .ok (.putfield 30, 3) := by decide +kernel
theorem dX11_init_72 : decode cX11_init 72 = .ok (.aload_n 0, 1) := by decide +kernel
theorem dX11_init_73 : decode cX11_init 73 = .ok (.bipush 6, 2) := by decide +kernel
theorem dX11_init_75 : decode cX11_init 75 = .ok (.anewarray 33, 3) := by decide +kernel
theorem dX11_init_78 : decode cX11_init 78 = .ok (.putfield 35, 3) := by decide +kernel
theorem dX11_init_81 : decode cX11_init 81 = .ok (.aload_n 0, 1) := by decide +kernel
theorem dX11_init_82 : decode cX11_init 82 = .ok (.iconst 0, 1) := by decide +kernel
theorem dX11_init_83 : decode cX11_init 83 = .ok (.putfield 39, 3) := by decide +kernel
theorem dX11_init_86 : decode cX11_init 86 = .ok (.aload_n 0, 1) := by decide +kernel
theorem dX11_init_87 : decode cX11_init 87 = .ok (.iconst 0, 1) := by decide +kernel
theorem dX11_init_88 : decode cX11_init 88 = .ok (.putfield 43, 3) := by decide +kernel
theorem dX11_init_91 : decode cX11_init 91 = .ok (.aload_n 0, 1) := by decide +kernel
theorem dX11_init_92 : decode cX11_init 92 = .ok (.iconst (-1), 1) := by decide +kernel
theorem dX11_init_93 : decode cX11_init 93 = .ok (.putfield 46, 3) := by decide +kernel
theorem dX11_init_96 : decode cX11_init 96 = .ok (.aload_n 0, 1) := by decide +kernel
theorem dX11_init_97 : decode cX11_init 97 = .ok (.iconst 0, 1) := by decide +kernel
theorem dX11_init_98 : decode cX11_init 98 = .ok (.putfield 49, 3) := by decide +kernel
theorem dX11_init_101 : decode cX11_init 101 = .ok (.aload_n 0, 1) := by decide +kernel
theorem dX11_init_102 : decode cX11_init 102 = .ok (.iconst 0, 1) := by decide +kernel
theorem dX11_init_103 : decode cX11_init 103 = .ok (.putfield 52, 3) := by decide +kernel
theorem dX11_init_106 : decode cX11_init 106 = .ok (.aload_n 0, 1) := by decide +kernel
theorem dX11_init_107 : decode cX11_init 107 = .ok (.iconst 0, 1) := by decide +kernel
theorem dX11_init_108 : decode cX11_init 108 = .ok (.putfield 55, 3) := by decide +kernel
theorem dX11_init_111 : decode cX11_init 111 = .ok (.aload_n 0, 1) := by decide +kernel
theorem dX11_init_112 : decode cX11_init 112 = .ok (.iconst 0, 1) := by decide +kernel
theorem dX11_init_113 : decode cX11_init 113 = .ok (.putfield 58, 3) := by decide +kernel
theorem dX11_init_116 : decode cX11_init 116 = .ok (.aload_n 0, 1) := by decide +kernel
theorem dX11_init_117 : decode cX11_init 117 = .ok (.iconst 0, 1) := by decide +kernel
theorem dX11_init_118 : decode cX11_init 118 = .ok (.putfield 61, 3) := by decide +kernel
theorem dX11_init_121 : decode cX11_init 121 = .ok (.aload_n 0, 1) := by decide +kernel
theorem dX11_init_122 : decode cX11_init 122 = .ok (.iconst 0, 1) := by decide +kernel
theorem dX11_init_123 : decode cX11_init 123 = .ok (.putfield 64, 3) := by decide +kernel
theorem dX11_init_126 : decode cX11_init 126 = .ok (.aload_n 0, 1) := by decide +kernel
theorem dX11_init_127 : decode cX11_init 127 = .ok (.iconst 0, 1) := by decide +kernel
theorem dX11_init_128 : decode cX11_init 128 = .ok (.putfield 67, 3) := by decide +kernel
theorem dX11_init_131 : decode cX11_init 131 = .ok (.aload_n 0, 1) := by decide +kernel
theorem dX11_init_132 : decode cX11_init 132 = .ok (.iconst 0, 1) := by decide +kernel
theorem dX11_init_133 : decode cX11_init 133 = .ok (.bipush 100, 2) := by decide +kernel
theorem dX11_init_135 : decode cX11_init 135 = .ok (.iload_n 1, 1) := by decide +kernel
theorem dX11_init_136 : decode cX11_init 136 = .ok (.invokestatic 70, 3) := by decide +kernel
theorem dX11_init_139 : decode cX11_init 139 = .ok (.invokestatic 76, 3) := by decide +kernel
theorem dX11_init_142 : decode cX11_init 142 = .ok (.putfield 79, 3) := by decide +kernel
theorem dX11_init_145 : decode cX11_init 145 = .ok (.iconst 0, 1) := by decide +kernel
theorem dX11_init_146 : decode cX11_init 146 = .ok (.istore_n 2, 1) := by decide +kernel
theorem dX11_init_147 : decode cX11_init 147 = .ok (.iload_n 2, 1) := by decide +kernel
theorem dX11_init_148 : decode cX11_init 148 = .ok (.aload_n 0, 1) := by decide +kernel
theorem dX11_init_149 : decode cX11_init 149 = .ok (.getfield 35, 3) := by decide +kernel
theorem dX11_init_152 : decode cX11_init 152 = .ok (.arraylength, 1) := by decide +kernel
theorem dX11_init_153 : decode cX11_init 153 = .ok (.if_icmp .ge 22, 3) := by decide +kernel
theorem dX11_init_156 : decode cX11_init 156 = .ok (.aload_n 0, 1) := by decide +kernel
theorem dX11_init_157 : decode cX11_init 157 = .ok (.getfield 35, 3) := by decide +kernel
theorem dX11_init_160 : decode cX11_init 160 = .ok (.iload_n 2, 1) := by decide +kernel
theorem dX11_init_161 : decode cX11_init 161 = .ok (.new 33, 3) := by decide +kernel
theorem dX11_init_164 : decode cX11_init 164 = .ok (.dup, 1) := by decide +kernel
theorem dX11_init_165 : decode cX11_init 165 = .ok (.invokespecial 82, 3) := by decide +kernel
theorem dX11_init_168 : decode cX11_init 168 = .ok (.aastore, 1) := by decide +kernel
theorem dX11_init_169 : decode cX11_init 169 = .ok (.iinc 2 1, 3) := by decide +kernel
theorem dX11_init_172 : decode cX11_init 172 = .ok (.goto (-25), 3) := by decide +kernel
theorem dX11_init_175 : decode cX11_init 175 = .ok (.return_, 1) := by decide +kernel
theorem dX11_keeper_0 : decode cX11_keeper 0 = .ok (.aload_n 0, 1) := by decide +kernel
theorem dX11_keeper_1 : decode cX11_keeper 1 = .ok (.iload_n 1, 1) := by decide +kernel
theorem dX11_keeper_2 : decode cX11_keeper 2 = .ok (.iload_n 2, 1) := by decide +kernel
theorem dX11_keeper_3 : decode cX11_keeper 3 = .ok (.invokevirtual 83, 3) := by decide +kernel
theorem dX11_keeper_6 : decode cX11_keeper 6 = .ok (.ifCond .ne 6, 3) := by decide +kernel
theorem dX11_keeper_9 : decode cX11_keeper 9 = .ok (.bipush (-2), 2) := by decide +kernel
theorem dX11_keeper_11 : decode cX11_keeper 11 = .ok (.ireturn, 1) := by decide +kernel
theorem dX11_keeper_12 : decode cX11_keeper 12 = .ok (.aload_n 0, 1) := by decide +kernel
theorem dX11_keeper_13 : decode cX11_keeper 13 = .ok (.getfield 10, 3) := by decide +kernel
theorem dX11_keeper_16 : decode cX11_keeper 16 = .ok (.invokevirtual 87, 3) := by decide +kernel
theorem dX11_keeper_19 : decode cX11_keeper 19 = .ok (.iconst 5, 1) := by decide +kernel
theorem dX11_keeper_20 : decode cX11_keeper 20 = .ok (.if_icmp .lt 6, 3) := by decide +kernel
theorem dX11_keeper_23 : decode cX11_keeper 23 = .ok (.bipush (-4), 2) := by decide +kernel
theorem dX11_keeper_25 : decode cX11_keeper 25 = .ok (.ireturn, 1) := by decide +kernel
theorem dX11_keeper_26 : decode cX11_keeper 26 = .ok (.aload_n 0, 1) := by decide +kernel
theorem dX11_keeper_27 : decode cX11_keeper 27 = .ok (.getfield 10, 3) := by decide +kernel
theorem dX11_keeper_30 : decode cX11_keeper 30 = .ok (.new 91, 3) := by decide +kernel
theorem dX11_keeper_33 : decode cX11_keeper 33 = .ok (.dup, 1) := by decide +kernel
theorem dX11_keeper_34 : decode cX11_keeper 34 = .ok (.iload_n 1, 1) := by decide +kernel
theorem dX11_keeper_35 : decode cX11_keeper 35 = .ok (.iload_n 2, 1) := by decide +kernel
theorem dX11_keeper_36 : decode cX11_keeper 36 = .ok (.invokespecial 93, 3) := by decide +kernel
theorem dX11_keeper_39 : decode cX11_keeper 39 = .ok (.invokevirtual 96, 3) := by decide +kernel
theorem dX11_keeper_42 : decode cX11_keeper 42 = .ok (.pop, 1) := by decide +kernel
theorem dX11_keeper_43 : decode cX11_keeper 43 = .ok (.aload_n 0, 1) := by decide +kernel
theorem dX11_keeper_44 : decode cX11_keeper 44 = .ok (.getfield 10, 3) := by decide +kernel
theorem dX11_keeper_47 : decode cX11_keeper 47 = .ok (.invokevirtual 87, 3) := by decide +kernel
theorem dX11_keeper_50 : decode cX11_keeper 50 = .ok (.iconst 1, 1) := by decide +kernel
theorem dX11_keeper_51 : decode cX11_keeper 51 = .ok (.isub, 1) := by decide +kernel
theorem dX11_keeper_52 : decode cX11_keeper 52 = .ok (.ireturn, 1) := by decide +kernel
theorem dX11_worker_0 : decode cX11_worker 0 = .ok (.aload_n 0, 1) := by decide +kernel
theorem dX11_worker_1 : decode cX11_worker 1 = .ok (.iload_n 1, 1) := by decide +kernel
theorem dX11_worker_2 : decode cX11_worker 2 = .ok (.iload_n 2, 1) := by decide +kernel
theorem dX11_worker_3 : decode cX11_worker 3 = .ok (.invokevirtual 83, 3) := by decide +kernel
theorem dX11_worker_6 : decode cX11_worker 6 = .ok (.ifCond .ne 6, 3) := by decide +kernel
theorem dX11_worker_9 : decode cX11_worker 9 = .ok (.bipush (-2), 2) := by decide +kernel
theorem dX11_worker_11 : decode cX11_worker 11 = .ok (.ireturn, 1) := by decide +kernel
theorem dX11_worker_12 : decode cX11_worker 12 = .ok (.aload_n 0, 1) := by decide +kernel
theorem dX11_worker_13 : decode cX11_worker 13 = .ok (.getfield 16, 3) := by decide +kernel
theorem dX11_worker_16 : decode cX11_worker 16 = .ok (.invokevirtual 87, 3) := by decide +kernel
theorem dX11_worker_19 : decode cX11_worker 19 = .ok (.bipush 20, 2) := by decide +kernel
theorem dX11_worker_21 : decode cX11_worker 21 = .ok (.if_icmp .lt 6, 3) := by decide +kernel
theorem dX11_worker_24 : decode cX11_worker 24 = .ok (.bipush (-4), 2) := by decide +kernel
theorem dX11_worker_26 : decode cX11_worker 26 = .ok (.ireturn, 1) := by decide +kernel
theorem dX11_worker_27 : decode cX11_worker 27 = .ok (.aload_n 0, 1) := by decide +kernel
theorem dX11_worker_28 : decode cX11_worker 28 = .ok (.getfield 16, 3) := by decide +kernel
theorem dX11_worker_31 : decode cX11_worker 31 = .ok (.new 100, 3) := by decide +kernel
theorem dX11_worker_34 : decode cX11_worker 34 = .ok (.dup, 1) := by decide +kernel
theorem dX11_worker_35 : decode cX11_worker 35 = .ok (.iload_n 1, 1) := by decide +kernel
theorem dX11_worker_36 : decode cX11_worker 36 = .ok (.iload_n 2, 1) := by decide +kernel
theorem dX11_worker_37 : decode cX11_worker 37 = .ok (.invokespecial 102, 3) := by decide +kernel
theorem dX11_worker_40 : decode cX11_worker 40 = .ok (.invokevirtual 96, 3) := by decide +kernel
theorem dX11_worker_43 : decode cX11_worker 43 = .ok (.pop, 1) := by decide +kernel
theorem dX11_worker_44 : decode cX11_worker 44 = .ok (.aload_n 0, 1) := by decide +kernel
theorem dX11_worker_45 : decode cX11_worker 45 = .ok (.getfield 16, 3) := by decide +kernel
theorem dX11_worker_48 : decode cX11_worker 48 = .ok (.invokevirtual 87, 3) := by decide +kernel
theorem dX11_worker_51 : decode cX11_worker 51 = .ok (.iconst 1, 1) := by decide +kernel
theorem dX11_worker_52 : decode cX11_worker 52 = .ok (.isub, 1) := by decide +kernel
theorem dX11_worker_53 : decode cX11_worker 53 = .ok (.ireturn, 1) := by decide +kernel
theorem dX11_thing_0 : decode cX11_thing 0 = .ok (.iload_n 1, 1) := by decide +kernel
theorem dX11_thing_1 : decode cX11_thing 1 = .ok (.iconst 2, 1) := by decide +kernel
theorem dX11_thing_2 : decode cX11_thing 2 = .ok (.if_icmp .ne 7, 3) := by decide +kernel
theorem dX11_thing_5 : decode cX11_thing 5 = .ok (.iconst 1, 1) := by decide +kernel
theorem dX11_thing_6 : decode cX11_thing 6 = .ok (.goto 4, 3) := by decide +kernel
theorem dX11_thing_9 : decode cX11_thing 9 = .ok (.iconst 0, 1) := by decide +kernel
theorem dX11_thing_10 : decode cX11_thing 10 = .ok (.istore 4, 2) := by decide +kernel
theorem dX11_thing_12 : decode cX11_thing 12 = .ok (.iload_n 1, 1) := by decide +kernel
theorem dX11_thing_13 : decode cX11_thing 13 = .ok (.iconst 2, 1) := by decide +kernel
theorem dX11_thing_14 : decode cX11_thing 14 = .ok (.if_icmp .ne 8, 3) := by decide +kernel
theorem dX11_thing_17 : decode cX11_thing 17 = .ok (.bipush 100, 2) := by decide +kernel
theorem dX11_thing_19 : decode cX11_thing 19 = .ok (.goto 4, 3) := by decide +kernel
theorem dX11_thing_22 : decode cX11_thing 22 = .ok (.iconst 0, 1) := by decide +kernel
theorem dX11_thing_23 : decode cX11_thing 23 = .ok (.istore 5, 2) := by decide +kernel
theorem dX11_thing_25 : decode cX11_thing 25 = .ok (.iload_n 1, 1) := by decide +kernel
theorem dX11_thing_26 : decode cX11_thing 26 = .ok (.iconst 0, 1) := by decide +kernel
theorem dX11_thing_27 : decode cX11_thing 27 = .ok (.iconst 4, 1) := by decide +kernel
theorem dX11_thing_28 : decode cX11_thing 28 = .ok (.invokestatic 103, 3) := by decide +kernel
theorem dX11_thing_31 : decode cX11_thing 31 = .ok (.ifCond .eq 25, 3) := by decide +kernel
theorem dX11_thing_34 : decode cX11_thing 34 = .ok (.iload_n 2, 1) := by decide +kernel
theorem dX11_thing_35 : decode cX11_thing 35 = .ok (.iconst 1, 1) := by decide +kernel
theorem dX11_thing_36 : decode cX11_thing 36 = .ok (.sipush 1000, 3) := by decide +kernel
theorem dX11_thing_39 : decode cX11_thing 39 = .ok (.invokestatic 103, 3) := by decide +kernel
theorem dX11_thing_42 : decode cX11_thing 42 = .ok (.ifCond .eq 14, 3) := by decide +kernel
theorem dX11_thing_45 : decode cX11_thing 45 = .ok (.iload_n 3, 1) := by decide +kernel
theorem dX11_thing_46 : decode cX11_thing 46 = .ok (.iload 4, 2) := by decide +kernel
theorem dX11_thing_48 : decode cX11_thing 48 = .ok (.iload 5, 2) := by decide +kernel
theorem dX11_thing_50 : decode cX11_thing 50 = .ok (.invokestatic 103, 3) := by decide +kernel
theorem dX11_thing_53 : decode cX11_thing 53 = .ok (.ifCond .ne 6, 3) := by decide +kernel
theorem dX11_thing_56 : decode cX11_thing 56 = .ok (.bipush (-2), 2) := by decide +kernel
theorem dX11_thing_58 : decode cX11_thing 58 = .ok (.ireturn, 1) := by decide +kernel
theorem dX11_thing_59 : decode cX11_thing 59 = .ok (.aload_n 0, 1) := by decide +kernel
theorem dX11_thing_60 : decode cX11_thing 60 = .ok (.getfield 19, 3) := by decide +kernel
theorem dX11_thing_63 : decode cX11_thing 63 = .ok (.invokevirtual 87, 3) := by decide +kernel
theorem dX11_thing_66 : decode cX11_thing 66 = .ok (.bipush 20, 2) := by decide +kernel
theorem dX11_thing_68 : decode cX11_thing 68 = .ok (.if_icmp .lt 6, 3) := by decide +kernel
theorem dX11_thing_71 : decode cX11_thing 71 = .ok (.bipush (-4), 2) := by decide +kernel
theorem dX11_thing_73 : decode cX11_thing 73 = .ok (.ireturn, 1) := by decide +kernel
theorem dX11_thing_74 : decode cX11_thing 74 = .ok (.aload_n 0, 1) := by decide +kernel
theorem dX11_thing_75 : decode cX11_thing 75 = .ok (.getfield 19, 3) := by decide +kernel
theorem dX11_thing_78 : decode cX11_thing 78 = .ok (.aload_n 0, 1) := by decide +kernel
theorem dX11_thing_79 : decode cX11_thing 79 = .ok (.iload_n 1, 1) := by decide +kernel
theorem dX11_thing_80 : decode cX11_thing 80 = .ok (.iload_n 2, 1) := by decide +kernel
theorem dX11_thing_81 : decode cX11_thing 81 = .ok (.iload_n 3, 1) := by decide +kernel
theorem dX11_thing_82 : decode cX11_thing 82 = .ok (.invokevirtual 107, 3) := by decide +kernel
theorem dX11_thing_85 : decode cX11_thing 85 = .ok (.invokevirtual 96, 3) := by decide +kernel
theorem dX11_thing_88 : decode cX11_thing 88 = .ok (.pop, 1) := by decide +kernel
theorem dX11_thing_89 : decode cX11_thing 89 = .ok (.aload_n 0, 1) := by decide +kernel
theorem dX11_thing_90 : decode cX11_thing 90 = .ok (.getfield 19, 3) := by decide +kernel
theorem dX11_thing_93 : decode cX11_thing 93 = .ok (.invokevirtual 87, 3) := by decide +kernel
theorem dX11_thing_96 : decode cX11_thing 96 = .ok (.iconst 1, 1) := by decide +kernel
theorem dX11_thing_97 : decode cX11_thing 97 = .ok (.isub, 1) := by decide +kernel
theorem dX11_thing_98 : decode cX11_thing 98 = .ok (.ireturn, 1) := by decide +kernel
theorem dX11_store_0 : decode cX11_store 0 = .ok (.aload_n 0, 1) := by decide +kernel
theorem dX11_store_1 : decode cX11_store 1 = .ok (.getfield 39, 3) := by decide +kernel
theorem dX11_store_4 : decode cX11_store 4 = .ok (.bipush 6, 2) := by decide +kernel
theorem dX11_store_6 : decode cX11_store 6 = .ok (.if_icmp .lt 6, 3) := by decide +kernel
theorem dX11_store_9 : decode cX11_store 9 = .ok (.bipush (-4), 2) := by decide +kernel
theorem dX11_store_11 : decode cX11_store 11 = .ok (.ireturn, 1) := by decide +kernel
theorem dX11_store_12 : decode cX11_store 12 = .ok (.aload_n 0, 1) := by decide +kernel
theorem dX11_store_13 : decode cX11_store 13 = .ok (.dup, 1) := by decide +kernel
theorem dX11_store_14 : decode cX11_store 14 = .ok (.getfield 39, 3) := by decide +kernel
theorem dX11_store_17 : decode cX11_store 17 = .ok (.iconst 1, 1) := by decide +kernel
theorem dX11_store_18 : decode cX11_store 18 = .ok (.iadd, 1) := by decide +kernel
theorem dX11_store_19 : decode cX11_store 19 = .ok (.putfield 39, 3) := by decide +kernel
theorem dX11_store_22 : decode cX11_store 22 = .ok (.aload_n 0, 1) := by decide +kernel
theorem dX11_store_23 : decode cX11_store 23 = .ok (.getfield 39, 3) := by decide +kernel
theorem dX11_store_26 : decode cX11_store 26 = .ok (.iconst 1, 1) := by decide +kernel
theorem dX11_store_27 : decode cX11_store 27 = .ok (.isub, 1) := by decide +kernel
theorem dX11_store_28 : decode cX11_store 28 = .ok (.ireturn, 1) := by decide +kernel
theorem dX11_tick_0 : decode cX11_tick 0 = .ok (.iload_n 1, 1) := by decide +kernel
theorem dX11_tick_1 : decode cX11_tick 1 = .ok (.iconst 0, 1) := by decide +kernel
theorem dX11_tick_2 : decode cX11_tick 2 = .ok (.ldc 111, 2) := by decide +kernel
theorem dX11_tick_4 : decode cX11_tick 4 = .ok (.invokestatic 103, 3) := by decide +kernel
theorem dX11_tick_7 : decode cX11_tick 7 = .ok (.ifCond .ne 6, 3) := by decide +kernel
theorem dX11_tick_10 : decode cX11_tick 10 = .ok (.bipush (-2), 2) := by decide +kernel
theorem dX11_tick_12 : decode cX11_tick 12 = .ok (.ireturn, 1) := by decide +kernel
theorem dX11_tick_13 : decode cX11_tick 13 = .ok (.aload_n 0, 1) := by decide +kernel
theorem dX11_tick_14 : decode cX11_tick 14 = .ok (.getfield 43, 3) := by decide +kernel
theorem dX11_tick_17 : decode cX11_tick 17 = .ok (.iload_n 1, 1) := by decide +kernel
theorem dX11_tick_18 : decode cX11_tick 18 = .ok (.iadd, 1) := by decide +kernel
theorem dX11_tick_19 : decode cX11_tick 19 = .ok (.ldc 112, 2) := by decide +kernel
theorem dX11_tick_21 : decode cX11_tick 21 = .ok (.if_icmp .le 6, 3) := by decide +kernel
theorem dX11_tick_24 : decode cX11_tick 24 = .ok (.bipush (-4), 2) := by decide +kernel
theorem dX11_tick_26 : decode cX11_tick 26 = .ok (.ireturn, 1) := by decide +kernel
theorem dX11_tick_27 : decode cX11_tick 27 = .ok (.aload_n 0, 1) := by decide +kernel
theorem dX11_tick_28 : decode cX11_tick 28 = .ok (.dup, 1) := by decide +kernel
theorem dX11_tick_29 : decode cX11_tick 29 = .ok (.getfield 43, 3) := by decide +kernel
theorem dX11_tick_32 : decode cX11_tick 32 = .ok (.iload_n 1, 1) := by decide +kernel
theorem dX11_tick_33 : decode cX11_tick 33 = .ok (.iadd, 1) := by decide +kernel
theorem dX11_tick_34 : decode cX11_tick 34 = .ok (.putfield 43, 3) := by decide +kernel
theorem dX11_tick_37 : decode cX11_tick 37 = .ok (.aload_n 0, 1) := by decide +kernel
theorem dX11_tick_38 : decode cX11_tick 38 = .ok (.getfield 43, 3) := by decide +kernel
theorem dX11_tick_41 : decode cX11_tick 41 = .ok (.ireturn, 1) := by decide +kernel
theorem dX11_clock_0 : decode cX11_clock 0 = .ok (.aload_n 0, 1) := by decide +kernel
theorem dX11_clock_1 : decode cX11_clock 1 = .ok (.iload_n 1, 1) := by decide +kernel
theorem dX11_clock_2 : decode cX11_clock 2 = .ok (.iload_n 2, 1) := by decide +kernel
theorem dX11_clock_3 : decode cX11_clock 3 = .ok (.invokevirtual 113, 3) := by decide +kernel
theorem dX11_clock_6 : decode cX11_clock 6 = .ok (.astore_n 3, 1) := by decide +kernel
theorem dX11_clock_7 : decode cX11_clock 7 = .ok (.aload_n 3, 1) := by decide +kernel
theorem dX11_clock_8 : decode cX11_clock 8 = .ok (.ifnonnull 9, 3) := by decide +kernel
theorem dX11_clock_11 : decode cX11_clock 11 = .ok (.ldc2_w 117, 3) := by decide +kernel
theorem dX11_clock_14 : decode cX11_clock 14 = .ok (.goto 11, 3) := by decide +kernel
theorem dX11_clock_17 : decode cX11_clock 17 = .ok (.aload_n 3, 1) := by decide +kernel
theorem dX11_clock_18 : decode cX11_clock 18 = .ok (.aload_n 0, 1) := by decide +kernel
theorem dX11_clock_19 : decode cX11_clock 19 = .ok (.getfield 43, 3) := by decide +kernel
theorem dX11_clock_22 : decode cX11_clock 22 = .ok (.invokevirtual 119, 3) := by decide +kernel
theorem dX11_clock_25 : decode cX11_clock 25 = .ok (.lreturn, 1) := by decide +kernel
theorem dX11_wake_0 : decode cX11_wake 0 = .ok (.aload_n 0, 1) := by decide +kernel
theorem dX11_wake_1 : decode cX11_wake 1 = .ok (.iload_n 1, 1) := by decide +kernel
theorem dX11_wake_2 : decode cX11_wake 2 = .ok (.iload_n 2, 1) := by decide +kernel
theorem dX11_wake_3 : decode cX11_wake 3 = .ok (.invokevirtual 113, 3) := by decide +kernel
theorem dX11_wake_6 : decode cX11_wake 6 = .ok (.astore 4, 2) := by decide +kernel
theorem dX11_wake_8 : decode cX11_wake 8 = .ok (.aload 4, 2) := by decide +kernel
theorem dX11_wake_10 : decode cX11_wake 10 = .ok (.ifnonnull 6, 3) := by decide +kernel
theorem dX11_wake_13 : decode cX11_wake 13 = .ok (.bipush (-2), 2) := by decide +kernel
theorem dX11_wake_15 : decode cX11_wake 15 = .ok (.ireturn, 1) := by decide +kernel
theorem dX11_wake_16 : decode cX11_wake 16 = .ok (.aload 4, 2) := by decide +kernel
theorem dX11_wake_18 : decode cX11_wake 18 = .ok (.getfield 123, 3) := by decide +kernel
theorem dX11_wake_21 : decode cX11_wake 21 = .ok (.istore 5, 2) := by decide +kernel
theorem dX11_wake_23 : decode cX11_wake 23 = .ok (.aload 4, 2) := by decide +kernel
theorem dX11_wake_25 : decode cX11_wake 25 = .ok (.iload_n 3, 1) := by decide +kernel
theorem dX11_wake_26 : decode cX11_wake 26 = .ok (.putfield 123, 3) := by decide +kernel
theorem dX11_wake_29 : decode cX11_wake 29 = .ok (.iload_n 1, 1) := by decide +kernel
theorem dX11_wake_30 : decode cX11_wake 30 = .ok (.ifCond .ne 20, 3) := by decide +kernel
theorem dX11_wake_33 : decode cX11_wake 33 = .ok (.iload_n 2, 1) := by decide +kernel
theorem dX11_wake_34 : decode cX11_wake 34 = .ok (.aload_n 0, 1) := by decide +kernel
theorem dX11_wake_35 : decode cX11_wake 35 = .ok (.getfield 46, 3) := by decide +kernel
theorem dX11_wake_38 : decode cX11_wake 38 = .ok (.if_icmp .ne 12, 3) := by decide +kernel
theorem dX11_wake_41 : decode cX11_wake 41 = .ok (.iload_n 3, 1) := by decide +kernel
theorem dX11_wake_42 : decode cX11_wake 42 = .ok (.ifCond .ne 8, 3) := by decide +kernel
theorem dX11_wake_45 : decode cX11_wake 45 = .ok (.aload_n 0, 1) := by decide +kernel
theorem dX11_wake_46 : decode cX11_wake 46 = .ok (.iconst (-1), 1) := by decide +kernel
theorem dX11_wake_47 : decode cX11_wake 47 = .ok (.putfield 46, 3) := by decide +kernel
theorem dX11_wake_50 : decode cX11_wake 50 = .ok (.iload 5, 2) := by decide +kernel
theorem dX11_wake_52 : decode cX11_wake 52 = .ok (.iload_n 3, 1) := by decide +kernel
theorem dX11_wake_53 : decode cX11_wake 53 = .ok (.if_icmp .ne 7, 3) := by decide +kernel
theorem dX11_wake_56 : decode cX11_wake 56 = .ok (.iconst 0, 1) := by decide +kernel
theorem dX11_wake_57 : decode cX11_wake 57 = .ok (.goto 4, 3) := by decide +kernel
theorem dX11_wake_60 : decode cX11_wake 60 = .ok (.iconst 1, 1) := by decide +kernel
theorem dX11_wake_61 : decode cX11_wake 61 = .ok (.ireturn, 1) := by decide +kernel
theorem dX11_fall_0 : decode cX11_fall 0 = .ok (.aload_n 0, 1) := by decide +kernel
theorem dX11_fall_1 : decode cX11_fall 1 = .ok (.iload_n 1, 1) := by decide +kernel
theorem dX11_fall_2 : decode cX11_fall 2 = .ok (.invokevirtual 127, 3) := by decide +kernel
theorem dX11_fall_5 : decode cX11_fall 5 = .ok (.astore_n 2, 1) := by decide +kernel
theorem dX11_fall_6 : decode cX11_fall 6 = .ok (.aload_n 2, 1) := by decide +kernel
theorem dX11_fall_7 : decode cX11_fall 7 = .ok (.ifnonnull 6, 3) := by decide +kernel
theorem dX11_fall_10 : decode cX11_fall 10 = .ok (.bipush (-2), 2) := by decide +kernel
theorem dX11_fall_12 : decode cX11_fall 12 = .ok (.ireturn, 1) := by decide +kernel
theorem dX11_fall_13 : decode cX11_fall 13 = .ok (.iconst 0, 1) := by decide +kernel
theorem dX11_fall_14 : decode cX11_fall 14 = .ok (.istore_n 3, 1) := by decide +kernel
theorem dX11_fall_15 : decode cX11_fall 15 = .ok (.iconst 0, 1) := by decide +kernel
theorem dX11_fall_16 : decode cX11_fall 16 = .ok (.istore 4, 2) := by decide +kernel
theorem dX11_fall_18 : decode cX11_fall 18 = .ok (.iload 4, 2) := by decide +kernel
theorem dX11_fall_20 : decode cX11_fall 20 = .ok (.aload_n 0, 1) := by decide +kernel
theorem dX11_fall_21 : decode cX11_fall 21 = .ok (.getfield 19, 3) := by decide +kernel
theorem dX11_fall_24 : decode cX11_fall 24 = .ok (.invokevirtual 87, 3) := by decide +kernel
theorem dX11_fall_27 : decode cX11_fall 27 = .ok (.if_icmp .ge 43, 3) := by decide +kernel
theorem dX11_fall_30 : decode cX11_fall 30 = .ok (.aload_n 2, 1) := by decide +kernel
theorem dX11_fall_31 : decode cX11_fall 31 = .ok (.iload 4, 2) := by decide +kernel
theorem dX11_fall_33 : decode cX11_fall 33 = .ok (.invokevirtual 131, 3) := by decide +kernel
theorem dX11_fall_36 : decode cX11_fall 36 = .ok (.astore 5, 2) := by decide +kernel
theorem dX11_fall_38 : decode cX11_fall 38 = .ok (.aload 5, 2) := by decide +kernel
theorem dX11_fall_40 : decode cX11_fall 40 = .ok (.ifnull 24, 3) := by decide +kernel
theorem dX11_fall_43 : decode cX11_fall 43 = .ok (.iload_n 3, 1) := by decide +kernel
theorem dX11_fall_44 : decode cX11_fall 44 = .ok (.aload 5, 2) := by decide +kernel
theorem dX11_fall_46 : decode cX11_fall 46 = .ok (.getfield 135, 3) := by decide +kernel
theorem dX11_fall_49 : decode cX11_fall 49 = .ok (.ifCond .eq 7, 3) := by decide +kernel
theorem dX11_fall_52 : decode cX11_fall 52 = .ok (.iconst 1, 1) := by decide +kernel
theorem dX11_fall_53 : decode cX11_fall 53 = .ok (.goto 4, 3) := by decide +kernel
theorem dX11_fall_56 : decode cX11_fall 56 = .ok (.iconst 0, 1) := by decide +kernel
theorem dX11_fall_57 : decode cX11_fall 57 = .ok (.iadd, 1) := by decide +kernel
theorem dX11_fall_58 : decode cX11_fall 58 = .ok (.istore_n 3, 1) := by decide +kernel
theorem dX11_fall_59 : decode cX11_fall 59 = .ok (.aload 5, 2) := by decide +kernel
theorem dX11_fall_61 : decode cX11_fall 61 = .ok (.invokevirtual 140, 3) := by decide +kernel
theorem dX11_fall_64 : decode cX11_fall 64 = .ok (.iinc 4 1, 3) := by decide +kernel
theorem dX11_fall_67 : decode cX11_fall 67 = .ok (.goto (-49), 3) := by decide +kernel
theorem dX11_fall_70 : decode cX11_fall 70 = .ok (.aload_n 2, 1) := by decide +kernel
theorem dX11_fall_71 : decode cX11_fall 71 = .ok (.iconst 0, 1) := by decide +kernel
theorem dX11_fall_72 : decode cX11_fall 72 = .ok (.putfield 143, 3) := by decide +kernel
theorem dX11_fall_75 : decode cX11_fall 75 = .ok (.iload_n 3, 1) := by decide +kernel
theorem dX11_fall_76 : decode cX11_fall 76 = .ok (.ireturn, 1) := by decide +kernel
theorem dX11_lead_0 : decode cX11_lead 0 = .ok (.aload_n 0, 1) := by decide +kernel
theorem dX11_lead_1 : decode cX11_lead 1 = .ok (.iload_n 1, 1) := by decide +kernel
theorem dX11_lead_2 : decode cX11_lead 2 = .ok (.invokevirtual 144, 3) := by decide +kernel
theorem dX11_lead_5 : decode cX11_lead 5 = .ok (.astore_n 2, 1) := by decide +kernel
theorem dX11_lead_6 : decode cX11_lead 6 = .ok (.aload_n 2, 1) := by decide +kernel
theorem dX11_lead_7 : decode cX11_lead 7 = .ok (.ifnonnull 6, 3) := by decide +kernel
theorem dX11_lead_10 : decode cX11_lead 10 = .ok (.bipush (-2), 2) := by decide +kernel
theorem dX11_lead_12 : decode cX11_lead 12 = .ok (.ireturn, 1) := by decide +kernel
theorem dX11_lead_13 : decode cX11_lead 13 = .ok (.aload_n 2, 1) := by decide +kernel
theorem dX11_lead_14 : decode cX11_lead 14 = .ok (.getfield 123, 3) := by decide +kernel
theorem dX11_lead_17 : decode cX11_lead 17 = .ok (.ifCond .eq 10, 3) := by decide +kernel
theorem dX11_lead_20 : decode cX11_lead 20 = .ok (.aload_n 0, 1) := by decide +kernel
theorem dX11_lead_21 : decode cX11_lead 21 = .ok (.invokevirtual 148, 3) := by decide +kernel
theorem dX11_lead_24 : decode cX11_lead 24 = .ok (.ifCond .ne 6, 3) := by decide +kernel
theorem dX11_lead_27 : decode cX11_lead 27 = .ok (.bipush (-3), 2) := by decide +kernel
theorem dX11_lead_29 : decode cX11_lead 29 = .ok (.ireturn, 1) := by decide +kernel
theorem dX11_lead_30 : decode cX11_lead 30 = .ok (.aload_n 0, 1) := by decide +kernel
theorem dX11_lead_31 : decode cX11_lead 31 = .ok (.dup, 1) := by decide +kernel
theorem dX11_lead_32 : decode cX11_lead 32 = .ok (.getfield 49, 3) := by decide +kernel
theorem dX11_lead_35 : decode cX11_lead 35 = .ok (.iconst 1, 1) := by decide +kernel
theorem dX11_lead_36 : decode cX11_lead 36 = .ok (.iadd, 1) := by decide +kernel
theorem dX11_lead_37 : decode cX11_lead 37 = .ok (.putfield 49, 3) := by decide +kernel
theorem dX11_lead_40 : decode cX11_lead 40 = .ok (.aload_n 0, 1) := by decide +kernel
theorem dX11_lead_41 : decode cX11_lead 41 = .ok (.iload_n 1, 1) := by decide +kernel
theorem dX11_lead_42 : decode cX11_lead 42 = .ok (.putfield 46, 3) := by decide +kernel
theorem dX11_lead_45 : decode cX11_lead 45 = .ok (.aload_n 0, 1) := by decide +kernel
theorem dX11_lead_46 : decode cX11_lead 46 = .ok (.aload_n 2, 1) := by decide +kernel
theorem dX11_lead_47 : decode cX11_lead 47 = .ok (.aload_n 0, 1) := by decide +kernel
theorem dX11_lead_48 : decode cX11_lead 48 = .ok (.getfield 43, 3) := by decide +kernel
theorem dX11_lead_51 : decode cX11_lead 51 = .ok (.invokevirtual 119, 3) := by decide +kernel
theorem dX11_lead_54 : decode cX11_lead 54 = .ok (.invokevirtual 152, 3) := by decide +kernel
theorem dX11_lead_57 : decode cX11_lead 57 = .ok (.aload_n 0, 1) := by decide +kernel
theorem dX11_lead_58 : decode cX11_lead 58 = .ok (.getfield 49, 3) := by decide +kernel
theorem dX11_lead_61 : decode cX11_lead 61 = .ok (.ireturn, 1) := by decide +kernel
theorem dX11_ask_0 : decode cX11_ask 0 = .ok (.aload_n 0, 1) := by decide +kernel
theorem dX11_ask_1 : decode cX11_ask 1 = .ok (.iload_n 1, 1) := by decide +kernel
theorem dX11_ask_2 : decode cX11_ask 2 = .ok (.invokevirtual 127, 3) := by decide +kernel
theorem dX11_ask_5 : decode cX11_ask 5 = .ok (.astore 6, 2) := by decide +kernel
theorem dX11_ask_7 : decode cX11_ask 7 = .ok (.aload_n 0, 1) := by decide +kernel
theorem dX11_ask_8 : decode cX11_ask 8 = .ok (.iload_n 3, 1) := by decide +kernel
theorem dX11_ask_9 : decode cX11_ask 9 = .ok (.invokevirtual 156, 3) := by decide +kernel
theorem dX11_ask_12 : decode cX11_ask 12 = .ok (.astore 7, 2) := by decide +kernel
theorem dX11_ask_14 : decode cX11_ask 14 = .ok (.aload 6, 2) := by decide +kernel
theorem dX11_ask_16 : decode cX11_ask 16 = .ok (.ifnull 28, 3) := by decide +kernel
theorem dX11_ask_19 : decode cX11_ask 19 = .ok (.aload 7, 2) := by decide +kernel
theorem dX11_ask_21 : decode cX11_ask 21 = .ok (.ifnull 23, 3) := by decide +kernel
theorem dX11_ask_24 : decode cX11_ask 24 = .ok (.aload_n 0, 1) := by decide +kernel
theorem dX11_ask_25 : decode cX11_ask 25 = .ok (.iload_n 2, 1) := by decide +kernel
theorem dX11_ask_26 : decode cX11_ask 26 = .ok (.invokevirtual 144, 3) := by decide +kernel
theorem dX11_ask_29 : decode cX11_ask 29 = .ok (.ifnull 15, 3) := by decide +kernel
theorem dX11_ask_32 : decode cX11_ask 32 = .ok (.aload 7, 2) := by decide +kernel
theorem dX11_ask_34 : decode cX11_ask 34 = .ok (.iload 4, 2) := by decide +kernel
theorem dX11_ask_36 : decode cX11_ask 36 = .ok (.iload 5, 2) := by decide +kernel
theorem dX11_ask_38 : decode cX11_ask 38 = .ok (.invokevirtual 160, 3) := by decide +kernel
theorem dX11_ask_41 : decode cX11_ask 41 = .ok (.ifCond .ne 6, 3) := by decide +kernel
theorem dX11_ask_44 : decode cX11_ask 44 = .ok (.bipush (-2), 2) := by decide +kernel
theorem dX11_ask_46 : decode cX11_ask 46 = .ok (.ireturn, 1) := by decide +kernel
theorem dX11_ask_47 : decode cX11_ask 47 = .ok (.aload 6, 2) := by decide +kernel
theorem dX11_ask_49 : decode cX11_ask 49 = .ok (.getfield 143, 3) := by decide +kernel
theorem dX11_ask_52 : decode cX11_ask 52 = .ok (.ifCond .ne 6, 3) := by decide +kernel
theorem dX11_ask_55 : decode cX11_ask 55 = .ok (.bipush (-3), 2) := by decide +kernel
theorem dX11_ask_57 : decode cX11_ask 57 = .ok (.ireturn, 1) := by decide +kernel
theorem dX11_ask_58 : decode cX11_ask 58 = .ok (.aload_n 0, 1) := by decide +kernel
theorem dX11_ask_59 : decode cX11_ask 59 = .ok (.iconst 1, 1) := by decide +kernel
theorem dX11_ask_60 : decode cX11_ask 60 = .ok (.invokevirtual 165, 3) := by decide +kernel
theorem dX11_ask_63 : decode cX11_ask 63 = .ok (.ifCond .ne 6, 3) := by decide +kernel
theorem dX11_ask_66 : decode cX11_ask 66 = .ok (.bipush (-4), 2) := by decide +kernel
theorem dX11_ask_68 : decode cX11_ask 68 = .ok (.ireturn, 1) := by decide +kernel
theorem dX11_ask_69 : decode cX11_ask 69 = .ok (.new 169, 3) := by decide +kernel
theorem dX11_ask_72 : decode cX11_ask 72 = .ok (.dup, 1) := by decide +kernel
theorem dX11_ask_73 : decode cX11_ask 73 = .ok (.iconst 0, 1) := by decide +kernel
theorem dX11_ask_74 : decode cX11_ask 74 = .ok (.iload_n 1, 1) := by decide +kernel
theorem dX11_ask_75 : decode cX11_ask 75 = .ok (.iload_n 2, 1) := by decide +kernel
theorem dX11_ask_76 : decode cX11_ask 76 = .ok (.iload_n 3, 1) := by decide +kernel
theorem dX11_ask_77 : decode cX11_ask 77 = .ok (.invokespecial 171, 3) := by decide +kernel
theorem dX11_ask_80 : decode cX11_ask 80 = .ok (.astore 8, 2) := by decide +kernel
theorem dX11_ask_82 : decode cX11_ask 82 = .ok (.aload 8, 2) := by decide +kernel
theorem dX11_ask_84 : decode cX11_ask 84 = .ok (.iload 4, 2) := by decide +kernel
theorem dX11_ask_86 : decode cX11_ask 86 = .ok (.iload 5, 2) := by decide +kernel
theorem dX11_ask_88 : decode cX11_ask 88 = .ok (.lconst 0, 1) := by decide +kernel
theorem dX11_ask_89 : decode cX11_ask 89 = .ok (.invokevirtual 174, 3) := by decide +kernel
theorem dX11_ask_92 : decode cX11_ask 92 = .ok (.aload_n 0, 1) := by decide +kernel
theorem dX11_ask_93 : decode cX11_ask 93 = .ok (.aload 8, 2) := by decide +kernel
theorem dX11_ask_95 : decode cX11_ask 95 = .ok (.invokevirtual 178, 3) := by decide +kernel
theorem dX11_ask_98 : decode cX11_ask 98 = .ok (.ireturn, 1) := by decide +kernel
theorem dX11_renew_0 : decode cX11_renew 0 = .ok (.aload_n 0, 1) := by decide +kernel
theorem dX11_renew_1 : decode cX11_renew 1 = .ok (.iload_n 1, 1) := by decide +kernel
theorem dX11_renew_2 : decode cX11_renew 2 = .ok (.iload_n 2, 1) := by decide +kernel
theorem dX11_renew_3 : decode cX11_renew 3 = .ok (.iload_n 3, 1) := by decide +kernel
theorem dX11_renew_4 : decode cX11_renew 4 = .ok (.invokevirtual 182, 3) := by decide +kernel
theorem dX11_renew_7 : decode cX11_renew 7 = .ok (.istore 4, 2) := by decide +kernel
theorem dX11_renew_9 : decode cX11_renew 9 = .ok (.aload_n 0, 1) := by decide +kernel
theorem dX11_renew_10 : decode cX11_renew 10 = .ok (.iload_n 1, 1) := by decide +kernel
theorem dX11_renew_11 : decode cX11_renew 11 = .ok (.iload_n 3, 1) := by decide +kernel
theorem dX11_renew_12 : decode cX11_renew 12 = .ok (.invokevirtual 186, 3) := by decide +kernel
theorem dX11_renew_15 : decode cX11_renew 15 = .ok (.astore 5, 2) := by decide +kernel
theorem dX11_renew_17 : decode cX11_renew 17 = .ok (.iload 4, 2) := by decide +kernel
theorem dX11_renew_19 : decode cX11_renew 19 = .ok (.ifCond .ne 8, 3) := by decide +kernel
theorem dX11_renew_22 : decode cX11_renew 22 = .ok (.aload 5, 2) := by decide +kernel
theorem dX11_renew_24 : decode cX11_renew 24 = .ok (.ifnonnull 6, 3) := by decide +kernel
theorem dX11_renew_27 : decode cX11_renew 27 = .ok (.iload 4, 2) := by decide +kernel
theorem dX11_renew_29 : decode cX11_renew 29 = .ok (.ireturn, 1) := by decide +kernel
theorem dX11_renew_30 : decode cX11_renew 30 = .ok (.new 169, 3) := by decide +kernel
theorem dX11_renew_33 : decode cX11_renew 33 = .ok (.dup, 1) := by decide +kernel
theorem dX11_renew_34 : decode cX11_renew 34 = .ok (.iconst 1, 1) := by decide +kernel
theorem dX11_renew_35 : decode cX11_renew 35 = .ok (.iload_n 1, 1) := by decide +kernel
theorem dX11_renew_36 : decode cX11_renew 36 = .ok (.iload_n 2, 1) := by decide +kernel
theorem dX11_renew_37 : decode cX11_renew 37 = .ok (.iload_n 3, 1) := by decide +kernel
theorem dX11_renew_38 : decode cX11_renew 38 = .ok (.invokespecial 171, 3) := by decide +kernel
theorem dX11_renew_41 : decode cX11_renew 41 = .ok (.astore 6, 2) := by decide +kernel
theorem dX11_renew_43 : decode cX11_renew 43 = .ok (.aload 6, 2) := by decide +kernel
theorem dX11_renew_45 : decode cX11_renew 45 = .ok (.aload 5, 2) := by decide +kernel
theorem dX11_renew_47 : decode cX11_renew 47 = .ok (.getfield 190, 3) := by decide +kernel
theorem dX11_renew_50 : decode cX11_renew 50 = .ok (.aload 5, 2) := by decide +kernel
theorem dX11_renew_52 : decode cX11_renew 52 = .ok (.getfield 193, 3) := by decide +kernel
theorem dX11_renew_55 : decode cX11_renew 55 = .ok (.aload 5, 2) := by decide +kernel
theorem dX11_renew_57 : decode cX11_renew 57 = .ok (.getfield 196, 3) := by decide +kernel
theorem dX11_renew_60 : decode cX11_renew 60 = .ok (.invokevirtual 174, 3) := by decide +kernel
theorem dX11_renew_63 : decode cX11_renew 63 = .ok (.aload_n 0, 1) := by decide +kernel
theorem dX11_renew_64 : decode cX11_renew 64 = .ok (.aload 6, 2) := by decide +kernel
theorem dX11_renew_66 : decode cX11_renew 66 = .ok (.invokevirtual 178, 3) := by decide +kernel
theorem dX11_renew_69 : decode cX11_renew 69 = .ok (.ireturn, 1) := by decide +kernel
theorem dX11_end_0 : decode cX11_end 0 = .ok (.aload_n 0, 1) := by decide +kernel
theorem dX11_end_1 : decode cX11_end 1 = .ok (.iload_n 1, 1) := by decide +kernel
theorem dX11_end_2 : decode cX11_end 2 = .ok (.iload_n 2, 1) := by decide +kernel
theorem dX11_end_3 : decode cX11_end 3 = .ok (.iload_n 3, 1) := by decide +kernel
theorem dX11_end_4 : decode cX11_end 4 = .ok (.invokevirtual 182, 3) := by decide +kernel
theorem dX11_end_7 : decode cX11_end 7 = .ok (.istore 4, 2) := by decide +kernel
theorem dX11_end_9 : decode cX11_end 9 = .ok (.aload_n 0, 1) := by decide +kernel
theorem dX11_end_10 : decode cX11_end 10 = .ok (.iload_n 1, 1) := by decide +kernel
theorem dX11_end_11 : decode cX11_end 11 = .ok (.iload_n 3, 1) := by decide +kernel
theorem dX11_end_12 : decode cX11_end 12 = .ok (.invokevirtual 186, 3) := by decide +kernel
theorem dX11_end_15 : decode cX11_end 15 = .ok (.astore 5, 2) := by decide +kernel
theorem dX11_end_17 : decode cX11_end 17 = .ok (.iload 4, 2) := by decide +kernel
theorem dX11_end_19 : decode cX11_end 19 = .ok (.ifCond .ne 8, 3) := by decide +kernel
theorem dX11_end_22 : decode cX11_end 22 = .ok (.aload 5, 2) := by decide +kernel
theorem dX11_end_24 : decode cX11_end 24 = .ok (.ifnonnull 6, 3) := by decide +kernel
theorem dX11_end_27 : decode cX11_end 27 = .ok (.iload 4, 2) := by decide +kernel
theorem dX11_end_29 : decode cX11_end 29 = .ok (.ireturn, 1) := by decide +kernel
theorem dX11_end_30 : decode cX11_end 30 = .ok (.new 169, 3) := by decide +kernel
theorem dX11_end_33 : decode cX11_end 33 = .ok (.dup, 1) := by decide +kernel
theorem dX11_end_34 : decode cX11_end 34 = .ok (.iconst 2, 1) := by decide +kernel
theorem dX11_end_35 : decode cX11_end 35 = .ok (.iload_n 1, 1) := by decide +kernel
theorem dX11_end_36 : decode cX11_end 36 = .ok (.iload_n 2, 1) := by decide +kernel
theorem dX11_end_37 : decode cX11_end 37 = .ok (.iload_n 3, 1) := by decide +kernel
theorem dX11_end_38 : decode cX11_end 38 = .ok (.invokespecial 171, 3) := by decide +kernel
theorem dX11_end_41 : decode cX11_end 41 = .ok (.astore 6, 2) := by decide +kernel
theorem dX11_end_43 : decode cX11_end 43 = .ok (.aload 6, 2) := by decide +kernel
theorem dX11_end_45 : decode cX11_end 45 = .ok (.aload 5, 2) := by decide +kernel
theorem dX11_end_47 : decode cX11_end 47 = .ok (.getfield 190, 3) := by decide +kernel
theorem dX11_end_50 : decode cX11_end 50 = .ok (.aload 5, 2) := by decide +kernel
theorem dX11_end_52 : decode cX11_end 52 = .ok (.getfield 193, 3) := by decide +kernel
theorem dX11_end_55 : decode cX11_end 55 = .ok (.aload 5, 2) := by decide +kernel
theorem dX11_end_57 : decode cX11_end 57 = .ok (.getfield 196, 3) := by decide +kernel
theorem dX11_end_60 : decode cX11_end 60 = .ok (.invokevirtual 174, 3) := by decide +kernel
theorem dX11_end_63 : decode cX11_end 63 = .ok (.aload 5, 2) := by decide +kernel
theorem dX11_end_65 : decode cX11_end 65 = .ok (.invokevirtual 140, 3) := by decide +kernel
theorem dX11_end_68 : decode cX11_end 68 = .ok (.aload_n 0, 1) := by decide +kernel
theorem dX11_end_69 : decode cX11_end 69 = .ok (.aload 6, 2) := by decide +kernel
theorem dX11_end_71 : decode cX11_end 71 = .ok (.invokevirtual 200, 3) := by decide +kernel
theorem dX11_end_74 : decode cX11_end 74 = .ok (.ireturn, 1) := by decide +kernel
theorem dX11_rise_0 : decode cX11_rise 0 = .ok (.aload_n 0, 1) := by decide +kernel
theorem dX11_rise_1 : decode cX11_rise 1 = .ok (.iload_n 3, 1) := by decide +kernel
theorem dX11_rise_2 : decode cX11_rise 2 = .ok (.invokevirtual 156, 3) := by decide +kernel
theorem dX11_rise_5 : decode cX11_rise 5 = .ok (.instanceof 203, 3) := by decide +kernel
theorem dX11_rise_8 : decode cX11_rise 8 = .ok (.ifCond .ne 6, 3) := by decide +kernel
theorem dX11_rise_11 : decode cX11_rise 11 = .ok (.bipush (-2), 2) := by decide +kernel
theorem dX11_rise_13 : decode cX11_rise 13 = .ok (.ireturn, 1) := by decide +kernel
theorem dX11_rise_14 : decode cX11_rise 14 = .ok (.aload_n 0, 1) := by decide +kernel
theorem dX11_rise_15 : decode cX11_rise 15 = .ok (.iload_n 1, 1) := by decide +kernel
theorem dX11_rise_16 : decode cX11_rise 16 = .ok (.iload_n 2, 1) := by decide +kernel
theorem dX11_rise_17 : decode cX11_rise 17 = .ok (.iload_n 3, 1) := by decide +kernel
theorem dX11_rise_18 : decode cX11_rise 18 = .ok (.invokevirtual 182, 3) := by decide +kernel
theorem dX11_rise_21 : decode cX11_rise 21 = .ok (.istore 4, 2) := by decide +kernel
theorem dX11_rise_23 : decode cX11_rise 23 = .ok (.aload_n 0, 1) := by decide +kernel
theorem dX11_rise_24 : decode cX11_rise 24 = .ok (.iload_n 1, 1) := by decide +kernel
theorem dX11_rise_25 : decode cX11_rise 25 = .ok (.iload_n 3, 1) := by decide +kernel
theorem dX11_rise_26 : decode cX11_rise 26 = .ok (.invokevirtual 186, 3) := by decide +kernel
theorem dX11_rise_29 : decode cX11_rise 29 = .ok (.astore 5, 2) := by decide +kernel
theorem dX11_rise_31 : decode cX11_rise 31 = .ok (.iload 4, 2) := by decide +kernel
theorem dX11_rise_33 : decode cX11_rise 33 = .ok (.ifCond .ne 8, 3) := by decide +kernel
theorem dX11_rise_36 : decode cX11_rise 36 = .ok (.aload 5, 2) := by decide +kernel
theorem dX11_rise_38 : decode cX11_rise 38 = .ok (.ifnonnull 6, 3) := by decide +kernel
theorem dX11_rise_41 : decode cX11_rise 41 = .ok (.iload 4, 2) := by decide +kernel
theorem dX11_rise_43 : decode cX11_rise 43 = .ok (.ireturn, 1) := by decide +kernel
theorem dX11_rise_44 : decode cX11_rise 44 = .ok (.new 169, 3) := by decide +kernel
theorem dX11_rise_47 : decode cX11_rise 47 = .ok (.dup, 1) := by decide +kernel
theorem dX11_rise_48 : decode cX11_rise 48 = .ok (.iconst 3, 1) := by decide +kernel
theorem dX11_rise_49 : decode cX11_rise 49 = .ok (.iload_n 1, 1) := by decide +kernel
theorem dX11_rise_50 : decode cX11_rise 50 = .ok (.iload_n 2, 1) := by decide +kernel
theorem dX11_rise_51 : decode cX11_rise 51 = .ok (.iload_n 3, 1) := by decide +kernel
theorem dX11_rise_52 : decode cX11_rise 52 = .ok (.invokespecial 171, 3) := by decide +kernel
theorem dX11_rise_55 : decode cX11_rise 55 = .ok (.astore 6, 2) := by decide +kernel
theorem dX11_rise_57 : decode cX11_rise 57 = .ok (.aload 6, 2) := by decide +kernel
theorem dX11_rise_59 : decode cX11_rise 59 = .ok (.iconst 0, 1) := by decide +kernel
theorem dX11_rise_60 : decode cX11_rise 60 = .ok (.iconst 0, 1) := by decide +kernel
theorem dX11_rise_61 : decode cX11_rise 61 = .ok (.aload 5, 2) := by decide +kernel
theorem dX11_rise_63 : decode cX11_rise 63 = .ok (.getfield 196, 3) := by decide +kernel
theorem dX11_rise_66 : decode cX11_rise 66 = .ok (.invokevirtual 174, 3) := by decide +kernel
theorem dX11_rise_69 : decode cX11_rise 69 = .ok (.aload_n 0, 1) := by decide +kernel
theorem dX11_rise_70 : decode cX11_rise 70 = .ok (.aload 6, 2) := by decide +kernel
theorem dX11_rise_72 : decode cX11_rise 72 = .ok (.invokevirtual 178, 3) := by decide +kernel
theorem dX11_rise_75 : decode cX11_rise 75 = .ok (.ireturn, 1) := by decide +kernel
theorem dX11_deliver_0 : decode cX11_deliver 0 = .ok (.aload_n 0, 1) := by decide +kernel
theorem dX11_deliver_1 : decode cX11_deliver 1 = .ok (.iload_n 1, 1) := by decide +kernel
theorem dX11_deliver_2 : decode cX11_deliver 2 = .ok (.invokevirtual 205, 3) := by decide +kernel
theorem dX11_deliver_5 : decode cX11_deliver 5 = .ok (.astore_n 2, 1) := by decide +kernel
theorem dX11_deliver_6 : decode cX11_deliver 6 = .ok (.aload_n 2, 1) := by decide +kernel
theorem dX11_deliver_7 : decode cX11_deliver 7 = .ok (.ifnonnull 6, 3) := by decide +kernel
theorem dX11_deliver_10 : decode cX11_deliver 10 = .ok (.bipush (-2), 2) := by decide +kernel
theorem dX11_deliver_12 : decode cX11_deliver 12 = .ok (.ireturn, 1) := by decide +kernel
theorem dX11_deliver_13 : decode cX11_deliver 13 = .ok (.aload_n 2, 1) := by decide +kernel
theorem dX11_deliver_14 : decode cX11_deliver 14 = .ok (.getfield 209, 3) := by decide +kernel
theorem dX11_deliver_17 : decode cX11_deliver 17 = .ok (.ifCond .eq 6, 3) := by decide +kernel
theorem dX11_deliver_20 : decode cX11_deliver 20 = .ok (.bipush (-3), 2) := by decide +kernel
theorem dX11_deliver_22 : decode cX11_deliver 22 = .ok (.ireturn, 1) := by decide +kernel
theorem dX11_deliver_23 : decode cX11_deliver 23 = .ok (.aload_n 0, 1) := by decide +kernel
theorem dX11_deliver_24 : decode cX11_deliver 24 = .ok (.iconst 3, 1) := by decide +kernel
theorem dX11_deliver_25 : decode cX11_deliver 25 = .ok (.invokevirtual 165, 3) := by decide +kernel
theorem dX11_deliver_28 : decode cX11_deliver 28 = .ok (.ifCond .ne 6, 3) := by decide +kernel
theorem dX11_deliver_31 : decode cX11_deliver 31 = .ok (.bipush (-4), 2) := by decide +kernel
theorem dX11_deliver_33 : decode cX11_deliver 33 = .ok (.ireturn, 1) := by decide +kernel
theorem dX11_deliver_34 : decode cX11_deliver 34 = .ok (.aload_n 2, 1) := by decide +kernel
theorem dX11_deliver_35 : decode cX11_deliver 35 = .ok (.iconst 1, 1) := by decide +kernel
theorem dX11_deliver_36 : decode cX11_deliver 36 = .ok (.putfield 209, 3) := by decide +kernel
theorem dX11_deliver_39 : decode cX11_deliver 39 = .ok (.aload_n 2, 1) := by decide +kernel
theorem dX11_deliver_40 : decode cX11_deliver 40 = .ok (.invokevirtual 212, 3) := by decide +kernel
theorem dX11_deliver_43 : decode cX11_deliver 43 = .ok (.ifCond .eq 11, 3) := by decide +kernel
theorem dX11_deliver_46 : decode cX11_deliver 46 = .ok (.aload_n 0, 1) := by decide +kernel
theorem dX11_deliver_47 : decode cX11_deliver 47 = .ok (.aload_n 2, 1) := by decide +kernel
theorem dX11_deliver_48 : decode cX11_deliver 48 = .ok (.invokevirtual 215, 3) := by decide +kernel
theorem dX11_deliver_51 : decode cX11_deliver 51 = .ok (.goto 8, 3) := by decide +kernel
theorem dX11_deliver_54 : decode cX11_deliver 54 = .ok (.aload_n 0, 1) := by decide +kernel
theorem dX11_deliver_55 : decode cX11_deliver 55 = .ok (.aload_n 2, 1) := by decide +kernel
theorem dX11_deliver_56 : decode cX11_deliver 56 = .ok (.invokevirtual 218, 3) := by decide +kernel
theorem dX11_deliver_59 : decode cX11_deliver 59 = .ok (.ireturn, 1) := by decide +kernel
theorem dX11_lose_0 : decode cX11_lose 0 = .ok (.aload_n 0, 1) := by decide +kernel
theorem dX11_lose_1 : decode cX11_lose 1 = .ok (.iload_n 1, 1) := by decide +kernel
theorem dX11_lose_2 : decode cX11_lose 2 = .ok (.invokevirtual 205, 3) := by decide +kernel
theorem dX11_lose_5 : decode cX11_lose 5 = .ok (.astore_n 2, 1) := by decide +kernel
theorem dX11_lose_6 : decode cX11_lose 6 = .ok (.aload_n 2, 1) := by decide +kernel
theorem dX11_lose_7 : decode cX11_lose 7 = .ok (.ifnonnull 6, 3) := by decide +kernel
theorem dX11_lose_10 : decode cX11_lose 10 = .ok (.bipush (-2), 2) := by decide +kernel
theorem dX11_lose_12 : decode cX11_lose 12 = .ok (.ireturn, 1) := by decide +kernel
theorem dX11_lose_13 : decode cX11_lose 13 = .ok (.aload_n 2, 1) := by decide +kernel
theorem dX11_lose_14 : decode cX11_lose 14 = .ok (.getfield 209, 3) := by decide +kernel
theorem dX11_lose_17 : decode cX11_lose 17 = .ok (.ifCond .eq 6, 3) := by decide +kernel
theorem dX11_lose_20 : decode cX11_lose 20 = .ok (.bipush (-3), 2) := by decide +kernel
theorem dX11_lose_22 : decode cX11_lose 22 = .ok (.ireturn, 1) := by decide +kernel
theorem dX11_lose_23 : decode cX11_lose 23 = .ok (.aload_n 2, 1) := by decide +kernel
theorem dX11_lose_24 : decode cX11_lose 24 = .ok (.iconst 2, 1) := by decide +kernel
theorem dX11_lose_25 : decode cX11_lose 25 = .ok (.putfield 209, 3) := by decide +kernel
theorem dX11_lose_28 : decode cX11_lose 28 = .ok (.iconst 1, 1) := by decide +kernel
theorem dX11_lose_29 : decode cX11_lose 29 = .ok (.ireturn, 1) := by decide +kernel
theorem dX11_twice_0 : decode cX11_twice 0 = .ok (.aload_n 0, 1) := by decide +kernel
theorem dX11_twice_1 : decode cX11_twice 1 = .ok (.iload_n 1, 1) := by decide +kernel
theorem dX11_twice_2 : decode cX11_twice 2 = .ok (.invokevirtual 205, 3) := by decide +kernel
theorem dX11_twice_5 : decode cX11_twice 5 = .ok (.astore_n 2, 1) := by decide +kernel
theorem dX11_twice_6 : decode cX11_twice 6 = .ok (.aload_n 2, 1) := by decide +kernel
theorem dX11_twice_7 : decode cX11_twice 7 = .ok (.ifnonnull 6, 3) := by decide +kernel
theorem dX11_twice_10 : decode cX11_twice 10 = .ok (.bipush (-2), 2) := by decide +kernel
theorem dX11_twice_12 : decode cX11_twice 12 = .ok (.ireturn, 1) := by decide +kernel
theorem dX11_twice_13 : decode cX11_twice 13 = .ok (.aload_n 0, 1) := by decide +kernel
theorem dX11_twice_14 : decode cX11_twice 14 = .ok (.iconst 1, 1) := by decide +kernel
theorem dX11_twice_15 : decode cX11_twice 15 = .ok (.invokevirtual 165, 3) := by decide +kernel
theorem dX11_twice_18 : decode cX11_twice 18 = .ok (.ifCond .ne 6, 3) := by decide +kernel
theorem dX11_twice_21 : decode cX11_twice 21 = .ok (.bipush (-4), 2) := by decide +kernel
theorem dX11_twice_23 : decode cX11_twice 23 = .ok (.ireturn, 1) := by decide +kernel
theorem dX11_twice_24 : decode cX11_twice 24 = .ok (.new 169, 3) := by decide +kernel
theorem dX11_twice_27 : decode cX11_twice 27 = .ok (.dup, 1) := by decide +kernel
theorem dX11_twice_28 : decode cX11_twice 28 = .ok (.aload_n 2, 1) := by decide +kernel
theorem dX11_twice_29 : decode cX11_twice 29 = .ok (.getfield 221, 3) := by decide +kernel
theorem dX11_twice_32 : decode cX11_twice 32 = .ok (.aload_n 2, 1) := by decide +kernel
theorem dX11_twice_33 : decode cX11_twice 33 = .ok (.getfield 224, 3) := by decide +kernel
theorem dX11_twice_36 : decode cX11_twice 36 = .ok (.aload_n 2, 1) := by decide +kernel
theorem dX11_twice_37 : decode cX11_twice 37 = .ok (.getfield 227, 3) := by decide +kernel
theorem dX11_twice_40 : decode cX11_twice 40 = .ok (.aload_n 2, 1) := by decide +kernel
theorem dX11_twice_41 : decode cX11_twice 41 = .ok (.getfield 230, 3) := by decide +kernel
theorem dX11_twice_44 : decode cX11_twice 44 = .ok (.invokespecial 171, 3) := by decide +kernel
theorem dX11_twice_47 : decode cX11_twice 47 = .ok (.astore_n 3, 1) := by decide +kernel
theorem dX11_twice_48 : decode cX11_twice 48 = .ok (.aload_n 3, 1) := by decide +kernel
theorem dX11_twice_49 : decode cX11_twice 49 = .ok (.aload_n 2, 1) := by decide +kernel
theorem dX11_twice_50 : decode cX11_twice 50 = .ok (.getfield 233, 3) := by decide +kernel
theorem dX11_twice_53 : decode cX11_twice 53 = .ok (.aload_n 2, 1) := by decide +kernel
theorem dX11_twice_54 : decode cX11_twice 54 = .ok (.getfield 234, 3) := by decide +kernel
theorem dX11_twice_57 : decode cX11_twice 57 = .ok (.aload_n 2, 1) := by decide +kernel
theorem dX11_twice_58 : decode cX11_twice 58 = .ok (.getfield 235, 3) := by decide +kernel
theorem dX11_twice_61 : decode cX11_twice 61 = .ok (.invokevirtual 174, 3) := by decide +kernel
theorem dX11_twice_64 : decode cX11_twice 64 = .ok (.aload_n 3, 1) := by decide +kernel
theorem dX11_twice_65 : decode cX11_twice 65 = .ok (.aload_n 2, 1) := by decide +kernel
theorem dX11_twice_66 : decode cX11_twice 66 = .ok (.invokevirtual 236, 3) := by decide +kernel
theorem dX11_twice_69 : decode cX11_twice 69 = .ok (.aload_n 0, 1) := by decide +kernel
theorem dX11_twice_70 : decode cX11_twice 70 = .ok (.aload_n 3, 1) := by decide +kernel
theorem dX11_twice_71 : decode cX11_twice 71 = .ok (.invokevirtual 200, 3) := by decide +kernel
theorem dX11_twice_74 : decode cX11_twice 74 = .ok (.ireturn, 1) := by decide +kernel
theorem dX11_letter_0 : decode cX11_letter 0 = .ok (.aload_n 0, 1) := by decide +kernel
theorem dX11_letter_1 : decode cX11_letter 1 = .ok (.iload_n 1, 1) := by decide +kernel
theorem dX11_letter_2 : decode cX11_letter 2 = .ok (.invokevirtual 205, 3) := by decide +kernel
theorem dX11_letter_5 : decode cX11_letter 5 = .ok (.astore_n 3, 1) := by decide +kernel
theorem dX11_letter_6 : decode cX11_letter 6 = .ok (.aload_n 3, 1) := by decide +kernel
theorem dX11_letter_7 : decode cX11_letter 7 = .ok (.ifnonnull 6, 3) := by decide +kernel
theorem dX11_letter_10 : decode cX11_letter 10 = .ok (.bipush (-2), 2) := by decide +kernel
theorem dX11_letter_12 : decode cX11_letter 12 = .ok (.ireturn, 1) := by decide +kernel
theorem dX11_letter_13 : decode cX11_letter 13 = .ok (.iload_n 2, 1) := by decide +kernel
theorem dX11_letter_14 : decode cX11_letter 14 = .ok (.tableswitch 77 0 6 #[42, 47, 52, 57, 62, 67, 72], 42) := by decide +kernel
theorem dX11_letter_56 : decode cX11_letter 56 = .ok (.aload_n 3, 1) := by decide +kernel
theorem dX11_letter_57 : decode cX11_letter 57 = .ok (.getfield 221, 3) := by decide +kernel
theorem dX11_letter_60 : decode cX11_letter 60 = .ok (.ireturn, 1) := by decide +kernel
theorem dX11_letter_61 : decode cX11_letter 61 = .ok (.aload_n 3, 1) := by decide +kernel
theorem dX11_letter_62 : decode cX11_letter 62 = .ok (.getfield 224, 3) := by decide +kernel
theorem dX11_letter_65 : decode cX11_letter 65 = .ok (.ireturn, 1) := by decide +kernel
theorem dX11_letter_66 : decode cX11_letter 66 = .ok (.aload_n 3, 1) := by decide +kernel
theorem dX11_letter_67 : decode cX11_letter 67 = .ok (.getfield 227, 3) := by decide +kernel
theorem dX11_letter_70 : decode cX11_letter 70 = .ok (.ireturn, 1) := by decide +kernel
theorem dX11_letter_71 : decode cX11_letter 71 = .ok (.aload_n 3, 1) := by decide +kernel
theorem dX11_letter_72 : decode cX11_letter 72 = .ok (.getfield 230, 3) := by decide +kernel
theorem dX11_letter_75 : decode cX11_letter 75 = .ok (.ireturn, 1) := by decide +kernel
theorem dX11_letter_76 : decode cX11_letter 76 = .ok (.aload_n 3, 1) := by decide +kernel
theorem dX11_letter_77 : decode cX11_letter 77 = .ok (.getfield 233, 3) := by decide +kernel
theorem dX11_letter_80 : decode cX11_letter 80 = .ok (.ireturn, 1) := by decide +kernel
theorem dX11_letter_81 : decode cX11_letter 81 = .ok (.aload_n 3, 1) := by decide +kernel
theorem dX11_letter_82 : decode cX11_letter 82 = .ok (.getfield 234, 3) := by decide +kernel
theorem dX11_letter_85 : decode cX11_letter 85 = .ok (.ireturn, 1) := by decide +kernel
theorem dX11_letter_86 : decode cX11_letter 86 = .ok (.aload_n 3, 1) := by decide +kernel
theorem dX11_letter_87 : decode cX11_letter 87 = .ok (.getfield 209, 3) := by decide +kernel
theorem dX11_letter_90 : decode cX11_letter 90 = .ok (.ireturn, 1) := by decide +kernel
theorem dX11_letter_91 : decode cX11_letter 91 = .ok (.bipush (-2), 2) := by decide +kernel
theorem dX11_letter_93 : decode cX11_letter 93 = .ok (.ireturn, 1) := by decide +kernel
theorem dX11_wrote_0 : decode cX11_wrote 0 = .ok (.aload_n 0, 1) := by decide +kernel
theorem dX11_wrote_1 : decode cX11_wrote 1 = .ok (.iload_n 1, 1) := by decide +kernel
theorem dX11_wrote_2 : decode cX11_wrote 2 = .ok (.invokevirtual 205, 3) := by decide +kernel
theorem dX11_wrote_5 : decode cX11_wrote 5 = .ok (.astore_n 3, 1) := by decide +kernel
theorem dX11_wrote_6 : decode cX11_wrote 6 = .ok (.aload_n 3, 1) := by decide +kernel
theorem dX11_wrote_7 : decode cX11_wrote 7 = .ok (.ifnonnull 7, 3) := by decide +kernel
theorem dX11_wrote_10 : decode cX11_wrote 10 = .ok (.ldc2_w 117, 3) := by decide +kernel
theorem dX11_wrote_13 : decode cX11_wrote 13 = .ok (.lreturn, 1) := by decide +kernel
theorem dX11_wrote_14 : decode cX11_wrote 14 = .ok (.iload_n 2, 1) := by decide +kernel
theorem dX11_wrote_15 : decode cX11_wrote 15 = .ok (.tableswitch 41 0 2 #[25, 30, 35], 25) := by decide +kernel
theorem dX11_wrote_40 : decode cX11_wrote 40 = .ok (.aload_n 3, 1) := by decide +kernel
theorem dX11_wrote_41 : decode cX11_wrote 41 = .ok (.getfield 235, 3) := by decide +kernel
theorem dX11_wrote_44 : decode cX11_wrote 44 = .ok (.lreturn, 1) := by decide +kernel
theorem dX11_wrote_45 : decode cX11_wrote 45 = .ok (.aload_n 3, 1) := by decide +kernel
theorem dX11_wrote_46 : decode cX11_wrote 46 = .ok (.getfield 240, 3) := by decide +kernel
theorem dX11_wrote_49 : decode cX11_wrote 49 = .ok (.lreturn, 1) := by decide +kernel
theorem dX11_wrote_50 : decode cX11_wrote 50 = .ok (.aload_n 3, 1) := by decide +kernel
theorem dX11_wrote_51 : decode cX11_wrote 51 = .ok (.getfield 243, 3) := by decide +kernel
theorem dX11_wrote_54 : decode cX11_wrote 54 = .ok (.i2l, 1) := by decide +kernel
theorem dX11_wrote_55 : decode cX11_wrote 55 = .ok (.lreturn, 1) := by decide +kernel
theorem dX11_wrote_56 : decode cX11_wrote 56 = .ok (.ldc2_w 117, 3) := by decide +kernel
theorem dX11_wrote_59 : decode cX11_wrote 59 = .ok (.lreturn, 1) := by decide +kernel
theorem dX11_look_0 : decode cX11_look 0 = .ok (.aload_n 0, 1) := by decide +kernel
theorem dX11_look_1 : decode cX11_look 1 = .ok (.iload_n 1, 1) := by decide +kernel
theorem dX11_look_2 : decode cX11_look 2 = .ok (.invokevirtual 156, 3) := by decide +kernel
theorem dX11_look_5 : decode cX11_look 5 = .ok (.astore_n 2, 1) := by decide +kernel
theorem dX11_look_6 : decode cX11_look 6 = .ok (.aload_n 2, 1) := by decide +kernel
theorem dX11_look_7 : decode cX11_look 7 = .ok (.ifnonnull 6, 3) := by decide +kernel
theorem dX11_look_10 : decode cX11_look 10 = .ok (.bipush (-2), 2) := by decide +kernel
theorem dX11_look_12 : decode cX11_look 12 = .ok (.ireturn, 1) := by decide +kernel
theorem dX11_look_13 : decode cX11_look 13 = .ok (.aload_n 0, 1) := by decide +kernel
theorem dX11_look_14 : decode cX11_look 14 = .ok (.invokevirtual 246, 3) := by decide +kernel
theorem dX11_look_17 : decode cX11_look 17 = .ok (.astore_n 3, 1) := by decide +kernel
theorem dX11_look_18 : decode cX11_look 18 = .ok (.aload_n 3, 1) := by decide +kernel
theorem dX11_look_19 : decode cX11_look 19 = .ok (.ifnonnull 6, 3) := by decide +kernel
theorem dX11_look_22 : decode cX11_look 22 = .ok (.bipush (-3), 2) := by decide +kernel
theorem dX11_look_24 : decode cX11_look 24 = .ok (.ireturn, 1) := by decide +kernel
theorem dX11_look_25 : decode cX11_look 25 = .ok (.aload_n 0, 1) := by decide +kernel
theorem dX11_look_26 : decode cX11_look 26 = .ok (.iconst 1, 1) := by decide +kernel
theorem dX11_look_27 : decode cX11_look 27 = .ok (.invokevirtual 165, 3) := by decide +kernel
theorem dX11_look_30 : decode cX11_look 30 = .ok (.ifCond .ne 6, 3) := by decide +kernel
theorem dX11_look_33 : decode cX11_look 33 = .ok (.bipush (-4), 2) := by decide +kernel
theorem dX11_look_35 : decode cX11_look 35 = .ok (.ireturn, 1) := by decide +kernel
theorem dX11_look_36 : decode cX11_look 36 = .ok (.aload_n 0, 1) := by decide +kernel
theorem dX11_look_37 : decode cX11_look 37 = .ok (.aload_n 2, 1) := by decide +kernel
theorem dX11_look_38 : decode cX11_look 38 = .ok (.iload_n 1, 1) := by decide +kernel
theorem dX11_look_39 : decode cX11_look 39 = .ok (.aload_n 3, 1) := by decide +kernel
theorem dX11_look_40 : decode cX11_look 40 = .ok (.aload_n 0, 1) := by decide +kernel
theorem dX11_look_41 : decode cX11_look 41 = .ok (.getfield 43, 3) := by decide +kernel
theorem dX11_look_44 : decode cX11_look 44 = .ok (.invokevirtual 119, 3) := by decide +kernel
theorem dX11_look_47 : decode cX11_look 47 = .ok (.invokevirtual 250, 3) := by decide +kernel
theorem dX11_look_50 : decode cX11_look 50 = .ok (.aload_n 2, 1) := by decide +kernel
theorem dX11_look_51 : decode cX11_look 51 = .ok (.getfield 254, 3) := by decide +kernel
theorem dX11_look_54 : decode cX11_look 54 = .ok (.invokevirtual 87, 3) := by decide +kernel
theorem dX11_look_57 : decode cX11_look 57 = .ok (.ireturn, 1) := by decide +kernel
theorem dX11_grant_0 : decode cX11_grant 0 = .ok (.aload_n 0, 1) := by decide +kernel
theorem dX11_grant_1 : decode cX11_grant 1 = .ok (.iload_n 1, 1) := by decide +kernel
theorem dX11_grant_2 : decode cX11_grant 2 = .ok (.invokevirtual 156, 3) := by decide +kernel
theorem dX11_grant_5 : decode cX11_grant 5 = .ok (.ifnull 12, 3) := by decide +kernel
theorem dX11_grant_8 : decode cX11_grant 8 = .ok (.iload_n 3, 1) := by decide +kernel
theorem dX11_grant_9 : decode cX11_grant 9 = .ok (.iconst 0, 1) := by decide +kernel
theorem dX11_grant_10 : decode cX11_grant 10 = .ok (.iconst 2, 1) := by decide +kernel
theorem dX11_grant_11 : decode cX11_grant 11 = .ok (.invokestatic 103, 3) := by decide +kernel
theorem dX11_grant_14 : decode cX11_grant 14 = .ok (.ifCond .ne 6, 3) := by decide +kernel
theorem dX11_grant_17 : decode cX11_grant 17 = .ok (.bipush (-2), 2) := by decide +kernel
theorem dX11_grant_19 : decode cX11_grant 19 = .ok (.ireturn, 1) := by decide +kernel
theorem dX11_grant_20 : decode cX11_grant 20 = .ok (.aload_n 0, 1) := by decide +kernel
theorem dX11_grant_21 : decode cX11_grant 21 = .ok (.iload_n 1, 1) := by decide +kernel
theorem dX11_grant_22 : decode cX11_grant 22 = .ok (.iload_n 2, 1) := by decide +kernel
theorem dX11_grant_23 : decode cX11_grant 23 = .ok (.invokevirtual 257, 3) := by decide +kernel
theorem dX11_grant_26 : decode cX11_grant 26 = .ok (.astore 4, 2) := by decide +kernel
theorem dX11_grant_28 : decode cX11_grant 28 = .ok (.aload 4, 2) := by decide +kernel
theorem dX11_grant_30 : decode cX11_grant 30 = .ok (.ifnonnull 5, 3) := by decide +kernel
theorem dX11_grant_33 : decode cX11_grant 33 = .ok (.iconst (-1), 1) := by decide +kernel
theorem dX11_grant_34 : decode cX11_grant 34 = .ok (.ireturn, 1) := by decide +kernel
theorem dX11_grant_35 : decode cX11_grant 35 = .ok (.iload_n 3, 1) := by decide +kernel
theorem dX11_grant_36 : decode cX11_grant 36 = .ok (.lookupswitch 40 #[(0, 28), (1, 34)], 28) := by decide +kernel
theorem dX11_grant_64 : decode cX11_grant 64 = .ok (.aload 4, 2) := by decide +kernel
theorem dX11_grant_66 : decode cX11_grant 66 = .ok (.getfield 261, 3) := by decide +kernel
theorem dX11_grant_69 : decode cX11_grant 69 = .ok (.ireturn, 1) := by decide +kernel
theorem dX11_grant_70 : decode cX11_grant 70 = .ok (.aload 4, 2) := by decide +kernel
theorem dX11_grant_72 : decode cX11_grant 72 = .ok (.getfield 264, 3) := by decide +kernel
theorem dX11_grant_75 : decode cX11_grant 75 = .ok (.ireturn, 1) := by decide +kernel
theorem dX11_grant_76 : decode cX11_grant 76 = .ok (.aload 4, 2) := by decide +kernel
theorem dX11_grant_78 : decode cX11_grant 78 = .ok (.getfield 265, 3) := by decide +kernel
theorem dX11_grant_81 : decode cX11_grant 81 = .ok (.ireturn, 1) := by decide +kernel
theorem dX11_ends_0 : decode cX11_ends 0 = .ok (.aload_n 0, 1) := by decide +kernel
theorem dX11_ends_1 : decode cX11_ends 1 = .ok (.iload_n 1, 1) := by decide +kernel
theorem dX11_ends_2 : decode cX11_ends 2 = .ok (.iload_n 2, 1) := by decide +kernel
theorem dX11_ends_3 : decode cX11_ends 3 = .ok (.invokevirtual 257, 3) := by decide +kernel
theorem dX11_ends_6 : decode cX11_ends 6 = .ok (.astore 4, 2) := by decide +kernel
theorem dX11_ends_8 : decode cX11_ends 8 = .ok (.aload 4, 2) := by decide +kernel
theorem dX11_ends_10 : decode cX11_ends 10 = .ok (.ifnull 12, 3) := by decide +kernel
theorem dX11_ends_13 : decode cX11_ends 13 = .ok (.iload_n 3, 1) := by decide +kernel
theorem dX11_ends_14 : decode cX11_ends 14 = .ok (.iconst 0, 1) := by decide +kernel
theorem dX11_ends_15 : decode cX11_ends 15 = .ok (.iconst 1, 1) := by decide +kernel
theorem dX11_ends_16 : decode cX11_ends 16 = .ok (.invokestatic 103, 3) := by decide +kernel
theorem dX11_ends_19 : decode cX11_ends 19 = .ok (.ifCond .ne 7, 3) := by decide +kernel
theorem dX11_ends_22 : decode cX11_ends 22 = .ok (.ldc2_w 117, 3) := by decide +kernel
theorem dX11_ends_25 : decode cX11_ends 25 = .ok (.lreturn, 1) := by decide +kernel
theorem dX11_ends_26 : decode cX11_ends 26 = .ok (.iload_n 3, 1) := by decide +kernel
theorem dX11_ends_27 : decode cX11_ends 27 = .ok (.ifCond .ne 11, 3) := by decide +kernel
theorem dX11_ends_30 : decode cX11_ends 30 = .ok (.aload 4, 2) := by decide +kernel
theorem dX11_ends_32 : decode cX11_ends 32 = .ok (.getfield 266, 3) := by decide +kernel
theorem dX11_ends_35 : decode cX11_ends 35 = .ok (.goto 8, 3) := by decide +kernel
theorem dX11_ends_38 : decode cX11_ends 38 = .ok (.aload 4, 2) := by decide +kernel
theorem dX11_ends_40 : decode cX11_ends 40 = .ok (.getfield 267, 3) := by decide +kernel
theorem dX11_ends_43 : decode cX11_ends 43 = .ok (.lreturn, 1) := by decide +kernel
theorem dX11_told_0 : decode cX11_told 0 = .ok (.aload_n 0, 1) := by decide +kernel
theorem dX11_told_1 : decode cX11_told 1 = .ok (.iload_n 1, 1) := by decide +kernel
theorem dX11_told_2 : decode cX11_told 2 = .ok (.invokevirtual 156, 3) := by decide +kernel
theorem dX11_told_5 : decode cX11_told 5 = .ok (.astore_n 3, 1) := by decide +kernel
theorem dX11_told_6 : decode cX11_told 6 = .ok (.aload_n 3, 1) := by decide +kernel
theorem dX11_told_7 : decode cX11_told 7 = .ok (.ifnull 7, 3) := by decide +kernel
theorem dX11_told_10 : decode cX11_told 10 = .ok (.iload_n 2, 1) := by decide +kernel
theorem dX11_told_11 : decode cX11_told 11 = .ok (.ifCond .ge 6, 3) := by decide +kernel
theorem dX11_told_14 : decode cX11_told 14 = .ok (.bipush (-2), 2) := by decide +kernel
theorem dX11_told_16 : decode cX11_told 16 = .ok (.ireturn, 1) := by decide +kernel
theorem dX11_told_17 : decode cX11_told 17 = .ok (.iload_n 2, 1) := by decide +kernel
theorem dX11_told_18 : decode cX11_told 18 = .ok (.tableswitch 175 0 8 #[50, 55, 60, 65, 88, 96, 119, 142, 169], 50) := by decide +kernel
theorem dX11_told_68 : decode cX11_told 68 = .ok (.aload_n 3, 1) := by decide +kernel
theorem dX11_told_69 : decode cX11_told 69 = .ok (.getfield 270, 3) := by decide +kernel
theorem dX11_told_72 : decode cX11_told 72 = .ok (.ireturn, 1) := by decide +kernel
theorem dX11_told_73 : decode cX11_told 73 = .ok (.aload_n 3, 1) := by decide +kernel
theorem dX11_told_74 : decode cX11_told 74 = .ok (.getfield 271, 3) := by decide +kernel
theorem dX11_told_77 : decode cX11_told 77 = .ok (.ireturn, 1) := by decide +kernel
theorem dX11_told_78 : decode cX11_told 78 = .ok (.aload_n 3, 1) := by decide +kernel
theorem dX11_told_79 : decode cX11_told 79 = .ok (.getfield 274, 3) := by decide +kernel
theorem dX11_told_82 : decode cX11_told 82 = .ok (.ireturn, 1) := by decide +kernel
theorem dX11_told_83 : decode cX11_told 83 = .ok (.aload_n 3, 1) := by decide +kernel
theorem dX11_told_84 : decode cX11_told 84 = .ok (.instanceof 277, 3) := by decide +kernel
theorem dX11_told_87 : decode cX11_told 87 = .ok (.ifCond .eq 17, 3) := by decide +kernel
theorem dX11_told_90 : decode cX11_told 90 = .ok (.aload_n 3, 1) := by decide +kernel
theorem dX11_told_91 : decode cX11_told 91 = .ok (.checkcast 277, 3) := by decide +kernel
theorem dX11_told_94 : decode cX11_told 94 = .ok (.astore 4, 2) := by decide +kernel
theorem dX11_told_96 : decode cX11_told 96 = .ok (.aload 4, 2) := by decide +kernel
theorem dX11_told_98 : decode cX11_told 98 = .ok (.getfield 279, 3) := by decide +kernel
theorem dX11_told_101 : decode cX11_told 101 = .ok (.goto 4, 3) := by decide +kernel
theorem dX11_told_104 : decode cX11_told 104 = .ok (.iconst 0, 1) := by decide +kernel
theorem dX11_told_105 : decode cX11_told 105 = .ok (.ireturn, 1) := by decide +kernel
theorem dX11_told_106 : decode cX11_told 106 = .ok (.aload_n 3, 1) := by decide +kernel
theorem dX11_told_107 : decode cX11_told 107 = .ok (.getfield 254, 3) := by decide +kernel
theorem dX11_told_110 : decode cX11_told 110 = .ok (.invokevirtual 87, 3) := by decide +kernel
theorem dX11_told_113 : decode cX11_told 113 = .ok (.ireturn, 1) := by decide +kernel
theorem dX11_told_114 : decode cX11_told 114 = .ok (.aload_n 3, 1) := by decide +kernel
theorem dX11_told_115 : decode cX11_told 115 = .ok (.instanceof 203, 3) := by decide +kernel
theorem dX11_told_118 : decode cX11_told 118 = .ok (.ifCond .eq 17, 3) := by decide +kernel
theorem dX11_told_121 : decode cX11_told 121 = .ok (.aload_n 3, 1) := by decide +kernel
theorem dX11_told_122 : decode cX11_told 122 = .ok (.checkcast 203, 3) := by decide +kernel
theorem dX11_told_125 : decode cX11_told 125 = .ok (.astore 4, 2) := by decide +kernel
theorem dX11_told_127 : decode cX11_told 127 = .ok (.aload 4, 2) := by decide +kernel
theorem dX11_told_129 : decode cX11_told 129 = .ok (.getfield 282, 3) := by decide +kernel
theorem dX11_told_132 : decode cX11_told 132 = .ok (.goto 4, 3) := by decide +kernel
theorem dX11_told_135 : decode cX11_told 135 = .ok (.iconst (-1), 1) := by decide +kernel
theorem dX11_told_136 : decode cX11_told 136 = .ok (.ireturn, 1) := by decide +kernel
theorem dX11_told_137 : decode cX11_told 137 = .ok (.aload_n 3, 1) := by decide +kernel
theorem dX11_told_138 : decode cX11_told 138 = .ok (.instanceof 285, 3) := by decide +kernel
theorem dX11_told_141 : decode cX11_told 141 = .ok (.ifCond .eq 17, 3) := by decide +kernel
theorem dX11_told_144 : decode cX11_told 144 = .ok (.aload_n 3, 1) := by decide +kernel
theorem dX11_told_145 : decode cX11_told 145 = .ok (.checkcast 285, 3) := by decide +kernel
theorem dX11_told_148 : decode cX11_told 148 = .ok (.astore 4, 2) := by decide +kernel
theorem dX11_told_150 : decode cX11_told 150 = .ok (.aload 4, 2) := by decide +kernel
theorem dX11_told_152 : decode cX11_told 152 = .ok (.getfield 287, 3) := by decide +kernel
theorem dX11_told_155 : decode cX11_told 155 = .ok (.goto 4, 3) := by decide +kernel
theorem dX11_told_158 : decode cX11_told 158 = .ok (.iconst 0, 1) := by decide +kernel
theorem dX11_told_159 : decode cX11_told 159 = .ok (.ireturn, 1) := by decide +kernel
theorem dX11_told_160 : decode cX11_told 160 = .ok (.aload_n 3, 1) := by decide +kernel
theorem dX11_told_161 : decode cX11_told 161 = .ok (.instanceof 285, 3) := by decide +kernel
theorem dX11_told_164 : decode cX11_told 164 = .ok (.ifCond .eq 21, 3) := by decide +kernel
theorem dX11_told_167 : decode cX11_told 167 = .ok (.aload_n 3, 1) := by decide +kernel
theorem dX11_told_168 : decode cX11_told 168 = .ok (.checkcast 285, 3) := by decide +kernel
theorem dX11_told_171 : decode cX11_told 171 = .ok (.astore 4, 2) := by decide +kernel
theorem dX11_told_173 : decode cX11_told 173 = .ok (.aload 4, 2) := by decide +kernel
theorem dX11_told_175 : decode cX11_told 175 = .ok (.getfield 290, 3) := by decide +kernel
theorem dX11_told_178 : decode cX11_told 178 = .ok (.ifCond .eq 7, 3) := by decide +kernel
theorem dX11_told_181 : decode cX11_told 181 = .ok (.iconst 1, 1) := by decide +kernel
theorem dX11_told_182 : decode cX11_told 182 = .ok (.goto 4, 3) := by decide +kernel
theorem dX11_told_185 : decode cX11_told 185 = .ok (.iconst 0, 1) := by decide +kernel
theorem dX11_told_186 : decode cX11_told 186 = .ok (.ireturn, 1) := by decide +kernel
theorem dX11_told_187 : decode cX11_told 187 = .ok (.aload_n 0, 1) := by decide +kernel
theorem dX11_told_188 : decode cX11_told 188 = .ok (.iload_n 1, 1) := by decide +kernel
theorem dX11_told_189 : decode cX11_told 189 = .ok (.invokevirtual 293, 3) := by decide +kernel
theorem dX11_told_192 : decode cX11_told 192 = .ok (.ireturn, 1) := by decide +kernel
theorem dX11_told_193 : decode cX11_told 193 = .ok (.aload_n 3, 1) := by decide +kernel
theorem dX11_told_194 : decode cX11_told 194 = .ok (.instanceof 285, 3) := by decide +kernel
theorem dX11_told_197 : decode cX11_told 197 = .ok (.ifCond .eq 21, 3) := by decide +kernel
theorem dX11_told_200 : decode cX11_told 200 = .ok (.aload_n 3, 1) := by decide +kernel
theorem dX11_told_201 : decode cX11_told 201 = .ok (.checkcast 285, 3) := by decide +kernel
theorem dX11_told_204 : decode cX11_told 204 = .ok (.astore 4, 2) := by decide +kernel
theorem dX11_told_206 : decode cX11_told 206 = .ok (.aload 4, 2) := by decide +kernel
theorem dX11_told_208 : decode cX11_told 208 = .ok (.iload_n 2, 1) := by decide +kernel
theorem dX11_told_209 : decode cX11_told 209 = .ok (.bipush 9, 2) := by decide +kernel
theorem dX11_told_211 : decode cX11_told 211 = .ok (.isub, 1) := by decide +kernel
theorem dX11_told_212 : decode cX11_told 212 = .ok (.invokevirtual 297, 3) := by decide +kernel
theorem dX11_told_215 : decode cX11_told 215 = .ok (.goto 4, 3) := by decide +kernel
theorem dX11_told_218 : decode cX11_told 218 = .ok (.iconst (-1), 1) := by decide +kernel
theorem dX11_told_219 : decode cX11_told 219 = .ok (.ireturn, 1) := by decide +kernel
theorem dX11_holds_0 : decode cX11_holds 0 = .ok (.aload_n 0, 1) := by decide +kernel
theorem dX11_holds_1 : decode cX11_holds 1 = .ok (.iload_n 1, 1) := by decide +kernel
theorem dX11_holds_2 : decode cX11_holds 2 = .ok (.iload_n 2, 1) := by decide +kernel
theorem dX11_holds_3 : decode cX11_holds 3 = .ok (.invokevirtual 186, 3) := by decide +kernel
theorem dX11_holds_6 : decode cX11_holds 6 = .ok (.astore 4, 2) := by decide +kernel
theorem dX11_holds_8 : decode cX11_holds 8 = .ok (.aload 4, 2) := by decide +kernel
theorem dX11_holds_10 : decode cX11_holds 10 = .ok (.ifnonnull 6, 3) := by decide +kernel
theorem dX11_holds_13 : decode cX11_holds 13 = .ok (.bipush (-2), 2) := by decide +kernel
theorem dX11_holds_15 : decode cX11_holds 15 = .ok (.ireturn, 1) := by decide +kernel
theorem dX11_holds_16 : decode cX11_holds 16 = .ok (.iload_n 3, 1) := by decide +kernel
theorem dX11_holds_17 : decode cX11_holds 17 = .ok (.tableswitch 114 0 4 #[35, 50, 64, 82, 100], 35) := by decide +kernel
theorem dX11_holds_52 : decode cX11_holds 52 = .ok (.aload_n 0, 1) := by decide +kernel
theorem dX11_holds_53 : decode cX11_holds 53 = .ok (.iload_n 1, 1) := by decide +kernel
theorem dX11_holds_54 : decode cX11_holds 54 = .ok (.iload_n 2, 1) := by decide +kernel
theorem dX11_holds_55 : decode cX11_holds 55 = .ok (.invokevirtual 300, 3) := by decide +kernel
theorem dX11_holds_58 : decode cX11_holds 58 = .ok (.ifCond .eq 7, 3) := by decide +kernel
theorem dX11_holds_61 : decode cX11_holds 61 = .ok (.iconst 1, 1) := by decide +kernel
theorem dX11_holds_62 : decode cX11_holds 62 = .ok (.goto 4, 3) := by decide +kernel
theorem dX11_holds_65 : decode cX11_holds 65 = .ok (.iconst 0, 1) := by decide +kernel
theorem dX11_holds_66 : decode cX11_holds 66 = .ok (.ireturn, 1) := by decide +kernel
theorem dX11_holds_67 : decode cX11_holds 67 = .ok (.aload 4, 2) := by decide +kernel
theorem dX11_holds_69 : decode cX11_holds 69 = .ok (.getfield 135, 3) := by decide +kernel
theorem dX11_holds_72 : decode cX11_holds 72 = .ok (.ifCond .eq 7, 3) := by decide +kernel
theorem dX11_holds_75 : decode cX11_holds 75 = .ok (.iconst 1, 1) := by decide +kernel
theorem dX11_holds_76 : decode cX11_holds 76 = .ok (.goto 4, 3) := by decide +kernel
theorem dX11_holds_79 : decode cX11_holds 79 = .ok (.iconst 0, 1) := by decide +kernel
theorem dX11_holds_80 : decode cX11_holds 80 = .ok (.ireturn, 1) := by decide +kernel
theorem dX11_holds_81 : decode cX11_holds 81 = .ok (.aload 4, 2) := by decide +kernel
theorem dX11_holds_83 : decode cX11_holds 83 = .ok (.getfield 135, 3) := by decide +kernel
theorem dX11_holds_86 : decode cX11_holds 86 = .ok (.ifCond .eq 11, 3) := by decide +kernel
theorem dX11_holds_89 : decode cX11_holds 89 = .ok (.aload 4, 2) := by decide +kernel
theorem dX11_holds_91 : decode cX11_holds 91 = .ok (.getfield 190, 3) := by decide +kernel
theorem dX11_holds_94 : decode cX11_holds 94 = .ok (.goto 4, 3) := by decide +kernel
theorem dX11_holds_97 : decode cX11_holds 97 = .ok (.iconst (-1), 1) := by decide +kernel
theorem dX11_holds_98 : decode cX11_holds 98 = .ok (.ireturn, 1) := by decide +kernel
theorem dX11_holds_99 : decode cX11_holds 99 = .ok (.aload 4, 2) := by decide +kernel
theorem dX11_holds_101 : decode cX11_holds 101 = .ok (.getfield 135, 3) := by decide +kernel
theorem dX11_holds_104 : decode cX11_holds 104 = .ok (.ifCond .eq 11, 3) := by decide +kernel
theorem dX11_holds_107 : decode cX11_holds 107 = .ok (.aload 4, 2) := by decide +kernel
theorem dX11_holds_109 : decode cX11_holds 109 = .ok (.getfield 193, 3) := by decide +kernel
theorem dX11_holds_112 : decode cX11_holds 112 = .ok (.goto 4, 3) := by decide +kernel
theorem dX11_holds_115 : decode cX11_holds 115 = .ok (.iconst (-1), 1) := by decide +kernel
theorem dX11_holds_116 : decode cX11_holds 116 = .ok (.ireturn, 1) := by decide +kernel
theorem dX11_holds_117 : decode cX11_holds 117 = .ok (.aload 4, 2) := by decide +kernel
theorem dX11_holds_119 : decode cX11_holds 119 = .ok (.getfield 303, 3) := by decide +kernel
theorem dX11_holds_122 : decode cX11_holds 122 = .ok (.ifCond .eq 7, 3) := by decide +kernel
theorem dX11_holds_125 : decode cX11_holds 125 = .ok (.iconst 1, 1) := by decide +kernel
theorem dX11_holds_126 : decode cX11_holds 126 = .ok (.goto 4, 3) := by decide +kernel
theorem dX11_holds_129 : decode cX11_holds 129 = .ok (.iconst 0, 1) := by decide +kernel
theorem dX11_holds_130 : decode cX11_holds 130 = .ok (.ireturn, 1) := by decide +kernel
theorem dX11_holds_131 : decode cX11_holds 131 = .ok (.bipush (-2), 2) := by decide +kernel
theorem dX11_holds_133 : decode cX11_holds 133 = .ok (.ireturn, 1) := by decide +kernel
theorem dX11_held_0 : decode cX11_held 0 = .ok (.aload_n 0, 1) := by decide +kernel
theorem dX11_held_1 : decode cX11_held 1 = .ok (.iload_n 1, 1) := by decide +kernel
theorem dX11_held_2 : decode cX11_held 2 = .ok (.iload_n 2, 1) := by decide +kernel
theorem dX11_held_3 : decode cX11_held 3 = .ok (.invokevirtual 186, 3) := by decide +kernel
theorem dX11_held_6 : decode cX11_held 6 = .ok (.astore 4, 2) := by decide +kernel
theorem dX11_held_8 : decode cX11_held 8 = .ok (.aload 4, 2) := by decide +kernel
theorem dX11_held_10 : decode cX11_held 10 = .ok (.ifnull 20, 3) := by decide +kernel
theorem dX11_held_13 : decode cX11_held 13 = .ok (.aload 4, 2) := by decide +kernel
theorem dX11_held_15 : decode cX11_held 15 = .ok (.getfield 135, 3) := by decide +kernel
theorem dX11_held_18 : decode cX11_held 18 = .ok (.ifCond .eq 12, 3) := by decide +kernel
theorem dX11_held_21 : decode cX11_held 21 = .ok (.iload_n 3, 1) := by decide +kernel
theorem dX11_held_22 : decode cX11_held 22 = .ok (.iconst 0, 1) := by decide +kernel
theorem dX11_held_23 : decode cX11_held 23 = .ok (.iconst 1, 1) := by decide +kernel
theorem dX11_held_24 : decode cX11_held 24 = .ok (.invokestatic 103, 3) := by decide +kernel
theorem dX11_held_27 : decode cX11_held 27 = .ok (.ifCond .ne 7, 3) := by decide +kernel
theorem dX11_held_30 : decode cX11_held 30 = .ok (.ldc2_w 117, 3) := by decide +kernel
theorem dX11_held_33 : decode cX11_held 33 = .ok (.lreturn, 1) := by decide +kernel
theorem dX11_held_34 : decode cX11_held 34 = .ok (.iload_n 3, 1) := by decide +kernel
theorem dX11_held_35 : decode cX11_held 35 = .ok (.ifCond .ne 11, 3) := by decide +kernel
theorem dX11_held_38 : decode cX11_held 38 = .ok (.aload 4, 2) := by decide +kernel
theorem dX11_held_40 : decode cX11_held 40 = .ok (.getfield 196, 3) := by decide +kernel
theorem dX11_held_43 : decode cX11_held 43 = .ok (.goto 8, 3) := by decide +kernel
theorem dX11_held_46 : decode cX11_held 46 = .ok (.aload 4, 2) := by decide +kernel
theorem dX11_held_48 : decode cX11_held 48 = .ok (.getfield 306, 3) := by decide +kernel
theorem dX11_held_51 : decode cX11_held 51 = .ok (.lreturn, 1) := by decide +kernel
theorem dX11_write_0 : decode cX11_write 0 = .ok (.aload_n 0, 1) := by decide +kernel
theorem dX11_write_1 : decode cX11_write 1 = .ok (.iload_n 1, 1) := by decide +kernel
theorem dX11_write_2 : decode cX11_write 2 = .ok (.invokevirtual 127, 3) := by decide +kernel
theorem dX11_write_5 : decode cX11_write 5 = .ok (.astore 6, 2) := by decide +kernel
theorem dX11_write_7 : decode cX11_write 7 = .ok (.aload_n 0, 1) := by decide +kernel
theorem dX11_write_8 : decode cX11_write 8 = .ok (.iload_n 1, 1) := by decide +kernel
theorem dX11_write_9 : decode cX11_write 9 = .ok (.iload_n 2, 1) := by decide +kernel
theorem dX11_write_10 : decode cX11_write 10 = .ok (.invokevirtual 186, 3) := by decide +kernel
theorem dX11_write_13 : decode cX11_write 13 = .ok (.astore 7, 2) := by decide +kernel
theorem dX11_write_15 : decode cX11_write 15 = .ok (.aload 6, 2) := by decide +kernel
theorem dX11_write_17 : decode cX11_write 17 = .ok (.ifnull 17, 3) := by decide +kernel
theorem dX11_write_20 : decode cX11_write 20 = .ok (.aload 7, 2) := by decide +kernel
theorem dX11_write_22 : decode cX11_write 22 = .ok (.ifnull 12, 3) := by decide +kernel
theorem dX11_write_25 : decode cX11_write 25 = .ok (.aload_n 0, 1) := by decide +kernel
theorem dX11_write_26 : decode cX11_write 26 = .ok (.iload_n 3, 1) := by decide +kernel
theorem dX11_write_27 : decode cX11_write 27 = .ok (.iload_n 2, 1) := by decide +kernel
theorem dX11_write_28 : decode cX11_write 28 = .ok (.invokevirtual 309, 3) := by decide +kernel
theorem dX11_write_31 : decode cX11_write 31 = .ok (.ifCond .ne 6, 3) := by decide +kernel
theorem dX11_write_34 : decode cX11_write 34 = .ok (.bipush (-2), 2) := by decide +kernel
theorem dX11_write_36 : decode cX11_write 36 = .ok (.ireturn, 1) := by decide +kernel
theorem dX11_write_37 : decode cX11_write 37 = .ok (.aload 6, 2) := by decide +kernel
theorem dX11_write_39 : decode cX11_write 39 = .ok (.getfield 143, 3) := by decide +kernel
theorem dX11_write_42 : decode cX11_write 42 = .ok (.ifCond .eq 20, 3) := by decide +kernel
theorem dX11_write_45 : decode cX11_write 45 = .ok (.aload 7, 2) := by decide +kernel
theorem dX11_write_47 : decode cX11_write 47 = .ok (.getfield 135, 3) := by decide +kernel
theorem dX11_write_50 : decode cX11_write 50 = .ok (.ifCond .eq 12, 3) := by decide +kernel
theorem dX11_write_53 : decode cX11_write 53 = .ok (.aload 7, 2) := by decide +kernel
theorem dX11_write_55 : decode cX11_write 55 = .ok (.getfield 190, 3) := by decide +kernel
theorem dX11_write_58 : decode cX11_write 58 = .ok (.iconst 1, 1) := by decide +kernel
theorem dX11_write_59 : decode cX11_write 59 = .ok (.if_icmp .ne 6, 3) := by decide +kernel
theorem dX11_write_62 : decode cX11_write 62 = .ok (.bipush (-3), 2) := by decide +kernel
theorem dX11_write_64 : decode cX11_write 64 = .ok (.ireturn, 1) := by decide +kernel
theorem dX11_write_65 : decode cX11_write 65 = .ok (.aload 7, 2) := by decide +kernel
theorem dX11_write_67 : decode cX11_write 67 = .ok (.getfield 196, 3) := by decide +kernel
theorem dX11_write_70 : decode cX11_write 70 = .ok (.aload_n 0, 1) := by decide +kernel
theorem dX11_write_71 : decode cX11_write 71 = .ok (.getfield 27, 3) := by decide +kernel
theorem dX11_write_74 : decode cX11_write 74 = .ok (.iload_n 3, 1) := by decide +kernel
theorem dX11_write_75 : decode cX11_write 75 = .ok (.aaload, 1) := by decide +kernel
theorem dX11_write_76 : decode cX11_write 76 = .ok (.iload_n 2, 1) := by decide +kernel
theorem dX11_write_77 : decode cX11_write 77 = .ok (.laload, 1) := by decide +kernel
theorem dX11_write_78 : decode cX11_write 78 = .ok (.lcmp, 1) := by decide +kernel
theorem dX11_write_79 : decode cX11_write 79 = .ok (.ifCond .ge 15, 3) := by decide +kernel
theorem dX11_write_82 : decode cX11_write 82 = .ok (.aload_n 0, 1) := by decide +kernel
theorem dX11_write_83 : decode cX11_write 83 = .ok (.dup, 1) := by decide +kernel
theorem dX11_write_84 : decode cX11_write 84 = .ok (.getfield 64, 3) := by decide +kernel
theorem dX11_write_87 : decode cX11_write 87 = .ok (.iconst 1, 1) := by decide +kernel
theorem dX11_write_88 : decode cX11_write 88 = .ok (.iadd, 1) := by decide +kernel
theorem dX11_write_89 : decode cX11_write 89 = .ok (.putfield 64, 3) := by decide +kernel
theorem dX11_write_92 : decode cX11_write 92 = .ok (.iconst 0, 1) := by decide +kernel
theorem dX11_write_93 : decode cX11_write 93 = .ok (.ireturn, 1) := by decide +kernel
theorem dX11_write_94 : decode cX11_write 94 = .ok (.aload_n 0, 1) := by decide +kernel
theorem dX11_write_95 : decode cX11_write 95 = .ok (.getfield 27, 3) := by decide +kernel
theorem dX11_write_98 : decode cX11_write 98 = .ok (.iload_n 3, 1) := by decide +kernel
theorem dX11_write_99 : decode cX11_write 99 = .ok (.aaload, 1) := by decide +kernel
theorem dX11_write_100 : decode cX11_write 100 = .ok (.iload_n 2, 1) := by decide +kernel
theorem dX11_write_101 : decode cX11_write 101 = .ok (.aload 7, 2) := by decide +kernel
theorem dX11_write_103 : decode cX11_write 103 = .ok (.getfield 196, 3) := by decide +kernel
theorem dX11_write_106 : decode cX11_write 106 = .ok (.lastore, 1) := by decide +kernel
theorem dX11_write_107 : decode cX11_write 107 = .ok (.aload_n 0, 1) := by decide +kernel
theorem dX11_write_108 : decode cX11_write 108 = .ok (.getfield 30, 3) := by decide +kernel
theorem dX11_write_111 : decode cX11_write 111 = .ok (.iload_n 3, 1) := by decide +kernel
theorem dX11_write_112 : decode cX11_write 112 = .ok (.aaload, 1) := by decide +kernel
theorem dX11_write_113 : decode cX11_write 113 = .ok (.iload_n 2, 1) := by decide +kernel
theorem dX11_write_114 : decode cX11_write 114 = .ok (.lload 4, 2) := by decide +kernel
theorem dX11_write_116 : decode cX11_write 116 = .ok (.lastore, 1) := by decide +kernel
theorem dX11_write_117 : decode cX11_write 117 = .ok (.iconst 1, 1) := by decide +kernel
theorem dX11_write_118 : decode cX11_write 118 = .ok (.ireturn, 1) := by decide +kernel
theorem dX11_stored_0 : decode cX11_stored 0 = .ok (.aload_n 0, 1) := by decide +kernel
theorem dX11_stored_1 : decode cX11_stored 1 = .ok (.iload_n 1, 1) := by decide +kernel
theorem dX11_stored_2 : decode cX11_stored 2 = .ok (.iload_n 2, 1) := by decide +kernel
theorem dX11_stored_3 : decode cX11_stored 3 = .ok (.invokevirtual 309, 3) := by decide +kernel
theorem dX11_stored_6 : decode cX11_stored 6 = .ok (.ifCond .eq 12, 3) := by decide +kernel
theorem dX11_stored_9 : decode cX11_stored 9 = .ok (.iload_n 3, 1) := by decide +kernel
theorem dX11_stored_10 : decode cX11_stored 10 = .ok (.iconst 0, 1) := by decide +kernel
theorem dX11_stored_11 : decode cX11_stored 11 = .ok (.iconst 1, 1) := by decide +kernel
theorem dX11_stored_12 : decode cX11_stored 12 = .ok (.invokestatic 103, 3) := by decide +kernel
theorem dX11_stored_15 : decode cX11_stored 15 = .ok (.ifCond .ne 7, 3) := by decide +kernel
theorem dX11_stored_18 : decode cX11_stored 18 = .ok (.ldc2_w 117, 3) := by decide +kernel
theorem dX11_stored_21 : decode cX11_stored 21 = .ok (.lreturn, 1) := by decide +kernel
theorem dX11_stored_22 : decode cX11_stored 22 = .ok (.iload_n 3, 1) := by decide +kernel
theorem dX11_stored_23 : decode cX11_stored 23 = .ok (.ifCond .ne 14, 3) := by decide +kernel
theorem dX11_stored_26 : decode cX11_stored 26 = .ok (.aload_n 0, 1) := by decide +kernel
theorem dX11_stored_27 : decode cX11_stored 27 = .ok (.getfield 27, 3) := by decide +kernel
theorem dX11_stored_30 : decode cX11_stored 30 = .ok (.iload_n 1, 1) := by decide +kernel
theorem dX11_stored_31 : decode cX11_stored 31 = .ok (.aaload, 1) := by decide +kernel
theorem dX11_stored_32 : decode cX11_stored 32 = .ok (.iload_n 2, 1) := by decide +kernel
theorem dX11_stored_33 : decode cX11_stored 33 = .ok (.laload, 1) := by decide +kernel
theorem dX11_stored_34 : decode cX11_stored 34 = .ok (.goto 11, 3) := by decide +kernel
theorem dX11_stored_37 : decode cX11_stored 37 = .ok (.aload_n 0, 1) := by decide +kernel
theorem dX11_stored_38 : decode cX11_stored 38 = .ok (.getfield 30, 3) := by decide +kernel
theorem dX11_stored_41 : decode cX11_stored 41 = .ok (.iload_n 1, 1) := by decide +kernel
theorem dX11_stored_42 : decode cX11_stored 42 = .ok (.aaload, 1) := by decide +kernel
theorem dX11_stored_43 : decode cX11_stored 43 = .ok (.iload_n 2, 1) := by decide +kernel
theorem dX11_stored_44 : decode cX11_stored 44 = .ok (.laload, 1) := by decide +kernel
theorem dX11_stored_45 : decode cX11_stored 45 = .ok (.lreturn, 1) := by decide +kernel
theorem dX11_count_0 : decode cX11_count 0 = .ok (.iload_n 1, 1) := by decide +kernel
theorem dX11_count_1 : decode cX11_count 1 = .ok (.tableswitch 162 0 14 #[75, 83, 91, 99, 104, 112, 117, 122, 127, 132, 137, 142, 147, 152, 157], 75) := by decide +kernel
theorem dX11_count_76 : decode cX11_count 76 = .ok (.aload_n 0, 1) := by decide +kernel
theorem dX11_count_77 : decode cX11_count 77 = .ok (.getfield 10, 3) := by decide +kernel
theorem dX11_count_80 : decode cX11_count 80 = .ok (.invokevirtual 87, 3) := by decide +kernel
theorem dX11_count_83 : decode cX11_count 83 = .ok (.ireturn, 1) := by decide +kernel
theorem dX11_count_84 : decode cX11_count 84 = .ok (.aload_n 0, 1) := by decide +kernel
theorem dX11_count_85 : decode cX11_count 85 = .ok (.getfield 16, 3) := by decide +kernel
theorem dX11_count_88 : decode cX11_count 88 = .ok (.invokevirtual 87, 3) := by decide +kernel
theorem dX11_count_91 : decode cX11_count 91 = .ok (.ireturn, 1) := by decide +kernel
theorem dX11_count_92 : decode cX11_count 92 = .ok (.aload_n 0, 1) := by decide +kernel
theorem dX11_count_93 : decode cX11_count 93 = .ok (.getfield 19, 3) := by decide +kernel
theorem dX11_count_96 : decode cX11_count 96 = .ok (.invokevirtual 87, 3) := by decide +kernel
theorem dX11_count_99 : decode cX11_count 99 = .ok (.ireturn, 1) := by decide +kernel
theorem dX11_count_100 : decode cX11_count 100 = .ok (.aload_n 0, 1) := by decide +kernel
theorem dX11_count_101 : decode cX11_count 101 = .ok (.getfield 39, 3) := by decide +kernel
theorem dX11_count_104 : decode cX11_count 104 = .ok (.ireturn, 1) := by decide +kernel
theorem dX11_count_105 : decode cX11_count 105 = .ok (.aload_n 0, 1) := by decide +kernel
theorem dX11_count_106 : decode cX11_count 106 = .ok (.getfield 22, 3) := by decide +kernel
theorem dX11_count_109 : decode cX11_count 109 = .ok (.invokevirtual 87, 3) := by decide +kernel
theorem dX11_count_112 : decode cX11_count 112 = .ok (.ireturn, 1) := by decide +kernel
theorem dX11_count_113 : decode cX11_count 113 = .ok (.aload_n 0, 1) := by decide +kernel
theorem dX11_count_114 : decode cX11_count 114 = .ok (.invokevirtual 312, 3) := by decide +kernel
theorem dX11_count_117 : decode cX11_count 117 = .ok (.ireturn, 1) := by decide +kernel
theorem dX11_count_118 : decode cX11_count 118 = .ok (.aload_n 0, 1) := by decide +kernel
theorem dX11_count_119 : decode cX11_count 119 = .ok (.invokevirtual 315, 3) := by decide +kernel
theorem dX11_count_122 : decode cX11_count 122 = .ok (.ireturn, 1) := by decide +kernel
theorem dX11_count_123 : decode cX11_count 123 = .ok (.aload_n 0, 1) := by decide +kernel
theorem dX11_count_124 : decode cX11_count 124 = .ok (.getfield 46, 3) := by decide +kernel
theorem dX11_count_127 : decode cX11_count 127 = .ok (.ireturn, 1) := by decide +kernel
theorem dX11_count_128 : decode cX11_count 128 = .ok (.aload_n 0, 1) := by decide +kernel
theorem dX11_count_129 : decode cX11_count 129 = .ok (.getfield 49, 3) := by decide +kernel
theorem dX11_count_132 : decode cX11_count 132 = .ok (.ireturn, 1) := by decide +kernel
theorem dX11_count_133 : decode cX11_count 133 = .ok (.aload_n 0, 1) := by decide +kernel
theorem dX11_count_134 : decode cX11_count 134 = .ok (.getfield 52, 3) := by decide +kernel
theorem dX11_count_137 : decode cX11_count 137 = .ok (.ireturn, 1) := by decide +kernel
theorem dX11_count_138 : decode cX11_count 138 = .ok (.aload_n 0, 1) := by decide +kernel
theorem dX11_count_139 : decode cX11_count 139 = .ok (.getfield 55, 3) := by decide +kernel
theorem dX11_count_142 : decode cX11_count 142 = .ok (.ireturn, 1) := by decide +kernel
theorem dX11_count_143 : decode cX11_count 143 = .ok (.aload_n 0, 1) := by decide +kernel
theorem dX11_count_144 : decode cX11_count 144 = .ok (.getfield 58, 3) := by decide +kernel
theorem dX11_count_147 : decode cX11_count 147 = .ok (.ireturn, 1) := by decide +kernel
theorem dX11_count_148 : decode cX11_count 148 = .ok (.aload_n 0, 1) := by decide +kernel
theorem dX11_count_149 : decode cX11_count 149 = .ok (.getfield 61, 3) := by decide +kernel
theorem dX11_count_152 : decode cX11_count 152 = .ok (.ireturn, 1) := by decide +kernel
theorem dX11_count_153 : decode cX11_count 153 = .ok (.aload_n 0, 1) := by decide +kernel
theorem dX11_count_154 : decode cX11_count 154 = .ok (.getfield 64, 3) := by decide +kernel
theorem dX11_count_157 : decode cX11_count 157 = .ok (.ireturn, 1) := by decide +kernel
theorem dX11_count_158 : decode cX11_count 158 = .ok (.aload_n 0, 1) := by decide +kernel
theorem dX11_count_159 : decode cX11_count 159 = .ok (.invokevirtual 318, 3) := by decide +kernel
theorem dX11_count_162 : decode cX11_count 162 = .ok (.ireturn, 1) := by decide +kernel
theorem dX11_count_163 : decode cX11_count 163 = .ok (.bipush (-2), 2) := by decide +kernel
theorem dX11_count_165 : decode cX11_count 165 = .ok (.ireturn, 1) := by decide +kernel
theorem dX11_put_0 : decode cX11_put 0 = .ok (.aload_n 0, 1) := by decide +kernel
theorem dX11_put_1 : decode cX11_put 1 = .ok (.iload_n 1, 1) := by decide +kernel
theorem dX11_put_2 : decode cX11_put 2 = .ok (.invokevirtual 321, 3) := by decide +kernel
theorem dX11_put_5 : decode cX11_put 5 = .ok (.astore 4, 2) := by decide +kernel
theorem dX11_put_7 : decode cX11_put 7 = .ok (.aload 4, 2) := by decide +kernel
theorem dX11_put_9 : decode cX11_put 9 = .ok (.ifnull 12, 3) := by decide +kernel
theorem dX11_put_12 : decode cX11_put 12 = .ok (.aload_n 0, 1) := by decide +kernel
theorem dX11_put_13 : decode cX11_put 13 = .ok (.iload_n 2, 1) := by decide +kernel
theorem dX11_put_14 : decode cX11_put 14 = .ok (.iload_n 3, 1) := by decide +kernel
theorem dX11_put_15 : decode cX11_put 15 = .ok (.invokevirtual 325, 3) := by decide +kernel
theorem dX11_put_18 : decode cX11_put 18 = .ok (.ifCond .ne 9, 3) := by decide +kernel
theorem dX11_put_21 : decode cX11_put 21 = .ok (.aload_n 0, 1) := by decide +kernel
theorem dX11_put_22 : decode cX11_put 22 = .ok (.iconst 1, 1) := by decide +kernel
theorem dX11_put_23 : decode cX11_put 23 = .ok (.invokevirtual 328, 3) := by decide +kernel
theorem dX11_put_26 : decode cX11_put 26 = .ok (.ireturn, 1) := by decide +kernel
theorem dX11_put_27 : decode cX11_put 27 = .ok (.aload 4, 2) := by decide +kernel
theorem dX11_put_29 : decode cX11_put 29 = .ok (.invokevirtual 331, 3) := by decide +kernel
theorem dX11_put_32 : decode cX11_put 32 = .ok (.iload_n 2, 1) := by decide +kernel
theorem dX11_put_33 : decode cX11_put 33 = .ok (.tableswitch 83 1 4 #[31, 44, 57, 70], 31) := by decide +kernel
theorem dX11_put_64 : decode cX11_put 64 = .ok (.aload 4, 2) := by decide +kernel
theorem dX11_put_66 : decode cX11_put 66 = .ok (.aload_n 0, 1) := by decide +kernel
theorem dX11_put_67 : decode cX11_put 67 = .ok (.iload_n 3, 1) := by decide +kernel
theorem dX11_put_68 : decode cX11_put 68 = .ok (.invokevirtual 156, 3) := by decide +kernel
theorem dX11_put_71 : decode cX11_put 71 = .ok (.putfield 334, 3) := by decide +kernel
theorem dX11_put_74 : decode cX11_put 74 = .ok (.goto 42, 3) := by decide +kernel
theorem dX11_put_77 : decode cX11_put 77 = .ok (.aload 4, 2) := by decide +kernel
theorem dX11_put_79 : decode cX11_put 79 = .ok (.aload_n 0, 1) := by decide +kernel
theorem dX11_put_80 : decode cX11_put 80 = .ok (.iload_n 3, 1) := by decide +kernel
theorem dX11_put_81 : decode cX11_put 81 = .ok (.invokevirtual 205, 3) := by decide +kernel
theorem dX11_put_84 : decode cX11_put 84 = .ok (.putfield 337, 3) := by decide +kernel
theorem dX11_put_87 : decode cX11_put 87 = .ok (.goto 29, 3) := by decide +kernel
theorem dX11_put_90 : decode cX11_put 90 = .ok (.aload 4, 2) := by decide +kernel
theorem dX11_put_92 : decode cX11_put 92 = .ok (.aload_n 0, 1) := by decide +kernel
theorem dX11_put_93 : decode cX11_put 93 = .ok (.iload_n 3, 1) := by decide +kernel
theorem dX11_put_94 : decode cX11_put 94 = .ok (.invokevirtual 341, 3) := by decide +kernel
theorem dX11_put_97 : decode cX11_put 97 = .ok (.putfield 345, 3) := by decide +kernel
theorem dX11_put_100 : decode cX11_put 100 = .ok (.goto 16, 3) := by decide +kernel
theorem dX11_put_103 : decode cX11_put 103 = .ok (.aload 4, 2) := by decide +kernel
theorem dX11_put_105 : decode cX11_put 105 = .ok (.aload_n 0, 1) := by decide +kernel
theorem dX11_put_106 : decode cX11_put 106 = .ok (.iload_n 3, 1) := by decide +kernel
theorem dX11_put_107 : decode cX11_put 107 = .ok (.invokevirtual 349, 3) := by decide +kernel
theorem dX11_put_110 : decode cX11_put 110 = .ok (.putfield 353, 3) := by decide +kernel
theorem dX11_put_113 : decode cX11_put 113 = .ok (.goto 3, 3) := by decide +kernel
theorem dX11_put_116 : decode cX11_put 116 = .ok (.aload_n 0, 1) := by decide +kernel
theorem dX11_put_117 : decode cX11_put 117 = .ok (.iconst 0, 1) := by decide +kernel
theorem dX11_put_118 : decode cX11_put 118 = .ok (.putfield 67, 3) := by decide +kernel
theorem dX11_put_121 : decode cX11_put 121 = .ok (.iconst 1, 1) := by decide +kernel
theorem dX11_put_122 : decode cX11_put 122 = .ok (.ireturn, 1) := by decide +kernel
theorem dX11_forge_0 : decode cX11_forge 0 = .ok (.aload_n 0, 1) := by decide +kernel
theorem dX11_forge_1 : decode cX11_forge 1 = .ok (.iload_n 1, 1) := by decide +kernel
theorem dX11_forge_2 : decode cX11_forge 2 = .ok (.invokevirtual 321, 3) := by decide +kernel
theorem dX11_forge_5 : decode cX11_forge 5 = .ok (.astore 4, 2) := by decide +kernel
theorem dX11_forge_7 : decode cX11_forge 7 = .ok (.aload 4, 2) := by decide +kernel
theorem dX11_forge_9 : decode cX11_forge 9 = .ok (.ifnull 14, 3) := by decide +kernel
theorem dX11_forge_12 : decode cX11_forge 12 = .ok (.iload_n 3, 1) := by decide +kernel
theorem dX11_forge_13 : decode cX11_forge 13 = .ok (.bipush (-100), 2) := by decide +kernel
theorem dX11_forge_15 : decode cX11_forge 15 = .ok (.bipush 100, 2) := by decide +kernel
theorem dX11_forge_17 : decode cX11_forge 17 = .ok (.invokestatic 103, 3) := by decide +kernel
theorem dX11_forge_20 : decode cX11_forge 20 = .ok (.ifCond .ne 9, 3) := by decide +kernel
theorem dX11_forge_23 : decode cX11_forge 23 = .ok (.aload_n 0, 1) := by decide +kernel
theorem dX11_forge_24 : decode cX11_forge 24 = .ok (.iconst 1, 1) := by decide +kernel
theorem dX11_forge_25 : decode cX11_forge 25 = .ok (.invokevirtual 328, 3) := by decide +kernel
theorem dX11_forge_28 : decode cX11_forge 28 = .ok (.ireturn, 1) := by decide +kernel
theorem dX11_forge_29 : decode cX11_forge 29 = .ok (.aload_n 0, 1) := by decide +kernel
theorem dX11_forge_30 : decode cX11_forge 30 = .ok (.iconst 0, 1) := by decide +kernel
theorem dX11_forge_31 : decode cX11_forge 31 = .ok (.putfield 67, 3) := by decide +kernel
theorem dX11_forge_34 : decode cX11_forge 34 = .ok (.iload_n 2, 1) := by decide +kernel
theorem dX11_forge_35 : decode cX11_forge 35 = .ok (.tableswitch 151 0 8 #[49, 61, 79, 87, 95, 110, 118, 125, 144], 49) := by decide +kernel
theorem dX11_forge_84 : decode cX11_forge 84 = .ok (.aload_n 0, 1) := by decide +kernel
theorem dX11_forge_85 : decode cX11_forge 85 = .ok (.aload 4, 2) := by decide +kernel
theorem dX11_forge_87 : decode cX11_forge 87 = .ok (.iload_n 3, 1) := by decide +kernel
theorem dX11_forge_88 : decode cX11_forge 88 = .ok (.iconst 5, 1) := by decide +kernel
theorem dX11_forge_89 : decode cX11_forge 89 = .ok (.invokestatic 357, 3) := by decide +kernel
theorem dX11_forge_92 : decode cX11_forge 92 = .ok (.invokevirtual 360, 3) := by decide +kernel
theorem dX11_forge_95 : decode cX11_forge 95 = .ok (.ireturn, 1) := by decide +kernel
theorem dX11_forge_96 : decode cX11_forge 96 = .ok (.aload_n 0, 1) := by decide +kernel
theorem dX11_forge_97 : decode cX11_forge 97 = .ok (.aload 4, 2) := by decide +kernel
theorem dX11_forge_99 : decode cX11_forge 99 = .ok (.iload_n 3, 1) := by decide +kernel
theorem dX11_forge_100 : decode cX11_forge 100 = .ok (.iconst 1, 1) := by decide +kernel
theorem dX11_forge_101 : decode cX11_forge 101 = .ok (.iand, 1) := by decide +kernel
theorem dX11_forge_102 : decode cX11_forge 102 = .ok (.ifCond .ne 7, 3) := by decide +kernel
theorem dX11_forge_105 : decode cX11_forge 105 = .ok (.iconst 1, 1) := by decide +kernel
theorem dX11_forge_106 : decode cX11_forge 106 = .ok (.goto 4, 3) := by decide +kernel
theorem dX11_forge_109 : decode cX11_forge 109 = .ok (.iconst 0, 1) := by decide +kernel
theorem dX11_forge_110 : decode cX11_forge 110 = .ok (.invokevirtual 364, 3) := by decide +kernel
theorem dX11_forge_113 : decode cX11_forge 113 = .ok (.ireturn, 1) := by decide +kernel
theorem dX11_forge_114 : decode cX11_forge 114 = .ok (.aload_n 0, 1) := by decide +kernel
theorem dX11_forge_115 : decode cX11_forge 115 = .ok (.aload 4, 2) := by decide +kernel
theorem dX11_forge_117 : decode cX11_forge 117 = .ok (.iload_n 3, 1) := by decide +kernel
theorem dX11_forge_118 : decode cX11_forge 118 = .ok (.invokevirtual 368, 3) := by decide +kernel
theorem dX11_forge_121 : decode cX11_forge 121 = .ok (.ireturn, 1) := by decide +kernel
theorem dX11_forge_122 : decode cX11_forge 122 = .ok (.aload_n 0, 1) := by decide +kernel
theorem dX11_forge_123 : decode cX11_forge 123 = .ok (.aload 4, 2) := by decide +kernel
theorem dX11_forge_125 : decode cX11_forge 125 = .ok (.iload_n 3, 1) := by decide +kernel
theorem dX11_forge_126 : decode cX11_forge 126 = .ok (.invokevirtual 371, 3) := by decide +kernel
theorem dX11_forge_129 : decode cX11_forge 129 = .ok (.ireturn, 1) := by decide +kernel
theorem dX11_forge_130 : decode cX11_forge 130 = .ok (.iload_n 3, 1) := by decide +kernel
theorem dX11_forge_131 : decode cX11_forge 131 = .ok (.ifCond .ge 12, 3) := by decide +kernel
theorem dX11_forge_134 : decode cX11_forge 134 = .ok (.aload_n 0, 1) := by decide +kernel
theorem dX11_forge_135 : decode cX11_forge 135 = .ok (.bipush 13, 2) := by decide +kernel
theorem dX11_forge_137 : decode cX11_forge 137 = .ok (.invokevirtual 328, 3) := by decide +kernel
theorem dX11_forge_140 : decode cX11_forge 140 = .ok (.goto 4, 3) := by decide +kernel
theorem dX11_forge_143 : decode cX11_forge 143 = .ok (.iload_n 3, 1) := by decide +kernel
theorem dX11_forge_144 : decode cX11_forge 144 = .ok (.ireturn, 1) := by decide +kernel
theorem dX11_forge_145 : decode cX11_forge 145 = .ok (.aload_n 0, 1) := by decide +kernel
theorem dX11_forge_146 : decode cX11_forge 146 = .ok (.aload 4, 2) := by decide +kernel
theorem dX11_forge_148 : decode cX11_forge 148 = .ok (.iload_n 3, 1) := by decide +kernel
theorem dX11_forge_149 : decode cX11_forge 149 = .ok (.invokevirtual 374, 3) := by decide +kernel
theorem dX11_forge_152 : decode cX11_forge 152 = .ok (.ireturn, 1) := by decide +kernel
theorem dX11_forge_153 : decode cX11_forge 153 = .ok (.aload_n 0, 1) := by decide +kernel
theorem dX11_forge_154 : decode cX11_forge 154 = .ok (.aload 4, 2) := by decide +kernel
theorem dX11_forge_156 : decode cX11_forge 156 = .ok (.invokevirtual 377, 3) := by decide +kernel
theorem dX11_forge_159 : decode cX11_forge 159 = .ok (.ireturn, 1) := by decide +kernel
theorem dX11_forge_160 : decode cX11_forge 160 = .ok (.iload_n 3, 1) := by decide +kernel
theorem dX11_forge_161 : decode cX11_forge 161 = .ok (.ifCond .ne 12, 3) := by decide +kernel
theorem dX11_forge_164 : decode cX11_forge 164 = .ok (.aload_n 0, 1) := by decide +kernel
theorem dX11_forge_165 : decode cX11_forge 165 = .ok (.bipush 15, 2) := by decide +kernel
theorem dX11_forge_167 : decode cX11_forge 167 = .ok (.invokevirtual 328, 3) := by decide +kernel
theorem dX11_forge_170 : decode cX11_forge 170 = .ok (.goto 8, 3) := by decide +kernel
theorem dX11_forge_173 : decode cX11_forge 173 = .ok (.sipush 1000, 3) := by decide +kernel
theorem dX11_forge_176 : decode cX11_forge 176 = .ok (.iload_n 3, 1) := by decide +kernel
theorem dX11_forge_177 : decode cX11_forge 177 = .ok (.idiv, 1) := by decide +kernel
theorem dX11_forge_178 : decode cX11_forge 178 = .ok (.ireturn, 1) := by decide +kernel
theorem dX11_forge_179 : decode cX11_forge 179 = .ok (.aload_n 0, 1) := by decide +kernel
theorem dX11_forge_180 : decode cX11_forge 180 = .ok (.bipush 10, 2) := by decide +kernel
theorem dX11_forge_182 : decode cX11_forge 182 = .ok (.invokevirtual 328, 3) := by decide +kernel
theorem dX11_forge_185 : decode cX11_forge 185 = .ok (.ireturn, 1) := by decide +kernel
theorem dX11_forge_186 : decode cX11_forge 186 = .ok (.aload_n 0, 1) := by decide +kernel
theorem dX11_forge_187 : decode cX11_forge 187 = .ok (.iconst 1, 1) := by decide +kernel
theorem dX11_forge_188 : decode cX11_forge 188 = .ok (.invokevirtual 328, 3) := by decide +kernel
theorem dX11_forge_191 : decode cX11_forge 191 = .ok (.ireturn, 1) := by decide +kernel
theorem dX11_status_0 : decode cX11_status 0 = .ok (.aload_n 0, 1) := by decide +kernel
theorem dX11_status_1 : decode cX11_status 1 = .ok (.getfield 67, 3) := by decide +kernel
theorem dX11_status_4 : decode cX11_status 4 = .ok (.ireturn, 1) := by decide +kernel
theorem dX11_isWithin_0 : decode cX11_isWithin 0 = .ok (.iload_n 0, 1) := by decide +kernel
theorem dX11_isWithin_1 : decode cX11_isWithin 1 = .ok (.iload_n 1, 1) := by decide +kernel
theorem dX11_isWithin_2 : decode cX11_isWithin 2 = .ok (.if_icmp .lt 12, 3) := by decide +kernel
theorem dX11_isWithin_5 : decode cX11_isWithin 5 = .ok (.iload_n 0, 1) := by decide +kernel
theorem dX11_isWithin_6 : decode cX11_isWithin 6 = .ok (.iload_n 2, 1) := by decide +kernel
theorem dX11_isWithin_7 : decode cX11_isWithin 7 = .ok (.if_icmp .gt 7, 3) := by decide +kernel
theorem dX11_isWithin_10 : decode cX11_isWithin 10 = .ok (.iconst 1, 1) := by decide +kernel
theorem dX11_isWithin_11 : decode cX11_isWithin 11 = .ok (.goto 4, 3) := by decide +kernel
theorem dX11_isWithin_14 : decode cX11_isWithin 14 = .ok (.iconst 0, 1) := by decide +kernel
theorem dX11_isWithin_15 : decode cX11_isWithin 15 = .ok (.ireturn, 1) := by decide +kernel
theorem dX11_isClock_0 : decode cX11_isClock 0 = .ok (.iload_n 1, 1) := by decide +kernel
theorem dX11_isClock_1 : decode cX11_isClock 1 = .ok (.ldc_w 381, 3) := by decide +kernel
theorem dX11_isClock_4 : decode cX11_isClock 4 = .ok (.ldc_w 382, 3) := by decide +kernel
theorem dX11_isClock_7 : decode cX11_isClock 7 = .ok (.invokestatic 103, 3) := by decide +kernel
theorem dX11_isClock_10 : decode cX11_isClock 10 = .ok (.ifCond .eq 30, 3) := by decide +kernel
theorem dX11_isClock_13 : decode cX11_isClock 13 = .ok (.iload_n 2, 1) := by decide +kernel
theorem dX11_isClock_14 : decode cX11_isClock 14 = .ok (.sipush 1000, 3) := by decide +kernel
theorem dX11_isClock_17 : decode cX11_isClock 17 = .ok (.aload_n 0, 1) := by decide +kernel
theorem dX11_isClock_18 : decode cX11_isClock 18 = .ok (.getfield 79, 3) := by decide +kernel
theorem dX11_isClock_21 : decode cX11_isClock 21 = .ok (.isub, 1) := by decide +kernel
theorem dX11_isClock_22 : decode cX11_isClock 22 = .ok (.sipush 1000, 3) := by decide +kernel
theorem dX11_isClock_25 : decode cX11_isClock 25 = .ok (.aload_n 0, 1) := by decide +kernel
theorem dX11_isClock_26 : decode cX11_isClock 26 = .ok (.getfield 79, 3) := by decide +kernel
theorem dX11_isClock_29 : decode cX11_isClock 29 = .ok (.iadd, 1) := by decide +kernel
theorem dX11_isClock_30 : decode cX11_isClock 30 = .ok (.invokestatic 103, 3) := by decide +kernel
theorem dX11_isClock_33 : decode cX11_isClock 33 = .ok (.ifCond .eq 7, 3) := by decide +kernel
theorem dX11_isClock_36 : decode cX11_isClock 36 = .ok (.iconst 1, 1) := by decide +kernel
theorem dX11_isClock_37 : decode cX11_isClock 37 = .ok (.goto 4, 3) := by decide +kernel
theorem dX11_isClock_40 : decode cX11_isClock 40 = .ok (.iconst 0, 1) := by decide +kernel
theorem dX11_isClock_41 : decode cX11_isClock 41 = .ok (.ireturn, 1) := by decide +kernel
theorem dX11_isStored_0 : decode cX11_isStored 0 = .ok (.iload_n 1, 1) := by decide +kernel
theorem dX11_isStored_1 : decode cX11_isStored 1 = .ok (.iconst 0, 1) := by decide +kernel
theorem dX11_isStored_2 : decode cX11_isStored 2 = .ok (.aload_n 0, 1) := by decide +kernel
theorem dX11_isStored_3 : decode cX11_isStored 3 = .ok (.getfield 39, 3) := by decide +kernel
theorem dX11_isStored_6 : decode cX11_isStored 6 = .ok (.iconst 1, 1) := by decide +kernel
theorem dX11_isStored_7 : decode cX11_isStored 7 = .ok (.isub, 1) := by decide +kernel
theorem dX11_isStored_8 : decode cX11_isStored 8 = .ok (.invokestatic 103, 3) := by decide +kernel
theorem dX11_isStored_11 : decode cX11_isStored 11 = .ok (.ifCond .eq 27, 3) := by decide +kernel
theorem dX11_isStored_14 : decode cX11_isStored 14 = .ok (.iload_n 1, 1) := by decide +kernel
theorem dX11_isStored_15 : decode cX11_isStored 15 = .ok (.bipush 6, 2) := by decide +kernel
theorem dX11_isStored_17 : decode cX11_isStored 17 = .ok (.if_icmp .ge 21, 3) := by decide +kernel
theorem dX11_isStored_20 : decode cX11_isStored 20 = .ok (.aload_n 0, 1) := by decide +kernel
theorem dX11_isStored_21 : decode cX11_isStored 21 = .ok (.iload_n 2, 1) := by decide +kernel
theorem dX11_isStored_22 : decode cX11_isStored 22 = .ok (.invokevirtual 156, 3) := by decide +kernel
theorem dX11_isStored_25 : decode cX11_isStored 25 = .ok (.ifnull 13, 3) := by decide +kernel
theorem dX11_isStored_28 : decode cX11_isStored 28 = .ok (.iload_n 2, 1) := by decide +kernel
theorem dX11_isStored_29 : decode cX11_isStored 29 = .ok (.bipush 20, 2) := by decide +kernel
theorem dX11_isStored_31 : decode cX11_isStored 31 = .ok (.if_icmp .ge 7, 3) := by decide +kernel
theorem dX11_isStored_34 : decode cX11_isStored 34 = .ok (.iconst 1, 1) := by decide +kernel
theorem dX11_isStored_35 : decode cX11_isStored 35 = .ok (.goto 4, 3) := by decide +kernel
theorem dX11_isStored_38 : decode cX11_isStored 38 = .ok (.iconst 0, 1) := by decide +kernel
theorem dX11_isStored_39 : decode cX11_isStored 39 = .ok (.ireturn, 1) := by decide +kernel
theorem dX11_keeperAt_0 : decode cX11_keeperAt 0 = .ok (.iload_n 1, 1) := by decide +kernel
theorem dX11_keeperAt_1 : decode cX11_keeperAt 1 = .ok (.iconst 0, 1) := by decide +kernel
theorem dX11_keeperAt_2 : decode cX11_keeperAt 2 = .ok (.aload_n 0, 1) := by decide +kernel
theorem dX11_keeperAt_3 : decode cX11_keeperAt 3 = .ok (.getfield 10, 3) := by decide +kernel
theorem dX11_keeperAt_6 : decode cX11_keeperAt 6 = .ok (.invokevirtual 87, 3) := by decide +kernel
theorem dX11_keeperAt_9 : decode cX11_keeperAt 9 = .ok (.iconst 1, 1) := by decide +kernel
theorem dX11_keeperAt_10 : decode cX11_keeperAt 10 = .ok (.isub, 1) := by decide +kernel
theorem dX11_keeperAt_11 : decode cX11_keeperAt 11 = .ok (.invokestatic 103, 3) := by decide +kernel
theorem dX11_keeperAt_14 : decode cX11_keeperAt 14 = .ok (.ifCond .eq 17, 3) := by decide +kernel
theorem dX11_keeperAt_17 : decode cX11_keeperAt 17 = .ok (.aload_n 0, 1) := by decide +kernel
theorem dX11_keeperAt_18 : decode cX11_keeperAt 18 = .ok (.getfield 10, 3) := by decide +kernel
theorem dX11_keeperAt_21 : decode cX11_keeperAt 21 = .ok (.iload_n 1, 1) := by decide +kernel
theorem dX11_keeperAt_22 : decode cX11_keeperAt 22 = .ok (.invokevirtual 383, 3) := by decide +kernel
theorem dX11_keeperAt_25 : decode cX11_keeperAt 25 = .ok (.checkcast 91, 3) := by decide +kernel
theorem dX11_keeperAt_28 : decode cX11_keeperAt 28 = .ok (.goto 4, 3) := by decide +kernel
theorem dX11_keeperAt_31 : decode cX11_keeperAt 31 = .ok (.aconst_null, 1) := by decide +kernel
theorem dX11_keeperAt_32 : decode cX11_keeperAt 32 = .ok (.areturn, 1) := by decide +kernel
theorem dX11_workerAt_0 : decode cX11_workerAt 0 = .ok (.iload_n 1, 1) := by decide +kernel
theorem dX11_workerAt_1 : decode cX11_workerAt 1 = .ok (.iconst 0, 1) := by decide +kernel
theorem dX11_workerAt_2 : decode cX11_workerAt 2 = .ok (.aload_n 0, 1) := by decide +kernel
theorem dX11_workerAt_3 : decode cX11_workerAt 3 = .ok (.getfield 16, 3) := by decide +kernel
theorem dX11_workerAt_6 : decode cX11_workerAt 6 = .ok (.invokevirtual 87, 3) := by decide +kernel
theorem dX11_workerAt_9 : decode cX11_workerAt 9 = .ok (.iconst 1, 1) := by decide +kernel
theorem dX11_workerAt_10 : decode cX11_workerAt 10 = .ok (.isub, 1) := by decide +kernel
theorem dX11_workerAt_11 : decode cX11_workerAt 11 = .ok (.invokestatic 103, 3) := by decide +kernel
theorem dX11_workerAt_14 : decode cX11_workerAt 14 = .ok (.ifCond .eq 17, 3) := by decide +kernel
theorem dX11_workerAt_17 : decode cX11_workerAt 17 = .ok (.aload_n 0, 1) := by decide +kernel
theorem dX11_workerAt_18 : decode cX11_workerAt 18 = .ok (.getfield 16, 3) := by decide +kernel
theorem dX11_workerAt_21 : decode cX11_workerAt 21 = .ok (.iload_n 1, 1) := by decide +kernel
theorem dX11_workerAt_22 : decode cX11_workerAt 22 = .ok (.invokevirtual 383, 3) := by decide +kernel
theorem dX11_workerAt_25 : decode cX11_workerAt 25 = .ok (.checkcast 100, 3) := by decide +kernel
theorem dX11_workerAt_28 : decode cX11_workerAt 28 = .ok (.goto 4, 3) := by decide +kernel
theorem dX11_workerAt_31 : decode cX11_workerAt 31 = .ok (.aconst_null, 1) := by decide +kernel
theorem dX11_workerAt_32 : decode cX11_workerAt 32 = .ok (.areturn, 1) := by decide +kernel
theorem dX11_partyAt_0 : decode cX11_partyAt 0 = .ok (.iload_n 1, 1) := by decide +kernel
theorem dX11_partyAt_1 : decode cX11_partyAt 1 = .ok (.lookupswitch 39 #[(0, 27), (1, 33)], 27) := by decide +kernel
theorem dX11_partyAt_28 : decode cX11_partyAt 28 = .ok (.aload_n 0, 1) := by decide +kernel
theorem dX11_partyAt_29 : decode cX11_partyAt 29 = .ok (.iload_n 2, 1) := by decide +kernel
theorem dX11_partyAt_30 : decode cX11_partyAt 30 = .ok (.invokevirtual 144, 3) := by decide +kernel
theorem dX11_partyAt_33 : decode cX11_partyAt 33 = .ok (.areturn, 1) := by decide +kernel
theorem dX11_partyAt_34 : decode cX11_partyAt 34 = .ok (.aload_n 0, 1) := by decide +kernel
theorem dX11_partyAt_35 : decode cX11_partyAt 35 = .ok (.iload_n 2, 1) := by decide +kernel
theorem dX11_partyAt_36 : decode cX11_partyAt 36 = .ok (.invokevirtual 127, 3) := by decide +kernel
theorem dX11_partyAt_39 : decode cX11_partyAt 39 = .ok (.areturn, 1) := by decide +kernel
theorem dX11_partyAt_40 : decode cX11_partyAt 40 = .ok (.aconst_null, 1) := by decide +kernel
theorem dX11_partyAt_41 : decode cX11_partyAt 41 = .ok (.areturn, 1) := by decide +kernel
theorem dX11_thingAt_0 : decode cX11_thingAt 0 = .ok (.iload_n 1, 1) := by decide +kernel
theorem dX11_thingAt_1 : decode cX11_thingAt 1 = .ok (.iconst 0, 1) := by decide +kernel
theorem dX11_thingAt_2 : decode cX11_thingAt 2 = .ok (.aload_n 0, 1) := by decide +kernel
theorem dX11_thingAt_3 : decode cX11_thingAt 3 = .ok (.getfield 19, 3) := by decide +kernel
theorem dX11_thingAt_6 : decode cX11_thingAt 6 = .ok (.invokevirtual 87, 3) := by decide +kernel
theorem dX11_thingAt_9 : decode cX11_thingAt 9 = .ok (.iconst 1, 1) := by decide +kernel
theorem dX11_thingAt_10 : decode cX11_thingAt 10 = .ok (.isub, 1) := by decide +kernel
theorem dX11_thingAt_11 : decode cX11_thingAt 11 = .ok (.invokestatic 103, 3) := by decide +kernel
theorem dX11_thingAt_14 : decode cX11_thingAt 14 = .ok (.ifCond .eq 17, 3) := by decide +kernel
theorem dX11_thingAt_17 : decode cX11_thingAt 17 = .ok (.aload_n 0, 1) := by decide +kernel
theorem dX11_thingAt_18 : decode cX11_thingAt 18 = .ok (.getfield 19, 3) := by decide +kernel
theorem dX11_thingAt_21 : decode cX11_thingAt 21 = .ok (.iload_n 1, 1) := by decide +kernel
theorem dX11_thingAt_22 : decode cX11_thingAt 22 = .ok (.invokevirtual 383, 3) := by decide +kernel
theorem dX11_thingAt_25 : decode cX11_thingAt 25 = .ok (.checkcast 161, 3) := by decide +kernel
theorem dX11_thingAt_28 : decode cX11_thingAt 28 = .ok (.goto 4, 3) := by decide +kernel
theorem dX11_thingAt_31 : decode cX11_thingAt 31 = .ok (.aconst_null, 1) := by decide +kernel
theorem dX11_thingAt_32 : decode cX11_thingAt 32 = .ok (.areturn, 1) := by decide +kernel
theorem dX11_letterAt_0 : decode cX11_letterAt 0 = .ok (.iload_n 1, 1) := by decide +kernel
theorem dX11_letterAt_1 : decode cX11_letterAt 1 = .ok (.iconst 0, 1) := by decide +kernel
theorem dX11_letterAt_2 : decode cX11_letterAt 2 = .ok (.aload_n 0, 1) := by decide +kernel
theorem dX11_letterAt_3 : decode cX11_letterAt 3 = .ok (.getfield 22, 3) := by decide +kernel
theorem dX11_letterAt_6 : decode cX11_letterAt 6 = .ok (.invokevirtual 87, 3) := by decide +kernel
theorem dX11_letterAt_9 : decode cX11_letterAt 9 = .ok (.iconst 1, 1) := by decide +kernel
theorem dX11_letterAt_10 : decode cX11_letterAt 10 = .ok (.isub, 1) := by decide +kernel
theorem dX11_letterAt_11 : decode cX11_letterAt 11 = .ok (.invokestatic 103, 3) := by decide +kernel
theorem dX11_letterAt_14 : decode cX11_letterAt 14 = .ok (.ifCond .eq 17, 3) := by decide +kernel
theorem dX11_letterAt_17 : decode cX11_letterAt 17 = .ok (.aload_n 0, 1) := by decide +kernel
theorem dX11_letterAt_18 : decode cX11_letterAt 18 = .ok (.getfield 22, 3) := by decide +kernel
theorem dX11_letterAt_21 : decode cX11_letterAt 21 = .ok (.iload_n 1, 1) := by decide +kernel
theorem dX11_letterAt_22 : decode cX11_letterAt 22 = .ok (.invokevirtual 383, 3) := by decide +kernel
theorem dX11_letterAt_25 : decode cX11_letterAt 25 = .ok (.checkcast 169, 3) := by decide +kernel
theorem dX11_letterAt_28 : decode cX11_letterAt 28 = .ok (.goto 4, 3) := by decide +kernel
theorem dX11_letterAt_31 : decode cX11_letterAt 31 = .ok (.aconst_null, 1) := by decide +kernel
theorem dX11_letterAt_32 : decode cX11_letterAt 32 = .ok (.areturn, 1) := by decide +kernel
theorem dX11_grantAt_0 : decode cX11_grantAt 0 = .ok (.aload_n 0, 1) := by decide +kernel
theorem dX11_grantAt_1 : decode cX11_grantAt 1 = .ok (.iload_n 1, 1) := by decide +kernel
theorem dX11_grantAt_2 : decode cX11_grantAt 2 = .ok (.invokevirtual 156, 3) := by decide +kernel
theorem dX11_grantAt_5 : decode cX11_grantAt 5 = .ok (.astore_n 3, 1) := by decide +kernel
theorem dX11_grantAt_6 : decode cX11_grantAt 6 = .ok (.aload_n 3, 1) := by decide +kernel
theorem dX11_grantAt_7 : decode cX11_grantAt 7 = .ok (.ifnull 34, 3) := by decide +kernel
theorem dX11_grantAt_10 : decode cX11_grantAt 10 = .ok (.iload_n 2, 1) := by decide +kernel
theorem dX11_grantAt_11 : decode cX11_grantAt 11 = .ok (.iconst 0, 1) := by decide +kernel
theorem dX11_grantAt_12 : decode cX11_grantAt 12 = .ok (.aload_n 3, 1) := by decide +kernel
theorem dX11_grantAt_13 : decode cX11_grantAt 13 = .ok (.getfield 254, 3) := by decide +kernel
theorem dX11_grantAt_16 : decode cX11_grantAt 16 = .ok (.invokevirtual 87, 3) := by decide +kernel
theorem dX11_grantAt_19 : decode cX11_grantAt 19 = .ok (.iconst 1, 1) := by decide +kernel
theorem dX11_grantAt_20 : decode cX11_grantAt 20 = .ok (.isub, 1) := by decide +kernel
theorem dX11_grantAt_21 : decode cX11_grantAt 21 = .ok (.invokestatic 103, 3) := by decide +kernel
theorem dX11_grantAt_24 : decode cX11_grantAt 24 = .ok (.ifCond .eq 17, 3) := by decide +kernel
theorem dX11_grantAt_27 : decode cX11_grantAt 27 = .ok (.aload_n 3, 1) := by decide +kernel
theorem dX11_grantAt_28 : decode cX11_grantAt 28 = .ok (.getfield 254, 3) := by decide +kernel
theorem dX11_grantAt_31 : decode cX11_grantAt 31 = .ok (.iload_n 2, 1) := by decide +kernel
theorem dX11_grantAt_32 : decode cX11_grantAt 32 = .ok (.invokevirtual 383, 3) := by decide +kernel
theorem dX11_grantAt_35 : decode cX11_grantAt 35 = .ok (.checkcast 262, 3) := by decide +kernel
theorem dX11_grantAt_38 : decode cX11_grantAt 38 = .ok (.goto 4, 3) := by decide +kernel
theorem dX11_grantAt_41 : decode cX11_grantAt 41 = .ok (.aconst_null, 1) := by decide +kernel
theorem dX11_grantAt_42 : decode cX11_grantAt 42 = .ok (.areturn, 1) := by decide +kernel
theorem dX11_memoryAt_0 : decode cX11_memoryAt 0 = .ok (.aload_n 0, 1) := by decide +kernel
theorem dX11_memoryAt_1 : decode cX11_memoryAt 1 = .ok (.iload_n 1, 1) := by decide +kernel
theorem dX11_memoryAt_2 : decode cX11_memoryAt 2 = .ok (.invokevirtual 127, 3) := by decide +kernel
theorem dX11_memoryAt_5 : decode cX11_memoryAt 5 = .ok (.astore_n 3, 1) := by decide +kernel
theorem dX11_memoryAt_6 : decode cX11_memoryAt 6 = .ok (.aload_n 3, 1) := by decide +kernel
theorem dX11_memoryAt_7 : decode cX11_memoryAt 7 = .ok (.ifnull 11, 3) := by decide +kernel
theorem dX11_memoryAt_10 : decode cX11_memoryAt 10 = .ok (.aload_n 0, 1) := by decide +kernel
theorem dX11_memoryAt_11 : decode cX11_memoryAt 11 = .ok (.iload_n 2, 1) := by decide +kernel
theorem dX11_memoryAt_12 : decode cX11_memoryAt 12 = .ok (.invokevirtual 156, 3) := by decide +kernel
theorem dX11_memoryAt_15 : decode cX11_memoryAt 15 = .ok (.ifnonnull 7, 3) := by decide +kernel
theorem dX11_memoryAt_18 : decode cX11_memoryAt 18 = .ok (.aconst_null, 1) := by decide +kernel
theorem dX11_memoryAt_19 : decode cX11_memoryAt 19 = .ok (.goto 8, 3) := by decide +kernel
theorem dX11_memoryAt_22 : decode cX11_memoryAt 22 = .ok (.aload_n 3, 1) := by decide +kernel
theorem dX11_memoryAt_23 : decode cX11_memoryAt 23 = .ok (.iload_n 2, 1) := by decide +kernel
theorem dX11_memoryAt_24 : decode cX11_memoryAt 24 = .ok (.invokevirtual 131, 3) := by decide +kernel
theorem dX11_memoryAt_27 : decode cX11_memoryAt 27 = .ok (.areturn, 1) := by decide +kernel
theorem dX11_trayAt_0 : decode cX11_trayAt 0 = .ok (.iload_n 1, 1) := by decide +kernel
theorem dX11_trayAt_1 : decode cX11_trayAt 1 = .ok (.iconst 0, 1) := by decide +kernel
theorem dX11_trayAt_2 : decode cX11_trayAt 2 = .ok (.aload_n 0, 1) := by decide +kernel
theorem dX11_trayAt_3 : decode cX11_trayAt 3 = .ok (.getfield 35, 3) := by decide +kernel
theorem dX11_trayAt_6 : decode cX11_trayAt 6 = .ok (.arraylength, 1) := by decide +kernel
theorem dX11_trayAt_7 : decode cX11_trayAt 7 = .ok (.iconst 1, 1) := by decide +kernel
theorem dX11_trayAt_8 : decode cX11_trayAt 8 = .ok (.isub, 1) := by decide +kernel
theorem dX11_trayAt_9 : decode cX11_trayAt 9 = .ok (.invokestatic 103, 3) := by decide +kernel
theorem dX11_trayAt_12 : decode cX11_trayAt 12 = .ok (.ifCond .eq 12, 3) := by decide +kernel
theorem dX11_trayAt_15 : decode cX11_trayAt 15 = .ok (.aload_n 0, 1) := by decide +kernel
theorem dX11_trayAt_16 : decode cX11_trayAt 16 = .ok (.getfield 35, 3) := by decide +kernel
theorem dX11_trayAt_19 : decode cX11_trayAt 19 = .ok (.iload_n 1, 1) := by decide +kernel
theorem dX11_trayAt_20 : decode cX11_trayAt 20 = .ok (.aaload, 1) := by decide +kernel
theorem dX11_trayAt_21 : decode cX11_trayAt 21 = .ok (.goto 4, 3) := by decide +kernel
theorem dX11_trayAt_24 : decode cX11_trayAt 24 = .ok (.aconst_null, 1) := by decide +kernel
theorem dX11_trayAt_25 : decode cX11_trayAt 25 = .ok (.areturn, 1) := by decide +kernel
theorem dX11_newThing_0 : decode cX11_newThing 0 = .ok (.iload_n 2, 1) := by decide +kernel
theorem dX11_newThing_1 : decode cX11_newThing 1 = .ok (.sipush 1000, 3) := by decide +kernel
theorem dX11_newThing_4 : decode cX11_newThing 4 = .ok (.aload_n 0, 1) := by decide +kernel
theorem dX11_newThing_5 : decode cX11_newThing 5 = .ok (.getfield 79, 3) := by decide +kernel
theorem dX11_newThing_8 : decode cX11_newThing 8 = .ok (.iadd, 1) := by decide +kernel
theorem dX11_newThing_9 : decode cX11_newThing 9 = .ok (.imul, 1) := by decide +kernel
theorem dX11_newThing_10 : decode cX11_newThing 10 = .ok (.sipush 1000, 3) := by decide +kernel
theorem dX11_newThing_13 : decode cX11_newThing 13 = .ok (.aload_n 0, 1) := by decide +kernel
theorem dX11_newThing_14 : decode cX11_newThing 14 = .ok (.getfield 79, 3) := by decide +kernel
theorem dX11_newThing_17 : decode cX11_newThing 17 = .ok (.isub, 1) := by decide +kernel
theorem dX11_newThing_18 : decode cX11_newThing 18 = .ok (.invokestatic 387, 3) := by decide +kernel
theorem dX11_newThing_21 : decode cX11_newThing 21 = .ok (.iconst 2, 1) := by decide +kernel
theorem dX11_newThing_22 : decode cX11_newThing 22 = .ok (.iadd, 1) := by decide +kernel
theorem dX11_newThing_23 : decode cX11_newThing 23 = .ok (.istore 4, 2) := by decide +kernel
theorem dX11_newThing_25 : decode cX11_newThing 25 = .ok (.iload_n 1, 1) := by decide +kernel
theorem dX11_newThing_26 : decode cX11_newThing 26 = .ok (.tableswitch 76 1 4 #[30, 42, 54, 65], 30) := by decide +kernel
theorem dX11_newThing_56 : decode cX11_newThing 56 = .ok (.new 390, 3) := by decide +kernel
theorem dX11_newThing_59 : decode cX11_newThing 59 = .ok (.dup, 1) := by decide +kernel
theorem dX11_newThing_60 : decode cX11_newThing 60 = .ok (.iconst 1, 1) := by decide +kernel
theorem dX11_newThing_61 : decode cX11_newThing 61 = .ok (.iload_n 2, 1) := by decide +kernel
theorem dX11_newThing_62 : decode cX11_newThing 62 = .ok (.iload 4, 2) := by decide +kernel
theorem dX11_newThing_64 : decode cX11_newThing 64 = .ok (.invokespecial 392, 3) := by decide +kernel
theorem dX11_newThing_67 : decode cX11_newThing 67 = .ok (.areturn, 1) := by decide +kernel
theorem dX11_newThing_68 : decode cX11_newThing 68 = .ok (.new 277, 3) := by decide +kernel
theorem dX11_newThing_71 : decode cX11_newThing 71 = .ok (.dup, 1) := by decide +kernel
theorem dX11_newThing_72 : decode cX11_newThing 72 = .ok (.iload_n 2, 1) := by decide +kernel
theorem dX11_newThing_73 : decode cX11_newThing 73 = .ok (.iload 4, 2) := by decide +kernel
theorem dX11_newThing_75 : decode cX11_newThing 75 = .ok (.iload_n 3, 1) := by decide +kernel
theorem dX11_newThing_76 : decode cX11_newThing 76 = .ok (.invokespecial 395, 3) := by decide +kernel
theorem dX11_newThing_79 : decode cX11_newThing 79 = .ok (.areturn, 1) := by decide +kernel
theorem dX11_newThing_80 : decode cX11_newThing 80 = .ok (.new 203, 3) := by decide +kernel
theorem dX11_newThing_83 : decode cX11_newThing 83 = .ok (.dup, 1) := by decide +kernel
theorem dX11_newThing_84 : decode cX11_newThing 84 = .ok (.iload_n 2, 1) := by decide +kernel
theorem dX11_newThing_85 : decode cX11_newThing 85 = .ok (.iload 4, 2) := by decide +kernel
theorem dX11_newThing_87 : decode cX11_newThing 87 = .ok (.invokespecial 396, 3) := by decide +kernel
theorem dX11_newThing_90 : decode cX11_newThing 90 = .ok (.areturn, 1) := by decide +kernel
theorem dX11_newThing_91 : decode cX11_newThing 91 = .ok (.new 285, 3) := by decide +kernel
theorem dX11_newThing_94 : decode cX11_newThing 94 = .ok (.dup, 1) := by decide +kernel
theorem dX11_newThing_95 : decode cX11_newThing 95 = .ok (.iload_n 2, 1) := by decide +kernel
theorem dX11_newThing_96 : decode cX11_newThing 96 = .ok (.iload 4, 2) := by decide +kernel
theorem dX11_newThing_98 : decode cX11_newThing 98 = .ok (.invokespecial 397, 3) := by decide +kernel
theorem dX11_newThing_101 : decode cX11_newThing 101 = .ok (.areturn, 1) := by decide +kernel
theorem dX11_newThing_102 : decode cX11_newThing 102 = .ok (.new 161, 3) := by decide +kernel
theorem dX11_newThing_105 : decode cX11_newThing 105 = .ok (.dup, 1) := by decide +kernel
theorem dX11_newThing_106 : decode cX11_newThing 106 = .ok (.iconst 0, 1) := by decide +kernel
theorem dX11_newThing_107 : decode cX11_newThing 107 = .ok (.iload_n 2, 1) := by decide +kernel
theorem dX11_newThing_108 : decode cX11_newThing 108 = .ok (.iload 4, 2) := by decide +kernel
theorem dX11_newThing_110 : decode cX11_newThing 110 = .ok (.invokespecial 398, 3) := by decide +kernel
theorem dX11_newThing_113 : decode cX11_newThing 113 = .ok (.areturn, 1) := by decide +kernel
theorem dX11_divideUp_0 : decode cX11_divideUp 0 = .ok (.iload_n 1, 1) := by decide +kernel
theorem dX11_divideUp_1 : decode cX11_divideUp 1 = .ok (.ifCond .gt 7, 3) := by decide +kernel
theorem dX11_divideUp_4 : decode cX11_divideUp 4 = .ok (.iconst 0, 1) := by decide +kernel
theorem dX11_divideUp_5 : decode cX11_divideUp 5 = .ok (.goto 10, 3) := by decide +kernel
theorem dX11_divideUp_8 : decode cX11_divideUp 8 = .ok (.iload_n 0, 1) := by decide +kernel
theorem dX11_divideUp_9 : decode cX11_divideUp 9 = .ok (.iload_n 1, 1) := by decide +kernel
theorem dX11_divideUp_10 : decode cX11_divideUp 10 = .ok (.iadd, 1) := by decide +kernel
theorem dX11_divideUp_11 : decode cX11_divideUp 11 = .ok (.iconst 1, 1) := by decide +kernel
theorem dX11_divideUp_12 : decode cX11_divideUp 12 = .ok (.isub, 1) := by decide +kernel
theorem dX11_divideUp_13 : decode cX11_divideUp 13 = .ok (.iload_n 1, 1) := by decide +kernel
theorem dX11_divideUp_14 : decode cX11_divideUp 14 = .ok (.idiv, 1) := by decide +kernel
theorem dX11_divideUp_15 : decode cX11_divideUp 15 = .ok (.ireturn, 1) := by decide +kernel
theorem dX11_keepersAwake_0 : decode cX11_keepersAwake 0 = .ok (.iconst 0, 1) := by decide +kernel
theorem dX11_keepersAwake_1 : decode cX11_keepersAwake 1 = .ok (.istore_n 1, 1) := by decide +kernel
theorem dX11_keepersAwake_2 : decode cX11_keepersAwake 2 = .ok (.iconst 0, 1) := by decide +kernel
theorem dX11_keepersAwake_3 : decode cX11_keepersAwake 3 = .ok (.istore_n 2, 1) := by decide +kernel
theorem dX11_keepersAwake_4 : decode cX11_keepersAwake 4 = .ok (.iload_n 2, 1) := by decide +kernel
theorem dX11_keepersAwake_5 : decode cX11_keepersAwake 5 = .ok (.aload_n 0, 1) := by decide +kernel
theorem dX11_keepersAwake_6 : decode cX11_keepersAwake 6 = .ok (.getfield 10, 3) := by decide +kernel
theorem dX11_keepersAwake_9 : decode cX11_keepersAwake 9 = .ok (.invokevirtual 87, 3) := by decide +kernel
theorem dX11_keepersAwake_12 : decode cX11_keepersAwake 12 = .ok (.if_icmp .ge 34, 3) := by decide +kernel
theorem dX11_keepersAwake_15 : decode cX11_keepersAwake 15 = .ok (.iload_n 1, 1) := by decide +kernel
theorem dX11_keepersAwake_16 : decode cX11_keepersAwake 16 = .ok (.aload_n 0, 1) := by decide +kernel
theorem dX11_keepersAwake_17 : decode cX11_keepersAwake 17 = .ok (.getfield 10, 3) := by decide +kernel
theorem dX11_keepersAwake_20 : decode cX11_keepersAwake 20 = .ok (.iload_n 2, 1) := by decide +kernel
theorem dX11_keepersAwake_21 : decode cX11_keepersAwake 21 = .ok (.invokevirtual 383, 3) := by decide +kernel
theorem dX11_keepersAwake_24 : decode cX11_keepersAwake 24 = .ok (.checkcast 91, 3) := by decide +kernel
theorem dX11_keepersAwake_27 : decode cX11_keepersAwake 27 = .ok (.getfield 123, 3) := by decide +kernel
theorem dX11_keepersAwake_30 : decode cX11_keepersAwake 30 = .ok (.ifCond .eq 7, 3) := by decide +kernel
theorem dX11_keepersAwake_33 : decode cX11_keepersAwake 33 = .ok (.iconst 1, 1) := by decide +kernel
theorem dX11_keepersAwake_34 : decode cX11_keepersAwake 34 = .ok (.goto 4, 3) := by decide +kernel
theorem dX11_keepersAwake_37 : decode cX11_keepersAwake 37 = .ok (.iconst 0, 1) := by decide +kernel
theorem dX11_keepersAwake_38 : decode cX11_keepersAwake 38 = .ok (.iadd, 1) := by decide +kernel
theorem dX11_keepersAwake_39 : decode cX11_keepersAwake 39 = .ok (.istore_n 1, 1) := by decide +kernel
theorem dX11_keepersAwake_40 : decode cX11_keepersAwake 40 = .ok (.iinc 2 1, 3) := by decide +kernel
theorem dX11_keepersAwake_43 : decode cX11_keepersAwake 43 = .ok (.goto (-39), 3) := by decide +kernel
theorem dX11_keepersAwake_46 : decode cX11_keepersAwake 46 = .ok (.iload_n 1, 1) := by decide +kernel
theorem dX11_keepersAwake_47 : decode cX11_keepersAwake 47 = .ok (.ireturn, 1) := by decide +kernel
theorem dX11_areMostAwake_0 : decode cX11_areMostAwake 0 = .ok (.iconst 2, 1) := by decide +kernel
theorem dX11_areMostAwake_1 : decode cX11_areMostAwake 1 = .ok (.aload_n 0, 1) := by decide +kernel
theorem dX11_areMostAwake_2 : decode cX11_areMostAwake 2 = .ok (.invokevirtual 315, 3) := by decide +kernel
theorem dX11_areMostAwake_5 : decode cX11_areMostAwake 5 = .ok (.imul, 1) := by decide +kernel
theorem dX11_areMostAwake_6 : decode cX11_areMostAwake 6 = .ok (.aload_n 0, 1) := by decide +kernel
theorem dX11_areMostAwake_7 : decode cX11_areMostAwake 7 = .ok (.getfield 10, 3) := by decide +kernel
theorem dX11_areMostAwake_10 : decode cX11_areMostAwake 10 = .ok (.invokevirtual 87, 3) := by decide +kernel
theorem dX11_areMostAwake_13 : decode cX11_areMostAwake 13 = .ok (.if_icmp .le 7, 3) := by decide +kernel
theorem dX11_areMostAwake_16 : decode cX11_areMostAwake 16 = .ok (.iconst 1, 1) := by decide +kernel
theorem dX11_areMostAwake_17 : decode cX11_areMostAwake 17 = .ok (.goto 4, 3) := by decide +kernel
theorem dX11_areMostAwake_20 : decode cX11_areMostAwake 20 = .ok (.iconst 0, 1) := by decide +kernel
theorem dX11_areMostAwake_21 : decode cX11_areMostAwake 21 = .ok (.ireturn, 1) := by decide +kernel
theorem dX11_ableLeader_0 : decode cX11_ableLeader 0 = .ok (.aload_n 0, 1) := by decide +kernel
theorem dX11_ableLeader_1 : decode cX11_ableLeader 1 = .ok (.invokevirtual 148, 3) := by decide +kernel
theorem dX11_ableLeader_4 : decode cX11_ableLeader 4 = .ok (.ifCond .eq 14, 3) := by decide +kernel
theorem dX11_ableLeader_7 : decode cX11_ableLeader 7 = .ok (.aload_n 0, 1) := by decide +kernel
theorem dX11_ableLeader_8 : decode cX11_ableLeader 8 = .ok (.aload_n 0, 1) := by decide +kernel
theorem dX11_ableLeader_9 : decode cX11_ableLeader 9 = .ok (.getfield 46, 3) := by decide +kernel
theorem dX11_ableLeader_12 : decode cX11_ableLeader 12 = .ok (.invokevirtual 144, 3) := by decide +kernel
theorem dX11_ableLeader_15 : decode cX11_ableLeader 15 = .ok (.goto 4, 3) := by decide +kernel
theorem dX11_ableLeader_18 : decode cX11_ableLeader 18 = .ok (.aconst_null, 1) := by decide +kernel
theorem dX11_ableLeader_19 : decode cX11_ableLeader 19 = .ok (.areturn, 1) := by decide +kernel
theorem dX11_prolongBoard_0 : decode cX11_prolongBoard 0 = .ok (.iconst 0, 1) := by decide +kernel
theorem dX11_prolongBoard_1 : decode cX11_prolongBoard 1 = .ok (.istore_n 3, 1) := by decide +kernel
theorem dX11_prolongBoard_2 : decode cX11_prolongBoard 2 = .ok (.iload_n 3, 1) := by decide +kernel
theorem dX11_prolongBoard_3 : decode cX11_prolongBoard 3 = .ok (.aload_n 0, 1) := by decide +kernel
theorem dX11_prolongBoard_4 : decode cX11_prolongBoard 4 = .ok (.getfield 19, 3) := by decide +kernel
theorem dX11_prolongBoard_7 : decode cX11_prolongBoard 7 = .ok (.invokevirtual 87, 3) := by decide +kernel
theorem dX11_prolongBoard_10 : decode cX11_prolongBoard 10 = .ok (.if_icmp .ge 57, 3) := by decide +kernel
theorem dX11_prolongBoard_13 : decode cX11_prolongBoard 13 = .ok (.aload_n 0, 1) := by decide +kernel
theorem dX11_prolongBoard_14 : decode cX11_prolongBoard 14 = .ok (.getfield 19, 3) := by decide +kernel
theorem dX11_prolongBoard_17 : decode cX11_prolongBoard 17 = .ok (.iload_n 3, 1) := by decide +kernel
theorem dX11_prolongBoard_18 : decode cX11_prolongBoard 18 = .ok (.invokevirtual 383, 3) := by decide +kernel
theorem dX11_prolongBoard_21 : decode cX11_prolongBoard 21 = .ok (.checkcast 161, 3) := by decide +kernel
theorem dX11_prolongBoard_24 : decode cX11_prolongBoard 24 = .ok (.astore 4, 2) := by decide +kernel
theorem dX11_prolongBoard_26 : decode cX11_prolongBoard 26 = .ok (.aload 4, 2) := by decide +kernel
theorem dX11_prolongBoard_28 : decode cX11_prolongBoard 28 = .ok (.lload_n 1, 1) := by decide +kernel
theorem dX11_prolongBoard_29 : decode cX11_prolongBoard 29 = .ok (.invokevirtual 399, 3) := by decide +kernel
theorem dX11_prolongBoard_32 : decode cX11_prolongBoard 32 = .ok (.aload 4, 2) := by decide +kernel
theorem dX11_prolongBoard_34 : decode cX11_prolongBoard 34 = .ok (.instanceof 285, 3) := by decide +kernel
theorem dX11_prolongBoard_37 : decode cX11_prolongBoard 37 = .ok (.ifCond .eq 24, 3) := by decide +kernel
theorem dX11_prolongBoard_40 : decode cX11_prolongBoard 40 = .ok (.aload 4, 2) := by decide +kernel
theorem dX11_prolongBoard_42 : decode cX11_prolongBoard 42 = .ok (.checkcast 285, 3) := by decide +kernel
theorem dX11_prolongBoard_45 : decode cX11_prolongBoard 45 = .ok (.astore 5, 2) := by decide +kernel
theorem dX11_prolongBoard_47 : decode cX11_prolongBoard 47 = .ok (.aload 5, 2) := by decide +kernel
theorem dX11_prolongBoard_49 : decode cX11_prolongBoard 49 = .ok (.getfield 290, 3) := by decide +kernel
theorem dX11_prolongBoard_52 : decode cX11_prolongBoard 52 = .ok (.ifCond .eq 9, 3) := by decide +kernel
theorem dX11_prolongBoard_55 : decode cX11_prolongBoard 55 = .ok (.aload 5, 2) := by decide +kernel
theorem dX11_prolongBoard_57 : decode cX11_prolongBoard 57 = .ok (.lload_n 1, 1) := by decide +kernel
theorem dX11_prolongBoard_58 : decode cX11_prolongBoard 58 = .ok (.invokevirtual 402, 3) := by decide +kernel
theorem dX11_prolongBoard_61 : decode cX11_prolongBoard 61 = .ok (.iinc 3 1, 3) := by decide +kernel
theorem dX11_prolongBoard_64 : decode cX11_prolongBoard 64 = .ok (.goto (-62), 3) := by decide +kernel
theorem dX11_prolongBoard_67 : decode cX11_prolongBoard 67 = .ok (.return_, 1) := by decide +kernel
theorem dX11_hasRoomFor_0 : decode cX11_hasRoomFor 0 = .ok (.aload_n 0, 1) := by decide +kernel
theorem dX11_hasRoomFor_1 : decode cX11_hasRoomFor 1 = .ok (.getfield 22, 3) := by decide +kernel
theorem dX11_hasRoomFor_4 : decode cX11_hasRoomFor 4 = .ok (.invokevirtual 87, 3) := by decide +kernel
theorem dX11_hasRoomFor_7 : decode cX11_hasRoomFor 7 = .ok (.iload_n 1, 1) := by decide +kernel
theorem dX11_hasRoomFor_8 : decode cX11_hasRoomFor 8 = .ok (.iadd, 1) := by decide +kernel
theorem dX11_hasRoomFor_9 : decode cX11_hasRoomFor 9 = .ok (.sipush 400, 3) := by decide +kernel
theorem dX11_hasRoomFor_12 : decode cX11_hasRoomFor 12 = .ok (.if_icmp .gt 7, 3) := by decide +kernel
theorem dX11_hasRoomFor_15 : decode cX11_hasRoomFor 15 = .ok (.iconst 1, 1) := by decide +kernel
theorem dX11_hasRoomFor_16 : decode cX11_hasRoomFor 16 = .ok (.goto 4, 3) := by decide +kernel
theorem dX11_hasRoomFor_19 : decode cX11_hasRoomFor 19 = .ok (.iconst 0, 1) := by decide +kernel
theorem dX11_hasRoomFor_20 : decode cX11_hasRoomFor 20 = .ok (.ireturn, 1) := by decide +kernel
theorem dX11_send_0 : decode cX11_send 0 = .ok (.aload_n 0, 1) := by decide +kernel
theorem dX11_send_1 : decode cX11_send 1 = .ok (.getfield 22, 3) := by decide +kernel
theorem dX11_send_4 : decode cX11_send 4 = .ok (.invokevirtual 87, 3) := by decide +kernel
theorem dX11_send_7 : decode cX11_send 7 = .ok (.sipush 400, 3) := by decide +kernel
theorem dX11_send_10 : decode cX11_send 10 = .ok (.if_icmp .lt 6, 3) := by decide +kernel
theorem dX11_send_13 : decode cX11_send 13 = .ok (.bipush (-4), 2) := by decide +kernel
theorem dX11_send_15 : decode cX11_send 15 = .ok (.ireturn, 1) := by decide +kernel
theorem dX11_send_16 : decode cX11_send 16 = .ok (.aload_n 0, 1) := by decide +kernel
theorem dX11_send_17 : decode cX11_send 17 = .ok (.getfield 22, 3) := by decide +kernel
theorem dX11_send_20 : decode cX11_send 20 = .ok (.aload_n 1, 1) := by decide +kernel
theorem dX11_send_21 : decode cX11_send 21 = .ok (.invokevirtual 96, 3) := by decide +kernel
theorem dX11_send_24 : decode cX11_send 24 = .ok (.pop, 1) := by decide +kernel
theorem dX11_send_25 : decode cX11_send 25 = .ok (.aload_n 0, 1) := by decide +kernel
theorem dX11_send_26 : decode cX11_send 26 = .ok (.getfield 22, 3) := by decide +kernel
theorem dX11_send_29 : decode cX11_send 29 = .ok (.invokevirtual 87, 3) := by decide +kernel
theorem dX11_send_32 : decode cX11_send 32 = .ok (.iconst 1, 1) := by decide +kernel
theorem dX11_send_33 : decode cX11_send 33 = .ok (.isub, 1) := by decide +kernel
theorem dX11_send_34 : decode cX11_send 34 = .ok (.ireturn, 1) := by decide +kernel
theorem dX11_sendMarked_0 : decode cX11_sendMarked 0 = .ok (.aload_n 0, 1) := by decide +kernel
theorem dX11_sendMarked_1 : decode cX11_sendMarked 1 = .ok (.aload_n 1, 1) := by decide +kernel
theorem dX11_sendMarked_2 : decode cX11_sendMarked 2 = .ok (.getfield 224, 3) := by decide +kernel
theorem dX11_sendMarked_5 : decode cX11_sendMarked 5 = .ok (.invokevirtual 127, 3) := by decide +kernel
theorem dX11_sendMarked_8 : decode cX11_sendMarked 8 = .ok (.astore_n 2, 1) := by decide +kernel
theorem dX11_sendMarked_9 : decode cX11_sendMarked 9 = .ok (.aload_n 0, 1) := by decide +kernel
theorem dX11_sendMarked_10 : decode cX11_sendMarked 10 = .ok (.aload_n 1, 1) := by decide +kernel
theorem dX11_sendMarked_11 : decode cX11_sendMarked 11 = .ok (.getfield 224, 3) := by decide +kernel
theorem dX11_sendMarked_14 : decode cX11_sendMarked 14 = .ok (.aload_n 1, 1) := by decide +kernel
theorem dX11_sendMarked_15 : decode cX11_sendMarked 15 = .ok (.getfield 230, 3) := by decide +kernel
theorem dX11_sendMarked_18 : decode cX11_sendMarked 18 = .ok (.invokevirtual 186, 3) := by decide +kernel
theorem dX11_sendMarked_21 : decode cX11_sendMarked 21 = .ok (.astore_n 3, 1) := by decide +kernel
theorem dX11_sendMarked_22 : decode cX11_sendMarked 22 = .ok (.aload_n 2, 1) := by decide +kernel
theorem dX11_sendMarked_23 : decode cX11_sendMarked 23 = .ok (.ifnull 7, 3) := by decide +kernel
theorem dX11_sendMarked_26 : decode cX11_sendMarked 26 = .ok (.aload_n 3, 1) := by decide +kernel
theorem dX11_sendMarked_27 : decode cX11_sendMarked 27 = .ok (.ifnonnull 6, 3) := by decide +kernel
theorem dX11_sendMarked_30 : decode cX11_sendMarked 30 = .ok (.bipush (-2), 2) := by decide +kernel
theorem dX11_sendMarked_32 : decode cX11_sendMarked 32 = .ok (.ireturn, 1) := by decide +kernel
theorem dX11_sendMarked_33 : decode cX11_sendMarked 33 = .ok (.aload_n 2, 1) := by decide +kernel
theorem dX11_sendMarked_34 : decode cX11_sendMarked 34 = .ok (.dup, 1) := by decide +kernel
theorem dX11_sendMarked_35 : decode cX11_sendMarked 35 = .ok (.getfield 405, 3) := by decide +kernel
theorem dX11_sendMarked_38 : decode cX11_sendMarked 38 = .ok (.iconst 1, 1) := by decide +kernel
theorem dX11_sendMarked_39 : decode cX11_sendMarked 39 = .ok (.iadd, 1) := by decide +kernel
theorem dX11_sendMarked_40 : decode cX11_sendMarked 40 = .ok (.putfield 405, 3) := by decide +kernel
theorem dX11_sendMarked_43 : decode cX11_sendMarked 43 = .ok (.aload_n 1, 1) := by decide +kernel
theorem dX11_sendMarked_44 : decode cX11_sendMarked 44 = .ok (.aload_n 2, 1) := by decide +kernel
theorem dX11_sendMarked_45 : decode cX11_sendMarked 45 = .ok (.getfield 405, 3) := by decide +kernel
theorem dX11_sendMarked_48 : decode cX11_sendMarked 48 = .ok (.putfield 243, 3) := by decide +kernel
theorem dX11_sendMarked_51 : decode cX11_sendMarked 51 = .ok (.aload_n 1, 1) := by decide +kernel
theorem dX11_sendMarked_52 : decode cX11_sendMarked 52 = .ok (.aload_n 2, 1) := by decide +kernel
theorem dX11_sendMarked_53 : decode cX11_sendMarked 53 = .ok (.aload_n 0, 1) := by decide +kernel
theorem dX11_sendMarked_54 : decode cX11_sendMarked 54 = .ok (.getfield 43, 3) := by decide +kernel
theorem dX11_sendMarked_57 : decode cX11_sendMarked 57 = .ok (.invokevirtual 408, 3) := by decide +kernel
theorem dX11_sendMarked_60 : decode cX11_sendMarked 60 = .ok (.putfield 240, 3) := by decide +kernel
theorem dX11_sendMarked_63 : decode cX11_sendMarked 63 = .ok (.aload_n 3, 1) := by decide +kernel
theorem dX11_sendMarked_64 : decode cX11_sendMarked 64 = .ok (.aload_n 1, 1) := by decide +kernel
theorem dX11_sendMarked_65 : decode cX11_sendMarked 65 = .ok (.getfield 243, 3) := by decide +kernel
theorem dX11_sendMarked_68 : decode cX11_sendMarked 68 = .ok (.putfield 303, 3) := by decide +kernel
theorem dX11_sendMarked_71 : decode cX11_sendMarked 71 = .ok (.aload_n 0, 1) := by decide +kernel
theorem dX11_sendMarked_72 : decode cX11_sendMarked 72 = .ok (.aload_n 1, 1) := by decide +kernel
theorem dX11_sendMarked_73 : decode cX11_sendMarked 73 = .ok (.invokevirtual 200, 3) := by decide +kernel
theorem dX11_sendMarked_76 : decode cX11_sendMarked 76 = .ok (.ireturn, 1) := by decide +kernel
theorem dX11_refusalToHolder_0 : decode cX11_refusalToHolder 0 = .ok (.aload_n 0, 1) := by decide +kernel
theorem dX11_refusalToHolder_1 : decode cX11_refusalToHolder 1 = .ok (.iload_n 1, 1) := by decide +kernel
theorem dX11_refusalToHolder_2 : decode cX11_refusalToHolder 2 = .ok (.invokevirtual 127, 3) := by decide +kernel
theorem dX11_refusalToHolder_5 : decode cX11_refusalToHolder 5 = .ok (.astore 4, 2) := by decide +kernel
theorem dX11_refusalToHolder_7 : decode cX11_refusalToHolder 7 = .ok (.aload_n 0, 1) := by decide +kernel
theorem dX11_refusalToHolder_8 : decode cX11_refusalToHolder 8 = .ok (.iload_n 1, 1) := by decide +kernel
theorem dX11_refusalToHolder_9 : decode cX11_refusalToHolder 9 = .ok (.iload_n 3, 1) := by decide +kernel
theorem dX11_refusalToHolder_10 : decode cX11_refusalToHolder 10 = .ok (.invokevirtual 186, 3) := by decide +kernel
theorem dX11_refusalToHolder_13 : decode cX11_refusalToHolder 13 = .ok (.astore 5, 2) := by decide +kernel
theorem dX11_refusalToHolder_15 : decode cX11_refusalToHolder 15 = .ok (.aload 4, 2) := by decide +kernel
theorem dX11_refusalToHolder_17 : decode cX11_refusalToHolder 17 = .ok (.ifnull 16, 3) := by decide +kernel
theorem dX11_refusalToHolder_20 : decode cX11_refusalToHolder 20 = .ok (.aload 5, 2) := by decide +kernel
theorem dX11_refusalToHolder_22 : decode cX11_refusalToHolder 22 = .ok (.ifnull 11, 3) := by decide +kernel
theorem dX11_refusalToHolder_25 : decode cX11_refusalToHolder 25 = .ok (.aload_n 0, 1) := by decide +kernel
theorem dX11_refusalToHolder_26 : decode cX11_refusalToHolder 26 = .ok (.iload_n 2, 1) := by decide +kernel
theorem dX11_refusalToHolder_27 : decode cX11_refusalToHolder 27 = .ok (.invokevirtual 144, 3) := by decide +kernel
theorem dX11_refusalToHolder_30 : decode cX11_refusalToHolder 30 = .ok (.ifnonnull 6, 3) := by decide +kernel
theorem dX11_refusalToHolder_33 : decode cX11_refusalToHolder 33 = .ok (.bipush (-2), 2) := by decide +kernel
theorem dX11_refusalToHolder_35 : decode cX11_refusalToHolder 35 = .ok (.ireturn, 1) := by decide +kernel
theorem dX11_refusalToHolder_36 : decode cX11_refusalToHolder 36 = .ok (.aload 4, 2) := by decide +kernel
theorem dX11_refusalToHolder_38 : decode cX11_refusalToHolder 38 = .ok (.getfield 143, 3) := by decide +kernel
theorem dX11_refusalToHolder_41 : decode cX11_refusalToHolder 41 = .ok (.ifCond .eq 11, 3) := by decide +kernel
theorem dX11_refusalToHolder_44 : decode cX11_refusalToHolder 44 = .ok (.aload 5, 2) := by decide +kernel
theorem dX11_refusalToHolder_46 : decode cX11_refusalToHolder 46 = .ok (.getfield 135, 3) := by decide +kernel
theorem dX11_refusalToHolder_49 : decode cX11_refusalToHolder 49 = .ok (.ifCond .ne 6, 3) := by decide +kernel
theorem dX11_refusalToHolder_52 : decode cX11_refusalToHolder 52 = .ok (.bipush (-3), 2) := by decide +kernel
theorem dX11_refusalToHolder_54 : decode cX11_refusalToHolder 54 = .ok (.ireturn, 1) := by decide +kernel
theorem dX11_refusalToHolder_55 : decode cX11_refusalToHolder 55 = .ok (.aload_n 0, 1) := by decide +kernel
theorem dX11_refusalToHolder_56 : decode cX11_refusalToHolder 56 = .ok (.iconst 1, 1) := by decide +kernel
theorem dX11_refusalToHolder_57 : decode cX11_refusalToHolder 57 = .ok (.invokevirtual 165, 3) := by decide +kernel
theorem dX11_refusalToHolder_60 : decode cX11_refusalToHolder 60 = .ok (.ifCond .eq 7, 3) := by decide +kernel
theorem dX11_refusalToHolder_63 : decode cX11_refusalToHolder 63 = .ok (.iconst 0, 1) := by decide +kernel
theorem dX11_refusalToHolder_64 : decode cX11_refusalToHolder 64 = .ok (.goto 5, 3) := by decide +kernel
theorem dX11_refusalToHolder_67 : decode cX11_refusalToHolder 67 = .ok (.bipush (-4), 2) := by decide +kernel
theorem dX11_refusalToHolder_69 : decode cX11_refusalToHolder 69 = .ok (.ireturn, 1) := by decide +kernel
theorem dX11_answerGrant_0 : decode cX11_answerGrant 0 = .ok (.new 169, 3) := by decide +kernel
theorem dX11_answerGrant_3 : decode cX11_answerGrant 3 = .ok (.dup, 1) := by decide +kernel
theorem dX11_answerGrant_4 : decode cX11_answerGrant 4 = .ok (.iconst 4, 1) := by decide +kernel
theorem dX11_answerGrant_5 : decode cX11_answerGrant 5 = .ok (.aload_n 1, 1) := by decide +kernel
theorem dX11_answerGrant_6 : decode cX11_answerGrant 6 = .ok (.getfield 224, 3) := by decide +kernel
theorem dX11_answerGrant_9 : decode cX11_answerGrant 9 = .ok (.aload_n 1, 1) := by decide +kernel
theorem dX11_answerGrant_10 : decode cX11_answerGrant 10 = .ok (.getfield 227, 3) := by decide +kernel
theorem dX11_answerGrant_13 : decode cX11_answerGrant 13 = .ok (.aload_n 1, 1) := by decide +kernel
theorem dX11_answerGrant_14 : decode cX11_answerGrant 14 = .ok (.getfield 230, 3) := by decide +kernel
theorem dX11_answerGrant_17 : decode cX11_answerGrant 17 = .ok (.invokespecial 171, 3) := by decide +kernel
theorem dX11_answerGrant_20 : decode cX11_answerGrant 20 = .ok (.astore_n 3, 1) := by decide +kernel
theorem dX11_answerGrant_21 : decode cX11_answerGrant 21 = .ok (.aload_n 3, 1) := by decide +kernel
theorem dX11_answerGrant_22 : decode cX11_answerGrant 22 = .ok (.aload_n 2, 1) := by decide +kernel
theorem dX11_answerGrant_23 : decode cX11_answerGrant 23 = .ok (.getfield 264, 3) := by decide +kernel
theorem dX11_answerGrant_26 : decode cX11_answerGrant 26 = .ok (.aload_n 2, 1) := by decide +kernel
theorem dX11_answerGrant_27 : decode cX11_answerGrant 27 = .ok (.getfield 265, 3) := by decide +kernel
theorem dX11_answerGrant_30 : decode cX11_answerGrant 30 = .ok (.aload_n 2, 1) := by decide +kernel
theorem dX11_answerGrant_31 : decode cX11_answerGrant 31 = .ok (.getfield 266, 3) := by decide +kernel
theorem dX11_answerGrant_34 : decode cX11_answerGrant 34 = .ok (.invokevirtual 174, 3) := by decide +kernel
theorem dX11_answerGrant_37 : decode cX11_answerGrant 37 = .ok (.aload_n 3, 1) := by decide +kernel
theorem dX11_answerGrant_38 : decode cX11_answerGrant 38 = .ok (.aload_n 1, 1) := by decide +kernel
theorem dX11_answerGrant_39 : decode cX11_answerGrant 39 = .ok (.invokevirtual 236, 3) := by decide +kernel
theorem dX11_answerGrant_42 : decode cX11_answerGrant 42 = .ok (.aload_n 0, 1) := by decide +kernel
theorem dX11_answerGrant_43 : decode cX11_answerGrant 43 = .ok (.aload_n 3, 1) := by decide +kernel
theorem dX11_answerGrant_44 : decode cX11_answerGrant 44 = .ok (.invokevirtual 200, 3) := by decide +kernel
theorem dX11_answerGrant_47 : decode cX11_answerGrant 47 = .ok (.pop, 1) := by decide +kernel
theorem dX11_answerGrant_48 : decode cX11_answerGrant 48 = .ok (.return_, 1) := by decide +kernel
theorem dX11_answerRefusal_0 : decode cX11_answerRefusal 0 = .ok (.new 169, 3) := by decide +kernel
theorem dX11_answerRefusal_3 : decode cX11_answerRefusal 3 = .ok (.dup, 1) := by decide +kernel
theorem dX11_answerRefusal_4 : decode cX11_answerRefusal 4 = .ok (.iconst 5, 1) := by decide +kernel
theorem dX11_answerRefusal_5 : decode cX11_answerRefusal 5 = .ok (.aload_n 1, 1) := by decide +kernel
theorem dX11_answerRefusal_6 : decode cX11_answerRefusal 6 = .ok (.getfield 224, 3) := by decide +kernel
theorem dX11_answerRefusal_9 : decode cX11_answerRefusal 9 = .ok (.aload_n 1, 1) := by decide +kernel
theorem dX11_answerRefusal_10 : decode cX11_answerRefusal 10 = .ok (.getfield 227, 3) := by decide +kernel
theorem dX11_answerRefusal_13 : decode cX11_answerRefusal 13 = .ok (.aload_n 1, 1) := by decide +kernel
theorem dX11_answerRefusal_14 : decode cX11_answerRefusal 14 = .ok (.getfield 230, 3) := by decide +kernel
theorem dX11_answerRefusal_17 : decode cX11_answerRefusal 17 = .ok (.invokespecial 171, 3) := by decide +kernel
theorem dX11_answerRefusal_20 : decode cX11_answerRefusal 20 = .ok (.astore_n 2, 1) := by decide +kernel
theorem dX11_answerRefusal_21 : decode cX11_answerRefusal 21 = .ok (.aload_n 2, 1) := by decide +kernel
theorem dX11_answerRefusal_22 : decode cX11_answerRefusal 22 = .ok (.aload_n 1, 1) := by decide +kernel
theorem dX11_answerRefusal_23 : decode cX11_answerRefusal 23 = .ok (.invokevirtual 236, 3) := by decide +kernel
theorem dX11_answerRefusal_26 : decode cX11_answerRefusal 26 = .ok (.aload_n 0, 1) := by decide +kernel
theorem dX11_answerRefusal_27 : decode cX11_answerRefusal 27 = .ok (.aload_n 2, 1) := by decide +kernel
theorem dX11_answerRefusal_28 : decode cX11_answerRefusal 28 = .ok (.invokevirtual 200, 3) := by decide +kernel
theorem dX11_answerRefusal_31 : decode cX11_answerRefusal 31 = .ok (.pop, 1) := by decide +kernel
theorem dX11_answerRefusal_32 : decode cX11_answerRefusal 32 = .ok (.aload_n 0, 1) := by decide +kernel
theorem dX11_answerRefusal_33 : decode cX11_answerRefusal 33 = .ok (.dup, 1) := by decide +kernel
theorem dX11_answerRefusal_34 : decode cX11_answerRefusal 34 = .ok (.getfield 55, 3) := by decide +kernel
theorem dX11_answerRefusal_37 : decode cX11_answerRefusal 37 = .ok (.iconst 1, 1) := by decide +kernel
theorem dX11_answerRefusal_38 : decode cX11_answerRefusal 38 = .ok (.iadd, 1) := by decide +kernel
theorem dX11_answerRefusal_39 : decode cX11_answerRefusal 39 = .ok (.putfield 55, 3) := by decide +kernel
theorem dX11_answerRefusal_42 : decode cX11_answerRefusal 42 = .ok (.return_, 1) := by decide +kernel
theorem dX11_answerLate_0 : decode cX11_answerLate 0 = .ok (.new 169, 3) := by decide +kernel
theorem dX11_answerLate_3 : decode cX11_answerLate 3 = .ok (.dup, 1) := by decide +kernel
theorem dX11_answerLate_4 : decode cX11_answerLate 4 = .ok (.bipush 7, 2) := by decide +kernel
theorem dX11_answerLate_6 : decode cX11_answerLate 6 = .ok (.aload_n 1, 1) := by decide +kernel
theorem dX11_answerLate_7 : decode cX11_answerLate 7 = .ok (.getfield 224, 3) := by decide +kernel
theorem dX11_answerLate_10 : decode cX11_answerLate 10 = .ok (.aload_n 1, 1) := by decide +kernel
theorem dX11_answerLate_11 : decode cX11_answerLate 11 = .ok (.getfield 227, 3) := by decide +kernel
theorem dX11_answerLate_14 : decode cX11_answerLate 14 = .ok (.aload_n 1, 1) := by decide +kernel
theorem dX11_answerLate_15 : decode cX11_answerLate 15 = .ok (.getfield 230, 3) := by decide +kernel
theorem dX11_answerLate_18 : decode cX11_answerLate 18 = .ok (.invokespecial 171, 3) := by decide +kernel
theorem dX11_answerLate_21 : decode cX11_answerLate 21 = .ok (.astore_n 2, 1) := by decide +kernel
theorem dX11_answerLate_22 : decode cX11_answerLate 22 = .ok (.aload_n 2, 1) := by decide +kernel
theorem dX11_answerLate_23 : decode cX11_answerLate 23 = .ok (.iconst 0, 1) := by decide +kernel
theorem dX11_answerLate_24 : decode cX11_answerLate 24 = .ok (.iconst 0, 1) := by decide +kernel
theorem dX11_answerLate_25 : decode cX11_answerLate 25 = .ok (.aload_n 1, 1) := by decide +kernel
theorem dX11_answerLate_26 : decode cX11_answerLate 26 = .ok (.getfield 235, 3) := by decide +kernel
theorem dX11_answerLate_29 : decode cX11_answerLate 29 = .ok (.invokevirtual 174, 3) := by decide +kernel
theorem dX11_answerLate_32 : decode cX11_answerLate 32 = .ok (.aload_n 0, 1) := by decide +kernel
theorem dX11_answerLate_33 : decode cX11_answerLate 33 = .ok (.aload_n 2, 1) := by decide +kernel
theorem dX11_answerLate_34 : decode cX11_answerLate 34 = .ok (.invokevirtual 200, 3) := by decide +kernel
theorem dX11_answerLate_37 : decode cX11_answerLate 37 = .ok (.pop, 1) := by decide +kernel
theorem dX11_answerLate_38 : decode cX11_answerLate 38 = .ok (.aload_n 0, 1) := by decide +kernel
theorem dX11_answerLate_39 : decode cX11_answerLate 39 = .ok (.dup, 1) := by decide +kernel
theorem dX11_answerLate_40 : decode cX11_answerLate 40 = .ok (.getfield 58, 3) := by decide +kernel
theorem dX11_answerLate_43 : decode cX11_answerLate 43 = .ok (.iconst 1, 1) := by decide +kernel
theorem dX11_answerLate_44 : decode cX11_answerLate 44 = .ok (.iadd, 1) := by decide +kernel
theorem dX11_answerLate_45 : decode cX11_answerLate 45 = .ok (.putfield 58, 3) := by decide +kernel
theorem dX11_answerLate_48 : decode cX11_answerLate 48 = .ok (.return_, 1) := by decide +kernel
theorem dX11_reachKeeper_0 : decode cX11_reachKeeper 0 = .ok (.aload_n 0, 1) := by decide +kernel
theorem dX11_reachKeeper_1 : decode cX11_reachKeeper 1 = .ok (.invokevirtual 246, 3) := by decide +kernel
theorem dX11_reachKeeper_4 : decode cX11_reachKeeper 4 = .ok (.astore_n 2, 1) := by decide +kernel
theorem dX11_reachKeeper_5 : decode cX11_reachKeeper 5 = .ok (.aload_n 0, 1) := by decide +kernel
theorem dX11_reachKeeper_6 : decode cX11_reachKeeper 6 = .ok (.aload_n 1, 1) := by decide +kernel
theorem dX11_reachKeeper_7 : decode cX11_reachKeeper 7 = .ok (.getfield 230, 3) := by decide +kernel
theorem dX11_reachKeeper_10 : decode cX11_reachKeeper 10 = .ok (.invokevirtual 156, 3) := by decide +kernel
theorem dX11_reachKeeper_13 : decode cX11_reachKeeper 13 = .ok (.astore_n 3, 1) := by decide +kernel
theorem dX11_reachKeeper_14 : decode cX11_reachKeeper 14 = .ok (.aload_n 2, 1) := by decide +kernel
theorem dX11_reachKeeper_15 : decode cX11_reachKeeper 15 = .ok (.ifnull 18, 3) := by decide +kernel
theorem dX11_reachKeeper_18 : decode cX11_reachKeeper 18 = .ok (.aload_n 3, 1) := by decide +kernel
theorem dX11_reachKeeper_19 : decode cX11_reachKeeper 19 = .ok (.ifnull 14, 3) := by decide +kernel
theorem dX11_reachKeeper_22 : decode cX11_reachKeeper 22 = .ok (.aload_n 1, 1) := by decide +kernel
theorem dX11_reachKeeper_23 : decode cX11_reachKeeper 23 = .ok (.getfield 227, 3) := by decide +kernel
theorem dX11_reachKeeper_26 : decode cX11_reachKeeper 26 = .ok (.aload_n 0, 1) := by decide +kernel
theorem dX11_reachKeeper_27 : decode cX11_reachKeeper 27 = .ok (.getfield 46, 3) := by decide +kernel
theorem dX11_reachKeeper_30 : decode cX11_reachKeeper 30 = .ok (.if_icmp .eq 5, 3) := by decide +kernel
theorem dX11_reachKeeper_33 : decode cX11_reachKeeper 33 = .ok (.iconst 0, 1) := by decide +kernel
theorem dX11_reachKeeper_34 : decode cX11_reachKeeper 34 = .ok (.ireturn, 1) := by decide +kernel
theorem dX11_reachKeeper_35 : decode cX11_reachKeeper 35 = .ok (.aload_n 2, 1) := by decide +kernel
theorem dX11_reachKeeper_36 : decode cX11_reachKeeper 36 = .ok (.aload_n 0, 1) := by decide +kernel
theorem dX11_reachKeeper_37 : decode cX11_reachKeeper 37 = .ok (.getfield 43, 3) := by decide +kernel
theorem dX11_reachKeeper_40 : decode cX11_reachKeeper 40 = .ok (.invokevirtual 119, 3) := by decide +kernel
theorem dX11_reachKeeper_43 : decode cX11_reachKeeper 43 = .ok (.lstore 4, 2) := by decide +kernel
theorem dX11_reachKeeper_45 : decode cX11_reachKeeper 45 = .ok (.aload_n 0, 1) := by decide +kernel
theorem dX11_reachKeeper_46 : decode cX11_reachKeeper 46 = .ok (.aload_n 3, 1) := by decide +kernel
theorem dX11_reachKeeper_47 : decode cX11_reachKeeper 47 = .ok (.aload_n 1, 1) := by decide +kernel
theorem dX11_reachKeeper_48 : decode cX11_reachKeeper 48 = .ok (.getfield 230, 3) := by decide +kernel
theorem dX11_reachKeeper_51 : decode cX11_reachKeeper 51 = .ok (.lload 4, 2) := by decide +kernel
theorem dX11_reachKeeper_53 : decode cX11_reachKeeper 53 = .ok (.invokevirtual 250, 3) := by decide +kernel
theorem dX11_reachKeeper_56 : decode cX11_reachKeeper 56 = .ok (.aload_n 1, 1) := by decide +kernel
theorem dX11_reachKeeper_57 : decode cX11_reachKeeper 57 = .ok (.getfield 221, 3) := by decide +kernel
theorem dX11_reachKeeper_60 : decode cX11_reachKeeper 60 = .ok (.tableswitch 61 0 2 #[28, 39, 50], 28) := by decide +kernel
theorem dX11_reachKeeper_88 : decode cX11_reachKeeper 88 = .ok (.aload_n 0, 1) := by decide +kernel
theorem dX11_reachKeeper_89 : decode cX11_reachKeeper 89 = .ok (.aload_n 1, 1) := by decide +kernel
theorem dX11_reachKeeper_90 : decode cX11_reachKeeper 90 = .ok (.aload_n 3, 1) := by decide +kernel
theorem dX11_reachKeeper_91 : decode cX11_reachKeeper 91 = .ok (.lload 4, 2) := by decide +kernel
theorem dX11_reachKeeper_93 : decode cX11_reachKeeper 93 = .ok (.invokevirtual 409, 3) := by decide +kernel
theorem dX11_reachKeeper_96 : decode cX11_reachKeeper 96 = .ok (.goto 33, 3) := by decide +kernel
theorem dX11_reachKeeper_99 : decode cX11_reachKeeper 99 = .ok (.aload_n 0, 1) := by decide +kernel
theorem dX11_reachKeeper_100 : decode cX11_reachKeeper 100 = .ok (.aload_n 1, 1) := by decide +kernel
theorem dX11_reachKeeper_101 : decode cX11_reachKeeper 101 = .ok (.aload_n 3, 1) := by decide +kernel
theorem dX11_reachKeeper_102 : decode cX11_reachKeeper 102 = .ok (.lload 4, 2) := by decide +kernel
theorem dX11_reachKeeper_104 : decode cX11_reachKeeper 104 = .ok (.invokevirtual 413, 3) := by decide +kernel
theorem dX11_reachKeeper_107 : decode cX11_reachKeeper 107 = .ok (.goto 22, 3) := by decide +kernel
theorem dX11_reachKeeper_110 : decode cX11_reachKeeper 110 = .ok (.aload_n 0, 1) := by decide +kernel
theorem dX11_reachKeeper_111 : decode cX11_reachKeeper 111 = .ok (.aload_n 1, 1) := by decide +kernel
theorem dX11_reachKeeper_112 : decode cX11_reachKeeper 112 = .ok (.aload_n 3, 1) := by decide +kernel
theorem dX11_reachKeeper_113 : decode cX11_reachKeeper 113 = .ok (.lload 4, 2) := by decide +kernel
theorem dX11_reachKeeper_115 : decode cX11_reachKeeper 115 = .ok (.invokevirtual 416, 3) := by decide +kernel
theorem dX11_reachKeeper_118 : decode cX11_reachKeeper 118 = .ok (.goto 11, 3) := by decide +kernel
theorem dX11_reachKeeper_121 : decode cX11_reachKeeper 121 = .ok (.aload_n 0, 1) := by decide +kernel
theorem dX11_reachKeeper_122 : decode cX11_reachKeeper 122 = .ok (.aload_n 1, 1) := by decide +kernel
theorem dX11_reachKeeper_123 : decode cX11_reachKeeper 123 = .ok (.aload_n 3, 1) := by decide +kernel
theorem dX11_reachKeeper_124 : decode cX11_reachKeeper 124 = .ok (.lload 4, 2) := by decide +kernel
theorem dX11_reachKeeper_126 : decode cX11_reachKeeper 126 = .ok (.invokevirtual 419, 3) := by decide +kernel
theorem dX11_reachKeeper_129 : decode cX11_reachKeeper 129 = .ok (.iconst 1, 1) := by decide +kernel
theorem dX11_reachKeeper_130 : decode cX11_reachKeeper 130 = .ok (.ireturn, 1) := by decide +kernel
theorem dX11_lookAt_0 : decode cX11_lookAt 0 = .ok (.aload_n 1, 1) := by decide +kernel
theorem dX11_lookAt_1 : decode cX11_lookAt 1 = .ok (.lload_n 3, 1) := by decide +kernel
theorem dX11_lookAt_2 : decode cX11_lookAt 2 = .ok (.invokevirtual 422, 3) := by decide +kernel
theorem dX11_lookAt_5 : decode cX11_lookAt 5 = .ok (.aload_n 1, 1) := by decide +kernel
theorem dX11_lookAt_6 : decode cX11_lookAt 6 = .ok (.instanceof 203, 3) := by decide +kernel
theorem dX11_lookAt_9 : decode cX11_lookAt 9 = .ok (.ifCond .eq 14, 3) := by decide +kernel
theorem dX11_lookAt_12 : decode cX11_lookAt 12 = .ok (.aload_n 1, 1) := by decide +kernel
theorem dX11_lookAt_13 : decode cX11_lookAt 13 = .ok (.checkcast 203, 3) := by decide +kernel
theorem dX11_lookAt_16 : decode cX11_lookAt 16 = .ok (.astore 5, 2) := by decide +kernel
theorem dX11_lookAt_18 : decode cX11_lookAt 18 = .ok (.aload 5, 2) := by decide +kernel
theorem dX11_lookAt_20 : decode cX11_lookAt 20 = .ok (.invokevirtual 425, 3) := by decide +kernel
theorem dX11_lookAt_23 : decode cX11_lookAt 23 = .ok (.aload_n 1, 1) := by decide +kernel
theorem dX11_lookAt_24 : decode cX11_lookAt 24 = .ok (.instanceof 285, 3) := by decide +kernel
theorem dX11_lookAt_27 : decode cX11_lookAt 27 = .ok (.ifCond .eq 54, 3) := by decide +kernel
theorem dX11_lookAt_30 : decode cX11_lookAt 30 = .ok (.aload_n 1, 1) := by decide +kernel
theorem dX11_lookAt_31 : decode cX11_lookAt 31 = .ok (.checkcast 285, 3) := by decide +kernel
theorem dX11_lookAt_34 : decode cX11_lookAt 34 = .ok (.astore 5, 2) := by decide +kernel
theorem dX11_lookAt_36 : decode cX11_lookAt 36 = .ok (.aload 5, 2) := by decide +kernel
theorem dX11_lookAt_38 : decode cX11_lookAt 38 = .ok (.lload_n 3, 1) := by decide +kernel
theorem dX11_lookAt_39 : decode cX11_lookAt 39 = .ok (.invokevirtual 428, 3) := by decide +kernel
theorem dX11_lookAt_42 : decode cX11_lookAt 42 = .ok (.aload 5, 2) := by decide +kernel
theorem dX11_lookAt_44 : decode cX11_lookAt 44 = .ok (.invokevirtual 431, 3) := by decide +kernel
theorem dX11_lookAt_47 : decode cX11_lookAt 47 = .ok (.ifCond .eq 34, 3) := by decide +kernel
theorem dX11_lookAt_50 : decode cX11_lookAt 50 = .ok (.aload 5, 2) := by decide +kernel
theorem dX11_lookAt_52 : decode cX11_lookAt 52 = .ok (.lload_n 3, 1) := by decide +kernel
theorem dX11_lookAt_53 : decode cX11_lookAt 53 = .ok (.invokevirtual 402, 3) := by decide +kernel
theorem dX11_lookAt_56 : decode cX11_lookAt 56 = .ok (.aload_n 0, 1) := by decide +kernel
theorem dX11_lookAt_57 : decode cX11_lookAt 57 = .ok (.new 169, 3) := by decide +kernel
theorem dX11_lookAt_60 : decode cX11_lookAt 60 = .ok (.dup, 1) := by decide +kernel
theorem dX11_lookAt_61 : decode cX11_lookAt 61 = .ok (.bipush 6, 2) := by decide +kernel
theorem dX11_lookAt_63 : decode cX11_lookAt 63 = .ok (.aload 5, 2) := by decide +kernel
theorem dX11_lookAt_65 : decode cX11_lookAt 65 = .ok (.iconst 0, 1) := by decide +kernel
theorem dX11_lookAt_66 : decode cX11_lookAt 66 = .ok (.invokevirtual 297, 3) := by decide +kernel
theorem dX11_lookAt_69 : decode cX11_lookAt 69 = .ok (.aload_n 0, 1) := by decide +kernel
theorem dX11_lookAt_70 : decode cX11_lookAt 70 = .ok (.getfield 46, 3) := by decide +kernel
theorem dX11_lookAt_73 : decode cX11_lookAt 73 = .ok (.iload_n 2, 1) := by decide +kernel
theorem dX11_lookAt_74 : decode cX11_lookAt 74 = .ok (.invokespecial 171, 3) := by decide +kernel
theorem dX11_lookAt_77 : decode cX11_lookAt 77 = .ok (.invokevirtual 200, 3) := by decide +kernel
theorem dX11_lookAt_80 : decode cX11_lookAt 80 = .ok (.pop, 1) := by decide +kernel
theorem dX11_lookAt_81 : decode cX11_lookAt 81 = .ok (.return_, 1) := by decide +kernel
theorem dX11_hearAsk_0 : decode cX11_hearAsk 0 = .ok (.aload_n 2, 1) := by decide +kernel
theorem dX11_hearAsk_1 : decode cX11_hearAsk 1 = .ok (.aload_n 1, 1) := by decide +kernel
theorem dX11_hearAsk_2 : decode cX11_hearAsk 2 = .ok (.getfield 224, 3) := by decide +kernel
theorem dX11_hearAsk_5 : decode cX11_hearAsk 5 = .ok (.invokevirtual 434, 3) := by decide +kernel
theorem dX11_hearAsk_8 : decode cX11_hearAsk 8 = .ok (.ifnull 11, 3) := by decide +kernel
theorem dX11_hearAsk_11 : decode cX11_hearAsk 11 = .ok (.aload_n 0, 1) := by decide +kernel
theorem dX11_hearAsk_12 : decode cX11_hearAsk 12 = .ok (.aload_n 1, 1) := by decide +kernel
theorem dX11_hearAsk_13 : decode cX11_hearAsk 13 = .ok (.invokevirtual 438, 3) := by decide +kernel
theorem dX11_hearAsk_16 : decode cX11_hearAsk 16 = .ok (.goto 60, 3) := by decide +kernel
theorem dX11_hearAsk_19 : decode cX11_hearAsk 19 = .ok (.aload_n 2, 1) := by decide +kernel
theorem dX11_hearAsk_20 : decode cX11_hearAsk 20 = .ok (.aload_n 1, 1) := by decide +kernel
theorem dX11_hearAsk_21 : decode cX11_hearAsk 21 = .ok (.getfield 224, 3) := by decide +kernel
theorem dX11_hearAsk_24 : decode cX11_hearAsk 24 = .ok (.aload_n 1, 1) := by decide +kernel
theorem dX11_hearAsk_25 : decode cX11_hearAsk 25 = .ok (.getfield 233, 3) := by decide +kernel
theorem dX11_hearAsk_28 : decode cX11_hearAsk 28 = .ok (.aload_n 1, 1) := by decide +kernel
theorem dX11_hearAsk_29 : decode cX11_hearAsk 29 = .ok (.getfield 234, 3) := by decide +kernel
theorem dX11_hearAsk_32 : decode cX11_hearAsk 32 = .ok (.invokevirtual 441, 3) := by decide +kernel
theorem dX11_hearAsk_35 : decode cX11_hearAsk 35 = .ok (.ifCond .eq 13, 3) := by decide +kernel
theorem dX11_hearAsk_38 : decode cX11_hearAsk 38 = .ok (.aload_n 0, 1) := by decide +kernel
theorem dX11_hearAsk_39 : decode cX11_hearAsk 39 = .ok (.aload_n 1, 1) := by decide +kernel
theorem dX11_hearAsk_40 : decode cX11_hearAsk 40 = .ok (.aload_n 2, 1) := by decide +kernel
theorem dX11_hearAsk_41 : decode cX11_hearAsk 41 = .ok (.lload_n 3, 1) := by decide +kernel
theorem dX11_hearAsk_42 : decode cX11_hearAsk 42 = .ok (.invokevirtual 444, 3) := by decide +kernel
theorem dX11_hearAsk_45 : decode cX11_hearAsk 45 = .ok (.goto 31, 3) := by decide +kernel
theorem dX11_hearAsk_48 : decode cX11_hearAsk 48 = .ok (.aload_n 2, 1) := by decide +kernel
theorem dX11_hearAsk_49 : decode cX11_hearAsk 49 = .ok (.instanceof 285, 3) := by decide +kernel
theorem dX11_hearAsk_52 : decode cX11_hearAsk 52 = .ok (.ifCond .eq 19, 3) := by decide +kernel
theorem dX11_hearAsk_55 : decode cX11_hearAsk 55 = .ok (.aload_n 2, 1) := by decide +kernel
theorem dX11_hearAsk_56 : decode cX11_hearAsk 56 = .ok (.checkcast 285, 3) := by decide +kernel
theorem dX11_hearAsk_59 : decode cX11_hearAsk 59 = .ok (.astore 5, 2) := by decide +kernel
theorem dX11_hearAsk_61 : decode cX11_hearAsk 61 = .ok (.aload_n 0, 1) := by decide +kernel
theorem dX11_hearAsk_62 : decode cX11_hearAsk 62 = .ok (.aload_n 1, 1) := by decide +kernel
theorem dX11_hearAsk_63 : decode cX11_hearAsk 63 = .ok (.aload 5, 2) := by decide +kernel
theorem dX11_hearAsk_65 : decode cX11_hearAsk 65 = .ok (.invokevirtual 447, 3) := by decide +kernel
theorem dX11_hearAsk_68 : decode cX11_hearAsk 68 = .ok (.goto 8, 3) := by decide +kernel
theorem dX11_hearAsk_71 : decode cX11_hearAsk 71 = .ok (.aload_n 0, 1) := by decide +kernel
theorem dX11_hearAsk_72 : decode cX11_hearAsk 72 = .ok (.aload_n 1, 1) := by decide +kernel
theorem dX11_hearAsk_73 : decode cX11_hearAsk 73 = .ok (.invokevirtual 438, 3) := by decide +kernel
theorem dX11_hearAsk_76 : decode cX11_hearAsk 76 = .ok (.return_, 1) := by decide +kernel
theorem dX11_grantAsAsked_0 : decode cX11_grantAsAsked 0 = .ok (.new 262, 3) := by decide +kernel
theorem dX11_grantAsAsked_3 : decode cX11_grantAsAsked 3 = .ok (.dup, 1) := by decide +kernel
theorem dX11_grantAsAsked_4 : decode cX11_grantAsAsked 4 = .ok (.aload_n 1, 1) := by decide +kernel
theorem dX11_grantAsAsked_5 : decode cX11_grantAsAsked 5 = .ok (.getfield 224, 3) := by decide +kernel
theorem dX11_grantAsAsked_8 : decode cX11_grantAsAsked 8 = .ok (.aload_n 1, 1) := by decide +kernel
theorem dX11_grantAsAsked_9 : decode cX11_grantAsAsked 9 = .ok (.getfield 233, 3) := by decide +kernel
theorem dX11_grantAsAsked_12 : decode cX11_grantAsAsked 12 = .ok (.aload_n 1, 1) := by decide +kernel
theorem dX11_grantAsAsked_13 : decode cX11_grantAsAsked 13 = .ok (.getfield 234, 3) := by decide +kernel
theorem dX11_grantAsAsked_16 : decode cX11_grantAsAsked 16 = .ok (.invokespecial 451, 3) := by decide +kernel
theorem dX11_grantAsAsked_19 : decode cX11_grantAsAsked 19 = .ok (.astore 5, 2) := by decide +kernel
theorem dX11_grantAsAsked_21 : decode cX11_grantAsAsked 21 = .ok (.aload_n 2, 1) := by decide +kernel
theorem dX11_grantAsAsked_22 : decode cX11_grantAsAsked 22 = .ok (.getfield 254, 3) := by decide +kernel
theorem dX11_grantAsAsked_25 : decode cX11_grantAsAsked 25 = .ok (.aload 5, 2) := by decide +kernel
theorem dX11_grantAsAsked_27 : decode cX11_grantAsAsked 27 = .ok (.invokevirtual 96, 3) := by decide +kernel
theorem dX11_grantAsAsked_30 : decode cX11_grantAsAsked 30 = .ok (.pop, 1) := by decide +kernel
theorem dX11_grantAsAsked_31 : decode cX11_grantAsAsked 31 = .ok (.aload_n 0, 1) := by decide +kernel
theorem dX11_grantAsAsked_32 : decode cX11_grantAsAsked 32 = .ok (.aload_n 2, 1) := by decide +kernel
theorem dX11_grantAsAsked_33 : decode cX11_grantAsAsked 33 = .ok (.aload 5, 2) := by decide +kernel
theorem dX11_grantAsAsked_35 : decode cX11_grantAsAsked 35 = .ok (.lload_n 3, 1) := by decide +kernel
theorem dX11_grantAsAsked_36 : decode cX11_grantAsAsked 36 = .ok (.invokevirtual 452, 3) := by decide +kernel
theorem dX11_grantAsAsked_39 : decode cX11_grantAsAsked 39 = .ok (.aload_n 2, 1) := by decide +kernel
theorem dX11_grantAsAsked_40 : decode cX11_grantAsAsked 40 = .ok (.instanceof 285, 3) := by decide +kernel
theorem dX11_grantAsAsked_43 : decode cX11_grantAsAsked 43 = .ok (.ifCond .eq 27, 3) := by decide +kernel
theorem dX11_grantAsAsked_46 : decode cX11_grantAsAsked 46 = .ok (.aload_n 2, 1) := by decide +kernel
theorem dX11_grantAsAsked_47 : decode cX11_grantAsAsked 47 = .ok (.checkcast 285, 3) := by decide +kernel
theorem dX11_grantAsAsked_50 : decode cX11_grantAsAsked 50 = .ok (.astore 6, 2) := by decide +kernel
theorem dX11_grantAsAsked_52 : decode cX11_grantAsAsked 52 = .ok (.aload 6, 2) := by decide +kernel
theorem dX11_grantAsAsked_54 : decode cX11_grantAsAsked 54 = .ok (.iconst 0, 1) := by decide +kernel
theorem dX11_grantAsAsked_55 : decode cX11_grantAsAsked 55 = .ok (.invokevirtual 297, 3) := by decide +kernel
theorem dX11_grantAsAsked_58 : decode cX11_grantAsAsked 58 = .ok (.aload_n 1, 1) := by decide +kernel
theorem dX11_grantAsAsked_59 : decode cX11_grantAsAsked 59 = .ok (.getfield 224, 3) := by decide +kernel
theorem dX11_grantAsAsked_62 : decode cX11_grantAsAsked 62 = .ok (.if_icmp .ne 8, 3) := by decide +kernel
theorem dX11_grantAsAsked_65 : decode cX11_grantAsAsked 65 = .ok (.aload 6, 2) := by decide +kernel
theorem dX11_grantAsAsked_67 : decode cX11_grantAsAsked 67 = .ok (.invokevirtual 456, 3) := by decide +kernel
theorem dX11_grantAsAsked_70 : decode cX11_grantAsAsked 70 = .ok (.aload_n 0, 1) := by decide +kernel
theorem dX11_grantAsAsked_71 : decode cX11_grantAsAsked 71 = .ok (.aload_n 1, 1) := by decide +kernel
theorem dX11_grantAsAsked_72 : decode cX11_grantAsAsked 72 = .ok (.aload 5, 2) := by decide +kernel
theorem dX11_grantAsAsked_74 : decode cX11_grantAsAsked 74 = .ok (.invokevirtual 459, 3) := by decide +kernel
theorem dX11_grantAsAsked_77 : decode cX11_grantAsAsked 77 = .ok (.return_, 1) := by decide +kernel
theorem dX11_waitOrRefuse_0 : decode cX11_waitOrRefuse 0 = .ok (.aload_n 2, 1) := by decide +kernel
theorem dX11_waitOrRefuse_1 : decode cX11_waitOrRefuse 1 = .ok (.aload_n 1, 1) := by decide +kernel
theorem dX11_waitOrRefuse_2 : decode cX11_waitOrRefuse 2 = .ok (.getfield 224, 3) := by decide +kernel
theorem dX11_waitOrRefuse_5 : decode cX11_waitOrRefuse 5 = .ok (.invokevirtual 463, 3) := by decide +kernel
theorem dX11_waitOrRefuse_8 : decode cX11_waitOrRefuse 8 = .ok (.ifCond .eq 4, 3) := by decide +kernel
theorem dX11_waitOrRefuse_11 : decode cX11_waitOrRefuse 11 = .ok (.return_, 1) := by decide +kernel
theorem dX11_waitOrRefuse_12 : decode cX11_waitOrRefuse 12 = .ok (.aload_n 2, 1) := by decide +kernel
theorem dX11_waitOrRefuse_13 : decode cX11_waitOrRefuse 13 = .ok (.invokevirtual 466, 3) := by decide +kernel
theorem dX11_waitOrRefuse_16 : decode cX11_waitOrRefuse 16 = .ok (.ifCond .eq 11, 3) := by decide +kernel
theorem dX11_waitOrRefuse_19 : decode cX11_waitOrRefuse 19 = .ok (.aload_n 0, 1) := by decide +kernel
theorem dX11_waitOrRefuse_20 : decode cX11_waitOrRefuse 20 = .ok (.aload_n 1, 1) := by decide +kernel
theorem dX11_waitOrRefuse_21 : decode cX11_waitOrRefuse 21 = .ok (.invokevirtual 438, 3) := by decide +kernel
theorem dX11_waitOrRefuse_24 : decode cX11_waitOrRefuse 24 = .ok (.goto 11, 3) := by decide +kernel
theorem dX11_waitOrRefuse_27 : decode cX11_waitOrRefuse 27 = .ok (.aload_n 2, 1) := by decide +kernel
theorem dX11_waitOrRefuse_28 : decode cX11_waitOrRefuse 28 = .ok (.aload_n 1, 1) := by decide +kernel
theorem dX11_waitOrRefuse_29 : decode cX11_waitOrRefuse 29 = .ok (.getfield 224, 3) := by decide +kernel
theorem dX11_waitOrRefuse_32 : decode cX11_waitOrRefuse 32 = .ok (.invokevirtual 469, 3) := by decide +kernel
theorem dX11_waitOrRefuse_35 : decode cX11_waitOrRefuse 35 = .ok (.return_, 1) := by decide +kernel
theorem dX11_hearRenew_0 : decode cX11_hearRenew 0 = .ok (.aload_n 2, 1) := by decide +kernel
theorem dX11_hearRenew_1 : decode cX11_hearRenew 1 = .ok (.aload_n 1, 1) := by decide +kernel
theorem dX11_hearRenew_2 : decode cX11_hearRenew 2 = .ok (.invokevirtual 473, 3) := by decide +kernel
theorem dX11_hearRenew_5 : decode cX11_hearRenew 5 = .ok (.astore 5, 2) := by decide +kernel
theorem dX11_hearRenew_7 : decode cX11_hearRenew 7 = .ok (.aload 5, 2) := by decide +kernel
theorem dX11_hearRenew_9 : decode cX11_hearRenew 9 = .ok (.ifnonnull 11, 3) := by decide +kernel
theorem dX11_hearRenew_12 : decode cX11_hearRenew 12 = .ok (.aload_n 0, 1) := by decide +kernel
theorem dX11_hearRenew_13 : decode cX11_hearRenew 13 = .ok (.aload_n 1, 1) := by decide +kernel
theorem dX11_hearRenew_14 : decode cX11_hearRenew 14 = .ok (.invokevirtual 477, 3) := by decide +kernel
theorem dX11_hearRenew_17 : decode cX11_hearRenew 17 = .ok (.goto 22, 3) := by decide +kernel
theorem dX11_hearRenew_20 : decode cX11_hearRenew 20 = .ok (.aload 5, 2) := by decide +kernel
theorem dX11_hearRenew_22 : decode cX11_hearRenew 22 = .ok (.lload_n 3, 1) := by decide +kernel
theorem dX11_hearRenew_23 : decode cX11_hearRenew 23 = .ok (.aload_n 2, 1) := by decide +kernel
theorem dX11_hearRenew_24 : decode cX11_hearRenew 24 = .ok (.getfield 274, 3) := by decide +kernel
theorem dX11_hearRenew_27 : decode cX11_hearRenew 27 = .ok (.i2l, 1) := by decide +kernel
theorem dX11_hearRenew_28 : decode cX11_hearRenew 28 = .ok (.ladd, 1) := by decide +kernel
theorem dX11_hearRenew_29 : decode cX11_hearRenew 29 = .ok (.putfield 267, 3) := by decide +kernel
theorem dX11_hearRenew_32 : decode cX11_hearRenew 32 = .ok (.aload_n 0, 1) := by decide +kernel
theorem dX11_hearRenew_33 : decode cX11_hearRenew 33 = .ok (.aload_n 1, 1) := by decide +kernel
theorem dX11_hearRenew_34 : decode cX11_hearRenew 34 = .ok (.aload 5, 2) := by decide +kernel
theorem dX11_hearRenew_36 : decode cX11_hearRenew 36 = .ok (.invokevirtual 459, 3) := by decide +kernel
theorem dX11_hearRenew_39 : decode cX11_hearRenew 39 = .ok (.return_, 1) := by decide +kernel
theorem dX11_hearEnd_0 : decode cX11_hearEnd 0 = .ok (.aload_n 2, 1) := by decide +kernel
theorem dX11_hearEnd_1 : decode cX11_hearEnd 1 = .ok (.aload_n 1, 1) := by decide +kernel
theorem dX11_hearEnd_2 : decode cX11_hearEnd 2 = .ok (.invokevirtual 473, 3) := by decide +kernel
theorem dX11_hearEnd_5 : decode cX11_hearEnd 5 = .ok (.ifnull 21, 3) := by decide +kernel
theorem dX11_hearEnd_8 : decode cX11_hearEnd 8 = .ok (.aload_n 2, 1) := by decide +kernel
theorem dX11_hearEnd_9 : decode cX11_hearEnd 9 = .ok (.aload_n 1, 1) := by decide +kernel
theorem dX11_hearEnd_10 : decode cX11_hearEnd 10 = .ok (.getfield 224, 3) := by decide +kernel
theorem dX11_hearEnd_13 : decode cX11_hearEnd 13 = .ok (.invokevirtual 480, 3) := by decide +kernel
theorem dX11_hearEnd_16 : decode cX11_hearEnd 16 = .ok (.aload_n 0, 1) := by decide +kernel
theorem dX11_hearEnd_17 : decode cX11_hearEnd 17 = .ok (.aload_n 2, 1) := by decide +kernel
theorem dX11_hearEnd_18 : decode cX11_hearEnd 18 = .ok (.aload_n 1, 1) := by decide +kernel
theorem dX11_hearEnd_19 : decode cX11_hearEnd 19 = .ok (.getfield 230, 3) := by decide +kernel
theorem dX11_hearEnd_22 : decode cX11_hearEnd 22 = .ok (.lload_n 3, 1) := by decide +kernel
theorem dX11_hearEnd_23 : decode cX11_hearEnd 23 = .ok (.invokevirtual 250, 3) := by decide +kernel
theorem dX11_hearEnd_26 : decode cX11_hearEnd 26 = .ok (.return_, 1) := by decide +kernel
theorem dX11_hearRise_0 : decode cX11_hearRise 0 = .ok (.aload_n 2, 1) := by decide +kernel
theorem dX11_hearRise_1 : decode cX11_hearRise 1 = .ok (.aload_n 1, 1) := by decide +kernel
theorem dX11_hearRise_2 : decode cX11_hearRise 2 = .ok (.invokevirtual 473, 3) := by decide +kernel
theorem dX11_hearRise_5 : decode cX11_hearRise 5 = .ok (.astore 5, 2) := by decide +kernel
theorem dX11_hearRise_7 : decode cX11_hearRise 7 = .ok (.aload 5, 2) := by decide +kernel
theorem dX11_hearRise_9 : decode cX11_hearRise 9 = .ok (.ifnonnull 11, 3) := by decide +kernel
theorem dX11_hearRise_12 : decode cX11_hearRise 12 = .ok (.aload_n 0, 1) := by decide +kernel
theorem dX11_hearRise_13 : decode cX11_hearRise 13 = .ok (.aload_n 1, 1) := by decide +kernel
theorem dX11_hearRise_14 : decode cX11_hearRise 14 = .ok (.invokevirtual 477, 3) := by decide +kernel
theorem dX11_hearRise_17 : decode cX11_hearRise 17 = .ok (.goto 56, 3) := by decide +kernel
theorem dX11_hearRise_20 : decode cX11_hearRise 20 = .ok (.aload 5, 2) := by decide +kernel
theorem dX11_hearRise_22 : decode cX11_hearRise 22 = .ok (.getfield 264, 3) := by decide +kernel
theorem dX11_hearRise_25 : decode cX11_hearRise 25 = .ok (.ifCond .ne 25, 3) := by decide +kernel
theorem dX11_hearRise_28 : decode cX11_hearRise 28 = .ok (.aload 5, 2) := by decide +kernel
theorem dX11_hearRise_30 : decode cX11_hearRise 30 = .ok (.lload_n 3, 1) := by decide +kernel
theorem dX11_hearRise_31 : decode cX11_hearRise 31 = .ok (.aload_n 2, 1) := by decide +kernel
theorem dX11_hearRise_32 : decode cX11_hearRise 32 = .ok (.getfield 274, 3) := by decide +kernel
theorem dX11_hearRise_35 : decode cX11_hearRise 35 = .ok (.i2l, 1) := by decide +kernel
theorem dX11_hearRise_36 : decode cX11_hearRise 36 = .ok (.ladd, 1) := by decide +kernel
theorem dX11_hearRise_37 : decode cX11_hearRise 37 = .ok (.putfield 267, 3) := by decide +kernel
theorem dX11_hearRise_40 : decode cX11_hearRise 40 = .ok (.aload_n 0, 1) := by decide +kernel
theorem dX11_hearRise_41 : decode cX11_hearRise 41 = .ok (.aload_n 1, 1) := by decide +kernel
theorem dX11_hearRise_42 : decode cX11_hearRise 42 = .ok (.aload 5, 2) := by decide +kernel
theorem dX11_hearRise_44 : decode cX11_hearRise 44 = .ok (.invokevirtual 459, 3) := by decide +kernel
theorem dX11_hearRise_47 : decode cX11_hearRise 47 = .ok (.goto 26, 3) := by decide +kernel
theorem dX11_hearRise_50 : decode cX11_hearRise 50 = .ok (.aload_n 2, 1) := by decide +kernel
theorem dX11_hearRise_51 : decode cX11_hearRise 51 = .ok (.instanceof 203, 3) := by decide +kernel
theorem dX11_hearRise_54 : decode cX11_hearRise 54 = .ok (.ifCond .eq 19, 3) := by decide +kernel
theorem dX11_hearRise_57 : decode cX11_hearRise 57 = .ok (.aload_n 2, 1) := by decide +kernel
theorem dX11_hearRise_58 : decode cX11_hearRise 58 = .ok (.checkcast 203, 3) := by decide +kernel
theorem dX11_hearRise_61 : decode cX11_hearRise 61 = .ok (.astore 6, 2) := by decide +kernel
theorem dX11_hearRise_63 : decode cX11_hearRise 63 = .ok (.aload_n 0, 1) := by decide +kernel
theorem dX11_hearRise_64 : decode cX11_hearRise 64 = .ok (.aload_n 1, 1) := by decide +kernel
theorem dX11_hearRise_65 : decode cX11_hearRise 65 = .ok (.aload 6, 2) := by decide +kernel
theorem dX11_hearRise_67 : decode cX11_hearRise 67 = .ok (.aload 5, 2) := by decide +kernel
theorem dX11_hearRise_69 : decode cX11_hearRise 69 = .ok (.lload_n 3, 1) := by decide +kernel
theorem dX11_hearRise_70 : decode cX11_hearRise 70 = .ok (.invokevirtual 483, 3) := by decide +kernel
theorem dX11_hearRise_73 : decode cX11_hearRise 73 = .ok (.return_, 1) := by decide +kernel
theorem dX11_riseReader_0 : decode cX11_riseReader 0 = .ok (.aload_n 2, 1) := by decide +kernel
theorem dX11_riseReader_1 : decode cX11_riseReader 1 = .ok (.getfield 282, 3) := by decide +kernel
theorem dX11_riseReader_4 : decode cX11_riseReader 4 = .ok (.iconst (-1), 1) := by decide +kernel
theorem dX11_riseReader_5 : decode cX11_riseReader 5 = .ok (.if_icmp .eq 20, 3) := by decide +kernel
theorem dX11_riseReader_8 : decode cX11_riseReader 8 = .ok (.aload_n 2, 1) := by decide +kernel
theorem dX11_riseReader_9 : decode cX11_riseReader 9 = .ok (.getfield 282, 3) := by decide +kernel
theorem dX11_riseReader_12 : decode cX11_riseReader 12 = .ok (.aload_n 1, 1) := by decide +kernel
theorem dX11_riseReader_13 : decode cX11_riseReader 13 = .ok (.getfield 224, 3) := by decide +kernel
theorem dX11_riseReader_16 : decode cX11_riseReader 16 = .ok (.if_icmp .eq 9, 3) := by decide +kernel
theorem dX11_riseReader_19 : decode cX11_riseReader 19 = .ok (.aload_n 0, 1) := by decide +kernel
theorem dX11_riseReader_20 : decode cX11_riseReader 20 = .ok (.aload_n 1, 1) := by decide +kernel
theorem dX11_riseReader_21 : decode cX11_riseReader 21 = .ok (.invokevirtual 438, 3) := by decide +kernel
theorem dX11_riseReader_24 : decode cX11_riseReader 24 = .ok (.return_, 1) := by decide +kernel
theorem dX11_riseReader_25 : decode cX11_riseReader 25 = .ok (.aload_n 2, 1) := by decide +kernel
theorem dX11_riseReader_26 : decode cX11_riseReader 26 = .ok (.aload_n 1, 1) := by decide +kernel
theorem dX11_riseReader_27 : decode cX11_riseReader 27 = .ok (.getfield 224, 3) := by decide +kernel
theorem dX11_riseReader_30 : decode cX11_riseReader 30 = .ok (.putfield 282, 3) := by decide +kernel
theorem dX11_riseReader_33 : decode cX11_riseReader 33 = .ok (.aload_n 2, 1) := by decide +kernel
theorem dX11_riseReader_34 : decode cX11_riseReader 34 = .ok (.getfield 487, 3) := by decide +kernel
theorem dX11_riseReader_37 : decode cX11_riseReader 37 = .ok (.invokevirtual 87, 3) := by decide +kernel
theorem dX11_riseReader_40 : decode cX11_riseReader 40 = .ok (.iconst 1, 1) := by decide +kernel
theorem dX11_riseReader_41 : decode cX11_riseReader 41 = .ok (.if_icmp .ne 27, 3) := by decide +kernel
theorem dX11_riseReader_44 : decode cX11_riseReader 44 = .ok (.aload_n 3, 1) := by decide +kernel
theorem dX11_riseReader_45 : decode cX11_riseReader 45 = .ok (.iconst 0, 1) := by decide +kernel
theorem dX11_riseReader_46 : decode cX11_riseReader 46 = .ok (.putfield 264, 3) := by decide +kernel
theorem dX11_riseReader_49 : decode cX11_riseReader 49 = .ok (.aload_n 0, 1) := by decide +kernel
theorem dX11_riseReader_50 : decode cX11_riseReader 50 = .ok (.aload_n 2, 1) := by decide +kernel
theorem dX11_riseReader_51 : decode cX11_riseReader 51 = .ok (.aload_n 3, 1) := by decide +kernel
theorem dX11_riseReader_52 : decode cX11_riseReader 52 = .ok (.lload 4, 2) := by decide +kernel
theorem dX11_riseReader_54 : decode cX11_riseReader 54 = .ok (.invokevirtual 452, 3) := by decide +kernel
theorem dX11_riseReader_57 : decode cX11_riseReader 57 = .ok (.aload_n 2, 1) := by decide +kernel
theorem dX11_riseReader_58 : decode cX11_riseReader 58 = .ok (.iconst (-1), 1) := by decide +kernel
theorem dX11_riseReader_59 : decode cX11_riseReader 59 = .ok (.putfield 282, 3) := by decide +kernel
theorem dX11_riseReader_62 : decode cX11_riseReader 62 = .ok (.aload_n 0, 1) := by decide +kernel
theorem dX11_riseReader_63 : decode cX11_riseReader 63 = .ok (.aload_n 1, 1) := by decide +kernel
theorem dX11_riseReader_64 : decode cX11_riseReader 64 = .ok (.aload_n 3, 1) := by decide +kernel
theorem dX11_riseReader_65 : decode cX11_riseReader 65 = .ok (.invokevirtual 459, 3) := by decide +kernel
theorem dX11_riseReader_68 : decode cX11_riseReader 68 = .ok (.return_, 1) := by decide +kernel
theorem dX11_giveNumber_0 : decode cX11_giveNumber 0 = .ok (.aload_n 1, 1) := by decide +kernel
theorem dX11_giveNumber_1 : decode cX11_giveNumber 1 = .ok (.aload_n 2, 1) := by decide +kernel
theorem dX11_giveNumber_2 : decode cX11_giveNumber 2 = .ok (.lload_n 3, 1) := by decide +kernel
theorem dX11_giveNumber_3 : decode cX11_giveNumber 3 = .ok (.invokevirtual 488, 3) := by decide +kernel
theorem dX11_giveNumber_6 : decode cX11_giveNumber 6 = .ok (.aload_n 0, 1) := by decide +kernel
theorem dX11_giveNumber_7 : decode cX11_giveNumber 7 = .ok (.dup, 1) := by decide +kernel
theorem dX11_giveNumber_8 : decode cX11_giveNumber 8 = .ok (.getfield 52, 3) := by decide +kernel
theorem dX11_giveNumber_11 : decode cX11_giveNumber 11 = .ok (.iconst 1, 1) := by decide +kernel
theorem dX11_giveNumber_12 : decode cX11_giveNumber 12 = .ok (.iadd, 1) := by decide +kernel
theorem dX11_giveNumber_13 : decode cX11_giveNumber 13 = .ok (.putfield 52, 3) := by decide +kernel
theorem dX11_giveNumber_16 : decode cX11_giveNumber 16 = .ok (.return_, 1) := by decide +kernel
theorem dX11_reachWorker_0 : decode cX11_reachWorker 0 = .ok (.aload_n 0, 1) := by decide +kernel
theorem dX11_reachWorker_1 : decode cX11_reachWorker 1 = .ok (.aload_n 1, 1) := by decide +kernel
theorem dX11_reachWorker_2 : decode cX11_reachWorker 2 = .ok (.getfield 224, 3) := by decide +kernel
theorem dX11_reachWorker_5 : decode cX11_reachWorker 5 = .ok (.invokevirtual 127, 3) := by decide +kernel
theorem dX11_reachWorker_8 : decode cX11_reachWorker 8 = .ok (.astore_n 2, 1) := by decide +kernel
theorem dX11_reachWorker_9 : decode cX11_reachWorker 9 = .ok (.aload_n 0, 1) := by decide +kernel
theorem dX11_reachWorker_10 : decode cX11_reachWorker 10 = .ok (.aload_n 1, 1) := by decide +kernel
theorem dX11_reachWorker_11 : decode cX11_reachWorker 11 = .ok (.getfield 224, 3) := by decide +kernel
theorem dX11_reachWorker_14 : decode cX11_reachWorker 14 = .ok (.aload_n 1, 1) := by decide +kernel
theorem dX11_reachWorker_15 : decode cX11_reachWorker 15 = .ok (.getfield 230, 3) := by decide +kernel
theorem dX11_reachWorker_18 : decode cX11_reachWorker 18 = .ok (.invokevirtual 186, 3) := by decide +kernel
theorem dX11_reachWorker_21 : decode cX11_reachWorker 21 = .ok (.astore_n 3, 1) := by decide +kernel
theorem dX11_reachWorker_22 : decode cX11_reachWorker 22 = .ok (.aload_n 0, 1) := by decide +kernel
theorem dX11_reachWorker_23 : decode cX11_reachWorker 23 = .ok (.aload_n 1, 1) := by decide +kernel
theorem dX11_reachWorker_24 : decode cX11_reachWorker 24 = .ok (.getfield 230, 3) := by decide +kernel
theorem dX11_reachWorker_27 : decode cX11_reachWorker 27 = .ok (.invokevirtual 156, 3) := by decide +kernel
theorem dX11_reachWorker_30 : decode cX11_reachWorker 30 = .ok (.astore 4, 2) := by decide +kernel
theorem dX11_reachWorker_32 : decode cX11_reachWorker 32 = .ok (.aload_n 2, 1) := by decide +kernel
theorem dX11_reachWorker_33 : decode cX11_reachWorker 33 = .ok (.ifnull 19, 3) := by decide +kernel
theorem dX11_reachWorker_36 : decode cX11_reachWorker 36 = .ok (.aload_n 3, 1) := by decide +kernel
theorem dX11_reachWorker_37 : decode cX11_reachWorker 37 = .ok (.ifnull 15, 3) := by decide +kernel
theorem dX11_reachWorker_40 : decode cX11_reachWorker 40 = .ok (.aload 4, 2) := by decide +kernel
theorem dX11_reachWorker_42 : decode cX11_reachWorker 42 = .ok (.ifnull 10, 3) := by decide +kernel
theorem dX11_reachWorker_45 : decode cX11_reachWorker 45 = .ok (.aload_n 2, 1) := by decide +kernel
theorem dX11_reachWorker_46 : decode cX11_reachWorker 46 = .ok (.getfield 143, 3) := by decide +kernel
theorem dX11_reachWorker_49 : decode cX11_reachWorker 49 = .ok (.ifCond .ne 5, 3) := by decide +kernel
theorem dX11_reachWorker_52 : decode cX11_reachWorker 52 = .ok (.iconst 0, 1) := by decide +kernel
theorem dX11_reachWorker_53 : decode cX11_reachWorker 53 = .ok (.ireturn, 1) := by decide +kernel
theorem dX11_reachWorker_54 : decode cX11_reachWorker 54 = .ok (.aload_n 1, 1) := by decide +kernel
theorem dX11_reachWorker_55 : decode cX11_reachWorker 55 = .ok (.getfield 221, 3) := by decide +kernel
theorem dX11_reachWorker_58 : decode cX11_reachWorker 58 = .ok (.tableswitch 67 4 7 #[30, 51, 67, 59], 30) := by decide +kernel
theorem dX11_reachWorker_88 : decode cX11_reachWorker 88 = .ok (.aload_n 1, 1) := by decide +kernel
theorem dX11_reachWorker_89 : decode cX11_reachWorker 89 = .ok (.aload_n 3, 1) := by decide +kernel
theorem dX11_reachWorker_90 : decode cX11_reachWorker 90 = .ok (.aload_n 2, 1) := by decide +kernel
theorem dX11_reachWorker_91 : decode cX11_reachWorker 91 = .ok (.aload_n 0, 1) := by decide +kernel
theorem dX11_reachWorker_92 : decode cX11_reachWorker 92 = .ok (.getfield 43, 3) := by decide +kernel
theorem dX11_reachWorker_95 : decode cX11_reachWorker 95 = .ok (.invokevirtual 408, 3) := by decide +kernel
theorem dX11_reachWorker_98 : decode cX11_reachWorker 98 = .ok (.aload 4, 2) := by decide +kernel
theorem dX11_reachWorker_100 : decode cX11_reachWorker 100 = .ok (.getfield 271, 3) := by decide +kernel
theorem dX11_reachWorker_103 : decode cX11_reachWorker 103 = .ok (.invokestatic 492, 3) := by decide +kernel
theorem dX11_reachWorker_106 : decode cX11_reachWorker 106 = .ok (.goto 29, 3) := by decide +kernel
theorem dX11_reachWorker_109 : decode cX11_reachWorker 109 = .ok (.aload_n 1, 1) := by decide +kernel
theorem dX11_reachWorker_110 : decode cX11_reachWorker 110 = .ok (.aload_n 3, 1) := by decide +kernel
theorem dX11_reachWorker_111 : decode cX11_reachWorker 111 = .ok (.invokestatic 496, 3) := by decide +kernel
theorem dX11_reachWorker_114 : decode cX11_reachWorker 114 = .ok (.goto 21, 3) := by decide +kernel
theorem dX11_reachWorker_117 : decode cX11_reachWorker 117 = .ok (.aload_n 1, 1) := by decide +kernel
theorem dX11_reachWorker_118 : decode cX11_reachWorker 118 = .ok (.aload_n 3, 1) := by decide +kernel
theorem dX11_reachWorker_119 : decode cX11_reachWorker 119 = .ok (.invokestatic 500, 3) := by decide +kernel
theorem dX11_reachWorker_122 : decode cX11_reachWorker 122 = .ok (.goto 13, 3) := by decide +kernel
theorem dX11_reachWorker_125 : decode cX11_reachWorker 125 = .ok (.aload_n 0, 1) := by decide +kernel
theorem dX11_reachWorker_126 : decode cX11_reachWorker 126 = .ok (.dup, 1) := by decide +kernel
theorem dX11_reachWorker_127 : decode cX11_reachWorker 127 = .ok (.getfield 61, 3) := by decide +kernel
theorem dX11_reachWorker_130 : decode cX11_reachWorker 130 = .ok (.iconst 1, 1) := by decide +kernel
theorem dX11_reachWorker_131 : decode cX11_reachWorker 131 = .ok (.iadd, 1) := by decide +kernel
theorem dX11_reachWorker_132 : decode cX11_reachWorker 132 = .ok (.putfield 61, 3) := by decide +kernel
theorem dX11_reachWorker_135 : decode cX11_reachWorker 135 = .ok (.iconst 1, 1) := by decide +kernel
theorem dX11_reachWorker_136 : decode cX11_reachWorker 136 = .ok (.ireturn, 1) := by decide +kernel
theorem dX11_hearGrant_0 : decode cX11_hearGrant 0 = .ok (.aload_n 1, 1) := by decide +kernel
theorem dX11_hearGrant_1 : decode cX11_hearGrant 1 = .ok (.getfield 303, 3) := by decide +kernel
theorem dX11_hearGrant_4 : decode cX11_hearGrant 4 = .ok (.aload_n 0, 1) := by decide +kernel
theorem dX11_hearGrant_5 : decode cX11_hearGrant 5 = .ok (.getfield 243, 3) := by decide +kernel
theorem dX11_hearGrant_8 : decode cX11_hearGrant 8 = .ok (.if_icmp .eq 4, 3) := by decide +kernel
theorem dX11_hearGrant_11 : decode cX11_hearGrant 11 = .ok (.return_, 1) := by decide +kernel
theorem dX11_hearGrant_12 : decode cX11_hearGrant 12 = .ok (.aload_n 1, 1) := by decide +kernel
theorem dX11_hearGrant_13 : decode cX11_hearGrant 13 = .ok (.iconst 0, 1) := by decide +kernel
theorem dX11_hearGrant_14 : decode cX11_hearGrant 14 = .ok (.putfield 303, 3) := by decide +kernel
theorem dX11_hearGrant_17 : decode cX11_hearGrant 17 = .ok (.aload_n 0, 1) := by decide +kernel
theorem dX11_hearGrant_18 : decode cX11_hearGrant 18 = .ok (.getfield 240, 3) := by decide +kernel
theorem dX11_hearGrant_21 : decode cX11_hearGrant 21 = .ok (.iload 4, 2) := by decide +kernel
theorem dX11_hearGrant_23 : decode cX11_hearGrant 23 = .ok (.i2l, 1) := by decide +kernel
theorem dX11_hearGrant_24 : decode cX11_hearGrant 24 = .ok (.ladd, 1) := by decide +kernel
theorem dX11_hearGrant_25 : decode cX11_hearGrant 25 = .ok (.lstore 5, 2) := by decide +kernel
theorem dX11_hearGrant_27 : decode cX11_hearGrant 27 = .ok (.lload 5, 2) := by decide +kernel
theorem dX11_hearGrant_29 : decode cX11_hearGrant 29 = .ok (.lload_n 2, 1) := by decide +kernel
theorem dX11_hearGrant_30 : decode cX11_hearGrant 30 = .ok (.lcmp, 1) := by decide +kernel
theorem dX11_hearGrant_31 : decode cX11_hearGrant 31 = .ok (.ifCond .le 10, 3) := by decide +kernel
theorem dX11_hearGrant_34 : decode cX11_hearGrant 34 = .ok (.aload_n 1, 1) := by decide +kernel
theorem dX11_hearGrant_35 : decode cX11_hearGrant 35 = .ok (.aload_n 0, 1) := by decide +kernel
theorem dX11_hearGrant_36 : decode cX11_hearGrant 36 = .ok (.lload 5, 2) := by decide +kernel
theorem dX11_hearGrant_38 : decode cX11_hearGrant 38 = .ok (.invokevirtual 503, 3) := by decide +kernel
theorem dX11_hearGrant_41 : decode cX11_hearGrant 41 = .ok (.return_, 1) := by decide +kernel
theorem dX11_hearRefusal_0 : decode cX11_hearRefusal 0 = .ok (.aload_n 1, 1) := by decide +kernel
theorem dX11_hearRefusal_1 : decode cX11_hearRefusal 1 = .ok (.getfield 303, 3) := by decide +kernel
theorem dX11_hearRefusal_4 : decode cX11_hearRefusal 4 = .ok (.aload_n 0, 1) := by decide +kernel
theorem dX11_hearRefusal_5 : decode cX11_hearRefusal 5 = .ok (.getfield 243, 3) := by decide +kernel
theorem dX11_hearRefusal_8 : decode cX11_hearRefusal 8 = .ok (.if_icmp .ne 8, 3) := by decide +kernel
theorem dX11_hearRefusal_11 : decode cX11_hearRefusal 11 = .ok (.aload_n 1, 1) := by decide +kernel
theorem dX11_hearRefusal_12 : decode cX11_hearRefusal 12 = .ok (.iconst 0, 1) := by decide +kernel
theorem dX11_hearRefusal_13 : decode cX11_hearRefusal 13 = .ok (.putfield 303, 3) := by decide +kernel
theorem dX11_hearRefusal_16 : decode cX11_hearRefusal 16 = .ok (.return_, 1) := by decide +kernel
theorem dX11_hearLate_0 : decode cX11_hearLate 0 = .ok (.aload_n 1, 1) := by decide +kernel
theorem dX11_hearLate_1 : decode cX11_hearLate 1 = .ok (.getfield 196, 3) := by decide +kernel
theorem dX11_hearLate_4 : decode cX11_hearLate 4 = .ok (.aload_n 0, 1) := by decide +kernel
theorem dX11_hearLate_5 : decode cX11_hearLate 5 = .ok (.getfield 235, 3) := by decide +kernel
theorem dX11_hearLate_8 : decode cX11_hearLate 8 = .ok (.lcmp, 1) := by decide +kernel
theorem dX11_hearLate_9 : decode cX11_hearLate 9 = .ok (.ifCond .ne 8, 3) := by decide +kernel
theorem dX11_hearLate_12 : decode cX11_hearLate 12 = .ok (.aload_n 1, 1) := by decide +kernel
theorem dX11_hearLate_13 : decode cX11_hearLate 13 = .ok (.iconst 0, 1) := by decide +kernel
theorem dX11_hearLate_14 : decode cX11_hearLate 14 = .ok (.putfield 135, 3) := by decide +kernel
theorem dX11_hearLate_17 : decode cX11_hearLate 17 = .ok (.return_, 1) := by decide +kernel
theorem dX11_mayUse_0 : decode cX11_mayUse 0 = .ok (.aload_n 0, 1) := by decide +kernel
theorem dX11_mayUse_1 : decode cX11_mayUse 1 = .ok (.iload_n 1, 1) := by decide +kernel
theorem dX11_mayUse_2 : decode cX11_mayUse 2 = .ok (.invokevirtual 127, 3) := by decide +kernel
theorem dX11_mayUse_5 : decode cX11_mayUse 5 = .ok (.astore_n 3, 1) := by decide +kernel
theorem dX11_mayUse_6 : decode cX11_mayUse 6 = .ok (.aload_n 0, 1) := by decide +kernel
theorem dX11_mayUse_7 : decode cX11_mayUse 7 = .ok (.iload_n 1, 1) := by decide +kernel
theorem dX11_mayUse_8 : decode cX11_mayUse 8 = .ok (.iload_n 2, 1) := by decide +kernel
theorem dX11_mayUse_9 : decode cX11_mayUse 9 = .ok (.invokevirtual 186, 3) := by decide +kernel
theorem dX11_mayUse_12 : decode cX11_mayUse 12 = .ok (.astore 4, 2) := by decide +kernel
theorem dX11_mayUse_14 : decode cX11_mayUse 14 = .ok (.aload_n 3, 1) := by decide +kernel
theorem dX11_mayUse_15 : decode cX11_mayUse 15 = .ok (.ifnull 44, 3) := by decide +kernel
theorem dX11_mayUse_18 : decode cX11_mayUse 18 = .ok (.aload 4, 2) := by decide +kernel
theorem dX11_mayUse_20 : decode cX11_mayUse 20 = .ok (.ifnull 39, 3) := by decide +kernel
theorem dX11_mayUse_23 : decode cX11_mayUse 23 = .ok (.aload_n 3, 1) := by decide +kernel
theorem dX11_mayUse_24 : decode cX11_mayUse 24 = .ok (.getfield 143, 3) := by decide +kernel
theorem dX11_mayUse_27 : decode cX11_mayUse 27 = .ok (.ifCond .eq 32, 3) := by decide +kernel
theorem dX11_mayUse_30 : decode cX11_mayUse 30 = .ok (.aload 4, 2) := by decide +kernel
theorem dX11_mayUse_32 : decode cX11_mayUse 32 = .ok (.getfield 135, 3) := by decide +kernel
theorem dX11_mayUse_35 : decode cX11_mayUse 35 = .ok (.ifCond .eq 24, 3) := by decide +kernel
theorem dX11_mayUse_38 : decode cX11_mayUse 38 = .ok (.aload_n 3, 1) := by decide +kernel
theorem dX11_mayUse_39 : decode cX11_mayUse 39 = .ok (.aload_n 0, 1) := by decide +kernel
theorem dX11_mayUse_40 : decode cX11_mayUse 40 = .ok (.getfield 43, 3) := by decide +kernel
theorem dX11_mayUse_43 : decode cX11_mayUse 43 = .ok (.invokevirtual 408, 3) := by decide +kernel
theorem dX11_mayUse_46 : decode cX11_mayUse 46 = .ok (.aload 4, 2) := by decide +kernel
theorem dX11_mayUse_48 : decode cX11_mayUse 48 = .ok (.getfield 306, 3) := by decide +kernel
theorem dX11_mayUse_51 : decode cX11_mayUse 51 = .ok (.lcmp, 1) := by decide +kernel
theorem dX11_mayUse_52 : decode cX11_mayUse 52 = .ok (.ifCond .ge 7, 3) := by decide +kernel
theorem dX11_mayUse_55 : decode cX11_mayUse 55 = .ok (.iconst 1, 1) := by decide +kernel
theorem dX11_mayUse_56 : decode cX11_mayUse 56 = .ok (.goto 4, 3) := by decide +kernel
theorem dX11_mayUse_59 : decode cX11_mayUse 59 = .ok (.iconst 0, 1) := by decide +kernel
theorem dX11_mayUse_60 : decode cX11_mayUse 60 = .ok (.ireturn, 1) := by decide +kernel
theorem dX11_usersOf_0 : decode cX11_usersOf 0 = .ok (.iconst 0, 1) := by decide +kernel
theorem dX11_usersOf_1 : decode cX11_usersOf 1 = .ok (.istore_n 2, 1) := by decide +kernel
theorem dX11_usersOf_2 : decode cX11_usersOf 2 = .ok (.iconst 0, 1) := by decide +kernel
theorem dX11_usersOf_3 : decode cX11_usersOf 3 = .ok (.istore_n 3, 1) := by decide +kernel
theorem dX11_usersOf_4 : decode cX11_usersOf 4 = .ok (.iload_n 3, 1) := by decide +kernel
theorem dX11_usersOf_5 : decode cX11_usersOf 5 = .ok (.aload_n 0, 1) := by decide +kernel
theorem dX11_usersOf_6 : decode cX11_usersOf 6 = .ok (.getfield 16, 3) := by decide +kernel
theorem dX11_usersOf_9 : decode cX11_usersOf 9 = .ok (.invokevirtual 87, 3) := by decide +kernel
theorem dX11_usersOf_12 : decode cX11_usersOf 12 = .ok (.if_icmp .ge 26, 3) := by decide +kernel
theorem dX11_usersOf_15 : decode cX11_usersOf 15 = .ok (.iload_n 2, 1) := by decide +kernel
theorem dX11_usersOf_16 : decode cX11_usersOf 16 = .ok (.aload_n 0, 1) := by decide +kernel
theorem dX11_usersOf_17 : decode cX11_usersOf 17 = .ok (.iload_n 3, 1) := by decide +kernel
theorem dX11_usersOf_18 : decode cX11_usersOf 18 = .ok (.iload_n 1, 1) := by decide +kernel
theorem dX11_usersOf_19 : decode cX11_usersOf 19 = .ok (.invokevirtual 300, 3) := by decide +kernel
theorem dX11_usersOf_22 : decode cX11_usersOf 22 = .ok (.ifCond .eq 7, 3) := by decide +kernel
theorem dX11_usersOf_25 : decode cX11_usersOf 25 = .ok (.iconst 1, 1) := by decide +kernel
theorem dX11_usersOf_26 : decode cX11_usersOf 26 = .ok (.goto 4, 3) := by decide +kernel
theorem dX11_usersOf_29 : decode cX11_usersOf 29 = .ok (.iconst 0, 1) := by decide +kernel
theorem dX11_usersOf_30 : decode cX11_usersOf 30 = .ok (.iadd, 1) := by decide +kernel
theorem dX11_usersOf_31 : decode cX11_usersOf 31 = .ok (.istore_n 2, 1) := by decide +kernel
theorem dX11_usersOf_32 : decode cX11_usersOf 32 = .ok (.iinc 3 1, 3) := by decide +kernel
theorem dX11_usersOf_35 : decode cX11_usersOf 35 = .ok (.goto (-31), 3) := by decide +kernel
theorem dX11_usersOf_38 : decode cX11_usersOf 38 = .ok (.iload_n 2, 1) := by decide +kernel
theorem dX11_usersOf_39 : decode cX11_usersOf 39 = .ok (.ireturn, 1) := by decide +kernel
theorem dX11_thingsInClash_0 : decode cX11_thingsInClash 0 = .ok (.iconst 0, 1) := by decide +kernel
theorem dX11_thingsInClash_1 : decode cX11_thingsInClash 1 = .ok (.istore_n 1, 1) := by decide +kernel
theorem dX11_thingsInClash_2 : decode cX11_thingsInClash 2 = .ok (.iconst 0, 1) := by decide +kernel
theorem dX11_thingsInClash_3 : decode cX11_thingsInClash 3 = .ok (.istore_n 2, 1) := by decide +kernel
theorem dX11_thingsInClash_4 : decode cX11_thingsInClash 4 = .ok (.iload_n 2, 1) := by decide +kernel
theorem dX11_thingsInClash_5 : decode cX11_thingsInClash 5 = .ok (.aload_n 0, 1) := by decide +kernel
theorem dX11_thingsInClash_6 : decode cX11_thingsInClash 6 = .ok (.getfield 19, 3) := by decide +kernel
theorem dX11_thingsInClash_9 : decode cX11_thingsInClash 9 = .ok (.invokevirtual 87, 3) := by decide +kernel
theorem dX11_thingsInClash_12 : decode cX11_thingsInClash 12 = .ok (.if_icmp .ge 36, 3) := by decide +kernel
theorem dX11_thingsInClash_15 : decode cX11_thingsInClash 15 = .ok (.iload_n 1, 1) := by decide +kernel
theorem dX11_thingsInClash_16 : decode cX11_thingsInClash 16 = .ok (.aload_n 0, 1) := by decide +kernel
theorem dX11_thingsInClash_17 : decode cX11_thingsInClash 17 = .ok (.aload_n 0, 1) := by decide +kernel
theorem dX11_thingsInClash_18 : decode cX11_thingsInClash 18 = .ok (.getfield 19, 3) := by decide +kernel
theorem dX11_thingsInClash_21 : decode cX11_thingsInClash 21 = .ok (.iload_n 2, 1) := by decide +kernel
theorem dX11_thingsInClash_22 : decode cX11_thingsInClash 22 = .ok (.invokevirtual 383, 3) := by decide +kernel
theorem dX11_thingsInClash_25 : decode cX11_thingsInClash 25 = .ok (.checkcast 161, 3) := by decide +kernel
theorem dX11_thingsInClash_28 : decode cX11_thingsInClash 28 = .ok (.iload_n 2, 1) := by decide +kernel
theorem dX11_thingsInClash_29 : decode cX11_thingsInClash 29 = .ok (.invokevirtual 507, 3) := by decide +kernel
theorem dX11_thingsInClash_32 : decode cX11_thingsInClash 32 = .ok (.ifCond .eq 7, 3) := by decide +kernel
theorem dX11_thingsInClash_35 : decode cX11_thingsInClash 35 = .ok (.iconst 1, 1) := by decide +kernel
theorem dX11_thingsInClash_36 : decode cX11_thingsInClash 36 = .ok (.goto 4, 3) := by decide +kernel
theorem dX11_thingsInClash_39 : decode cX11_thingsInClash 39 = .ok (.iconst 0, 1) := by decide +kernel
theorem dX11_thingsInClash_40 : decode cX11_thingsInClash 40 = .ok (.iadd, 1) := by decide +kernel
theorem dX11_thingsInClash_41 : decode cX11_thingsInClash 41 = .ok (.istore_n 1, 1) := by decide +kernel
theorem dX11_thingsInClash_42 : decode cX11_thingsInClash 42 = .ok (.iinc 2 1, 3) := by decide +kernel
theorem dX11_thingsInClash_45 : decode cX11_thingsInClash 45 = .ok (.goto (-41), 3) := by decide +kernel
theorem dX11_thingsInClash_48 : decode cX11_thingsInClash 48 = .ok (.iload_n 1, 1) := by decide +kernel
theorem dX11_thingsInClash_49 : decode cX11_thingsInClash 49 = .ok (.ireturn, 1) := by decide +kernel
theorem dX11_isInClash_0 : decode cX11_isInClash 0 = .ok (.iconst 0, 1) := by decide +kernel
theorem dX11_isInClash_1 : decode cX11_isInClash 1 = .ok (.istore_n 3, 1) := by decide +kernel
theorem dX11_isInClash_2 : decode cX11_isInClash 2 = .ok (.iconst 0, 1) := by decide +kernel
theorem dX11_isInClash_3 : decode cX11_isInClash 3 = .ok (.istore 4, 2) := by decide +kernel
theorem dX11_isInClash_5 : decode cX11_isInClash 5 = .ok (.iconst 0, 1) := by decide +kernel
theorem dX11_isInClash_6 : decode cX11_isInClash 6 = .ok (.istore 5, 2) := by decide +kernel
theorem dX11_isInClash_8 : decode cX11_isInClash 8 = .ok (.iconst 0, 1) := by decide +kernel
theorem dX11_isInClash_9 : decode cX11_isInClash 9 = .ok (.istore 6, 2) := by decide +kernel
theorem dX11_isInClash_11 : decode cX11_isInClash 11 = .ok (.iload 6, 2) := by decide +kernel
theorem dX11_isInClash_13 : decode cX11_isInClash 13 = .ok (.aload_n 0, 1) := by decide +kernel
theorem dX11_isInClash_14 : decode cX11_isInClash 14 = .ok (.getfield 16, 3) := by decide +kernel
theorem dX11_isInClash_17 : decode cX11_isInClash 17 = .ok (.invokevirtual 87, 3) := by decide +kernel
theorem dX11_isInClash_20 : decode cX11_isInClash 20 = .ok (.if_icmp .ge 64, 3) := by decide +kernel
theorem dX11_isInClash_23 : decode cX11_isInClash 23 = .ok (.aload_n 0, 1) := by decide +kernel
theorem dX11_isInClash_24 : decode cX11_isInClash 24 = .ok (.iload 6, 2) := by decide +kernel
theorem dX11_isInClash_26 : decode cX11_isInClash 26 = .ok (.iload_n 2, 1) := by decide +kernel
theorem dX11_isInClash_27 : decode cX11_isInClash 27 = .ok (.invokevirtual 186, 3) := by decide +kernel
theorem dX11_isInClash_30 : decode cX11_isInClash 30 = .ok (.astore 7, 2) := by decide +kernel
theorem dX11_isInClash_32 : decode cX11_isInClash 32 = .ok (.aload 7, 2) := by decide +kernel
theorem dX11_isInClash_34 : decode cX11_isInClash 34 = .ok (.ifnull 44, 3) := by decide +kernel
theorem dX11_isInClash_37 : decode cX11_isInClash 37 = .ok (.aload_n 0, 1) := by decide +kernel
theorem dX11_isInClash_38 : decode cX11_isInClash 38 = .ok (.iload 6, 2) := by decide +kernel
theorem dX11_isInClash_40 : decode cX11_isInClash 40 = .ok (.iload_n 2, 1) := by decide +kernel
theorem dX11_isInClash_41 : decode cX11_isInClash 41 = .ok (.invokevirtual 300, 3) := by decide +kernel
theorem dX11_isInClash_44 : decode cX11_isInClash 44 = .ok (.ifCond .eq 34, 3) := by decide +kernel
theorem dX11_isInClash_47 : decode cX11_isInClash 47 = .ok (.iinc 3 1, 3) := by decide +kernel
theorem dX11_isInClash_50 : decode cX11_isInClash 50 = .ok (.iload 4, 2) := by decide +kernel
theorem dX11_isInClash_52 : decode cX11_isInClash 52 = .ok (.aload 7, 2) := by decide +kernel
theorem dX11_isInClash_54 : decode cX11_isInClash 54 = .ok (.getfield 190, 3) := by decide +kernel
theorem dX11_isInClash_57 : decode cX11_isInClash 57 = .ok (.ifCond .ne 7, 3) := by decide +kernel
theorem dX11_isInClash_60 : decode cX11_isInClash 60 = .ok (.iconst 1, 1) := by decide +kernel
theorem dX11_isInClash_61 : decode cX11_isInClash 61 = .ok (.goto 4, 3) := by decide +kernel
theorem dX11_isInClash_64 : decode cX11_isInClash 64 = .ok (.iconst 0, 1) := by decide +kernel
theorem dX11_isInClash_65 : decode cX11_isInClash 65 = .ok (.iadd, 1) := by decide +kernel
theorem dX11_isInClash_66 : decode cX11_isInClash 66 = .ok (.istore 4, 2) := by decide +kernel
theorem dX11_isInClash_68 : decode cX11_isInClash 68 = .ok (.iload 5, 2) := by decide +kernel
theorem dX11_isInClash_70 : decode cX11_isInClash 70 = .ok (.aload 7, 2) := by decide +kernel
theorem dX11_isInClash_72 : decode cX11_isInClash 72 = .ok (.getfield 193, 3) := by decide +kernel
theorem dX11_isInClash_75 : decode cX11_isInClash 75 = .ok (.iadd, 1) := by decide +kernel
theorem dX11_isInClash_76 : decode cX11_isInClash 76 = .ok (.istore 5, 2) := by decide +kernel
theorem dX11_isInClash_78 : decode cX11_isInClash 78 = .ok (.iinc 6 1, 3) := by decide +kernel
theorem dX11_isInClash_81 : decode cX11_isInClash 81 = .ok (.goto (-70), 3) := by decide +kernel
theorem dX11_isInClash_84 : decode cX11_isInClash 84 = .ok (.aload_n 1, 1) := by decide +kernel
theorem dX11_isInClash_85 : decode cX11_isInClash 85 = .ok (.instanceof 277, 3) := by decide +kernel
theorem dX11_isInClash_88 : decode cX11_isInClash 88 = .ok (.ifCond .eq 27, 3) := by decide +kernel
theorem dX11_isInClash_91 : decode cX11_isInClash 91 = .ok (.aload_n 1, 1) := by decide +kernel
theorem dX11_isInClash_92 : decode cX11_isInClash 92 = .ok (.checkcast 277, 3) := by decide +kernel
theorem dX11_isInClash_95 : decode cX11_isInClash 95 = .ok (.astore 6, 2) := by decide +kernel
theorem dX11_isInClash_97 : decode cX11_isInClash 97 = .ok (.iload 5, 2) := by decide +kernel
theorem dX11_isInClash_99 : decode cX11_isInClash 99 = .ok (.aload 6, 2) := by decide +kernel
theorem dX11_isInClash_101 : decode cX11_isInClash 101 = .ok (.getfield 279, 3) := by decide +kernel
theorem dX11_isInClash_104 : decode cX11_isInClash 104 = .ok (.if_icmp .le 7, 3) := by decide +kernel
theorem dX11_isInClash_107 : decode cX11_isInClash 107 = .ok (.iconst 1, 1) := by decide +kernel
theorem dX11_isInClash_108 : decode cX11_isInClash 108 = .ok (.goto 22, 3) := by decide +kernel
theorem dX11_isInClash_111 : decode cX11_isInClash 111 = .ok (.iconst 0, 1) := by decide +kernel
theorem dX11_isInClash_112 : decode cX11_isInClash 112 = .ok (.goto 18, 3) := by decide +kernel
theorem dX11_isInClash_115 : decode cX11_isInClash 115 = .ok (.iload 4, 2) := by decide +kernel
theorem dX11_isInClash_117 : decode cX11_isInClash 117 = .ok (.ifCond .le 12, 3) := by decide +kernel
theorem dX11_isInClash_120 : decode cX11_isInClash 120 = .ok (.iload_n 3, 1) := by decide +kernel
theorem dX11_isInClash_121 : decode cX11_isInClash 121 = .ok (.iconst 1, 1) := by decide +kernel
theorem dX11_isInClash_122 : decode cX11_isInClash 122 = .ok (.if_icmp .le 7, 3) := by decide +kernel
theorem dX11_isInClash_125 : decode cX11_isInClash 125 = .ok (.iconst 1, 1) := by decide +kernel
theorem dX11_isInClash_126 : decode cX11_isInClash 126 = .ok (.goto 4, 3) := by decide +kernel
theorem dX11_isInClash_129 : decode cX11_isInClash 129 = .ok (.iconst 0, 1) := by decide +kernel
theorem dX11_isInClash_130 : decode cX11_isInClash 130 = .ok (.ireturn, 1) := by decide +kernel
theorem dX11_lettersUnderWay_0 : decode cX11_lettersUnderWay 0 = .ok (.iconst 0, 1) := by decide +kernel
theorem dX11_lettersUnderWay_1 : decode cX11_lettersUnderWay 1 = .ok (.istore_n 1, 1) := by decide +kernel
theorem dX11_lettersUnderWay_2 : decode cX11_lettersUnderWay 2 = .ok (.iconst 0, 1) := by decide +kernel
theorem dX11_lettersUnderWay_3 : decode cX11_lettersUnderWay 3 = .ok (.istore_n 2, 1) := by decide +kernel
theorem dX11_lettersUnderWay_4 : decode cX11_lettersUnderWay 4 = .ok (.iload_n 2, 1) := by decide +kernel
theorem dX11_lettersUnderWay_5 : decode cX11_lettersUnderWay 5 = .ok (.aload_n 0, 1) := by decide +kernel
theorem dX11_lettersUnderWay_6 : decode cX11_lettersUnderWay 6 = .ok (.getfield 22, 3) := by decide +kernel
theorem dX11_lettersUnderWay_9 : decode cX11_lettersUnderWay 9 = .ok (.invokevirtual 87, 3) := by decide +kernel
theorem dX11_lettersUnderWay_12 : decode cX11_lettersUnderWay 12 = .ok (.if_icmp .ge 34, 3) := by decide +kernel
theorem dX11_lettersUnderWay_15 : decode cX11_lettersUnderWay 15 = .ok (.iload_n 1, 1) := by decide +kernel
theorem dX11_lettersUnderWay_16 : decode cX11_lettersUnderWay 16 = .ok (.aload_n 0, 1) := by decide +kernel
theorem dX11_lettersUnderWay_17 : decode cX11_lettersUnderWay 17 = .ok (.getfield 22, 3) := by decide +kernel
theorem dX11_lettersUnderWay_20 : decode cX11_lettersUnderWay 20 = .ok (.iload_n 2, 1) := by decide +kernel
theorem dX11_lettersUnderWay_21 : decode cX11_lettersUnderWay 21 = .ok (.invokevirtual 383, 3) := by decide +kernel
theorem dX11_lettersUnderWay_24 : decode cX11_lettersUnderWay 24 = .ok (.checkcast 169, 3) := by decide +kernel
theorem dX11_lettersUnderWay_27 : decode cX11_lettersUnderWay 27 = .ok (.getfield 209, 3) := by decide +kernel
theorem dX11_lettersUnderWay_30 : decode cX11_lettersUnderWay 30 = .ok (.ifCond .ne 7, 3) := by decide +kernel
theorem dX11_lettersUnderWay_33 : decode cX11_lettersUnderWay 33 = .ok (.iconst 1, 1) := by decide +kernel
theorem dX11_lettersUnderWay_34 : decode cX11_lettersUnderWay 34 = .ok (.goto 4, 3) := by decide +kernel
theorem dX11_lettersUnderWay_37 : decode cX11_lettersUnderWay 37 = .ok (.iconst 0, 1) := by decide +kernel
theorem dX11_lettersUnderWay_38 : decode cX11_lettersUnderWay 38 = .ok (.iadd, 1) := by decide +kernel
theorem dX11_lettersUnderWay_39 : decode cX11_lettersUnderWay 39 = .ok (.istore_n 1, 1) := by decide +kernel
theorem dX11_lettersUnderWay_40 : decode cX11_lettersUnderWay 40 = .ok (.iinc 2 1, 3) := by decide +kernel
theorem dX11_lettersUnderWay_43 : decode cX11_lettersUnderWay 43 = .ok (.goto (-39), 3) := by decide +kernel
theorem dX11_lettersUnderWay_46 : decode cX11_lettersUnderWay 46 = .ok (.iload_n 1, 1) := by decide +kernel
theorem dX11_lettersUnderWay_47 : decode cX11_lettersUnderWay 47 = .ok (.ireturn, 1) := by decide +kernel
theorem dX11_refuse_0 : decode cX11_refuse 0 = .ok (.aload_n 0, 1) := by decide +kernel
theorem dX11_refuse_1 : decode cX11_refuse 1 = .ok (.iload_n 1, 1) := by decide +kernel
theorem dX11_refuse_2 : decode cX11_refuse 2 = .ok (.putfield 67, 3) := by decide +kernel
theorem dX11_refuse_5 : decode cX11_refuse 5 = .ok (.iconst (-1), 1) := by decide +kernel
theorem dX11_refuse_6 : decode cX11_refuse 6 = .ok (.ireturn, 1) := by decide +kernel
theorem dX11_canBePut_0 : decode cX11_canBePut 0 = .ok (.iload_n 1, 1) := by decide +kernel
theorem dX11_canBePut_1 : decode cX11_canBePut 1 = .ok (.tableswitch 65 0 4 #[35, 51, 37, 51, 51], 35) := by decide +kernel
theorem dX11_canBePut_36 : decode cX11_canBePut 36 = .ok (.iconst 1, 1) := by decide +kernel
theorem dX11_canBePut_37 : decode cX11_canBePut 37 = .ok (.ireturn, 1) := by decide +kernel
theorem dX11_canBePut_38 : decode cX11_canBePut 38 = .ok (.aload_n 0, 1) := by decide +kernel
theorem dX11_canBePut_39 : decode cX11_canBePut 39 = .ok (.iload_n 2, 1) := by decide +kernel
theorem dX11_canBePut_40 : decode cX11_canBePut 40 = .ok (.invokevirtual 205, 3) := by decide +kernel
theorem dX11_canBePut_43 : decode cX11_canBePut 43 = .ok (.ifnull 7, 3) := by decide +kernel
theorem dX11_canBePut_46 : decode cX11_canBePut 46 = .ok (.iconst 1, 1) := by decide +kernel
theorem dX11_canBePut_47 : decode cX11_canBePut 47 = .ok (.goto 4, 3) := by decide +kernel
theorem dX11_canBePut_50 : decode cX11_canBePut 50 = .ok (.iconst 0, 1) := by decide +kernel
theorem dX11_canBePut_51 : decode cX11_canBePut 51 = .ok (.ireturn, 1) := by decide +kernel
theorem dX11_canBePut_52 : decode cX11_canBePut 52 = .ok (.aload_n 0, 1) := by decide +kernel
theorem dX11_canBePut_53 : decode cX11_canBePut 53 = .ok (.iload_n 2, 1) := by decide +kernel
theorem dX11_canBePut_54 : decode cX11_canBePut 54 = .ok (.invokevirtual 156, 3) := by decide +kernel
theorem dX11_canBePut_57 : decode cX11_canBePut 57 = .ok (.ifnull 7, 3) := by decide +kernel
theorem dX11_canBePut_60 : decode cX11_canBePut 60 = .ok (.iconst 1, 1) := by decide +kernel
theorem dX11_canBePut_61 : decode cX11_canBePut 61 = .ok (.goto 4, 3) := by decide +kernel
theorem dX11_canBePut_64 : decode cX11_canBePut 64 = .ok (.iconst 0, 1) := by decide +kernel
theorem dX11_canBePut_65 : decode cX11_canBePut 65 = .ok (.ireturn, 1) := by decide +kernel
theorem dX11_canBePut_66 : decode cX11_canBePut 66 = .ok (.iconst 0, 1) := by decide +kernel
theorem dX11_canBePut_67 : decode cX11_canBePut 67 = .ok (.ireturn, 1) := by decide +kernel
theorem dX11_numbersOf_0 : decode cX11_numbersOf 0 = .ok (.aload_n 0, 1) := by decide +kernel
theorem dX11_numbersOf_1 : decode cX11_numbersOf 1 = .ok (.iload_n 1, 1) := by decide +kernel
theorem dX11_numbersOf_2 : decode cX11_numbersOf 2 = .ok (.invokevirtual 156, 3) := by decide +kernel
theorem dX11_numbersOf_5 : decode cX11_numbersOf 5 = .ok (.astore_n 2, 1) := by decide +kernel
theorem dX11_numbersOf_6 : decode cX11_numbersOf 6 = .ok (.aload_n 2, 1) := by decide +kernel
theorem dX11_numbersOf_7 : decode cX11_numbersOf 7 = .ok (.ifnonnull 5, 3) := by decide +kernel
theorem dX11_numbersOf_10 : decode cX11_numbersOf 10 = .ok (.aconst_null, 1) := by decide +kernel
theorem dX11_numbersOf_11 : decode cX11_numbersOf 11 = .ok (.areturn, 1) := by decide +kernel
theorem dX11_numbersOf_12 : decode cX11_numbersOf 12 = .ok (.aload_n 2, 1) := by decide +kernel
theorem dX11_numbersOf_13 : decode cX11_numbersOf 13 = .ok (.getfield 254, 3) := by decide +kernel
theorem dX11_numbersOf_16 : decode cX11_numbersOf 16 = .ok (.invokevirtual 87, 3) := by decide +kernel
theorem dX11_numbersOf_19 : decode cX11_numbersOf 19 = .ok (.newarray .long, 2) := by decide +kernel
theorem dX11_numbersOf_21 : decode cX11_numbersOf 21 = .ok (.astore_n 3, 1) := by decide +kernel
theorem dX11_numbersOf_22 : decode cX11_numbersOf 22 = .ok (.iconst 0, 1) := by decide +kernel
theorem dX11_numbersOf_23 : decode cX11_numbersOf 23 = .ok (.istore 4, 2) := by decide +kernel
theorem dX11_numbersOf_25 : decode cX11_numbersOf 25 = .ok (.iload 4, 2) := by decide +kernel
theorem dX11_numbersOf_27 : decode cX11_numbersOf 27 = .ok (.aload_n 3, 1) := by decide +kernel
theorem dX11_numbersOf_28 : decode cX11_numbersOf 28 = .ok (.arraylength, 1) := by decide +kernel
theorem dX11_numbersOf_29 : decode cX11_numbersOf 29 = .ok (.if_icmp .ge 40, 3) := by decide +kernel
theorem dX11_numbersOf_32 : decode cX11_numbersOf 32 = .ok (.iload 4, 2) := by decide +kernel
theorem dX11_numbersOf_34 : decode cX11_numbersOf 34 = .ok (.aload_n 2, 1) := by decide +kernel
theorem dX11_numbersOf_35 : decode cX11_numbersOf 35 = .ok (.getfield 254, 3) := by decide +kernel
theorem dX11_numbersOf_38 : decode cX11_numbersOf 38 = .ok (.invokevirtual 87, 3) := by decide +kernel
theorem dX11_numbersOf_41 : decode cX11_numbersOf 41 = .ok (.if_icmp .ge 28, 3) := by decide +kernel
theorem dX11_numbersOf_44 : decode cX11_numbersOf 44 = .ok (.aload_n 3, 1) := by decide +kernel
theorem dX11_numbersOf_45 : decode cX11_numbersOf 45 = .ok (.iload 4, 2) := by decide +kernel
theorem dX11_numbersOf_47 : decode cX11_numbersOf 47 = .ok (.aload_n 2, 1) := by decide +kernel
theorem dX11_numbersOf_48 : decode cX11_numbersOf 48 = .ok (.getfield 254, 3) := by decide +kernel
theorem dX11_numbersOf_51 : decode cX11_numbersOf 51 = .ok (.iload 4, 2) := by decide +kernel
theorem dX11_numbersOf_53 : decode cX11_numbersOf 53 = .ok (.invokevirtual 383, 3) := by decide +kernel
theorem dX11_numbersOf_56 : decode cX11_numbersOf 56 = .ok (.checkcast 262, 3) := by decide +kernel
theorem dX11_numbersOf_59 : decode cX11_numbersOf 59 = .ok (.getfield 266, 3) := by decide +kernel
theorem dX11_numbersOf_62 : decode cX11_numbersOf 62 = .ok (.lastore, 1) := by decide +kernel
theorem dX11_numbersOf_63 : decode cX11_numbersOf 63 = .ok (.iinc 4 1, 3) := by decide +kernel
theorem dX11_numbersOf_66 : decode cX11_numbersOf 66 = .ok (.goto (-41), 3) := by decide +kernel
theorem dX11_numbersOf_69 : decode cX11_numbersOf 69 = .ok (.aload_n 3, 1) := by decide +kernel
theorem dX11_numbersOf_70 : decode cX11_numbersOf 70 = .ok (.areturn, 1) := by decide +kernel
theorem dX11_truthsOf_0 : decode cX11_truthsOf 0 = .ok (.aload_n 0, 1) := by decide +kernel
theorem dX11_truthsOf_1 : decode cX11_truthsOf 1 = .ok (.getfield 16, 3) := by decide +kernel
theorem dX11_truthsOf_4 : decode cX11_truthsOf 4 = .ok (.invokevirtual 87, 3) := by decide +kernel
theorem dX11_truthsOf_7 : decode cX11_truthsOf 7 = .ok (.newarray .boolean, 2) := by decide +kernel
theorem dX11_truthsOf_9 : decode cX11_truthsOf 9 = .ok (.astore_n 2, 1) := by decide +kernel
theorem dX11_truthsOf_10 : decode cX11_truthsOf 10 = .ok (.iconst 0, 1) := by decide +kernel
theorem dX11_truthsOf_11 : decode cX11_truthsOf 11 = .ok (.istore_n 3, 1) := by decide +kernel
theorem dX11_truthsOf_12 : decode cX11_truthsOf 12 = .ok (.iload_n 3, 1) := by decide +kernel
theorem dX11_truthsOf_13 : decode cX11_truthsOf 13 = .ok (.aload_n 2, 1) := by decide +kernel
theorem dX11_truthsOf_14 : decode cX11_truthsOf 14 = .ok (.arraylength, 1) := by decide +kernel
theorem dX11_truthsOf_15 : decode cX11_truthsOf 15 = .ok (.if_icmp .ge 18, 3) := by decide +kernel
theorem dX11_truthsOf_18 : decode cX11_truthsOf 18 = .ok (.aload_n 2, 1) := by decide +kernel
theorem dX11_truthsOf_19 : decode cX11_truthsOf 19 = .ok (.iload_n 3, 1) := by decide +kernel
theorem dX11_truthsOf_20 : decode cX11_truthsOf 20 = .ok (.aload_n 0, 1) := by decide +kernel
theorem dX11_truthsOf_21 : decode cX11_truthsOf 21 = .ok (.iload_n 3, 1) := by decide +kernel
theorem dX11_truthsOf_22 : decode cX11_truthsOf 22 = .ok (.iload_n 1, 1) := by decide +kernel
theorem dX11_truthsOf_23 : decode cX11_truthsOf 23 = .ok (.invokevirtual 300, 3) := by decide +kernel
theorem dX11_truthsOf_26 : decode cX11_truthsOf 26 = .ok (.bastore, 1) := by decide +kernel
theorem dX11_truthsOf_27 : decode cX11_truthsOf 27 = .ok (.iinc 3 1, 3) := by decide +kernel
theorem dX11_truthsOf_30 : decode cX11_truthsOf 30 = .ok (.goto (-18), 3) := by decide +kernel
theorem dX11_truthsOf_33 : decode cX11_truthsOf 33 = .ok (.aload_n 2, 1) := by decide +kernel
theorem dX11_truthsOf_34 : decode cX11_truthsOf 34 = .ok (.areturn, 1) := by decide +kernel
theorem dX11_isOfKind_0 : decode cX11_isOfKind 0 = .ok (.iload_n 1, 1) := by decide +kernel
theorem dX11_isOfKind_1 : decode cX11_isOfKind 1 = .ok (.tableswitch 51 1 4 #[31, 36, 41, 46], 31) := by decide +kernel
theorem dX11_isOfKind_32 : decode cX11_isOfKind 32 = .ok (.aload_n 0, 1) := by decide +kernel
theorem dX11_isOfKind_33 : decode cX11_isOfKind 33 = .ok (.instanceof 390, 3) := by decide +kernel
theorem dX11_isOfKind_36 : decode cX11_isOfKind 36 = .ok (.ireturn, 1) := by decide +kernel
theorem dX11_isOfKind_37 : decode cX11_isOfKind 37 = .ok (.aload_n 0, 1) := by decide +kernel
theorem dX11_isOfKind_38 : decode cX11_isOfKind 38 = .ok (.instanceof 277, 3) := by decide +kernel
theorem dX11_isOfKind_41 : decode cX11_isOfKind 41 = .ok (.ireturn, 1) := by decide +kernel
theorem dX11_isOfKind_42 : decode cX11_isOfKind 42 = .ok (.aload_n 0, 1) := by decide +kernel
theorem dX11_isOfKind_43 : decode cX11_isOfKind 43 = .ok (.instanceof 203, 3) := by decide +kernel
theorem dX11_isOfKind_46 : decode cX11_isOfKind 46 = .ok (.ireturn, 1) := by decide +kernel
theorem dX11_isOfKind_47 : decode cX11_isOfKind 47 = .ok (.aload_n 0, 1) := by decide +kernel
theorem dX11_isOfKind_48 : decode cX11_isOfKind 48 = .ok (.instanceof 285, 3) := by decide +kernel
theorem dX11_isOfKind_51 : decode cX11_isOfKind 51 = .ok (.ireturn, 1) := by decide +kernel
theorem dX11_isOfKind_52 : decode cX11_isOfKind 52 = .ok (.aload_n 0, 1) := by decide +kernel
theorem dX11_isOfKind_53 : decode cX11_isOfKind 53 = .ok (.ifnull 7, 3) := by decide +kernel
theorem dX11_isOfKind_56 : decode cX11_isOfKind 56 = .ok (.iconst 1, 1) := by decide +kernel
theorem dX11_isOfKind_57 : decode cX11_isOfKind 57 = .ok (.goto 4, 3) := by decide +kernel
theorem dX11_isOfKind_60 : decode cX11_isOfKind 60 = .ok (.iconst 0, 1) := by decide +kernel
theorem dX11_isOfKind_61 : decode cX11_isOfKind 61 = .ok (.ireturn, 1) := by decide +kernel
theorem dX11_refuseSort_0 : decode cX11_refuseSort 0 = .ok (.aload_n 0, 1) := by decide +kernel
theorem dX11_refuseSort_1 : decode cX11_refuseSort 1 = .ok (.aload_n 1, 1) := by decide +kernel
theorem dX11_refuseSort_2 : decode cX11_refuseSort 2 = .ok (.invokevirtual 511, 3) := by decide +kernel
theorem dX11_refuseSort_5 : decode cX11_refuseSort 5 = .ok (.ifCond .eq 8, 3) := by decide +kernel
theorem dX11_refuseSort_8 : decode cX11_refuseSort 8 = .ok (.bipush 10, 2) := by decide +kernel
theorem dX11_refuseSort_10 : decode cX11_refuseSort 10 = .ok (.goto 5, 3) := by decide +kernel
theorem dX11_refuseSort_13 : decode cX11_refuseSort 13 = .ok (.bipush 11, 2) := by decide +kernel
theorem dX11_refuseSort_15 : decode cX11_refuseSort 15 = .ok (.invokevirtual 328, 3) := by decide +kernel
theorem dX11_refuseSort_18 : decode cX11_refuseSort 18 = .ok (.ireturn, 1) := by decide +kernel
theorem dX11_lengthAsKind_0 : decode cX11_lengthAsKind 0 = .ok (.aload_n 1, 1) := by decide +kernel
theorem dX11_lengthAsKind_1 : decode cX11_lengthAsKind 1 = .ok (.getfield 334, 3) := by decide +kernel
theorem dX11_lengthAsKind_4 : decode cX11_lengthAsKind 4 = .ok (.astore_n 3, 1) := by decide +kernel
theorem dX11_lengthAsKind_5 : decode cX11_lengthAsKind 5 = .ok (.aload_n 3, 1) := by decide +kernel
theorem dX11_lengthAsKind_6 : decode cX11_lengthAsKind 6 = .ok (.ifnull 11, 3) := by decide +kernel
theorem dX11_lengthAsKind_9 : decode cX11_lengthAsKind 9 = .ok (.aload_n 3, 1) := by decide +kernel
theorem dX11_lengthAsKind_10 : decode cX11_lengthAsKind 10 = .ok (.iload_n 2, 1) := by decide +kernel
theorem dX11_lengthAsKind_11 : decode cX11_lengthAsKind 11 = .ok (.invokestatic 514, 3) := by decide +kernel
theorem dX11_lengthAsKind_14 : decode cX11_lengthAsKind 14 = .ok (.ifCond .ne 11, 3) := by decide +kernel
theorem dX11_lengthAsKind_17 : decode cX11_lengthAsKind 17 = .ok (.aload_n 0, 1) := by decide +kernel
theorem dX11_lengthAsKind_18 : decode cX11_lengthAsKind 18 = .ok (.aload_n 1, 1) := by decide +kernel
theorem dX11_lengthAsKind_19 : decode cX11_lengthAsKind 19 = .ok (.invokevirtual 517, 3) := by decide +kernel
theorem dX11_lengthAsKind_22 : decode cX11_lengthAsKind 22 = .ok (.goto 7, 3) := by decide +kernel
theorem dX11_lengthAsKind_25 : decode cX11_lengthAsKind 25 = .ok (.aload_n 3, 1) := by decide +kernel
theorem dX11_lengthAsKind_26 : decode cX11_lengthAsKind 26 = .ok (.getfield 271, 3) := by decide +kernel
theorem dX11_lengthAsKind_29 : decode cX11_lengthAsKind 29 = .ok (.ireturn, 1) := by decide +kernel
theorem dX11_thingOfLetter_0 : decode cX11_thingOfLetter 0 = .ok (.aload_n 1, 1) := by decide +kernel
theorem dX11_thingOfLetter_1 : decode cX11_thingOfLetter 1 = .ok (.getfield 337, 3) := by decide +kernel
theorem dX11_thingOfLetter_4 : decode cX11_thingOfLetter 4 = .ok (.astore_n 3, 1) := by decide +kernel
theorem dX11_thingOfLetter_5 : decode cX11_thingOfLetter 5 = .ok (.aload_n 3, 1) := by decide +kernel
theorem dX11_thingOfLetter_6 : decode cX11_thingOfLetter 6 = .ok (.ifnull 11, 3) := by decide +kernel
theorem dX11_thingOfLetter_9 : decode cX11_thingOfLetter 9 = .ok (.aload_n 3, 1) := by decide +kernel
theorem dX11_thingOfLetter_10 : decode cX11_thingOfLetter 10 = .ok (.invokevirtual 212, 3) := by decide +kernel
theorem dX11_thingOfLetter_13 : decode cX11_thingOfLetter 13 = .ok (.iload_n 2, 1) := by decide +kernel
theorem dX11_thingOfLetter_14 : decode cX11_thingOfLetter 14 = .ok (.if_icmp .eq 11, 3) := by decide +kernel
theorem dX11_thingOfLetter_17 : decode cX11_thingOfLetter 17 = .ok (.aload_n 0, 1) := by decide +kernel
theorem dX11_thingOfLetter_18 : decode cX11_thingOfLetter 18 = .ok (.aload_n 1, 1) := by decide +kernel
theorem dX11_thingOfLetter_19 : decode cX11_thingOfLetter 19 = .ok (.invokevirtual 517, 3) := by decide +kernel
theorem dX11_thingOfLetter_22 : decode cX11_thingOfLetter 22 = .ok (.goto 7, 3) := by decide +kernel
theorem dX11_thingOfLetter_25 : decode cX11_thingOfLetter 25 = .ok (.aload_n 3, 1) := by decide +kernel
theorem dX11_thingOfLetter_26 : decode cX11_thingOfLetter 26 = .ok (.getfield 230, 3) := by decide +kernel
theorem dX11_thingOfLetter_29 : decode cX11_thingOfLetter 29 = .ok (.ireturn, 1) := by decide +kernel
theorem dX11_numberAt_0 : decode cX11_numberAt 0 = .ok (.aload_n 1, 1) := by decide +kernel
theorem dX11_numberAt_1 : decode cX11_numberAt 1 = .ok (.getfield 345, 3) := by decide +kernel
theorem dX11_numberAt_4 : decode cX11_numberAt 4 = .ok (.astore_n 3, 1) := by decide +kernel
theorem dX11_numberAt_5 : decode cX11_numberAt 5 = .ok (.aload_n 3, 1) := by decide +kernel
theorem dX11_numberAt_6 : decode cX11_numberAt 6 = .ok (.ifnonnull 9, 3) := by decide +kernel
theorem dX11_numberAt_9 : decode cX11_numberAt 9 = .ok (.aload_n 0, 1) := by decide +kernel
theorem dX11_numberAt_10 : decode cX11_numberAt 10 = .ok (.aload_n 1, 1) := by decide +kernel
theorem dX11_numberAt_11 : decode cX11_numberAt 11 = .ok (.invokevirtual 517, 3) := by decide +kernel
theorem dX11_numberAt_14 : decode cX11_numberAt 14 = .ok (.ireturn, 1) := by decide +kernel
theorem dX11_numberAt_15 : decode cX11_numberAt 15 = .ok (.iload_n 2, 1) := by decide +kernel
theorem dX11_numberAt_16 : decode cX11_numberAt 16 = .ok (.iconst 0, 1) := by decide +kernel
theorem dX11_numberAt_17 : decode cX11_numberAt 17 = .ok (.aload_n 3, 1) := by decide +kernel
theorem dX11_numberAt_18 : decode cX11_numberAt 18 = .ok (.arraylength, 1) := by decide +kernel
theorem dX11_numberAt_19 : decode cX11_numberAt 19 = .ok (.iconst 1, 1) := by decide +kernel
theorem dX11_numberAt_20 : decode cX11_numberAt 20 = .ok (.isub, 1) := by decide +kernel
theorem dX11_numberAt_21 : decode cX11_numberAt 21 = .ok (.invokestatic 103, 3) := by decide +kernel
theorem dX11_numberAt_24 : decode cX11_numberAt 24 = .ok (.ifCond .eq 10, 3) := by decide +kernel
theorem dX11_numberAt_27 : decode cX11_numberAt 27 = .ok (.aload_n 3, 1) := by decide +kernel
theorem dX11_numberAt_28 : decode cX11_numberAt 28 = .ok (.iload_n 2, 1) := by decide +kernel
theorem dX11_numberAt_29 : decode cX11_numberAt 29 = .ok (.laload, 1) := by decide +kernel
theorem dX11_numberAt_30 : decode cX11_numberAt 30 = .ok (.l2i, 1) := by decide +kernel
theorem dX11_numberAt_31 : decode cX11_numberAt 31 = .ok (.goto 9, 3) := by decide +kernel
theorem dX11_numberAt_34 : decode cX11_numberAt 34 = .ok (.aload_n 0, 1) := by decide +kernel
theorem dX11_numberAt_35 : decode cX11_numberAt 35 = .ok (.bipush 12, 2) := by decide +kernel
theorem dX11_numberAt_37 : decode cX11_numberAt 37 = .ok (.invokevirtual 328, 3) := by decide +kernel
theorem dX11_numberAt_40 : decode cX11_numberAt 40 = .ok (.ireturn, 1) := by decide +kernel
theorem dX11_truthAt_0 : decode cX11_truthAt 0 = .ok (.aload_n 1, 1) := by decide +kernel
theorem dX11_truthAt_1 : decode cX11_truthAt 1 = .ok (.getfield 353, 3) := by decide +kernel
theorem dX11_truthAt_4 : decode cX11_truthAt 4 = .ok (.astore_n 3, 1) := by decide +kernel
theorem dX11_truthAt_5 : decode cX11_truthAt 5 = .ok (.aload_n 3, 1) := by decide +kernel
theorem dX11_truthAt_6 : decode cX11_truthAt 6 = .ok (.ifnonnull 9, 3) := by decide +kernel
theorem dX11_truthAt_9 : decode cX11_truthAt 9 = .ok (.aload_n 0, 1) := by decide +kernel
theorem dX11_truthAt_10 : decode cX11_truthAt 10 = .ok (.aload_n 1, 1) := by decide +kernel
theorem dX11_truthAt_11 : decode cX11_truthAt 11 = .ok (.invokevirtual 517, 3) := by decide +kernel
theorem dX11_truthAt_14 : decode cX11_truthAt 14 = .ok (.ireturn, 1) := by decide +kernel
theorem dX11_truthAt_15 : decode cX11_truthAt 15 = .ok (.iload_n 2, 1) := by decide +kernel
theorem dX11_truthAt_16 : decode cX11_truthAt 16 = .ok (.iconst 0, 1) := by decide +kernel
theorem dX11_truthAt_17 : decode cX11_truthAt 17 = .ok (.aload_n 3, 1) := by decide +kernel
theorem dX11_truthAt_18 : decode cX11_truthAt 18 = .ok (.arraylength, 1) := by decide +kernel
theorem dX11_truthAt_19 : decode cX11_truthAt 19 = .ok (.iconst 1, 1) := by decide +kernel
theorem dX11_truthAt_20 : decode cX11_truthAt 20 = .ok (.isub, 1) := by decide +kernel
theorem dX11_truthAt_21 : decode cX11_truthAt 21 = .ok (.invokestatic 103, 3) := by decide +kernel
theorem dX11_truthAt_24 : decode cX11_truthAt 24 = .ok (.ifCond .ne 10, 3) := by decide +kernel
theorem dX11_truthAt_27 : decode cX11_truthAt 27 = .ok (.aload_n 0, 1) := by decide +kernel
theorem dX11_truthAt_28 : decode cX11_truthAt 28 = .ok (.bipush 12, 2) := by decide +kernel
theorem dX11_truthAt_30 : decode cX11_truthAt 30 = .ok (.invokevirtual 328, 3) := by decide +kernel
theorem dX11_truthAt_33 : decode cX11_truthAt 33 = .ok (.ireturn, 1) := by decide +kernel
theorem dX11_truthAt_34 : decode cX11_truthAt 34 = .ok (.aload_n 3, 1) := by decide +kernel
theorem dX11_truthAt_35 : decode cX11_truthAt 35 = .ok (.iload_n 2, 1) := by decide +kernel
theorem dX11_truthAt_36 : decode cX11_truthAt 36 = .ok (.baload, 1) := by decide +kernel
theorem dX11_truthAt_37 : decode cX11_truthAt 37 = .ok (.ifCond .eq 7, 3) := by decide +kernel
theorem dX11_truthAt_40 : decode cX11_truthAt 40 = .ok (.iconst 1, 1) := by decide +kernel
theorem dX11_truthAt_41 : decode cX11_truthAt 41 = .ok (.goto 4, 3) := by decide +kernel
theorem dX11_truthAt_44 : decode cX11_truthAt 44 = .ok (.iconst 0, 1) := by decide +kernel
theorem dX11_truthAt_45 : decode cX11_truthAt 45 = .ok (.ireturn, 1) := by decide +kernel
theorem dX11_sumOfCopied_0 : decode cX11_sumOfCopied 0 = .ok (.aload_n 1, 1) := by decide +kernel
theorem dX11_sumOfCopied_1 : decode cX11_sumOfCopied 1 = .ok (.getfield 345, 3) := by decide +kernel
theorem dX11_sumOfCopied_4 : decode cX11_sumOfCopied 4 = .ok (.astore_n 3, 1) := by decide +kernel
theorem dX11_sumOfCopied_5 : decode cX11_sumOfCopied 5 = .ok (.aload_n 3, 1) := by decide +kernel
theorem dX11_sumOfCopied_6 : decode cX11_sumOfCopied 6 = .ok (.ifnonnull 9, 3) := by decide +kernel
theorem dX11_sumOfCopied_9 : decode cX11_sumOfCopied 9 = .ok (.aload_n 0, 1) := by decide +kernel
theorem dX11_sumOfCopied_10 : decode cX11_sumOfCopied 10 = .ok (.aload_n 1, 1) := by decide +kernel
theorem dX11_sumOfCopied_11 : decode cX11_sumOfCopied 11 = .ok (.invokevirtual 517, 3) := by decide +kernel
theorem dX11_sumOfCopied_14 : decode cX11_sumOfCopied 14 = .ok (.ireturn, 1) := by decide +kernel
theorem dX11_sumOfCopied_15 : decode cX11_sumOfCopied 15 = .ok (.iload_n 2, 1) := by decide +kernel
theorem dX11_sumOfCopied_16 : decode cX11_sumOfCopied 16 = .ok (.ifCond .lt 18, 3) := by decide +kernel
theorem dX11_sumOfCopied_19 : decode cX11_sumOfCopied 19 = .ok (.iconst 1, 1) := by decide +kernel
theorem dX11_sumOfCopied_20 : decode cX11_sumOfCopied 20 = .ok (.iload_n 2, 1) := by decide +kernel
theorem dX11_sumOfCopied_21 : decode cX11_sumOfCopied 21 = .ok (.iadd, 1) := by decide +kernel
theorem dX11_sumOfCopied_22 : decode cX11_sumOfCopied 22 = .ok (.aload_n 3, 1) := by decide +kernel
theorem dX11_sumOfCopied_23 : decode cX11_sumOfCopied 23 = .ok (.arraylength, 1) := by decide +kernel
theorem dX11_sumOfCopied_24 : decode cX11_sumOfCopied 24 = .ok (.if_icmp .gt 10, 3) := by decide +kernel
theorem dX11_sumOfCopied_27 : decode cX11_sumOfCopied 27 = .ok (.iload_n 2, 1) := by decide +kernel
theorem dX11_sumOfCopied_28 : decode cX11_sumOfCopied 28 = .ok (.iload_n 2, 1) := by decide +kernel
theorem dX11_sumOfCopied_29 : decode cX11_sumOfCopied 29 = .ok (.iadd, 1) := by decide +kernel
theorem dX11_sumOfCopied_30 : decode cX11_sumOfCopied 30 = .ok (.iconst 5, 1) := by decide +kernel
theorem dX11_sumOfCopied_31 : decode cX11_sumOfCopied 31 = .ok (.if_icmp .le 10, 3) := by decide +kernel
theorem dX11_sumOfCopied_34 : decode cX11_sumOfCopied 34 = .ok (.aload_n 0, 1) := by decide +kernel
theorem dX11_sumOfCopied_35 : decode cX11_sumOfCopied 35 = .ok (.bipush 12, 2) := by decide +kernel
theorem dX11_sumOfCopied_37 : decode cX11_sumOfCopied 37 = .ok (.invokevirtual 328, 3) := by decide +kernel
theorem dX11_sumOfCopied_40 : decode cX11_sumOfCopied 40 = .ok (.ireturn, 1) := by decide +kernel
theorem dX11_sumOfCopied_41 : decode cX11_sumOfCopied 41 = .ok (.lconst 0, 1) := by decide +kernel
theorem dX11_sumOfCopied_42 : decode cX11_sumOfCopied 42 = .ok (.lstore 4, 2) := by decide +kernel
theorem dX11_sumOfCopied_44 : decode cX11_sumOfCopied 44 = .ok (.iconst 1, 1) := by decide +kernel
theorem dX11_sumOfCopied_45 : decode cX11_sumOfCopied 45 = .ok (.istore 6, 2) := by decide +kernel
theorem dX11_sumOfCopied_47 : decode cX11_sumOfCopied 47 = .ok (.iload 6, 2) := by decide +kernel
theorem dX11_sumOfCopied_49 : decode cX11_sumOfCopied 49 = .ok (.iload_n 2, 1) := by decide +kernel
theorem dX11_sumOfCopied_50 : decode cX11_sumOfCopied 50 = .ok (.if_icmp .gt 25, 3) := by decide +kernel
theorem dX11_sumOfCopied_53 : decode cX11_sumOfCopied 53 = .ok (.iload 6, 2) := by decide +kernel
theorem dX11_sumOfCopied_55 : decode cX11_sumOfCopied 55 = .ok (.aload_n 3, 1) := by decide +kernel
theorem dX11_sumOfCopied_56 : decode cX11_sumOfCopied 56 = .ok (.arraylength, 1) := by decide +kernel
theorem dX11_sumOfCopied_57 : decode cX11_sumOfCopied 57 = .ok (.if_icmp .ge 18, 3) := by decide +kernel
theorem dX11_sumOfCopied_60 : decode cX11_sumOfCopied 60 = .ok (.lload 4, 2) := by decide +kernel
theorem dX11_sumOfCopied_62 : decode cX11_sumOfCopied 62 = .ok (.aload_n 3, 1) := by decide +kernel
theorem dX11_sumOfCopied_63 : decode cX11_sumOfCopied 63 = .ok (.iload 6, 2) := by decide +kernel
theorem dX11_sumOfCopied_65 : decode cX11_sumOfCopied 65 = .ok (.laload, 1) := by decide +kernel
theorem dX11_sumOfCopied_66 : decode cX11_sumOfCopied 66 = .ok (.ladd, 1) := by decide +kernel
theorem dX11_sumOfCopied_67 : decode cX11_sumOfCopied 67 = .ok (.lstore 4, 2) := by decide +kernel
theorem dX11_sumOfCopied_69 : decode cX11_sumOfCopied 69 = .ok (.iinc 6 1, 3) := by decide +kernel
theorem dX11_sumOfCopied_72 : decode cX11_sumOfCopied 72 = .ok (.goto (-25), 3) := by decide +kernel
theorem dX11_sumOfCopied_75 : decode cX11_sumOfCopied 75 = .ok (.lload 4, 2) := by decide +kernel
theorem dX11_sumOfCopied_77 : decode cX11_sumOfCopied 77 = .ok (.l2i, 1) := by decide +kernel
theorem dX11_sumOfCopied_78 : decode cX11_sumOfCopied 78 = .ok (.ireturn, 1) := by decide +kernel
theorem dX11_lengthLaidAmongShared_0 : decode cX11_lengthLaidAmongShared 0 = .ok (.aload_n 1, 1) := by decide +kernel
theorem dX11_lengthLaidAmongShared_1 : decode cX11_lengthLaidAmongShared 1 = .ok (.invokevirtual 511, 3) := by decide +kernel
theorem dX11_lengthLaidAmongShared_4 : decode cX11_lengthLaidAmongShared 4 = .ok (.ifCond .eq 5, 3) := by decide +kernel
theorem dX11_lengthLaidAmongShared_7 : decode cX11_lengthLaidAmongShared 7 = .ok (.iconst 0, 1) := by decide +kernel
theorem dX11_lengthLaidAmongShared_8 : decode cX11_lengthLaidAmongShared 8 = .ok (.ireturn, 1) := by decide +kernel
theorem dX11_lengthLaidAmongShared_9 : decode cX11_lengthLaidAmongShared 9 = .ok (.aload_n 1, 1) := by decide +kernel
theorem dX11_lengthLaidAmongShared_10 : decode cX11_lengthLaidAmongShared 10 = .ok (.getfield 334, 3) := by decide +kernel
theorem dX11_lengthLaidAmongShared_13 : decode cX11_lengthLaidAmongShared 13 = .ok (.astore_n 2, 1) := by decide +kernel
theorem dX11_lengthLaidAmongShared_14 : decode cX11_lengthLaidAmongShared 14 = .ok (.aload_n 2, 1) := by decide +kernel
theorem dX11_lengthLaidAmongShared_15 : decode cX11_lengthLaidAmongShared 15 = .ok (.instanceof 390, 3) := by decide +kernel
theorem dX11_lengthLaidAmongShared_18 : decode cX11_lengthLaidAmongShared 18 = .ok (.ifCond .eq 10, 3) := by decide +kernel
theorem dX11_lengthLaidAmongShared_21 : decode cX11_lengthLaidAmongShared 21 = .ok (.aload_n 2, 1) := by decide +kernel
theorem dX11_lengthLaidAmongShared_22 : decode cX11_lengthLaidAmongShared 22 = .ok (.getfield 271, 3) := by decide +kernel
theorem dX11_lengthLaidAmongShared_25 : decode cX11_lengthLaidAmongShared 25 = .ok (.goto 9, 3) := by decide +kernel
theorem dX11_lengthLaidAmongShared_28 : decode cX11_lengthLaidAmongShared 28 = .ok (.aload_n 0, 1) := by decide +kernel
theorem dX11_lengthLaidAmongShared_29 : decode cX11_lengthLaidAmongShared 29 = .ok (.bipush 14, 2) := by decide +kernel
theorem dX11_lengthLaidAmongShared_31 : decode cX11_lengthLaidAmongShared 31 = .ok (.invokevirtual 328, 3) := by decide +kernel
theorem dX11_lengthLaidAmongShared_34 : decode cX11_lengthLaidAmongShared 34 = .ok (.ireturn, 1) := by decide +kernel
