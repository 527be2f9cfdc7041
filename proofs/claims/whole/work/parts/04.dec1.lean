theorem dX0_init_0 : decode cX0_init 0 = .ok (.aload_n 0, 1) := by decide +kernel
theorem dX0_init_1 : decode cX0_init 1 = .ok (.invokespecial 3, 3) := by decide +kernel
theorem dX0_init_4 : decode cX0_init 4 = .ok (.aload_n 0, 1) := by decide +kernel
theorem dX0_init_5 : decode cX0_init 5 = .ok (.bipush 6, 2) := by decide +kernel
theorem dX0_init_7 : decode cX0_init 7 = .ok (.newarray .int, 2) := by decide +kernel
theorem dX0_init_9 : decode cX0_init 9 = .ok (.putfield 11, 3) := by decide +kernel
theorem dX0_init_12 : decode cX0_init 12 = .ok (.aload_n 0, 1) := by decide +kernel
theorem dX0_init_13 : decode cX0_init 13 = .ok (.bipush 6, 2) := by decide +kernel
theorem dX0_init_15 : decode cX0_init 15 = .ok (.newarray .int, 2) := by decide +kernel
theorem dX0_init_17 : decode cX0_init 17 = .ok (.putfield 15, 3) := by decide +kernel
theorem dX0_init_20 : decode cX0_init 20 = .ok (.aload_n 0, 1) := by decide +kernel
theorem dX0_init_21 : decode cX0_init 21 = .ok (.bipush 6, 2) := by decide +kernel
theorem dX0_init_23 : decode cX0_init 23 = .ok (.newarray .int, 2) := by decide +kernel
theorem dX0_init_25 : decode cX0_init 25 = .ok (.putfield 18, 3) := by decide +kernel
theorem dX0_init_28 : decode cX0_init 28 = .ok (.aload_n 0, 1) := by decide +kernel
theorem dX0_init_29 : decode cX0_init 29 = .ok (.sipush 637, 3) := by decide +kernel
theorem dX0_init_32 : decode cX0_init 32 = .ok (.newarray .long, 2) := by decide +kernel
theorem dX0_init_34 : decode cX0_init 34 = .ok (.putfield 21, 3) := by decide +kernel
theorem dX0_init_37 : decode cX0_init 37 = .ok (.aload_n 0, 1) := by decide +kernel
theorem dX0_init_38 : decode cX0_init 38 = .ok (.bipush 6, 2) := by decide +kernel
theorem dX0_init_40 : decode cX0_init 40 = .ok (.newarray .int, 2) := by decide +kernel
theorem dX0_init_42 : decode cX0_init 42 = .ok (.putfield 25, 3) := by decide +kernel
theorem dX0_init_45 : decode cX0_init 45 = .ok (.aload_n 0, 1) := by decide +kernel
theorem dX0_init_46 : decode cX0_init 46 = .ok (.bipush 6, 2) := by decide +kernel
theorem dX0_init_48 : decode cX0_init 48 = .ok (.newarray .int, 2) := by decide +kernel
theorem dX0_init_50 : decode cX0_init 50 = .ok (.putfield 28, 3) := by decide +kernel
theorem dX0_init_53 : decode cX0_init 53 = .ok (.aload_n 0, 1) := by decide +kernel
theorem dX0_init_54 : decode cX0_init 54 = .ok (.ldc 31, 2) := by decide +kernel
theorem dX0_init_56 : decode cX0_init 56 = .ok (.putfield 32, 3) := by decide +kernel
theorem dX0_init_59 : decode cX0_init 59 = .ok (.return_, 1) := by decide +kernel
theorem dX0_add_0 : decode cX0_add 0 = .ok (.aload_n 0, 1) := by decide +kernel
theorem dX0_add_1 : decode cX0_add 1 = .ok (.getfield 36, 3) := by decide +kernel
theorem dX0_add_4 : decode cX0_add 4 = .ok (.bipush 6, 2) := by decide +kernel
theorem dX0_add_6 : decode cX0_add 6 = .ok (.if_icmp .lt 5, 3) := by decide +kernel
theorem dX0_add_9 : decode cX0_add 9 = .ok (.iconst (-1), 1) := by decide +kernel
theorem dX0_add_10 : decode cX0_add 10 = .ok (.ireturn, 1) := by decide +kernel
theorem dX0_add_11 : decode cX0_add 11 = .ok (.aload_n 0, 1) := by decide +kernel
theorem dX0_add_12 : decode cX0_add 12 = .ok (.getfield 11, 3) := by decide +kernel
theorem dX0_add_15 : decode cX0_add 15 = .ok (.aload_n 0, 1) := by decide +kernel
theorem dX0_add_16 : decode cX0_add 16 = .ok (.getfield 36, 3) := by decide +kernel
theorem dX0_add_19 : decode cX0_add 19 = .ok (.iload_n 1, 1) := by decide +kernel
theorem dX0_add_20 : decode cX0_add 20 = .ok (.iastore, 1) := by decide +kernel
theorem dX0_add_21 : decode cX0_add 21 = .ok (.aload_n 0, 1) := by decide +kernel
theorem dX0_add_22 : decode cX0_add 22 = .ok (.getfield 15, 3) := by decide +kernel
theorem dX0_add_25 : decode cX0_add 25 = .ok (.aload_n 0, 1) := by decide +kernel
theorem dX0_add_26 : decode cX0_add 26 = .ok (.getfield 36, 3) := by decide +kernel
theorem dX0_add_29 : decode cX0_add 29 = .ok (.iload_n 2, 1) := by decide +kernel
theorem dX0_add_30 : decode cX0_add 30 = .ok (.iastore, 1) := by decide +kernel
theorem dX0_add_31 : decode cX0_add 31 = .ok (.aload_n 0, 1) := by decide +kernel
theorem dX0_add_32 : decode cX0_add 32 = .ok (.getfield 18, 3) := by decide +kernel
theorem dX0_add_35 : decode cX0_add 35 = .ok (.aload_n 0, 1) := by decide +kernel
theorem dX0_add_36 : decode cX0_add 36 = .ok (.getfield 36, 3) := by decide +kernel
theorem dX0_add_39 : decode cX0_add 39 = .ok (.iload_n 3, 1) := by decide +kernel
theorem dX0_add_40 : decode cX0_add 40 = .ok (.iastore, 1) := by decide +kernel
theorem dX0_add_41 : decode cX0_add 41 = .ok (.aload_n 0, 1) := by decide +kernel
theorem dX0_add_42 : decode cX0_add 42 = .ok (.dup, 1) := by decide +kernel
theorem dX0_add_43 : decode cX0_add 43 = .ok (.getfield 36, 3) := by decide +kernel
theorem dX0_add_46 : decode cX0_add 46 = .ok (.iconst 1, 1) := by decide +kernel
theorem dX0_add_47 : decode cX0_add 47 = .ok (.iadd, 1) := by decide +kernel
theorem dX0_add_48 : decode cX0_add 48 = .ok (.putfield 36, 3) := by decide +kernel
theorem dX0_add_51 : decode cX0_add 51 = .ok (.aload_n 0, 1) := by decide +kernel
theorem dX0_add_52 : decode cX0_add 52 = .ok (.getfield 36, 3) := by decide +kernel
theorem dX0_add_55 : decode cX0_add 55 = .ok (.iconst 1, 1) := by decide +kernel
theorem dX0_add_56 : decode cX0_add 56 = .ok (.isub, 1) := by decide +kernel
theorem dX0_add_57 : decode cX0_add 57 = .ok (.ireturn, 1) := by decide +kernel
theorem dX0_cutOf_0 : decode cX0_cutOf 0 = .ok (.iload_n 1, 1) := by decide +kernel
theorem dX0_cutOf_1 : decode cX0_cutOf 1 = .ok (.iconst 0, 1) := by decide +kernel
theorem dX0_cutOf_2 : decode cX0_cutOf 2 = .ok (.aload_n 0, 1) := by decide +kernel
theorem dX0_cutOf_3 : decode cX0_cutOf 3 = .ok (.getfield 36, 3) := by decide +kernel
theorem dX0_cutOf_6 : decode cX0_cutOf 6 = .ok (.iconst 1, 1) := by decide +kernel
theorem dX0_cutOf_7 : decode cX0_cutOf 7 = .ok (.isub, 1) := by decide +kernel
theorem dX0_cutOf_8 : decode cX0_cutOf 8 = .ok (.invokestatic 39, 3) := by decide +kernel
theorem dX0_cutOf_11 : decode cX0_cutOf 11 = .ok (.ifCond .eq 23, 3) := by decide +kernel
theorem dX0_cutOf_14 : decode cX0_cutOf 14 = .ok (.iconst 0, 1) := by decide +kernel
theorem dX0_cutOf_15 : decode cX0_cutOf 15 = .ok (.iload_n 2, 1) := by decide +kernel
theorem dX0_cutOf_16 : decode cX0_cutOf 16 = .ok (.aload_n 0, 1) := by decide +kernel
theorem dX0_cutOf_17 : decode cX0_cutOf 17 = .ok (.getfield 18, 3) := by decide +kernel
theorem dX0_cutOf_20 : decode cX0_cutOf 20 = .ok (.iload_n 1, 1) := by decide +kernel
theorem dX0_cutOf_21 : decode cX0_cutOf 21 = .ok (.iaload, 1) := by decide +kernel
theorem dX0_cutOf_22 : decode cX0_cutOf 22 = .ok (.imul, 1) := by decide +kernel
theorem dX0_cutOf_23 : decode cX0_cutOf 23 = .ok (.bipush 10, 2) := by decide +kernel
theorem dX0_cutOf_25 : decode cX0_cutOf 25 = .ok (.iload_n 3, 1) := by decide +kernel
theorem dX0_cutOf_26 : decode cX0_cutOf 26 = .ok (.imul, 1) := by decide +kernel
theorem dX0_cutOf_27 : decode cX0_cutOf 27 = .ok (.isub, 1) := by decide +kernel
theorem dX0_cutOf_28 : decode cX0_cutOf 28 = .ok (.invokestatic 43, 3) := by decide +kernel
theorem dX0_cutOf_31 : decode cX0_cutOf 31 = .ok (.goto 4, 3) := by decide +kernel
theorem dX0_cutOf_34 : decode cX0_cutOf 34 = .ok (.iconst 0, 1) := by decide +kernel
theorem dX0_cutOf_35 : decode cX0_cutOf 35 = .ok (.ireturn, 1) := by decide +kernel
theorem dX0_caughtOf_0 : decode cX0_caughtOf 0 = .ok (.iload_n 1, 1) := by decide +kernel
theorem dX0_caughtOf_1 : decode cX0_caughtOf 1 = .ok (.iconst 0, 1) := by decide +kernel
theorem dX0_caughtOf_2 : decode cX0_caughtOf 2 = .ok (.aload_n 0, 1) := by decide +kernel
theorem dX0_caughtOf_3 : decode cX0_caughtOf 3 = .ok (.getfield 36, 3) := by decide +kernel
theorem dX0_caughtOf_6 : decode cX0_caughtOf 6 = .ok (.iconst 1, 1) := by decide +kernel
theorem dX0_caughtOf_7 : decode cX0_caughtOf 7 = .ok (.isub, 1) := by decide +kernel
theorem dX0_caughtOf_8 : decode cX0_caughtOf 8 = .ok (.invokestatic 39, 3) := by decide +kernel
theorem dX0_caughtOf_11 : decode cX0_caughtOf 11 = .ok (.ifCond .eq 27, 3) := by decide +kernel
theorem dX0_caughtOf_14 : decode cX0_caughtOf 14 = .ok (.iload_n 2, 1) := by decide +kernel
theorem dX0_caughtOf_15 : decode cX0_caughtOf 15 = .ok (.aload_n 0, 1) := by decide +kernel
theorem dX0_caughtOf_16 : decode cX0_caughtOf 16 = .ok (.getfield 11, 3) := by decide +kernel
theorem dX0_caughtOf_19 : decode cX0_caughtOf 19 = .ok (.iload_n 1, 1) := by decide +kernel
theorem dX0_caughtOf_20 : decode cX0_caughtOf 20 = .ok (.iaload, 1) := by decide +kernel
theorem dX0_caughtOf_21 : decode cX0_caughtOf 21 = .ok (.imul, 1) := by decide +kernel
theorem dX0_caughtOf_22 : decode cX0_caughtOf 22 = .ok (.iload_n 2, 1) := by decide +kernel
theorem dX0_caughtOf_23 : decode cX0_caughtOf 23 = .ok (.iload_n 2, 1) := by decide +kernel
theorem dX0_caughtOf_24 : decode cX0_caughtOf 24 = .ok (.iconst 1, 1) := by decide +kernel
theorem dX0_caughtOf_25 : decode cX0_caughtOf 25 = .ok (.isub, 1) := by decide +kernel
theorem dX0_caughtOf_26 : decode cX0_caughtOf 26 = .ok (.imul, 1) := by decide +kernel
theorem dX0_caughtOf_27 : decode cX0_caughtOf 27 = .ok (.aload_n 0, 1) := by decide +kernel
theorem dX0_caughtOf_28 : decode cX0_caughtOf 28 = .ok (.getfield 15, 3) := by decide +kernel
theorem dX0_caughtOf_31 : decode cX0_caughtOf 31 = .ok (.iload_n 1, 1) := by decide +kernel
theorem dX0_caughtOf_32 : decode cX0_caughtOf 32 = .ok (.iaload, 1) := by decide +kernel
theorem dX0_caughtOf_33 : decode cX0_caughtOf 33 = .ok (.imul, 1) := by decide +kernel
theorem dX0_caughtOf_34 : decode cX0_caughtOf 34 = .ok (.isub, 1) := by decide +kernel
theorem dX0_caughtOf_35 : decode cX0_caughtOf 35 = .ok (.goto 4, 3) := by decide +kernel
theorem dX0_caughtOf_38 : decode cX0_caughtOf 38 = .ok (.iconst 0, 1) := by decide +kernel
theorem dX0_caughtOf_39 : decode cX0_caughtOf 39 = .ok (.ireturn, 1) := by decide +kernel
theorem dX0_weightOf_0 : decode cX0_weightOf 0 = .ok (.aload_n 0, 1) := by decide +kernel
theorem dX0_weightOf_1 : decode cX0_weightOf 1 = .ok (.iload_n 1, 1) := by decide +kernel
theorem dX0_weightOf_2 : decode cX0_weightOf 2 = .ok (.iload_n 2, 1) := by decide +kernel
theorem dX0_weightOf_3 : decode cX0_weightOf 3 = .ok (.iload_n 3, 1) := by decide +kernel
theorem dX0_weightOf_4 : decode cX0_weightOf 4 = .ok (.invokevirtual 49, 3) := by decide +kernel
theorem dX0_weightOf_7 : decode cX0_weightOf 7 = .ok (.i2l, 1) := by decide +kernel
theorem dX0_weightOf_8 : decode cX0_weightOf 8 = .ok (.ldc2_w 53, 3) := by decide +kernel
theorem dX0_weightOf_11 : decode cX0_weightOf 11 = .ok (.lmul, 1) := by decide +kernel
theorem dX0_weightOf_12 : decode cX0_weightOf 12 = .ok (.aload_n 0, 1) := by decide +kernel
theorem dX0_weightOf_13 : decode cX0_weightOf 13 = .ok (.iload_n 1, 1) := by decide +kernel
theorem dX0_weightOf_14 : decode cX0_weightOf 14 = .ok (.iload_n 2, 1) := by decide +kernel
theorem dX0_weightOf_15 : decode cX0_weightOf 15 = .ok (.invokevirtual 55, 3) := by decide +kernel
theorem dX0_weightOf_18 : decode cX0_weightOf 18 = .ok (.i2l, 1) := by decide +kernel
theorem dX0_weightOf_19 : decode cX0_weightOf 19 = .ok (.lsub, 1) := by decide +kernel
theorem dX0_weightOf_20 : decode cX0_weightOf 20 = .ok (.lreturn, 1) := by decide +kernel
theorem dX0_placeOf_0 : decode cX0_placeOf 0 = .ok (.iload_n 0, 1) := by decide +kernel
theorem dX0_placeOf_1 : decode cX0_placeOf 1 = .ok (.bipush 13, 2) := by decide +kernel
theorem dX0_placeOf_3 : decode cX0_placeOf 3 = .ok (.imul, 1) := by decide +kernel
theorem dX0_placeOf_4 : decode cX0_placeOf 4 = .ok (.iload_n 1, 1) := by decide +kernel
theorem dX0_placeOf_5 : decode cX0_placeOf 5 = .ok (.iadd, 1) := by decide +kernel
theorem dX0_placeOf_6 : decode cX0_placeOf 6 = .ok (.bipush 7, 2) := by decide +kernel
theorem dX0_placeOf_8 : decode cX0_placeOf 8 = .ok (.imul, 1) := by decide +kernel
theorem dX0_placeOf_9 : decode cX0_placeOf 9 = .ok (.iload_n 2, 1) := by decide +kernel
theorem dX0_placeOf_10 : decode cX0_placeOf 10 = .ok (.iadd, 1) := by decide +kernel
theorem dX0_placeOf_11 : decode cX0_placeOf 11 = .ok (.ireturn, 1) := by decide +kernel
theorem dX0_leastFrom_0 : decode cX0_leastFrom 0 = .ok (.iload_n 1, 1) := by decide +kernel
theorem dX0_leastFrom_1 : decode cX0_leastFrom 1 = .ok (.iload_n 2, 1) := by decide +kernel
theorem dX0_leastFrom_2 : decode cX0_leastFrom 2 = .ok (.iload_n 3, 1) := by decide +kernel
theorem dX0_leastFrom_3 : decode cX0_leastFrom 3 = .ok (.invokestatic 58, 3) := by decide +kernel
theorem dX0_leastFrom_6 : decode cX0_leastFrom 6 = .ok (.istore 4, 2) := by decide +kernel
theorem dX0_leastFrom_8 : decode cX0_leastFrom 8 = .ok (.iload 4, 2) := by decide +kernel
theorem dX0_leastFrom_10 : decode cX0_leastFrom 10 = .ok (.iconst 0, 1) := by decide +kernel
theorem dX0_leastFrom_11 : decode cX0_leastFrom 11 = .ok (.aload_n 0, 1) := by decide +kernel
theorem dX0_leastFrom_12 : decode cX0_leastFrom 12 = .ok (.getfield 21, 3) := by decide +kernel
theorem dX0_leastFrom_15 : decode cX0_leastFrom 15 = .ok (.arraylength, 1) := by decide +kernel
theorem dX0_leastFrom_16 : decode cX0_leastFrom 16 = .ok (.iconst 1, 1) := by decide +kernel
theorem dX0_leastFrom_17 : decode cX0_leastFrom 17 = .ok (.isub, 1) := by decide +kernel
theorem dX0_leastFrom_18 : decode cX0_leastFrom 18 = .ok (.invokestatic 39, 3) := by decide +kernel
theorem dX0_leastFrom_21 : decode cX0_leastFrom 21 = .ok (.ifCond .eq 13, 3) := by decide +kernel
theorem dX0_leastFrom_24 : decode cX0_leastFrom 24 = .ok (.aload_n 0, 1) := by decide +kernel
theorem dX0_leastFrom_25 : decode cX0_leastFrom 25 = .ok (.getfield 21, 3) := by decide +kernel
theorem dX0_leastFrom_28 : decode cX0_leastFrom 28 = .ok (.iload 4, 2) := by decide +kernel
theorem dX0_leastFrom_30 : decode cX0_leastFrom 30 = .ok (.laload, 1) := by decide +kernel
theorem dX0_leastFrom_31 : decode cX0_leastFrom 31 = .ok (.goto 6, 3) := by decide +kernel
theorem dX0_leastFrom_34 : decode cX0_leastFrom 34 = .ok (.ldc2_w 61, 3) := by decide +kernel
theorem dX0_leastFrom_37 : decode cX0_leastFrom 37 = .ok (.lreturn, 1) := by decide +kernel
theorem dX0_give_0 : decode cX0_give 0 = .ok (.aload_n 0, 1) := by decide +kernel
theorem dX0_give_1 : decode cX0_give 1 = .ok (.getfield 21, 3) := by decide +kernel
theorem dX0_give_4 : decode cX0_give 4 = .ok (.ldc2_w 61, 3) := by decide +kernel
theorem dX0_give_7 : decode cX0_give 7 = .ok (.invokestatic 63, 3) := by decide +kernel
theorem dX0_give_10 : decode cX0_give 10 = .ok (.aload_n 0, 1) := by decide +kernel
theorem dX0_give_11 : decode cX0_give 11 = .ok (.getfield 21, 3) := by decide +kernel
theorem dX0_give_14 : decode cX0_give 14 = .ok (.aload_n 0, 1) := by decide +kernel
theorem dX0_give_15 : decode cX0_give 15 = .ok (.getfield 36, 3) := by decide +kernel
theorem dX0_give_18 : decode cX0_give 18 = .ok (.iconst 0, 1) := by decide +kernel
theorem dX0_give_19 : decode cX0_give 19 = .ok (.iconst 0, 1) := by decide +kernel
theorem dX0_give_20 : decode cX0_give 20 = .ok (.invokestatic 58, 3) := by decide +kernel
theorem dX0_give_23 : decode cX0_give 23 = .ok (.lconst 0, 1) := by decide +kernel
theorem dX0_give_24 : decode cX0_give 24 = .ok (.lastore, 1) := by decide +kernel
theorem dX0_give_25 : decode cX0_give 25 = .ok (.aload_n 0, 1) := by decide +kernel
theorem dX0_give_26 : decode cX0_give 26 = .ok (.getfield 36, 3) := by decide +kernel
theorem dX0_give_29 : decode cX0_give 29 = .ok (.iconst 1, 1) := by decide +kernel
theorem dX0_give_30 : decode cX0_give 30 = .ok (.isub, 1) := by decide +kernel
theorem dX0_give_31 : decode cX0_give 31 = .ok (.istore_n 3, 1) := by decide +kernel
theorem dX0_give_32 : decode cX0_give 32 = .ok (.iload_n 3, 1) := by decide +kernel
theorem dX0_give_33 : decode cX0_give 33 = .ok (.ifCond .lt 16, 3) := by decide +kernel
theorem dX0_give_36 : decode cX0_give 36 = .ok (.aload_n 0, 1) := by decide +kernel
theorem dX0_give_37 : decode cX0_give 37 = .ok (.iload_n 3, 1) := by decide +kernel
theorem dX0_give_38 : decode cX0_give 38 = .ok (.iload_n 1, 1) := by decide +kernel
theorem dX0_give_39 : decode cX0_give 39 = .ok (.iload_n 2, 1) := by decide +kernel
theorem dX0_give_40 : decode cX0_give 40 = .ok (.invokevirtual 69, 3) := by decide +kernel
theorem dX0_give_43 : decode cX0_give 43 = .ok (.iinc 3 (-1), 3) := by decide +kernel
theorem dX0_give_46 : decode cX0_give 46 = .ok (.goto (-14), 3) := by decide +kernel
theorem dX0_give_49 : decode cX0_give 49 = .ok (.aload_n 0, 1) := by decide +kernel
theorem dX0_give_50 : decode cX0_give 50 = .ok (.iload_n 1, 1) := by decide +kernel
theorem dX0_give_51 : decode cX0_give 51 = .ok (.iload_n 2, 1) := by decide +kernel
theorem dX0_give_52 : decode cX0_give 52 = .ok (.invokevirtual 73, 3) := by decide +kernel
theorem dX0_give_55 : decode cX0_give 55 = .ok (.ireturn, 1) := by decide +kernel
theorem dX0_weighFrom_0 : decode cX0_weighFrom 0 = .ok (.iconst 0, 1) := by decide +kernel
theorem dX0_weighFrom_1 : decode cX0_weighFrom 1 = .ok (.istore 4, 2) := by decide +kernel
theorem dX0_weighFrom_3 : decode cX0_weighFrom 3 = .ok (.iload 4, 2) := by decide +kernel
theorem dX0_weighFrom_5 : decode cX0_weighFrom 5 = .ok (.iload_n 2, 1) := by decide +kernel
theorem dX0_weighFrom_6 : decode cX0_weighFrom 6 = .ok (.if_icmp .gt 60, 3) := by decide +kernel
theorem dX0_weighFrom_9 : decode cX0_weighFrom 9 = .ok (.iload 4, 2) := by decide +kernel
theorem dX0_weighFrom_11 : decode cX0_weighFrom 11 = .ok (.bipush 12, 2) := by decide +kernel
theorem dX0_weighFrom_13 : decode cX0_weighFrom 13 = .ok (.if_icmp .gt 53, 3) := by decide +kernel
theorem dX0_weighFrom_16 : decode cX0_weighFrom 16 = .ok (.iconst 0, 1) := by decide +kernel
theorem dX0_weighFrom_17 : decode cX0_weighFrom 17 = .ok (.istore 5, 2) := by decide +kernel
theorem dX0_weighFrom_19 : decode cX0_weighFrom 19 = .ok (.iload 5, 2) := by decide +kernel
theorem dX0_weighFrom_21 : decode cX0_weighFrom 21 = .ok (.iload_n 3, 1) := by decide +kernel
theorem dX0_weighFrom_22 : decode cX0_weighFrom 22 = .ok (.if_icmp .gt 38, 3) := by decide +kernel
theorem dX0_weighFrom_25 : decode cX0_weighFrom 25 = .ok (.iload 5, 2) := by decide +kernel
theorem dX0_weighFrom_27 : decode cX0_weighFrom 27 = .ok (.bipush 6, 2) := by decide +kernel
theorem dX0_weighFrom_29 : decode cX0_weighFrom 29 = .ok (.if_icmp .gt 31, 3) := by decide +kernel
theorem dX0_weighFrom_32 : decode cX0_weighFrom 32 = .ok (.aload_n 0, 1) := by decide +kernel
theorem dX0_weighFrom_33 : decode cX0_weighFrom 33 = .ok (.getfield 21, 3) := by decide +kernel
theorem dX0_weighFrom_36 : decode cX0_weighFrom 36 = .ok (.iload_n 1, 1) := by decide +kernel
theorem dX0_weighFrom_37 : decode cX0_weighFrom 37 = .ok (.iload 4, 2) := by decide +kernel
theorem dX0_weighFrom_39 : decode cX0_weighFrom 39 = .ok (.iload 5, 2) := by decide +kernel
theorem dX0_weighFrom_41 : decode cX0_weighFrom 41 = .ok (.invokestatic 58, 3) := by decide +kernel
theorem dX0_weighFrom_44 : decode cX0_weighFrom 44 = .ok (.aload_n 0, 1) := by decide +kernel
theorem dX0_weighFrom_45 : decode cX0_weighFrom 45 = .ok (.iload_n 1, 1) := by decide +kernel
theorem dX0_weighFrom_46 : decode cX0_weighFrom 46 = .ok (.iload 4, 2) := by decide +kernel
theorem dX0_weighFrom_48 : decode cX0_weighFrom 48 = .ok (.iload 5, 2) := by decide +kernel
theorem dX0_weighFrom_50 : decode cX0_weighFrom 50 = .ok (.invokevirtual 76, 3) := by decide +kernel
theorem dX0_weighFrom_53 : decode cX0_weighFrom 53 = .ok (.lastore, 1) := by decide +kernel
theorem dX0_weighFrom_54 : decode cX0_weighFrom 54 = .ok (.iinc 5 1, 3) := by decide +kernel
theorem dX0_weighFrom_57 : decode cX0_weighFrom 57 = .ok (.goto (-38), 3) := by decide +kernel
theorem dX0_weighFrom_60 : decode cX0_weighFrom 60 = .ok (.iinc 4 1, 3) := by decide +kernel
theorem dX0_weighFrom_63 : decode cX0_weighFrom 63 = .ok (.goto (-60), 3) := by decide +kernel
theorem dX0_weighFrom_66 : decode cX0_weighFrom 66 = .ok (.return_, 1) := by decide +kernel
theorem dX0_weigh_0 : decode cX0_weigh 0 = .ok (.ldc2_w 61, 3) := by decide +kernel
theorem dX0_weigh_3 : decode cX0_weigh 3 = .ok (.lstore 4, 2) := by decide +kernel
theorem dX0_weigh_5 : decode cX0_weigh 5 = .ok (.iconst 0, 1) := by decide +kernel
theorem dX0_weigh_6 : decode cX0_weigh 6 = .ok (.istore 6, 2) := by decide +kernel
theorem dX0_weigh_8 : decode cX0_weigh 8 = .ok (.iload 6, 2) := by decide +kernel
theorem dX0_weigh_10 : decode cX0_weigh 10 = .ok (.iload_n 2, 1) := by decide +kernel
theorem dX0_weigh_11 : decode cX0_weigh 11 = .ok (.if_icmp .gt 69, 3) := by decide +kernel
theorem dX0_weigh_14 : decode cX0_weigh 14 = .ok (.iconst 0, 1) := by decide +kernel
theorem dX0_weigh_15 : decode cX0_weigh 15 = .ok (.istore 7, 2) := by decide +kernel
theorem dX0_weigh_17 : decode cX0_weigh 17 = .ok (.iload 7, 2) := by decide +kernel
theorem dX0_weigh_19 : decode cX0_weigh 19 = .ok (.iload_n 3, 1) := by decide +kernel
theorem dX0_weigh_20 : decode cX0_weigh 20 = .ok (.if_icmp .gt 54, 3) := by decide +kernel
theorem dX0_weigh_23 : decode cX0_weigh 23 = .ok (.aload_n 0, 1) := by decide +kernel
theorem dX0_weigh_24 : decode cX0_weigh 24 = .ok (.iload_n 1, 1) := by decide +kernel
theorem dX0_weigh_25 : decode cX0_weigh 25 = .ok (.iconst 1, 1) := by decide +kernel
theorem dX0_weigh_26 : decode cX0_weigh 26 = .ok (.iadd, 1) := by decide +kernel
theorem dX0_weigh_27 : decode cX0_weigh 27 = .ok (.iload_n 2, 1) := by decide +kernel
theorem dX0_weigh_28 : decode cX0_weigh 28 = .ok (.iload 6, 2) := by decide +kernel
theorem dX0_weigh_30 : decode cX0_weigh 30 = .ok (.isub, 1) := by decide +kernel
theorem dX0_weigh_31 : decode cX0_weigh 31 = .ok (.iload_n 3, 1) := by decide +kernel
theorem dX0_weigh_32 : decode cX0_weigh 32 = .ok (.iload 7, 2) := by decide +kernel
theorem dX0_weigh_34 : decode cX0_weigh 34 = .ok (.isub, 1) := by decide +kernel
theorem dX0_weigh_35 : decode cX0_weigh 35 = .ok (.invokevirtual 80, 3) := by decide +kernel
theorem dX0_weigh_38 : decode cX0_weigh 38 = .ok (.lstore 8, 2) := by decide +kernel
theorem dX0_weigh_40 : decode cX0_weigh 40 = .ok (.lload 8, 2) := by decide +kernel
theorem dX0_weigh_42 : decode cX0_weigh 42 = .ok (.ldc2_w 61, 3) := by decide +kernel
theorem dX0_weigh_45 : decode cX0_weigh 45 = .ok (.lcmp, 1) := by decide +kernel
theorem dX0_weigh_46 : decode cX0_weigh 46 = .ok (.ifCond .ge 22, 3) := by decide +kernel
theorem dX0_weigh_49 : decode cX0_weigh 49 = .ok (.lload 4, 2) := by decide +kernel
theorem dX0_weigh_51 : decode cX0_weigh 51 = .ok (.lload 8, 2) := by decide +kernel
theorem dX0_weigh_53 : decode cX0_weigh 53 = .ok (.aload_n 0, 1) := by decide +kernel
theorem dX0_weigh_54 : decode cX0_weigh 54 = .ok (.iload_n 1, 1) := by decide +kernel
theorem dX0_weigh_55 : decode cX0_weigh 55 = .ok (.iload 6, 2) := by decide +kernel
theorem dX0_weigh_57 : decode cX0_weigh 57 = .ok (.iload 7, 2) := by decide +kernel
theorem dX0_weigh_59 : decode cX0_weigh 59 = .ok (.invokevirtual 83, 3) := by decide +kernel
theorem dX0_weigh_62 : decode cX0_weigh 62 = .ok (.ladd, 1) := by decide +kernel
theorem dX0_weigh_63 : decode cX0_weigh 63 = .ok (.invokestatic 86, 3) := by decide +kernel
theorem dX0_weigh_66 : decode cX0_weigh 66 = .ok (.lstore 4, 2) := by decide +kernel
theorem dX0_weigh_68 : decode cX0_weigh 68 = .ok (.iinc 7 1, 3) := by decide +kernel
theorem dX0_weigh_71 : decode cX0_weigh 71 = .ok (.goto (-54), 3) := by decide +kernel
theorem dX0_weigh_74 : decode cX0_weigh 74 = .ok (.iinc 6 1, 3) := by decide +kernel
theorem dX0_weigh_77 : decode cX0_weigh 77 = .ok (.goto (-69), 3) := by decide +kernel
theorem dX0_weigh_80 : decode cX0_weigh 80 = .ok (.lload 4, 2) := by decide +kernel
theorem dX0_weigh_82 : decode cX0_weigh 82 = .ok (.lreturn, 1) := by decide +kernel
theorem dX0_takeFirst_0 : decode cX0_takeFirst 0 = .ok (.iload_n 1, 1) := by decide +kernel
theorem dX0_takeFirst_1 : decode cX0_takeFirst 1 = .ok (.istore_n 3, 1) := by decide +kernel
theorem dX0_takeFirst_2 : decode cX0_takeFirst 2 = .ok (.iload_n 2, 1) := by decide +kernel
theorem dX0_takeFirst_3 : decode cX0_takeFirst 3 = .ok (.istore 4, 2) := by decide +kernel
theorem dX0_takeFirst_5 : decode cX0_takeFirst 5 = .ok (.iconst 0, 1) := by decide +kernel
theorem dX0_takeFirst_6 : decode cX0_takeFirst 6 = .ok (.istore 5, 2) := by decide +kernel
theorem dX0_takeFirst_8 : decode cX0_takeFirst 8 = .ok (.aload_n 0, 1) := by decide +kernel
theorem dX0_takeFirst_9 : decode cX0_takeFirst 9 = .ok (.iconst 0, 1) := by decide +kernel
theorem dX0_takeFirst_10 : decode cX0_takeFirst 10 = .ok (.putfield 32, 3) := by decide +kernel
theorem dX0_takeFirst_13 : decode cX0_takeFirst 13 = .ok (.aload_n 0, 1) := by decide +kernel
theorem dX0_takeFirst_14 : decode cX0_takeFirst 14 = .ok (.aload_n 0, 1) := by decide +kernel
theorem dX0_takeFirst_15 : decode cX0_takeFirst 15 = .ok (.getfield 36, 3) := by decide +kernel
theorem dX0_takeFirst_18 : decode cX0_takeFirst 18 = .ok (.putfield 90, 3) := by decide +kernel
theorem dX0_takeFirst_21 : decode cX0_takeFirst 21 = .ok (.iconst 0, 1) := by decide +kernel
theorem dX0_takeFirst_22 : decode cX0_takeFirst 22 = .ok (.istore 6, 2) := by decide +kernel
theorem dX0_takeFirst_24 : decode cX0_takeFirst 24 = .ok (.iload 6, 2) := by decide +kernel
theorem dX0_takeFirst_26 : decode cX0_takeFirst 26 = .ok (.aload_n 0, 1) := by decide +kernel
theorem dX0_takeFirst_27 : decode cX0_takeFirst 27 = .ok (.getfield 36, 3) := by decide +kernel
theorem dX0_takeFirst_30 : decode cX0_takeFirst 30 = .ok (.if_icmp .ge 87, 3) := by decide +kernel
theorem dX0_takeFirst_33 : decode cX0_takeFirst 33 = .ok (.aload_n 0, 1) := by decide +kernel
theorem dX0_takeFirst_34 : decode cX0_takeFirst 34 = .ok (.iload 6, 2) := by decide +kernel
theorem dX0_takeFirst_36 : decode cX0_takeFirst 36 = .ok (.iload_n 3, 1) := by decide +kernel
theorem dX0_takeFirst_37 : decode cX0_takeFirst 37 = .ok (.iload 4, 2) := by decide +kernel
theorem dX0_takeFirst_39 : decode cX0_takeFirst 39 = .ok (.invokevirtual 93, 3) := by decide +kernel
theorem dX0_takeFirst_42 : decode cX0_takeFirst 42 = .ok (.iload_n 3, 1) := by decide +kernel
theorem dX0_takeFirst_43 : decode cX0_takeFirst 43 = .ok (.aload_n 0, 1) := by decide +kernel
theorem dX0_takeFirst_44 : decode cX0_takeFirst 44 = .ok (.getfield 25, 3) := by decide +kernel
theorem dX0_takeFirst_47 : decode cX0_takeFirst 47 = .ok (.iload 6, 2) := by decide +kernel
theorem dX0_takeFirst_49 : decode cX0_takeFirst 49 = .ok (.iaload, 1) := by decide +kernel
theorem dX0_takeFirst_50 : decode cX0_takeFirst 50 = .ok (.isub, 1) := by decide +kernel
theorem dX0_takeFirst_51 : decode cX0_takeFirst 51 = .ok (.istore_n 3, 1) := by decide +kernel
theorem dX0_takeFirst_52 : decode cX0_takeFirst 52 = .ok (.iload 4, 2) := by decide +kernel
theorem dX0_takeFirst_54 : decode cX0_takeFirst 54 = .ok (.aload_n 0, 1) := by decide +kernel
theorem dX0_takeFirst_55 : decode cX0_takeFirst 55 = .ok (.getfield 28, 3) := by decide +kernel
theorem dX0_takeFirst_58 : decode cX0_takeFirst 58 = .ok (.iload 6, 2) := by decide +kernel
theorem dX0_takeFirst_60 : decode cX0_takeFirst 60 = .ok (.iaload, 1) := by decide +kernel
theorem dX0_takeFirst_61 : decode cX0_takeFirst 61 = .ok (.isub, 1) := by decide +kernel
theorem dX0_takeFirst_62 : decode cX0_takeFirst 62 = .ok (.istore 4, 2) := by decide +kernel
theorem dX0_takeFirst_64 : decode cX0_takeFirst 64 = .ok (.iload 5, 2) := by decide +kernel
theorem dX0_takeFirst_66 : decode cX0_takeFirst 66 = .ok (.aload_n 0, 1) := by decide +kernel
theorem dX0_takeFirst_67 : decode cX0_takeFirst 67 = .ok (.iload 6, 2) := by decide +kernel
theorem dX0_takeFirst_69 : decode cX0_takeFirst 69 = .ok (.aload_n 0, 1) := by decide +kernel
theorem dX0_takeFirst_70 : decode cX0_takeFirst 70 = .ok (.getfield 25, 3) := by decide +kernel
theorem dX0_takeFirst_73 : decode cX0_takeFirst 73 = .ok (.iload 6, 2) := by decide +kernel
theorem dX0_takeFirst_75 : decode cX0_takeFirst 75 = .ok (.iaload, 1) := by decide +kernel
theorem dX0_takeFirst_76 : decode cX0_takeFirst 76 = .ok (.aload_n 0, 1) := by decide +kernel
theorem dX0_takeFirst_77 : decode cX0_takeFirst 77 = .ok (.getfield 28, 3) := by decide +kernel
theorem dX0_takeFirst_80 : decode cX0_takeFirst 80 = .ok (.iload 6, 2) := by decide +kernel
theorem dX0_takeFirst_82 : decode cX0_takeFirst 82 = .ok (.iaload, 1) := by decide +kernel
theorem dX0_takeFirst_83 : decode cX0_takeFirst 83 = .ok (.invokevirtual 49, 3) := by decide +kernel
theorem dX0_takeFirst_86 : decode cX0_takeFirst 86 = .ok (.iadd, 1) := by decide +kernel
theorem dX0_takeFirst_87 : decode cX0_takeFirst 87 = .ok (.istore 5, 2) := by decide +kernel
theorem dX0_takeFirst_89 : decode cX0_takeFirst 89 = .ok (.aload_n 0, 1) := by decide +kernel
theorem dX0_takeFirst_90 : decode cX0_takeFirst 90 = .ok (.dup, 1) := by decide +kernel
theorem dX0_takeFirst_91 : decode cX0_takeFirst 91 = .ok (.getfield 32, 3) := by decide +kernel
theorem dX0_takeFirst_94 : decode cX0_takeFirst 94 = .ok (.aload_n 0, 1) := by decide +kernel
theorem dX0_takeFirst_95 : decode cX0_takeFirst 95 = .ok (.iload 6, 2) := by decide +kernel
theorem dX0_takeFirst_97 : decode cX0_takeFirst 97 = .ok (.aload_n 0, 1) := by decide +kernel
theorem dX0_takeFirst_98 : decode cX0_takeFirst 98 = .ok (.getfield 25, 3) := by decide +kernel
theorem dX0_takeFirst_101 : decode cX0_takeFirst 101 = .ok (.iload 6, 2) := by decide +kernel
theorem dX0_takeFirst_103 : decode cX0_takeFirst 103 = .ok (.iaload, 1) := by decide +kernel
theorem dX0_takeFirst_104 : decode cX0_takeFirst 104 = .ok (.invokevirtual 55, 3) := by decide +kernel
theorem dX0_takeFirst_107 : decode cX0_takeFirst 107 = .ok (.iadd, 1) := by decide +kernel
theorem dX0_takeFirst_108 : decode cX0_takeFirst 108 = .ok (.putfield 32, 3) := by decide +kernel
theorem dX0_takeFirst_111 : decode cX0_takeFirst 111 = .ok (.iinc 6 1, 3) := by decide +kernel
theorem dX0_takeFirst_114 : decode cX0_takeFirst 114 = .ok (.goto (-90), 3) := by decide +kernel
theorem dX0_takeFirst_117 : decode cX0_takeFirst 117 = .ok (.iload 5, 2) := by decide +kernel
theorem dX0_takeFirst_119 : decode cX0_takeFirst 119 = .ok (.ireturn, 1) := by decide +kernel
theorem dX0_takeIn_0 : decode cX0_takeIn 0 = .ok (.aload_n 0, 1) := by decide +kernel
theorem dX0_takeIn_1 : decode cX0_takeIn 1 = .ok (.iload_n 1, 1) := by decide +kernel
theorem dX0_takeIn_2 : decode cX0_takeIn 2 = .ok (.iload_n 2, 1) := by decide +kernel
theorem dX0_takeIn_3 : decode cX0_takeIn 3 = .ok (.iload_n 3, 1) := by decide +kernel
theorem dX0_takeIn_4 : decode cX0_takeIn 4 = .ok (.invokevirtual 80, 3) := by decide +kernel
theorem dX0_takeIn_7 : decode cX0_takeIn 7 = .ok (.lstore 4, 2) := by decide +kernel
theorem dX0_takeIn_9 : decode cX0_takeIn 9 = .ok (.iconst 0, 1) := by decide +kernel
theorem dX0_takeIn_10 : decode cX0_takeIn 10 = .ok (.istore 6, 2) := by decide +kernel
theorem dX0_takeIn_12 : decode cX0_takeIn 12 = .ok (.iload 6, 2) := by decide +kernel
theorem dX0_takeIn_14 : decode cX0_takeIn 14 = .ok (.iload_n 2, 1) := by decide +kernel
theorem dX0_takeIn_15 : decode cX0_takeIn 15 = .ok (.if_icmp .gt 85, 3) := by decide +kernel
theorem dX0_takeIn_18 : decode cX0_takeIn 18 = .ok (.iconst 0, 1) := by decide +kernel
theorem dX0_takeIn_19 : decode cX0_takeIn 19 = .ok (.istore 7, 2) := by decide +kernel
theorem dX0_takeIn_21 : decode cX0_takeIn 21 = .ok (.iload 7, 2) := by decide +kernel
theorem dX0_takeIn_23 : decode cX0_takeIn 23 = .ok (.iload_n 3, 1) := by decide +kernel
theorem dX0_takeIn_24 : decode cX0_takeIn 24 = .ok (.if_icmp .gt 70, 3) := by decide +kernel
theorem dX0_takeIn_27 : decode cX0_takeIn 27 = .ok (.aload_n 0, 1) := by decide +kernel
theorem dX0_takeIn_28 : decode cX0_takeIn 28 = .ok (.iload_n 1, 1) := by decide +kernel
theorem dX0_takeIn_29 : decode cX0_takeIn 29 = .ok (.iconst 1, 1) := by decide +kernel
theorem dX0_takeIn_30 : decode cX0_takeIn 30 = .ok (.iadd, 1) := by decide +kernel
theorem dX0_takeIn_31 : decode cX0_takeIn 31 = .ok (.iload_n 2, 1) := by decide +kernel
theorem dX0_takeIn_32 : decode cX0_takeIn 32 = .ok (.iload 6, 2) := by decide +kernel
theorem dX0_takeIn_34 : decode cX0_takeIn 34 = .ok (.isub, 1) := by decide +kernel
theorem dX0_takeIn_35 : decode cX0_takeIn 35 = .ok (.iload_n 3, 1) := by decide +kernel
theorem dX0_takeIn_36 : decode cX0_takeIn 36 = .ok (.iload 7, 2) := by decide +kernel
theorem dX0_takeIn_38 : decode cX0_takeIn 38 = .ok (.isub, 1) := by decide +kernel
theorem dX0_takeIn_39 : decode cX0_takeIn 39 = .ok (.invokevirtual 80, 3) := by decide +kernel
theorem dX0_takeIn_42 : decode cX0_takeIn 42 = .ok (.lstore 8, 2) := by decide +kernel
theorem dX0_takeIn_44 : decode cX0_takeIn 44 = .ok (.lload 8, 2) := by decide +kernel
theorem dX0_takeIn_46 : decode cX0_takeIn 46 = .ok (.ldc2_w 61, 3) := by decide +kernel
theorem dX0_takeIn_49 : decode cX0_takeIn 49 = .ok (.lcmp, 1) := by decide +kernel
theorem dX0_takeIn_50 : decode cX0_takeIn 50 = .ok (.ifCond .ge 38, 3) := by decide +kernel
theorem dX0_takeIn_53 : decode cX0_takeIn 53 = .ok (.lload 8, 2) := by decide +kernel
theorem dX0_takeIn_55 : decode cX0_takeIn 55 = .ok (.aload_n 0, 1) := by decide +kernel
theorem dX0_takeIn_56 : decode cX0_takeIn 56 = .ok (.iload_n 1, 1) := by decide +kernel
theorem dX0_takeIn_57 : decode cX0_takeIn 57 = .ok (.iload 6, 2) := by decide +kernel
theorem dX0_takeIn_59 : decode cX0_takeIn 59 = .ok (.iload 7, 2) := by decide +kernel
theorem dX0_takeIn_61 : decode cX0_takeIn 61 = .ok (.invokevirtual 83, 3) := by decide +kernel
theorem dX0_takeIn_64 : decode cX0_takeIn 64 = .ok (.ladd, 1) := by decide +kernel
theorem dX0_takeIn_65 : decode cX0_takeIn 65 = .ok (.lload 4, 2) := by decide +kernel
theorem dX0_takeIn_67 : decode cX0_takeIn 67 = .ok (.lcmp, 1) := by decide +kernel
theorem dX0_takeIn_68 : decode cX0_takeIn 68 = .ok (.ifCond .ne 20, 3) := by decide +kernel
theorem dX0_takeIn_71 : decode cX0_takeIn 71 = .ok (.aload_n 0, 1) := by decide +kernel
theorem dX0_takeIn_72 : decode cX0_takeIn 72 = .ok (.getfield 25, 3) := by decide +kernel
theorem dX0_takeIn_75 : decode cX0_takeIn 75 = .ok (.iload_n 1, 1) := by decide +kernel
theorem dX0_takeIn_76 : decode cX0_takeIn 76 = .ok (.iload 6, 2) := by decide +kernel
theorem dX0_takeIn_78 : decode cX0_takeIn 78 = .ok (.iastore, 1) := by decide +kernel
theorem dX0_takeIn_79 : decode cX0_takeIn 79 = .ok (.aload_n 0, 1) := by decide +kernel
theorem dX0_takeIn_80 : decode cX0_takeIn 80 = .ok (.getfield 28, 3) := by decide +kernel
theorem dX0_takeIn_83 : decode cX0_takeIn 83 = .ok (.iload_n 1, 1) := by decide +kernel
theorem dX0_takeIn_84 : decode cX0_takeIn 84 = .ok (.iload 7, 2) := by decide +kernel
theorem dX0_takeIn_86 : decode cX0_takeIn 86 = .ok (.iastore, 1) := by decide +kernel
theorem dX0_takeIn_87 : decode cX0_takeIn 87 = .ok (.return_, 1) := by decide +kernel
theorem dX0_takeIn_88 : decode cX0_takeIn 88 = .ok (.iinc 7 1, 3) := by decide +kernel
theorem dX0_takeIn_91 : decode cX0_takeIn 91 = .ok (.goto (-70), 3) := by decide +kernel
theorem dX0_takeIn_94 : decode cX0_takeIn 94 = .ok (.iinc 6 1, 3) := by decide +kernel
theorem dX0_takeIn_97 : decode cX0_takeIn 97 = .ok (.goto (-85), 3) := by decide +kernel
theorem dX0_takeIn_100 : decode cX0_takeIn 100 = .ok (.return_, 1) := by decide +kernel
theorem dX0_given_0 : decode cX0_given 0 = .ok (.iload_n 1, 1) := by decide +kernel
theorem dX0_given_1 : decode cX0_given 1 = .ok (.ifCond .ne 8, 3) := by decide +kernel
theorem dX0_given_4 : decode cX0_given 4 = .ok (.aload_n 0, 1) := by decide +kernel
theorem dX0_given_5 : decode cX0_given 5 = .ok (.getfield 32, 3) := by decide +kernel
theorem dX0_given_8 : decode cX0_given 8 = .ok (.ireturn, 1) := by decide +kernel
theorem dX0_given_9 : decode cX0_given 9 = .ok (.iload_n 1, 1) := by decide +kernel
theorem dX0_given_10 : decode cX0_given 10 = .ok (.bipush 100, 2) := by decide +kernel
theorem dX0_given_12 : decode cX0_given 12 = .ok (.bipush 99, 2) := by decide +kernel
theorem dX0_given_14 : decode cX0_given 14 = .ok (.aload_n 0, 1) := by decide +kernel
theorem dX0_given_15 : decode cX0_given 15 = .ok (.getfield 90, 3) := by decide +kernel
theorem dX0_given_18 : decode cX0_given 18 = .ok (.iadd, 1) := by decide +kernel
theorem dX0_given_19 : decode cX0_given 19 = .ok (.invokestatic 39, 3) := by decide +kernel
theorem dX0_given_22 : decode cX0_given 22 = .ok (.ifCond .eq 13, 3) := by decide +kernel
theorem dX0_given_25 : decode cX0_given 25 = .ok (.aload_n 0, 1) := by decide +kernel
theorem dX0_given_26 : decode cX0_given 26 = .ok (.getfield 25, 3) := by decide +kernel
theorem dX0_given_29 : decode cX0_given 29 = .ok (.iload_n 1, 1) := by decide +kernel
theorem dX0_given_30 : decode cX0_given 30 = .ok (.bipush 100, 2) := by decide +kernel
theorem dX0_given_32 : decode cX0_given 32 = .ok (.isub, 1) := by decide +kernel
theorem dX0_given_33 : decode cX0_given 33 = .ok (.iaload, 1) := by decide +kernel
theorem dX0_given_34 : decode cX0_given 34 = .ok (.ireturn, 1) := by decide +kernel
theorem dX0_given_35 : decode cX0_given 35 = .ok (.iload_n 1, 1) := by decide +kernel
theorem dX0_given_36 : decode cX0_given 36 = .ok (.sipush 200, 3) := by decide +kernel
theorem dX0_given_39 : decode cX0_given 39 = .ok (.sipush 199, 3) := by decide +kernel
theorem dX0_given_42 : decode cX0_given 42 = .ok (.aload_n 0, 1) := by decide +kernel
theorem dX0_given_43 : decode cX0_given 43 = .ok (.getfield 90, 3) := by decide +kernel
theorem dX0_given_46 : decode cX0_given 46 = .ok (.iadd, 1) := by decide +kernel
theorem dX0_given_47 : decode cX0_given 47 = .ok (.invokestatic 39, 3) := by decide +kernel
theorem dX0_given_50 : decode cX0_given 50 = .ok (.ifCond .eq 14, 3) := by decide +kernel
theorem dX0_given_53 : decode cX0_given 53 = .ok (.aload_n 0, 1) := by decide +kernel
theorem dX0_given_54 : decode cX0_given 54 = .ok (.getfield 28, 3) := by decide +kernel
theorem dX0_given_57 : decode cX0_given 57 = .ok (.iload_n 1, 1) := by decide +kernel
theorem dX0_given_58 : decode cX0_given 58 = .ok (.sipush 200, 3) := by decide +kernel
theorem dX0_given_61 : decode cX0_given 61 = .ok (.isub, 1) := by decide +kernel
theorem dX0_given_62 : decode cX0_given 62 = .ok (.iaload, 1) := by decide +kernel
theorem dX0_given_63 : decode cX0_given 63 = .ok (.ireturn, 1) := by decide +kernel
theorem dX0_given_64 : decode cX0_given 64 = .ok (.ldc 31, 2) := by decide +kernel
theorem dX0_given_66 : decode cX0_given 66 = .ok (.ireturn, 1) := by decide +kernel
theorem dX1_init_0 : decode cX1_init 0 = .ok (.aload_n 0, 1) := by decide +kernel
theorem dX1_init_1 : decode cX1_init 1 = .ok (.invokespecial 5, 3) := by decide +kernel
theorem dX1_init_4 : decode cX1_init 4 = .ok (.aload_n 0, 1) := by decide +kernel
theorem dX1_init_5 : decode cX1_init 5 = .ok (.sipush 130, 3) := by decide +kernel
theorem dX1_init_8 : decode cX1_init 8 = .ok (.newarray .int, 2) := by decide +kernel
theorem dX1_init_10 : decode cX1_init 10 = .ok (.putfield 11, 3) := by decide +kernel
theorem dX1_init_13 : decode cX1_init 13 = .ok (.aload_n 0, 1) := by decide +kernel
theorem dX1_init_14 : decode cX1_init 14 = .ok (.sipush 650, 3) := by decide +kernel
theorem dX1_init_17 : decode cX1_init 17 = .ok (.newarray .int, 2) := by decide +kernel
theorem dX1_init_19 : decode cX1_init 19 = .ok (.putfield 15, 3) := by decide +kernel
theorem dX1_init_22 : decode cX1_init 22 = .ok (.aload_n 0, 1) := by decide +kernel
theorem dX1_init_23 : decode cX1_init 23 = .ok (.sipush 650, 3) := by decide +kernel
theorem dX1_init_26 : decode cX1_init 26 = .ok (.newarray .int, 2) := by decide +kernel
theorem dX1_init_28 : decode cX1_init 28 = .ok (.putfield 18, 3) := by decide +kernel
theorem dX1_init_31 : decode cX1_init 31 = .ok (.aload_n 0, 1) := by decide +kernel
theorem dX1_init_32 : decode cX1_init 32 = .ok (.sipush 650, 3) := by decide +kernel
theorem dX1_init_35 : decode cX1_init 35 = .ok (.newarray .int, 2) := by decide +kernel
theorem dX1_init_37 : decode cX1_init 37 = .ok (.putfield 21, 3) := by decide +kernel
theorem dX1_init_40 : decode cX1_init 40 = .ok (.aload_n 0, 1) := by decide +kernel
theorem dX1_init_41 : decode cX1_init 41 = .ok (.iconst (-1), 1) := by decide +kernel
theorem dX1_init_42 : decode cX1_init 42 = .ok (.putfield 24, 3) := by decide +kernel
theorem dX1_init_45 : decode cX1_init 45 = .ok (.return_, 1) := by decide +kernel
theorem dX1_lay_0 : decode cX1_lay 0 = .ok (.aload_n 0, 1) := by decide +kernel
theorem dX1_lay_1 : decode cX1_lay 1 = .ok (.iload_n 1, 1) := by decide +kernel
theorem dX1_lay_2 : decode cX1_lay 2 = .ok (.putfield 28, 3) := by decide +kernel
theorem dX1_lay_5 : decode cX1_lay 5 = .ok (.aload_n 0, 1) := by decide +kernel
theorem dX1_lay_6 : decode cX1_lay 6 = .ok (.iload_n 1, 1) := by decide +kernel
theorem dX1_lay_7 : decode cX1_lay 7 = .ok (.iload_n 2, 1) := by decide +kernel
theorem dX1_lay_8 : decode cX1_lay 8 = .ok (.imul, 1) := by decide +kernel
theorem dX1_lay_9 : decode cX1_lay 9 = .ok (.bipush 25, 2) := by decide +kernel
theorem dX1_lay_11 : decode cX1_lay 11 = .ok (.invokestatic 31, 3) := by decide +kernel
theorem dX1_lay_14 : decode cX1_lay 14 = .ok (.putfield 37, 3) := by decide +kernel
theorem dX1_lay_17 : decode cX1_lay 17 = .ok (.aload_n 0, 1) := by decide +kernel
theorem dX1_lay_18 : decode cX1_lay 18 = .ok (.iconst 1, 1) := by decide +kernel
theorem dX1_lay_19 : decode cX1_lay 19 = .ok (.aload_n 0, 1) := by decide +kernel
theorem dX1_lay_20 : decode cX1_lay 20 = .ok (.getfield 37, 3) := by decide +kernel
theorem dX1_lay_23 : decode cX1_lay 23 = .ok (.ishl, 1) := by decide +kernel
theorem dX1_lay_24 : decode cX1_lay 24 = .ok (.iconst 1, 1) := by decide +kernel
theorem dX1_lay_25 : decode cX1_lay 25 = .ok (.isub, 1) := by decide +kernel
theorem dX1_lay_26 : decode cX1_lay 26 = .ok (.putfield 40, 3) := by decide +kernel
theorem dX1_lay_29 : decode cX1_lay 29 = .ok (.aload_n 0, 1) := by decide +kernel
theorem dX1_lay_30 : decode cX1_lay 30 = .ok (.iconst 0, 1) := by decide +kernel
theorem dX1_lay_31 : decode cX1_lay 31 = .ok (.putfield 43, 3) := by decide +kernel
theorem dX1_lay_34 : decode cX1_lay 34 = .ok (.aload_n 0, 1) := by decide +kernel
theorem dX1_lay_35 : decode cX1_lay 35 = .ok (.iconst 0, 1) := by decide +kernel
theorem dX1_lay_36 : decode cX1_lay 36 = .ok (.putfield 46, 3) := by decide +kernel
theorem dX1_lay_39 : decode cX1_lay 39 = .ok (.aload_n 0, 1) := by decide +kernel
theorem dX1_lay_40 : decode cX1_lay 40 = .ok (.iload_n 3, 1) := by decide +kernel
theorem dX1_lay_41 : decode cX1_lay 41 = .ok (.ifCond .eq 7, 3) := by decide +kernel
theorem dX1_lay_44 : decode cX1_lay 44 = .ok (.iconst 0, 1) := by decide +kernel
theorem dX1_lay_45 : decode cX1_lay 45 = .ok (.goto 5, 3) := by decide +kernel
theorem dX1_lay_48 : decode cX1_lay 48 = .ok (.bipush 25, 2) := by decide +kernel
theorem dX1_lay_50 : decode cX1_lay 50 = .ok (.putfield 49, 3) := by decide +kernel
theorem dX1_lay_53 : decode cX1_lay 53 = .ok (.aload_n 0, 1) := by decide +kernel
theorem dX1_lay_54 : decode cX1_lay 54 = .ok (.iload_n 3, 1) := by decide +kernel
theorem dX1_lay_55 : decode cX1_lay 55 = .ok (.ifCond .eq 12, 3) := by decide +kernel
theorem dX1_lay_58 : decode cX1_lay 58 = .ok (.aload_n 0, 1) := by decide +kernel
theorem dX1_lay_59 : decode cX1_lay 59 = .ok (.getfield 37, 3) := by decide +kernel
theorem dX1_lay_62 : decode cX1_lay 62 = .ok (.iconst 1, 1) := by decide +kernel
theorem dX1_lay_63 : decode cX1_lay 63 = .ok (.isub, 1) := by decide +kernel
theorem dX1_lay_64 : decode cX1_lay 64 = .ok (.goto 5, 3) := by decide +kernel
theorem dX1_lay_67 : decode cX1_lay 67 = .ok (.bipush 25, 2) := by decide +kernel
theorem dX1_lay_69 : decode cX1_lay 69 = .ok (.putfield 52, 3) := by decide +kernel
theorem dX1_lay_72 : decode cX1_lay 72 = .ok (.aload_n 0, 1) := by decide +kernel
theorem dX1_lay_73 : decode cX1_lay 73 = .ok (.getfield 11, 3) := by decide +kernel
theorem dX1_lay_76 : decode cX1_lay 76 = .ok (.iconst (-1), 1) := by decide +kernel
theorem dX1_lay_77 : decode cX1_lay 77 = .ok (.invokestatic 55, 3) := by decide +kernel
theorem dX1_lay_80 : decode cX1_lay 80 = .ok (.aload_n 0, 1) := by decide +kernel
theorem dX1_lay_81 : decode cX1_lay 81 = .ok (.getfield 11, 3) := by decide +kernel
theorem dX1_lay_84 : decode cX1_lay 84 = .ok (.bipush 127, 2) := by decide +kernel
theorem dX1_lay_86 : decode cX1_lay 86 = .ok (.bipush 25, 2) := by decide +kernel
theorem dX1_lay_88 : decode cX1_lay 88 = .ok (.iastore, 1) := by decide +kernel
theorem dX1_lay_89 : decode cX1_lay 89 = .ok (.iconst 0, 1) := by decide +kernel
theorem dX1_lay_90 : decode cX1_lay 90 = .ok (.istore 4, 2) := by decide +kernel
theorem dX1_lay_92 : decode cX1_lay 92 = .ok (.iload 4, 2) := by decide +kernel
theorem dX1_lay_94 : decode cX1_lay 94 = .ok (.iload_n 2, 1) := by decide +kernel
theorem dX1_lay_95 : decode cX1_lay 95 = .ok (.if_icmp .ge 33, 3) := by decide +kernel
theorem dX1_lay_98 : decode cX1_lay 98 = .ok (.iconst 0, 1) := by decide +kernel
theorem dX1_lay_99 : decode cX1_lay 99 = .ok (.istore 5, 2) := by decide +kernel
theorem dX1_lay_101 : decode cX1_lay 101 = .ok (.iload 5, 2) := by decide +kernel
theorem dX1_lay_103 : decode cX1_lay 103 = .ok (.iload_n 1, 1) := by decide +kernel
theorem dX1_lay_104 : decode cX1_lay 104 = .ok (.if_icmp .ge 18, 3) := by decide +kernel
theorem dX1_lay_107 : decode cX1_lay 107 = .ok (.aload_n 0, 1) := by decide +kernel
theorem dX1_lay_108 : decode cX1_lay 108 = .ok (.iload 5, 2) := by decide +kernel
theorem dX1_lay_110 : decode cX1_lay 110 = .ok (.iload 4, 2) := by decide +kernel
theorem dX1_lay_112 : decode cX1_lay 112 = .ok (.iload_n 2, 1) := by decide +kernel
theorem dX1_lay_113 : decode cX1_lay 113 = .ok (.invokevirtual 61, 3) := by decide +kernel
theorem dX1_lay_116 : decode cX1_lay 116 = .ok (.iinc 5 1, 3) := by decide +kernel
theorem dX1_lay_119 : decode cX1_lay 119 = .ok (.goto (-18), 3) := by decide +kernel
theorem dX1_lay_122 : decode cX1_lay 122 = .ok (.iinc 4 1, 3) := by decide +kernel
theorem dX1_lay_125 : decode cX1_lay 125 = .ok (.goto (-33), 3) := by decide +kernel
theorem dX1_lay_128 : decode cX1_lay 128 = .ok (.return_, 1) := by decide +kernel
theorem dX1_layCell_0 : decode cX1_layCell 0 = .ok (.aload_n 0, 1) := by decide +kernel
theorem dX1_layCell_1 : decode cX1_layCell 1 = .ok (.getfield 28, 3) := by decide +kernel
theorem dX1_layCell_4 : decode cX1_layCell 4 = .ok (.iload_n 2, 1) := by decide +kernel
theorem dX1_layCell_5 : decode cX1_layCell 5 = .ok (.imul, 1) := by decide +kernel
theorem dX1_layCell_6 : decode cX1_layCell 6 = .ok (.iload_n 1, 1) := by decide +kernel
theorem dX1_layCell_7 : decode cX1_layCell 7 = .ok (.iadd, 1) := by decide +kernel
theorem dX1_layCell_8 : decode cX1_layCell 8 = .ok (.istore 4, 2) := by decide +kernel
theorem dX1_layCell_10 : decode cX1_layCell 10 = .ok (.iload 4, 2) := by decide +kernel
theorem dX1_layCell_12 : decode cX1_layCell 12 = .ok (.iconst 0, 1) := by decide +kernel
theorem dX1_layCell_13 : decode cX1_layCell 13 = .ok (.bipush 24, 2) := by decide +kernel
theorem dX1_layCell_15 : decode cX1_layCell 15 = .ok (.invokestatic 65, 3) := by decide +kernel
theorem dX1_layCell_18 : decode cX1_layCell 18 = .ok (.ifCond .ne 4, 3) := by decide +kernel
theorem dX1_layCell_21 : decode cX1_layCell 21 = .ok (.return_, 1) := by decide +kernel
theorem dX1_layCell_22 : decode cX1_layCell 22 = .ok (.aload_n 0, 1) := by decide +kernel
theorem dX1_layCell_23 : decode cX1_layCell 23 = .ok (.dup, 1) := by decide +kernel
theorem dX1_layCell_24 : decode cX1_layCell 24 = .ok (.getfield 43, 3) := by decide +kernel
theorem dX1_layCell_27 : decode cX1_layCell 27 = .ok (.iload_n 1, 1) := by decide +kernel
theorem dX1_layCell_28 : decode cX1_layCell 28 = .ok (.ifCond .le 10, 3) := by decide +kernel
theorem dX1_layCell_31 : decode cX1_layCell 31 = .ok (.iconst 1, 1) := by decide +kernel
theorem dX1_layCell_32 : decode cX1_layCell 32 = .ok (.iload 4, 2) := by decide +kernel
theorem dX1_layCell_34 : decode cX1_layCell 34 = .ok (.ishl, 1) := by decide +kernel
theorem dX1_layCell_35 : decode cX1_layCell 35 = .ok (.goto 4, 3) := by decide +kernel
theorem dX1_layCell_38 : decode cX1_layCell 38 = .ok (.iconst 0, 1) := by decide +kernel
theorem dX1_layCell_39 : decode cX1_layCell 39 = .ok (.ior, 1) := by decide +kernel
theorem dX1_layCell_40 : decode cX1_layCell 40 = .ok (.putfield 43, 3) := by decide +kernel
theorem dX1_layCell_43 : decode cX1_layCell 43 = .ok (.aload_n 0, 1) := by decide +kernel
theorem dX1_layCell_44 : decode cX1_layCell 44 = .ok (.dup, 1) := by decide +kernel
theorem dX1_layCell_45 : decode cX1_layCell 45 = .ok (.getfield 46, 3) := by decide +kernel
theorem dX1_layCell_48 : decode cX1_layCell 48 = .ok (.iload_n 1, 1) := by decide +kernel
theorem dX1_layCell_49 : decode cX1_layCell 49 = .ok (.aload_n 0, 1) := by decide +kernel
theorem dX1_layCell_50 : decode cX1_layCell 50 = .ok (.getfield 28, 3) := by decide +kernel
theorem dX1_layCell_53 : decode cX1_layCell 53 = .ok (.iconst 1, 1) := by decide +kernel
theorem dX1_layCell_54 : decode cX1_layCell 54 = .ok (.isub, 1) := by decide +kernel
theorem dX1_layCell_55 : decode cX1_layCell 55 = .ok (.if_icmp .ge 10, 3) := by decide +kernel
theorem dX1_layCell_58 : decode cX1_layCell 58 = .ok (.iconst 1, 1) := by decide +kernel
theorem dX1_layCell_59 : decode cX1_layCell 59 = .ok (.iload 4, 2) := by decide +kernel
theorem dX1_layCell_61 : decode cX1_layCell 61 = .ok (.ishl, 1) := by decide +kernel
theorem dX1_layCell_62 : decode cX1_layCell 62 = .ok (.goto 4, 3) := by decide +kernel
theorem dX1_layCell_65 : decode cX1_layCell 65 = .ok (.iconst 0, 1) := by decide +kernel
theorem dX1_layCell_66 : decode cX1_layCell 66 = .ok (.ior, 1) := by decide +kernel
theorem dX1_layCell_67 : decode cX1_layCell 67 = .ok (.putfield 46, 3) := by decide +kernel
theorem dX1_layCell_70 : decode cX1_layCell 70 = .ok (.aload_n 0, 1) := by decide +kernel
theorem dX1_layCell_71 : decode cX1_layCell 71 = .ok (.getfield 11, 3) := by decide +kernel
theorem dX1_layCell_74 : decode cX1_layCell 74 = .ok (.iload 4, 2) := by decide +kernel
theorem dX1_layCell_76 : decode cX1_layCell 76 = .ok (.iconst 5, 1) := by decide +kernel
theorem dX1_layCell_77 : decode cX1_layCell 77 = .ok (.imul, 1) := by decide +kernel
theorem dX1_layCell_78 : decode cX1_layCell 78 = .ok (.iload_n 2, 1) := by decide +kernel
theorem dX1_layCell_79 : decode cX1_layCell 79 = .ok (.ifCond .le 13, 3) := by decide +kernel
theorem dX1_layCell_82 : decode cX1_layCell 82 = .ok (.iload 4, 2) := by decide +kernel
theorem dX1_layCell_84 : decode cX1_layCell 84 = .ok (.aload_n 0, 1) := by decide +kernel
theorem dX1_layCell_85 : decode cX1_layCell 85 = .ok (.getfield 28, 3) := by decide +kernel
theorem dX1_layCell_88 : decode cX1_layCell 88 = .ok (.isub, 1) := by decide +kernel
theorem dX1_layCell_89 : decode cX1_layCell 89 = .ok (.goto 4, 3) := by decide +kernel
theorem dX1_layCell_92 : decode cX1_layCell 92 = .ok (.iconst (-1), 1) := by decide +kernel
theorem dX1_layCell_93 : decode cX1_layCell 93 = .ok (.iastore, 1) := by decide +kernel
theorem dX1_layCell_94 : decode cX1_layCell 94 = .ok (.aload_n 0, 1) := by decide +kernel
theorem dX1_layCell_95 : decode cX1_layCell 95 = .ok (.getfield 11, 3) := by decide +kernel
theorem dX1_layCell_98 : decode cX1_layCell 98 = .ok (.iload 4, 2) := by decide +kernel
theorem dX1_layCell_100 : decode cX1_layCell 100 = .ok (.iconst 5, 1) := by decide +kernel
theorem dX1_layCell_101 : decode cX1_layCell 101 = .ok (.imul, 1) := by decide +kernel
theorem dX1_layCell_102 : decode cX1_layCell 102 = .ok (.iconst 1, 1) := by decide +kernel
theorem dX1_layCell_103 : decode cX1_layCell 103 = .ok (.iadd, 1) := by decide +kernel
theorem dX1_layCell_104 : decode cX1_layCell 104 = .ok (.iload_n 1, 1) := by decide +kernel
theorem dX1_layCell_105 : decode cX1_layCell 105 = .ok (.ifCond .le 10, 3) := by decide +kernel
theorem dX1_layCell_108 : decode cX1_layCell 108 = .ok (.iload 4, 2) := by decide +kernel
theorem dX1_layCell_110 : decode cX1_layCell 110 = .ok (.iconst 1, 1) := by decide +kernel
theorem dX1_layCell_111 : decode cX1_layCell 111 = .ok (.isub, 1) := by decide +kernel
theorem dX1_layCell_112 : decode cX1_layCell 112 = .ok (.goto 4, 3) := by decide +kernel
theorem dX1_layCell_115 : decode cX1_layCell 115 = .ok (.iconst (-1), 1) := by decide +kernel
theorem dX1_layCell_116 : decode cX1_layCell 116 = .ok (.iastore, 1) := by decide +kernel
theorem dX1_layCell_117 : decode cX1_layCell 117 = .ok (.aload_n 0, 1) := by decide +kernel
theorem dX1_layCell_118 : decode cX1_layCell 118 = .ok (.getfield 11, 3) := by decide +kernel
theorem dX1_layCell_121 : decode cX1_layCell 121 = .ok (.iload 4, 2) := by decide +kernel
theorem dX1_layCell_123 : decode cX1_layCell 123 = .ok (.iconst 5, 1) := by decide +kernel
theorem dX1_layCell_124 : decode cX1_layCell 124 = .ok (.imul, 1) := by decide +kernel
theorem dX1_layCell_125 : decode cX1_layCell 125 = .ok (.iconst 2, 1) := by decide +kernel
theorem dX1_layCell_126 : decode cX1_layCell 126 = .ok (.iadd, 1) := by decide +kernel
theorem dX1_layCell_127 : decode cX1_layCell 127 = .ok (.iload 4, 2) := by decide +kernel
theorem dX1_layCell_129 : decode cX1_layCell 129 = .ok (.iastore, 1) := by decide +kernel
theorem dX1_layCell_130 : decode cX1_layCell 130 = .ok (.aload_n 0, 1) := by decide +kernel
theorem dX1_layCell_131 : decode cX1_layCell 131 = .ok (.getfield 11, 3) := by decide +kernel
theorem dX1_layCell_134 : decode cX1_layCell 134 = .ok (.iload 4, 2) := by decide +kernel
theorem dX1_layCell_136 : decode cX1_layCell 136 = .ok (.iconst 5, 1) := by decide +kernel
theorem dX1_layCell_137 : decode cX1_layCell 137 = .ok (.imul, 1) := by decide +kernel
theorem dX1_layCell_138 : decode cX1_layCell 138 = .ok (.iconst 3, 1) := by decide +kernel
theorem dX1_layCell_139 : decode cX1_layCell 139 = .ok (.iadd, 1) := by decide +kernel
theorem dX1_layCell_140 : decode cX1_layCell 140 = .ok (.iload_n 1, 1) := by decide +kernel
theorem dX1_layCell_141 : decode cX1_layCell 141 = .ok (.aload_n 0, 1) := by decide +kernel
theorem dX1_layCell_142 : decode cX1_layCell 142 = .ok (.getfield 28, 3) := by decide +kernel
theorem dX1_layCell_145 : decode cX1_layCell 145 = .ok (.iconst 1, 1) := by decide +kernel
theorem dX1_layCell_146 : decode cX1_layCell 146 = .ok (.isub, 1) := by decide +kernel
theorem dX1_layCell_147 : decode cX1_layCell 147 = .ok (.if_icmp .ge 10, 3) := by decide +kernel
theorem dX1_layCell_150 : decode cX1_layCell 150 = .ok (.iload 4, 2) := by decide +kernel
theorem dX1_layCell_152 : decode cX1_layCell 152 = .ok (.iconst 1, 1) := by decide +kernel
theorem dX1_layCell_153 : decode cX1_layCell 153 = .ok (.iadd, 1) := by decide +kernel
theorem dX1_layCell_154 : decode cX1_layCell 154 = .ok (.goto 4, 3) := by decide +kernel
theorem dX1_layCell_157 : decode cX1_layCell 157 = .ok (.iconst (-1), 1) := by decide +kernel
theorem dX1_layCell_158 : decode cX1_layCell 158 = .ok (.iastore, 1) := by decide +kernel
theorem dX1_layCell_159 : decode cX1_layCell 159 = .ok (.aload_n 0, 1) := by decide +kernel
theorem dX1_layCell_160 : decode cX1_layCell 160 = .ok (.getfield 11, 3) := by decide +kernel
theorem dX1_layCell_163 : decode cX1_layCell 163 = .ok (.iload 4, 2) := by decide +kernel
theorem dX1_layCell_165 : decode cX1_layCell 165 = .ok (.iconst 5, 1) := by decide +kernel
theorem dX1_layCell_166 : decode cX1_layCell 166 = .ok (.imul, 1) := by decide +kernel
theorem dX1_layCell_167 : decode cX1_layCell 167 = .ok (.iconst 4, 1) := by decide +kernel
theorem dX1_layCell_168 : decode cX1_layCell 168 = .ok (.iadd, 1) := by decide +kernel
theorem dX1_layCell_169 : decode cX1_layCell 169 = .ok (.iload_n 2, 1) := by decide +kernel
theorem dX1_layCell_170 : decode cX1_layCell 170 = .ok (.iload_n 3, 1) := by decide +kernel
theorem dX1_layCell_171 : decode cX1_layCell 171 = .ok (.iconst 1, 1) := by decide +kernel
theorem dX1_layCell_172 : decode cX1_layCell 172 = .ok (.isub, 1) := by decide +kernel
theorem dX1_layCell_173 : decode cX1_layCell 173 = .ok (.if_icmp .ge 13, 3) := by decide +kernel
theorem dX1_layCell_176 : decode cX1_layCell 176 = .ok (.iload 4, 2) := by decide +kernel
theorem dX1_layCell_178 : decode cX1_layCell 178 = .ok (.aload_n 0, 1) := by decide +kernel
theorem dX1_layCell_179 : decode cX1_layCell 179 = .ok (.getfield 28, 3) := by decide +kernel
theorem dX1_layCell_182 : decode cX1_layCell 182 = .ok (.iadd, 1) := by decide +kernel
theorem dX1_layCell_183 : decode cX1_layCell 183 = .ok (.goto 4, 3) := by decide +kernel
theorem dX1_layCell_186 : decode cX1_layCell 186 = .ok (.iconst (-1), 1) := by decide +kernel
theorem dX1_layCell_187 : decode cX1_layCell 187 = .ok (.iastore, 1) := by decide +kernel
theorem dX1_layCell_188 : decode cX1_layCell 188 = .ok (.return_, 1) := by decide +kernel
theorem dX1_play_0 : decode cX1_play 0 = .ok (.iload_n 1, 1) := by decide +kernel
theorem dX1_play_1 : decode cX1_play 1 = .ok (.iload_n 2, 1) := by decide +kernel
theorem dX1_play_2 : decode cX1_play 2 = .ok (.if_icmp .ne 5, 3) := by decide +kernel
theorem dX1_play_5 : decode cX1_play 5 = .ok (.iconst 0, 1) := by decide +kernel
theorem dX1_play_6 : decode cX1_play 6 = .ok (.ireturn, 1) := by decide +kernel
theorem dX1_play_7 : decode cX1_play 7 = .ok (.iload_n 3, 1) := by decide +kernel
theorem dX1_play_8 : decode cX1_play 8 = .ok (.iconst (-1), 1) := by decide +kernel
theorem dX1_play_9 : decode cX1_play 9 = .ok (.if_icmp .ne 8, 3) := by decide +kernel
theorem dX1_play_12 : decode cX1_play 12 = .ok (.bipush 25, 2) := by decide +kernel
theorem dX1_play_14 : decode cX1_play 14 = .ok (.goto 4, 3) := by decide +kernel
theorem dX1_play_17 : decode cX1_play 17 = .ok (.iload_n 3, 1) := by decide +kernel
theorem dX1_play_18 : decode cX1_play 18 = .ok (.istore 5, 2) := by decide +kernel
theorem dX1_play_20 : decode cX1_play 20 = .ok (.aload_n 0, 1) := by decide +kernel
theorem dX1_play_21 : decode cX1_play 21 = .ok (.invokevirtual 69, 3) := by decide +kernel
theorem dX1_play_24 : decode cX1_play 24 = .ok (.iconst 1, 1) := by decide +kernel
theorem dX1_play_25 : decode cX1_play 25 = .ok (.istore 6, 2) := by decide +kernel
theorem dX1_play_27 : decode cX1_play 27 = .ok (.iload 6, 2) := by decide +kernel
theorem dX1_play_29 : decode cX1_play 29 = .ok (.iload 4, 2) := by decide +kernel
theorem dX1_play_31 : decode cX1_play 31 = .ok (.if_icmp .gt 50, 3) := by decide +kernel
theorem dX1_play_34 : decode cX1_play 34 = .ok (.aload_n 0, 1) := by decide +kernel
theorem dX1_play_35 : decode cX1_play 35 = .ok (.invokevirtual 72, 3) := by decide +kernel
theorem dX1_play_38 : decode cX1_play 38 = .ok (.aload_n 0, 1) := by decide +kernel
theorem dX1_play_39 : decode cX1_play 39 = .ok (.invokevirtual 75, 3) := by decide +kernel
theorem dX1_play_42 : decode cX1_play 42 = .ok (.aload_n 0, 1) := by decide +kernel
theorem dX1_play_43 : decode cX1_play 43 = .ok (.invokevirtual 78, 3) := by decide +kernel
theorem dX1_play_46 : decode cX1_play 46 = .ok (.aload_n 0, 1) := by decide +kernel
theorem dX1_play_47 : decode cX1_play 47 = .ok (.getfield 15, 3) := by decide +kernel
theorem dX1_play_50 : decode cX1_play 50 = .ok (.iload_n 2, 1) := by decide +kernel
theorem dX1_play_51 : decode cX1_play 51 = .ok (.iload 5, 2) := by decide +kernel
theorem dX1_play_53 : decode cX1_play 53 = .ok (.iload_n 1, 1) := by decide +kernel
theorem dX1_play_54 : decode cX1_play 54 = .ok (.invokestatic 81, 3) := by decide +kernel
theorem dX1_play_57 : decode cX1_play 57 = .ok (.ifCond .eq 18, 3) := by decide +kernel
theorem dX1_play_60 : decode cX1_play 60 = .ok (.aload_n 0, 1) := by decide +kernel
theorem dX1_play_61 : decode cX1_play 61 = .ok (.aload_n 0, 1) := by decide +kernel
theorem dX1_play_62 : decode cX1_play 62 = .ok (.iload_n 1, 1) := by decide +kernel
theorem dX1_play_63 : decode cX1_play 63 = .ok (.iload_n 2, 1) := by decide +kernel
theorem dX1_play_64 : decode cX1_play 64 = .ok (.iload 5, 2) := by decide +kernel
theorem dX1_play_66 : decode cX1_play 66 = .ok (.invokevirtual 85, 3) := by decide +kernel
theorem dX1_play_69 : decode cX1_play 69 = .ok (.putfield 24, 3) := by decide +kernel
theorem dX1_play_72 : decode cX1_play 72 = .ok (.iload 6, 2) := by decide +kernel
theorem dX1_play_74 : decode cX1_play 74 = .ok (.ireturn, 1) := by decide +kernel
theorem dX1_play_75 : decode cX1_play 75 = .ok (.iinc 6 1, 3) := by decide +kernel
theorem dX1_play_78 : decode cX1_play 78 = .ok (.goto (-51), 3) := by decide +kernel
theorem dX1_play_81 : decode cX1_play 81 = .ok (.bipush (-2), 2) := by decide +kernel
theorem dX1_play_83 : decode cX1_play 83 = .ok (.ireturn, 1) := by decide +kernel
theorem dX1_beginRows_0 : decode cX1_beginRows 0 = .ok (.aload_n 0, 1) := by decide +kernel
theorem dX1_beginRows_1 : decode cX1_beginRows 1 = .ok (.getfield 49, 3) := by decide +kernel
theorem dX1_beginRows_4 : decode cX1_beginRows 4 = .ok (.istore_n 1, 1) := by decide +kernel
theorem dX1_beginRows_5 : decode cX1_beginRows 5 = .ok (.iload_n 1, 1) := by decide +kernel
theorem dX1_beginRows_6 : decode cX1_beginRows 6 = .ok (.aload_n 0, 1) := by decide +kernel
theorem dX1_beginRows_7 : decode cX1_beginRows 7 = .ok (.getfield 52, 3) := by decide +kernel
theorem dX1_beginRows_10 : decode cX1_beginRows 10 = .ok (.if_icmp .gt 39, 3) := by decide +kernel
theorem dX1_beginRows_13 : decode cX1_beginRows 13 = .ok (.iconst 0, 1) := by decide +kernel
theorem dX1_beginRows_14 : decode cX1_beginRows 14 = .ok (.istore_n 2, 1) := by decide +kernel
theorem dX1_beginRows_15 : decode cX1_beginRows 15 = .ok (.iload_n 2, 1) := by decide +kernel
theorem dX1_beginRows_16 : decode cX1_beginRows 16 = .ok (.aload_n 0, 1) := by decide +kernel
theorem dX1_beginRows_17 : decode cX1_beginRows 17 = .ok (.getfield 37, 3) := by decide +kernel
theorem dX1_beginRows_20 : decode cX1_beginRows 20 = .ok (.if_icmp .ge 23, 3) := by decide +kernel
theorem dX1_beginRows_23 : decode cX1_beginRows 23 = .ok (.aload_n 0, 1) := by decide +kernel
theorem dX1_beginRows_24 : decode cX1_beginRows 24 = .ok (.getfield 15, 3) := by decide +kernel
theorem dX1_beginRows_27 : decode cX1_beginRows 27 = .ok (.iload_n 1, 1) := by decide +kernel
theorem dX1_beginRows_28 : decode cX1_beginRows 28 = .ok (.bipush 25, 2) := by decide +kernel
theorem dX1_beginRows_30 : decode cX1_beginRows 30 = .ok (.imul, 1) := by decide +kernel
theorem dX1_beginRows_31 : decode cX1_beginRows 31 = .ok (.iload_n 2, 1) := by decide +kernel
theorem dX1_beginRows_32 : decode cX1_beginRows 32 = .ok (.iadd, 1) := by decide +kernel
theorem dX1_beginRows_33 : decode cX1_beginRows 33 = .ok (.iconst 1, 1) := by decide +kernel
theorem dX1_beginRows_34 : decode cX1_beginRows 34 = .ok (.iload_n 2, 1) := by decide +kernel
theorem dX1_beginRows_35 : decode cX1_beginRows 35 = .ok (.ishl, 1) := by decide +kernel
theorem dX1_beginRows_36 : decode cX1_beginRows 36 = .ok (.iastore, 1) := by decide +kernel
theorem dX1_beginRows_37 : decode cX1_beginRows 37 = .ok (.iinc 2 1, 3) := by decide +kernel
theorem dX1_beginRows_40 : decode cX1_beginRows 40 = .ok (.goto (-25), 3) := by decide +kernel
theorem dX1_beginRows_43 : decode cX1_beginRows 43 = .ok (.iinc 1 1, 3) := by decide +kernel
theorem dX1_beginRows_46 : decode cX1_beginRows 46 = .ok (.goto (-41), 3) := by decide +kernel
theorem dX1_beginRows_49 : decode cX1_beginRows 49 = .ok (.return_, 1) := by decide +kernel
theorem dX1_moveTrawler_0 : decode cX1_moveTrawler 0 = .ok (.aload_n 0, 1) := by decide +kernel
theorem dX1_moveTrawler_1 : decode cX1_moveTrawler 1 = .ok (.getfield 49, 3) := by decide +kernel
theorem dX1_moveTrawler_4 : decode cX1_moveTrawler 4 = .ok (.istore_n 1, 1) := by decide +kernel
theorem dX1_moveTrawler_5 : decode cX1_moveTrawler 5 = .ok (.iload_n 1, 1) := by decide +kernel
theorem dX1_moveTrawler_6 : decode cX1_moveTrawler 6 = .ok (.aload_n 0, 1) := by decide +kernel
theorem dX1_moveTrawler_7 : decode cX1_moveTrawler 7 = .ok (.getfield 52, 3) := by decide +kernel
theorem dX1_moveTrawler_10 : decode cX1_moveTrawler 10 = .ok (.if_icmp .gt 99, 3) := by decide +kernel
theorem dX1_moveTrawler_13 : decode cX1_moveTrawler 13 = .ok (.iconst 0, 1) := by decide +kernel
theorem dX1_moveTrawler_14 : decode cX1_moveTrawler 14 = .ok (.istore_n 2, 1) := by decide +kernel
theorem dX1_moveTrawler_15 : decode cX1_moveTrawler 15 = .ok (.iload_n 2, 1) := by decide +kernel
theorem dX1_moveTrawler_16 : decode cX1_moveTrawler 16 = .ok (.aload_n 0, 1) := by decide +kernel
theorem dX1_moveTrawler_17 : decode cX1_moveTrawler 17 = .ok (.getfield 37, 3) := by decide +kernel
theorem dX1_moveTrawler_20 : decode cX1_moveTrawler 20 = .ok (.if_icmp .ge 83, 3) := by decide +kernel
theorem dX1_moveTrawler_23 : decode cX1_moveTrawler 23 = .ok (.aload_n 0, 1) := by decide +kernel
theorem dX1_moveTrawler_24 : decode cX1_moveTrawler 24 = .ok (.getfield 40, 3) := by decide +kernel
theorem dX1_moveTrawler_27 : decode cX1_moveTrawler 27 = .ok (.aload_n 0, 1) := by decide +kernel
theorem dX1_moveTrawler_28 : decode cX1_moveTrawler 28 = .ok (.getfield 15, 3) := by decide +kernel
theorem dX1_moveTrawler_31 : decode cX1_moveTrawler 31 = .ok (.iload_n 1, 1) := by decide +kernel
theorem dX1_moveTrawler_32 : decode cX1_moveTrawler 32 = .ok (.bipush 25, 2) := by decide +kernel
theorem dX1_moveTrawler_34 : decode cX1_moveTrawler 34 = .ok (.imul, 1) := by decide +kernel
theorem dX1_moveTrawler_35 : decode cX1_moveTrawler 35 = .ok (.iload_n 2, 1) := by decide +kernel
theorem dX1_moveTrawler_36 : decode cX1_moveTrawler 36 = .ok (.iadd, 1) := by decide +kernel
theorem dX1_moveTrawler_37 : decode cX1_moveTrawler 37 = .ok (.iaload, 1) := by decide +kernel
theorem dX1_moveTrawler_38 : decode cX1_moveTrawler 38 = .ok (.iconst (-1), 1) := by decide +kernel
theorem dX1_moveTrawler_39 : decode cX1_moveTrawler 39 = .ok (.ixor, 1) := by decide +kernel
theorem dX1_moveTrawler_40 : decode cX1_moveTrawler 40 = .ok (.iand, 1) := by decide +kernel
theorem dX1_moveTrawler_41 : decode cX1_moveTrawler 41 = .ok (.istore_n 3, 1) := by decide +kernel
theorem dX1_moveTrawler_42 : decode cX1_moveTrawler 42 = .ok (.iload_n 3, 1) := by decide +kernel
theorem dX1_moveTrawler_43 : decode cX1_moveTrawler 43 = .ok (.iload_n 3, 1) := by decide +kernel
theorem dX1_moveTrawler_44 : decode cX1_moveTrawler 44 = .ok (.aload_n 0, 1) := by decide +kernel
theorem dX1_moveTrawler_45 : decode cX1_moveTrawler 45 = .ok (.getfield 28, 3) := by decide +kernel
theorem dX1_moveTrawler_48 : decode cX1_moveTrawler 48 = .ok (.ishl, 1) := by decide +kernel
theorem dX1_moveTrawler_49 : decode cX1_moveTrawler 49 = .ok (.ior, 1) := by decide +kernel
theorem dX1_moveTrawler_50 : decode cX1_moveTrawler 50 = .ok (.iload_n 3, 1) := by decide +kernel
theorem dX1_moveTrawler_51 : decode cX1_moveTrawler 51 = .ok (.aload_n 0, 1) := by decide +kernel
theorem dX1_moveTrawler_52 : decode cX1_moveTrawler 52 = .ok (.getfield 28, 3) := by decide +kernel
theorem dX1_moveTrawler_55 : decode cX1_moveTrawler 55 = .ok (.iushr, 1) := by decide +kernel
theorem dX1_moveTrawler_56 : decode cX1_moveTrawler 56 = .ok (.ior, 1) := by decide +kernel
theorem dX1_moveTrawler_57 : decode cX1_moveTrawler 57 = .ok (.iload_n 3, 1) := by decide +kernel
theorem dX1_moveTrawler_58 : decode cX1_moveTrawler 58 = .ok (.aload_n 0, 1) := by decide +kernel
theorem dX1_moveTrawler_59 : decode cX1_moveTrawler 59 = .ok (.getfield 46, 3) := by decide +kernel
theorem dX1_moveTrawler_62 : decode cX1_moveTrawler 62 = .ok (.iand, 1) := by decide +kernel
theorem dX1_moveTrawler_63 : decode cX1_moveTrawler 63 = .ok (.iconst 1, 1) := by decide +kernel
theorem dX1_moveTrawler_64 : decode cX1_moveTrawler 64 = .ok (.ishl, 1) := by decide +kernel
theorem dX1_moveTrawler_65 : decode cX1_moveTrawler 65 = .ok (.ior, 1) := by decide +kernel
theorem dX1_moveTrawler_66 : decode cX1_moveTrawler 66 = .ok (.iload_n 3, 1) := by decide +kernel
theorem dX1_moveTrawler_67 : decode cX1_moveTrawler 67 = .ok (.aload_n 0, 1) := by decide +kernel
theorem dX1_moveTrawler_68 : decode cX1_moveTrawler 68 = .ok (.getfield 43, 3) := by decide +kernel
theorem dX1_moveTrawler_71 : decode cX1_moveTrawler 71 = .ok (.iand, 1) := by decide +kernel
theorem dX1_moveTrawler_72 : decode cX1_moveTrawler 72 = .ok (.iconst 1, 1) := by decide +kernel
theorem dX1_moveTrawler_73 : decode cX1_moveTrawler 73 = .ok (.iushr, 1) := by decide +kernel
theorem dX1_moveTrawler_74 : decode cX1_moveTrawler 74 = .ok (.ior, 1) := by decide +kernel
theorem dX1_moveTrawler_75 : decode cX1_moveTrawler 75 = .ok (.istore 4, 2) := by decide +kernel
theorem dX1_moveTrawler_77 : decode cX1_moveTrawler 77 = .ok (.aload_n 0, 1) := by decide +kernel
theorem dX1_moveTrawler_78 : decode cX1_moveTrawler 78 = .ok (.getfield 21, 3) := by decide +kernel
theorem dX1_moveTrawler_81 : decode cX1_moveTrawler 81 = .ok (.iload_n 1, 1) := by decide +kernel
theorem dX1_moveTrawler_82 : decode cX1_moveTrawler 82 = .ok (.bipush 25, 2) := by decide +kernel
theorem dX1_moveTrawler_84 : decode cX1_moveTrawler 84 = .ok (.imul, 1) := by decide +kernel
theorem dX1_moveTrawler_85 : decode cX1_moveTrawler 85 = .ok (.iload_n 2, 1) := by decide +kernel
theorem dX1_moveTrawler_86 : decode cX1_moveTrawler 86 = .ok (.iadd, 1) := by decide +kernel
theorem dX1_moveTrawler_87 : decode cX1_moveTrawler 87 = .ok (.aload_n 0, 1) := by decide +kernel
theorem dX1_moveTrawler_88 : decode cX1_moveTrawler 88 = .ok (.getfield 40, 3) := by decide +kernel
theorem dX1_moveTrawler_91 : decode cX1_moveTrawler 91 = .ok (.iload 4, 2) := by decide +kernel
theorem dX1_moveTrawler_93 : decode cX1_moveTrawler 93 = .ok (.iconst (-1), 1) := by decide +kernel
theorem dX1_moveTrawler_94 : decode cX1_moveTrawler 94 = .ok (.ixor, 1) := by decide +kernel
theorem dX1_moveTrawler_95 : decode cX1_moveTrawler 95 = .ok (.iand, 1) := by decide +kernel
theorem dX1_moveTrawler_96 : decode cX1_moveTrawler 96 = .ok (.iastore, 1) := by decide +kernel
theorem dX1_moveTrawler_97 : decode cX1_moveTrawler 97 = .ok (.iinc 2 1, 3) := by decide +kernel
theorem dX1_moveTrawler_100 : decode cX1_moveTrawler 100 = .ok (.goto (-85), 3) := by decide +kernel
theorem dX1_moveTrawler_103 : decode cX1_moveTrawler 103 = .ok (.iinc 1 1, 3) := by decide +kernel
theorem dX1_moveTrawler_106 : decode cX1_moveTrawler 106 = .ok (.goto (-101), 3) := by decide +kernel
theorem dX1_moveTrawler_109 : decode cX1_moveTrawler 109 = .ok (.return_, 1) := by decide +kernel
theorem dX1_moveFrigate_0 : decode cX1_moveFrigate 0 = .ok (.aload_n 0, 1) := by decide +kernel
theorem dX1_moveFrigate_1 : decode cX1_moveFrigate 1 = .ok (.getfield 49, 3) := by decide +kernel
theorem dX1_moveFrigate_4 : decode cX1_moveFrigate 4 = .ok (.istore_n 1, 1) := by decide +kernel
theorem dX1_moveFrigate_5 : decode cX1_moveFrigate 5 = .ok (.iload_n 1, 1) := by decide +kernel
theorem dX1_moveFrigate_6 : decode cX1_moveFrigate 6 = .ok (.aload_n 0, 1) := by decide +kernel
theorem dX1_moveFrigate_7 : decode cX1_moveFrigate 7 = .ok (.getfield 52, 3) := by decide +kernel
theorem dX1_moveFrigate_10 : decode cX1_moveFrigate 10 = .ok (.if_icmp .gt 111, 3) := by decide +kernel
theorem dX1_moveFrigate_13 : decode cX1_moveFrigate 13 = .ok (.iconst 0, 1) := by decide +kernel
theorem dX1_moveFrigate_14 : decode cX1_moveFrigate 14 = .ok (.istore_n 2, 1) := by decide +kernel
theorem dX1_moveFrigate_15 : decode cX1_moveFrigate 15 = .ok (.iload_n 2, 1) := by decide +kernel
theorem dX1_moveFrigate_16 : decode cX1_moveFrigate 16 = .ok (.aload_n 0, 1) := by decide +kernel
theorem dX1_moveFrigate_17 : decode cX1_moveFrigate 17 = .ok (.getfield 37, 3) := by decide +kernel
theorem dX1_moveFrigate_20 : decode cX1_moveFrigate 20 = .ok (.if_icmp .ge 95, 3) := by decide +kernel
theorem dX1_moveFrigate_23 : decode cX1_moveFrigate 23 = .ok (.aload_n 0, 1) := by decide +kernel
theorem dX1_moveFrigate_24 : decode cX1_moveFrigate 24 = .ok (.getfield 40, 3) := by decide +kernel
theorem dX1_moveFrigate_27 : decode cX1_moveFrigate 27 = .ok (.istore_n 3, 1) := by decide +kernel
theorem dX1_moveFrigate_28 : decode cX1_moveFrigate 28 = .ok (.iconst 0, 1) := by decide +kernel
theorem dX1_moveFrigate_29 : decode cX1_moveFrigate 29 = .ok (.istore 4, 2) := by decide +kernel
theorem dX1_moveFrigate_31 : decode cX1_moveFrigate 31 = .ok (.iload 4, 2) := by decide +kernel
theorem dX1_moveFrigate_33 : decode cX1_moveFrigate 33 = .ok (.iconst 5, 1) := by decide +kernel
theorem dX1_moveFrigate_34 : decode cX1_moveFrigate 34 = .ok (.if_icmp .ge 59, 3) := by decide +kernel
theorem dX1_moveFrigate_37 : decode cX1_moveFrigate 37 = .ok (.aload_n 0, 1) := by decide +kernel
theorem dX1_moveFrigate_38 : decode cX1_moveFrigate 38 = .ok (.getfield 11, 3) := by decide +kernel
theorem dX1_moveFrigate_41 : decode cX1_moveFrigate 41 = .ok (.iload_n 1, 1) := by decide +kernel
theorem dX1_moveFrigate_42 : decode cX1_moveFrigate 42 = .ok (.iconst 5, 1) := by decide +kernel
theorem dX1_moveFrigate_43 : decode cX1_moveFrigate 43 = .ok (.imul, 1) := by decide +kernel
theorem dX1_moveFrigate_44 : decode cX1_moveFrigate 44 = .ok (.iload 4, 2) := by decide +kernel
theorem dX1_moveFrigate_46 : decode cX1_moveFrigate 46 = .ok (.iadd, 1) := by decide +kernel
theorem dX1_moveFrigate_47 : decode cX1_moveFrigate 47 = .ok (.iaload, 1) := by decide +kernel
theorem dX1_moveFrigate_48 : decode cX1_moveFrigate 48 = .ok (.istore 5, 2) := by decide +kernel
theorem dX1_moveFrigate_50 : decode cX1_moveFrigate 50 = .ok (.iload 5, 2) := by decide +kernel
theorem dX1_moveFrigate_52 : decode cX1_moveFrigate 52 = .ok (.iload_n 2, 1) := by decide +kernel
theorem dX1_moveFrigate_53 : decode cX1_moveFrigate 53 = .ok (.if_icmp .eq 34, 3) := by decide +kernel
theorem dX1_moveFrigate_56 : decode cX1_moveFrigate 56 = .ok (.iload 5, 2) := by decide +kernel
theorem dX1_moveFrigate_58 : decode cX1_moveFrigate 58 = .ok (.aload_n 0, 1) := by decide +kernel
theorem dX1_moveFrigate_59 : decode cX1_moveFrigate 59 = .ok (.getfield 49, 3) := by decide +kernel
theorem dX1_moveFrigate_62 : decode cX1_moveFrigate 62 = .ok (.aload_n 0, 1) := by decide +kernel
theorem dX1_moveFrigate_63 : decode cX1_moveFrigate 63 = .ok (.getfield 52, 3) := by decide +kernel
theorem dX1_moveFrigate_66 : decode cX1_moveFrigate 66 = .ok (.invokestatic 65, 3) := by decide +kernel
theorem dX1_moveFrigate_69 : decode cX1_moveFrigate 69 = .ok (.ifCond .eq 18, 3) := by decide +kernel
theorem dX1_moveFrigate_72 : decode cX1_moveFrigate 72 = .ok (.iload_n 3, 1) := by decide +kernel
theorem dX1_moveFrigate_73 : decode cX1_moveFrigate 73 = .ok (.aload_n 0, 1) := by decide +kernel
theorem dX1_moveFrigate_74 : decode cX1_moveFrigate 74 = .ok (.getfield 21, 3) := by decide +kernel
theorem dX1_moveFrigate_77 : decode cX1_moveFrigate 77 = .ok (.iload 5, 2) := by decide +kernel
theorem dX1_moveFrigate_79 : decode cX1_moveFrigate 79 = .ok (.bipush 25, 2) := by decide +kernel
theorem dX1_moveFrigate_81 : decode cX1_moveFrigate 81 = .ok (.imul, 1) := by decide +kernel
theorem dX1_moveFrigate_82 : decode cX1_moveFrigate 82 = .ok (.iload_n 2, 1) := by decide +kernel
theorem dX1_moveFrigate_83 : decode cX1_moveFrigate 83 = .ok (.iadd, 1) := by decide +kernel
theorem dX1_moveFrigate_84 : decode cX1_moveFrigate 84 = .ok (.iaload, 1) := by decide +kernel
theorem dX1_moveFrigate_85 : decode cX1_moveFrigate 85 = .ok (.iand, 1) := by decide +kernel
theorem dX1_moveFrigate_86 : decode cX1_moveFrigate 86 = .ok (.istore_n 3, 1) := by decide +kernel
theorem dX1_moveFrigate_87 : decode cX1_moveFrigate 87 = .ok (.iinc 4 1, 3) := by decide +kernel
theorem dX1_moveFrigate_90 : decode cX1_moveFrigate 90 = .ok (.goto (-59), 3) := by decide +kernel
theorem dX1_moveFrigate_93 : decode cX1_moveFrigate 93 = .ok (.aload_n 0, 1) := by decide +kernel
theorem dX1_moveFrigate_94 : decode cX1_moveFrigate 94 = .ok (.getfield 18, 3) := by decide +kernel
theorem dX1_moveFrigate_97 : decode cX1_moveFrigate 97 = .ok (.iload_n 1, 1) := by decide +kernel
theorem dX1_moveFrigate_98 : decode cX1_moveFrigate 98 = .ok (.bipush 25, 2) := by decide +kernel
theorem dX1_moveFrigate_100 : decode cX1_moveFrigate 100 = .ok (.imul, 1) := by decide +kernel
theorem dX1_moveFrigate_101 : decode cX1_moveFrigate 101 = .ok (.iload_n 2, 1) := by decide +kernel
theorem dX1_moveFrigate_102 : decode cX1_moveFrigate 102 = .ok (.iadd, 1) := by decide +kernel
theorem dX1_moveFrigate_103 : decode cX1_moveFrigate 103 = .ok (.iload_n 3, 1) := by decide +kernel
theorem dX1_moveFrigate_104 : decode cX1_moveFrigate 104 = .ok (.iconst 1, 1) := by decide +kernel
theorem dX1_moveFrigate_105 : decode cX1_moveFrigate 105 = .ok (.iload_n 2, 1) := by decide +kernel
theorem dX1_moveFrigate_106 : decode cX1_moveFrigate 106 = .ok (.ishl, 1) := by decide +kernel
theorem dX1_moveFrigate_107 : decode cX1_moveFrigate 107 = .ok (.ior, 1) := by decide +kernel
theorem dX1_moveFrigate_108 : decode cX1_moveFrigate 108 = .ok (.iastore, 1) := by decide +kernel
theorem dX1_moveFrigate_109 : decode cX1_moveFrigate 109 = .ok (.iinc 2 1, 3) := by decide +kernel
theorem dX1_moveFrigate_112 : decode cX1_moveFrigate 112 = .ok (.goto (-97), 3) := by decide +kernel
theorem dX1_moveFrigate_115 : decode cX1_moveFrigate 115 = .ok (.iinc 1 1, 3) := by decide +kernel
theorem dX1_moveFrigate_118 : decode cX1_moveFrigate 118 = .ok (.goto (-113), 3) := by decide +kernel
theorem dX1_moveFrigate_121 : decode cX1_moveFrigate 121 = .ok (.return_, 1) := by decide +kernel
theorem dX1_moveWarder_0 : decode cX1_moveWarder 0 = .ok (.aload_n 0, 1) := by decide +kernel
theorem dX1_moveWarder_1 : decode cX1_moveWarder 1 = .ok (.getfield 49, 3) := by decide +kernel
theorem dX1_moveWarder_4 : decode cX1_moveWarder 4 = .ok (.istore_n 1, 1) := by decide +kernel
theorem dX1_moveWarder_5 : decode cX1_moveWarder 5 = .ok (.iload_n 1, 1) := by decide +kernel
theorem dX1_moveWarder_6 : decode cX1_moveWarder 6 = .ok (.aload_n 0, 1) := by decide +kernel
theorem dX1_moveWarder_7 : decode cX1_moveWarder 7 = .ok (.getfield 52, 3) := by decide +kernel
theorem dX1_moveWarder_10 : decode cX1_moveWarder 10 = .ok (.if_icmp .gt 105, 3) := by decide +kernel
theorem dX1_moveWarder_13 : decode cX1_moveWarder 13 = .ok (.iconst 0, 1) := by decide +kernel
theorem dX1_moveWarder_14 : decode cX1_moveWarder 14 = .ok (.istore_n 2, 1) := by decide +kernel
theorem dX1_moveWarder_15 : decode cX1_moveWarder 15 = .ok (.iload_n 2, 1) := by decide +kernel
theorem dX1_moveWarder_16 : decode cX1_moveWarder 16 = .ok (.aload_n 0, 1) := by decide +kernel
theorem dX1_moveWarder_17 : decode cX1_moveWarder 17 = .ok (.getfield 37, 3) := by decide +kernel
theorem dX1_moveWarder_20 : decode cX1_moveWarder 20 = .ok (.if_icmp .ge 89, 3) := by decide +kernel
theorem dX1_moveWarder_23 : decode cX1_moveWarder 23 = .ok (.iconst 1, 1) := by decide +kernel
theorem dX1_moveWarder_24 : decode cX1_moveWarder 24 = .ok (.iload_n 2, 1) := by decide +kernel
theorem dX1_moveWarder_25 : decode cX1_moveWarder 25 = .ok (.ishl, 1) := by decide +kernel
theorem dX1_moveWarder_26 : decode cX1_moveWarder 26 = .ok (.istore_n 3, 1) := by decide +kernel
theorem dX1_moveWarder_27 : decode cX1_moveWarder 27 = .ok (.iconst 0, 1) := by decide +kernel
theorem dX1_moveWarder_28 : decode cX1_moveWarder 28 = .ok (.istore 4, 2) := by decide +kernel
theorem dX1_moveWarder_30 : decode cX1_moveWarder 30 = .ok (.iload 4, 2) := by decide +kernel
theorem dX1_moveWarder_32 : decode cX1_moveWarder 32 = .ok (.iconst 5, 1) := by decide +kernel
theorem dX1_moveWarder_33 : decode cX1_moveWarder 33 = .ok (.if_icmp .ge 58, 3) := by decide +kernel
theorem dX1_moveWarder_36 : decode cX1_moveWarder 36 = .ok (.aload_n 0, 1) := by decide +kernel
theorem dX1_moveWarder_37 : decode cX1_moveWarder 37 = .ok (.getfield 11, 3) := by decide +kernel
theorem dX1_moveWarder_40 : decode cX1_moveWarder 40 = .ok (.iload_n 2, 1) := by decide +kernel
theorem dX1_moveWarder_41 : decode cX1_moveWarder 41 = .ok (.iconst 5, 1) := by decide +kernel
theorem dX1_moveWarder_42 : decode cX1_moveWarder 42 = .ok (.imul, 1) := by decide +kernel
theorem dX1_moveWarder_43 : decode cX1_moveWarder 43 = .ok (.iload 4, 2) := by decide +kernel
theorem dX1_moveWarder_45 : decode cX1_moveWarder 45 = .ok (.iadd, 1) := by decide +kernel
theorem dX1_moveWarder_46 : decode cX1_moveWarder 46 = .ok (.iaload, 1) := by decide +kernel
theorem dX1_moveWarder_47 : decode cX1_moveWarder 47 = .ok (.istore 5, 2) := by decide +kernel
theorem dX1_moveWarder_49 : decode cX1_moveWarder 49 = .ok (.iload 5, 2) := by decide +kernel
theorem dX1_moveWarder_51 : decode cX1_moveWarder 51 = .ok (.iload_n 1, 1) := by decide +kernel
theorem dX1_moveWarder_52 : decode cX1_moveWarder 52 = .ok (.if_icmp .eq 33, 3) := by decide +kernel
theorem dX1_moveWarder_55 : decode cX1_moveWarder 55 = .ok (.iload 5, 2) := by decide +kernel
theorem dX1_moveWarder_57 : decode cX1_moveWarder 57 = .ok (.iconst 0, 1) := by decide +kernel
theorem dX1_moveWarder_58 : decode cX1_moveWarder 58 = .ok (.aload_n 0, 1) := by decide +kernel
theorem dX1_moveWarder_59 : decode cX1_moveWarder 59 = .ok (.getfield 37, 3) := by decide +kernel
theorem dX1_moveWarder_62 : decode cX1_moveWarder 62 = .ok (.iconst 1, 1) := by decide +kernel
theorem dX1_moveWarder_63 : decode cX1_moveWarder 63 = .ok (.isub, 1) := by decide +kernel
theorem dX1_moveWarder_64 : decode cX1_moveWarder 64 = .ok (.invokestatic 65, 3) := by decide +kernel
theorem dX1_moveWarder_67 : decode cX1_moveWarder 67 = .ok (.ifCond .eq 18, 3) := by decide +kernel
theorem dX1_moveWarder_70 : decode cX1_moveWarder 70 = .ok (.iload_n 3, 1) := by decide +kernel
theorem dX1_moveWarder_71 : decode cX1_moveWarder 71 = .ok (.aload_n 0, 1) := by decide +kernel
theorem dX1_moveWarder_72 : decode cX1_moveWarder 72 = .ok (.getfield 18, 3) := by decide +kernel
theorem dX1_moveWarder_75 : decode cX1_moveWarder 75 = .ok (.iload_n 1, 1) := by decide +kernel
theorem dX1_moveWarder_76 : decode cX1_moveWarder 76 = .ok (.bipush 25, 2) := by decide +kernel
theorem dX1_moveWarder_78 : decode cX1_moveWarder 78 = .ok (.imul, 1) := by decide +kernel
theorem dX1_moveWarder_79 : decode cX1_moveWarder 79 = .ok (.iload 5, 2) := by decide +kernel
theorem dX1_moveWarder_81 : decode cX1_moveWarder 81 = .ok (.iadd, 1) := by decide +kernel
theorem dX1_moveWarder_82 : decode cX1_moveWarder 82 = .ok (.iaload, 1) := by decide +kernel
theorem dX1_moveWarder_83 : decode cX1_moveWarder 83 = .ok (.ior, 1) := by decide +kernel
theorem dX1_moveWarder_84 : decode cX1_moveWarder 84 = .ok (.istore_n 3, 1) := by decide +kernel
theorem dX1_moveWarder_85 : decode cX1_moveWarder 85 = .ok (.iinc 4 1, 3) := by decide +kernel
theorem dX1_moveWarder_88 : decode cX1_moveWarder 88 = .ok (.goto (-58), 3) := by decide +kernel
theorem dX1_moveWarder_91 : decode cX1_moveWarder 91 = .ok (.aload_n 0, 1) := by decide +kernel
theorem dX1_moveWarder_92 : decode cX1_moveWarder 92 = .ok (.getfield 15, 3) := by decide +kernel
theorem dX1_moveWarder_95 : decode cX1_moveWarder 95 = .ok (.iload_n 1, 1) := by decide +kernel
theorem dX1_moveWarder_96 : decode cX1_moveWarder 96 = .ok (.bipush 25, 2) := by decide +kernel
theorem dX1_moveWarder_98 : decode cX1_moveWarder 98 = .ok (.imul, 1) := by decide +kernel
theorem dX1_moveWarder_99 : decode cX1_moveWarder 99 = .ok (.iload_n 2, 1) := by decide +kernel
theorem dX1_moveWarder_100 : decode cX1_moveWarder 100 = .ok (.iadd, 1) := by decide +kernel
theorem dX1_moveWarder_101 : decode cX1_moveWarder 101 = .ok (.iload_n 3, 1) := by decide +kernel
theorem dX1_moveWarder_102 : decode cX1_moveWarder 102 = .ok (.iastore, 1) := by decide +kernel
theorem dX1_moveWarder_103 : decode cX1_moveWarder 103 = .ok (.iinc 2 1, 3) := by decide +kernel
theorem dX1_moveWarder_106 : decode cX1_moveWarder 106 = .ok (.goto (-91), 3) := by decide +kernel
theorem dX1_moveWarder_109 : decode cX1_moveWarder 109 = .ok (.iinc 1 1, 3) := by decide +kernel
theorem dX1_moveWarder_112 : decode cX1_moveWarder 112 = .ok (.goto (-107), 3) := by decide +kernel
theorem dX1_moveWarder_115 : decode cX1_moveWarder 115 = .ok (.return_, 1) := by decide +kernel
theorem dX1_has_0 : decode cX1_has 0 = .ok (.iload_n 2, 1) := by decide +kernel
theorem dX1_has_1 : decode cX1_has 1 = .ok (.bipush 25, 2) := by decide +kernel
theorem dX1_has_3 : decode cX1_has 3 = .ok (.imul, 1) := by decide +kernel
theorem dX1_has_4 : decode cX1_has 4 = .ok (.iload_n 1, 1) := by decide +kernel
theorem dX1_has_5 : decode cX1_has 5 = .ok (.iadd, 1) := by decide +kernel
theorem dX1_has_6 : decode cX1_has 6 = .ok (.istore 4, 2) := by decide +kernel
theorem dX1_has_8 : decode cX1_has 8 = .ok (.iload 4, 2) := by decide +kernel
theorem dX1_has_10 : decode cX1_has 10 = .ok (.iconst 0, 1) := by decide +kernel
theorem dX1_has_11 : decode cX1_has 11 = .ok (.aload_n 0, 1) := by decide +kernel
theorem dX1_has_12 : decode cX1_has 12 = .ok (.arraylength, 1) := by decide +kernel
theorem dX1_has_13 : decode cX1_has 13 = .ok (.iconst 1, 1) := by decide +kernel
theorem dX1_has_14 : decode cX1_has 14 = .ok (.isub, 1) := by decide +kernel
theorem dX1_has_15 : decode cX1_has 15 = .ok (.invokestatic 65, 3) := by decide +kernel
theorem dX1_has_18 : decode cX1_has 18 = .ok (.ifCond .eq 19, 3) := by decide +kernel
theorem dX1_has_21 : decode cX1_has 21 = .ok (.aload_n 0, 1) := by decide +kernel
theorem dX1_has_22 : decode cX1_has 22 = .ok (.iload 4, 2) := by decide +kernel
theorem dX1_has_24 : decode cX1_has 24 = .ok (.iaload, 1) := by decide +kernel
theorem dX1_has_25 : decode cX1_has 25 = .ok (.iload_n 3, 1) := by decide +kernel
theorem dX1_has_26 : decode cX1_has 26 = .ok (.iushr, 1) := by decide +kernel
theorem dX1_has_27 : decode cX1_has 27 = .ok (.iconst 1, 1) := by decide +kernel
theorem dX1_has_28 : decode cX1_has 28 = .ok (.iand, 1) := by decide +kernel
theorem dX1_has_29 : decode cX1_has 29 = .ok (.iconst 1, 1) := by decide +kernel
theorem dX1_has_30 : decode cX1_has 30 = .ok (.if_icmp .ne 7, 3) := by decide +kernel
theorem dX1_has_33 : decode cX1_has 33 = .ok (.iconst 1, 1) := by decide +kernel
theorem dX1_has_34 : decode cX1_has 34 = .ok (.goto 4, 3) := by decide +kernel
theorem dX1_has_37 : decode cX1_has 37 = .ok (.iconst 0, 1) := by decide +kernel
theorem dX1_has_38 : decode cX1_has 38 = .ok (.ireturn, 1) := by decide +kernel
theorem dX1_leastMove_0 : decode cX1_leastMove 0 = .ok (.iconst 0, 1) := by decide +kernel
theorem dX1_leastMove_1 : decode cX1_leastMove 1 = .ok (.istore 4, 2) := by decide +kernel
theorem dX1_leastMove_3 : decode cX1_leastMove 3 = .ok (.iload 4, 2) := by decide +kernel
theorem dX1_leastMove_5 : decode cX1_leastMove 5 = .ok (.iconst 5, 1) := by decide +kernel
theorem dX1_leastMove_6 : decode cX1_leastMove 6 = .ok (.if_icmp .ge 75, 3) := by decide +kernel
theorem dX1_leastMove_9 : decode cX1_leastMove 9 = .ok (.iload_n 2, 1) := by decide +kernel
theorem dX1_leastMove_10 : decode cX1_leastMove 10 = .ok (.iconst 5, 1) := by decide +kernel
theorem dX1_leastMove_11 : decode cX1_leastMove 11 = .ok (.imul, 1) := by decide +kernel
theorem dX1_leastMove_12 : decode cX1_leastMove 12 = .ok (.iload 4, 2) := by decide +kernel
theorem dX1_leastMove_14 : decode cX1_leastMove 14 = .ok (.iadd, 1) := by decide +kernel
theorem dX1_leastMove_15 : decode cX1_leastMove 15 = .ok (.istore 5, 2) := by decide +kernel
theorem dX1_leastMove_17 : decode cX1_leastMove 17 = .ok (.iload 5, 2) := by decide +kernel
theorem dX1_leastMove_19 : decode cX1_leastMove 19 = .ok (.iconst 0, 1) := by decide +kernel
theorem dX1_leastMove_20 : decode cX1_leastMove 20 = .ok (.aload_n 0, 1) := by decide +kernel
theorem dX1_leastMove_21 : decode cX1_leastMove 21 = .ok (.getfield 11, 3) := by decide +kernel
theorem dX1_leastMove_24 : decode cX1_leastMove 24 = .ok (.arraylength, 1) := by decide +kernel
theorem dX1_leastMove_25 : decode cX1_leastMove 25 = .ok (.iconst 1, 1) := by decide +kernel
theorem dX1_leastMove_26 : decode cX1_leastMove 26 = .ok (.isub, 1) := by decide +kernel
theorem dX1_leastMove_27 : decode cX1_leastMove 27 = .ok (.invokestatic 65, 3) := by decide +kernel
theorem dX1_leastMove_30 : decode cX1_leastMove 30 = .ok (.ifCond .eq 13, 3) := by decide +kernel
theorem dX1_leastMove_33 : decode cX1_leastMove 33 = .ok (.aload_n 0, 1) := by decide +kernel
theorem dX1_leastMove_34 : decode cX1_leastMove 34 = .ok (.getfield 11, 3) := by decide +kernel
theorem dX1_leastMove_37 : decode cX1_leastMove 37 = .ok (.iload 5, 2) := by decide +kernel
theorem dX1_leastMove_39 : decode cX1_leastMove 39 = .ok (.iaload, 1) := by decide +kernel
theorem dX1_leastMove_40 : decode cX1_leastMove 40 = .ok (.goto 4, 3) := by decide +kernel
theorem dX1_leastMove_43 : decode cX1_leastMove 43 = .ok (.iconst (-1), 1) := by decide +kernel
theorem dX1_leastMove_44 : decode cX1_leastMove 44 = .ok (.istore 6, 2) := by decide +kernel
theorem dX1_leastMove_46 : decode cX1_leastMove 46 = .ok (.iload 6, 2) := by decide +kernel
theorem dX1_leastMove_48 : decode cX1_leastMove 48 = .ok (.iconst (-1), 1) := by decide +kernel
theorem dX1_leastMove_49 : decode cX1_leastMove 49 = .ok (.if_icmp .eq 26, 3) := by decide +kernel
theorem dX1_leastMove_52 : decode cX1_leastMove 52 = .ok (.iload 6, 2) := by decide +kernel
theorem dX1_leastMove_54 : decode cX1_leastMove 54 = .ok (.iload_n 3, 1) := by decide +kernel
theorem dX1_leastMove_55 : decode cX1_leastMove 55 = .ok (.if_icmp .eq 20, 3) := by decide +kernel
theorem dX1_leastMove_58 : decode cX1_leastMove 58 = .ok (.aload_n 0, 1) := by decide +kernel
theorem dX1_leastMove_59 : decode cX1_leastMove 59 = .ok (.getfield 18, 3) := by decide +kernel
theorem dX1_leastMove_62 : decode cX1_leastMove 62 = .ok (.iload 6, 2) := by decide +kernel
theorem dX1_leastMove_64 : decode cX1_leastMove 64 = .ok (.iload_n 3, 1) := by decide +kernel
theorem dX1_leastMove_65 : decode cX1_leastMove 65 = .ok (.iload_n 1, 1) := by decide +kernel
theorem dX1_leastMove_66 : decode cX1_leastMove 66 = .ok (.invokestatic 81, 3) := by decide +kernel
theorem dX1_leastMove_69 : decode cX1_leastMove 69 = .ok (.ifCond .eq 6, 3) := by decide +kernel
theorem dX1_leastMove_72 : decode cX1_leastMove 72 = .ok (.iload 6, 2) := by decide +kernel
theorem dX1_leastMove_74 : decode cX1_leastMove 74 = .ok (.ireturn, 1) := by decide +kernel
theorem dX1_leastMove_75 : decode cX1_leastMove 75 = .ok (.iinc 4 1, 3) := by decide +kernel
theorem dX1_leastMove_78 : decode cX1_leastMove 78 = .ok (.goto (-75), 3) := by decide +kernel
theorem dX1_leastMove_81 : decode cX1_leastMove 81 = .ok (.iconst (-1), 1) := by decide +kernel
theorem dX1_leastMove_82 : decode cX1_leastMove 82 = .ok (.ireturn, 1) := by decide +kernel
theorem dX2_init_0 : decode cX2_init 0 = .ok (.aload_n 0, 1) := by decide +kernel
theorem dX2_init_1 : decode cX2_init 1 = .ok (.invokespecial 3, 3) := by decide +kernel
theorem dX2_init_4 : decode cX2_init 4 = .ok (.aload_n 0, 1) := by decide +kernel
theorem dX2_init_5 : decode cX2_init 5 = .ok (.bipush 12, 2) := by decide +kernel
theorem dX2_init_7 : decode cX2_init 7 = .ok (.newarray .int, 2) := by decide +kernel
theorem dX2_init_9 : decode cX2_init 9 = .ok (.putfield 11, 3) := by decide +kernel
theorem dX2_init_12 : decode cX2_init 12 = .ok (.aload_n 0, 1) := by decide +kernel
theorem dX2_init_13 : decode cX2_init 13 = .ok (.bipush 12, 2) := by decide +kernel
theorem dX2_init_15 : decode cX2_init 15 = .ok (.newarray .int, 2) := by decide +kernel
theorem dX2_init_17 : decode cX2_init 17 = .ok (.putfield 15, 3) := by decide +kernel
theorem dX2_init_20 : decode cX2_init 20 = .ok (.aload_n 0, 1) := by decide +kernel
theorem dX2_init_21 : decode cX2_init 21 = .ok (.bipush 12, 2) := by decide +kernel
theorem dX2_init_23 : decode cX2_init 23 = .ok (.newarray .int, 2) := by decide +kernel
theorem dX2_init_25 : decode cX2_init 25 = .ok (.putfield 18, 3) := by decide +kernel
theorem dX2_init_28 : decode cX2_init 28 = .ok (.aload_n 0, 1) := by decide +kernel
theorem dX2_init_29 : decode cX2_init 29 = .ok (.bipush 12, 2) := by decide +kernel
theorem dX2_init_31 : decode cX2_init 31 = .ok (.newarray .int, 2) := by decide +kernel
theorem dX2_init_33 : decode cX2_init 33 = .ok (.putfield 21, 3) := by decide +kernel
theorem dX2_init_36 : decode cX2_init 36 = .ok (.aload_n 0, 1) := by decide +kernel
theorem dX2_init_37 : decode cX2_init 37 = .ok (.bipush 12, 2) := by decide +kernel
theorem dX2_init_39 : decode cX2_init 39 = .ok (.newarray .int, 2) := by decide +kernel
theorem dX2_init_41 : decode cX2_init 41 = .ok (.putfield 24, 3) := by decide +kernel
theorem dX2_init_44 : decode cX2_init 44 = .ok (.aload_n 0, 1) := by decide +kernel
theorem dX2_init_45 : decode cX2_init 45 = .ok (.sipush 400, 3) := by decide +kernel
theorem dX2_init_48 : decode cX2_init 48 = .ok (.newarray .int, 2) := by decide +kernel
theorem dX2_init_50 : decode cX2_init 50 = .ok (.putfield 27, 3) := by decide +kernel
theorem dX2_init_53 : decode cX2_init 53 = .ok (.aload_n 0, 1) := by decide +kernel
theorem dX2_init_54 : decode cX2_init 54 = .ok (.sipush 144, 3) := by decide +kernel
theorem dX2_init_57 : decode cX2_init 57 = .ok (.newarray .int, 2) := by decide +kernel
theorem dX2_init_59 : decode cX2_init 59 = .ok (.putfield 30, 3) := by decide +kernel
theorem dX2_init_62 : decode cX2_init 62 = .ok (.aload_n 0, 1) := by decide +kernel
theorem dX2_init_63 : decode cX2_init 63 = .ok (.sipush 144, 3) := by decide +kernel
theorem dX2_init_66 : decode cX2_init 66 = .ok (.newarray .int, 2) := by decide +kernel
theorem dX2_init_68 : decode cX2_init 68 = .ok (.putfield 33, 3) := by decide +kernel
theorem dX2_init_71 : decode cX2_init 71 = .ok (.aload_n 0, 1) := by decide +kernel
theorem dX2_init_72 : decode cX2_init 72 = .ok (.sipush 144, 3) := by decide +kernel
theorem dX2_init_75 : decode cX2_init 75 = .ok (.newarray .int, 2) := by decide +kernel
theorem dX2_init_77 : decode cX2_init 77 = .ok (.putfield 36, 3) := by decide +kernel
theorem dX2_init_80 : decode cX2_init 80 = .ok (.aload_n 0, 1) := by decide +kernel
theorem dX2_init_81 : decode cX2_init 81 = .ok (.sipush 144, 3) := by decide +kernel
theorem dX2_init_84 : decode cX2_init 84 = .ok (.newarray .int, 2) := by decide +kernel
theorem dX2_init_86 : decode cX2_init 86 = .ok (.putfield 39, 3) := by decide +kernel
theorem dX2_init_89 : decode cX2_init 89 = .ok (.aload_n 0, 1) := by decide +kernel
theorem dX2_init_90 : decode cX2_init 90 = .ok (.sipush 144, 3) := by decide +kernel
theorem dX2_init_93 : decode cX2_init 93 = .ok (.newarray .int, 2) := by decide +kernel
theorem dX2_init_95 : decode cX2_init 95 = .ok (.putfield 42, 3) := by decide +kernel
theorem dX2_init_98 : decode cX2_init 98 = .ok (.aload_n 0, 1) := by decide +kernel
theorem dX2_init_99 : decode cX2_init 99 = .ok (.sipush 144, 3) := by decide +kernel
theorem dX2_init_102 : decode cX2_init 102 = .ok (.newarray .int, 2) := by decide +kernel
theorem dX2_init_104 : decode cX2_init 104 = .ok (.putfield 45, 3) := by decide +kernel
theorem dX2_init_107 : decode cX2_init 107 = .ok (.aload_n 0, 1) := by decide +kernel
theorem dX2_init_108 : decode cX2_init 108 = .ok (.bipush 96, 2) := by decide +kernel
theorem dX2_init_110 : decode cX2_init 110 = .ok (.newarray .long, 2) := by decide +kernel
theorem dX2_init_112 : decode cX2_init 112 = .ok (.putfield 48, 3) := by decide +kernel
theorem dX2_init_115 : decode cX2_init 115 = .ok (.return_, 1) := by decide +kernel
theorem dX2_has_0 : decode cX2_has 0 = .ok (.iload_n 1, 1) := by decide +kernel
theorem dX2_has_1 : decode cX2_has 1 = .ok (.ifCond .lt 15, 3) := by decide +kernel
theorem dX2_has_4 : decode cX2_has 4 = .ok (.iload_n 1, 1) := by decide +kernel
theorem dX2_has_5 : decode cX2_has 5 = .ok (.aload_n 0, 1) := by decide +kernel
theorem dX2_has_6 : decode cX2_has 6 = .ok (.getfield 52, 3) := by decide +kernel
theorem dX2_has_9 : decode cX2_has 9 = .ok (.if_icmp .ge 7, 3) := by decide +kernel
theorem dX2_has_12 : decode cX2_has 12 = .ok (.iconst 1, 1) := by decide +kernel
theorem dX2_has_13 : decode cX2_has 13 = .ok (.goto 4, 3) := by decide +kernel
theorem dX2_has_16 : decode cX2_has 16 = .ok (.iconst 0, 1) := by decide +kernel
theorem dX2_has_17 : decode cX2_has 17 = .ok (.ireturn, 1) := by decide +kernel
theorem dX2_isFull_0 : decode cX2_isFull 0 = .ok (.aload_n 0, 1) := by decide +kernel
theorem dX2_isFull_1 : decode cX2_isFull 1 = .ok (.getfield 52, 3) := by decide +kernel
theorem dX2_isFull_4 : decode cX2_isFull 4 = .ok (.bipush 12, 2) := by decide +kernel
theorem dX2_isFull_6 : decode cX2_isFull 6 = .ok (.if_icmp .lt 7, 3) := by decide +kernel
theorem dX2_isFull_9 : decode cX2_isFull 9 = .ok (.iconst 1, 1) := by decide +kernel
theorem dX2_isFull_10 : decode cX2_isFull 10 = .ok (.goto 4, 3) := by decide +kernel
theorem dX2_isFull_13 : decode cX2_isFull 13 = .ok (.iconst 0, 1) := by decide +kernel
theorem dX2_isFull_14 : decode cX2_isFull 14 = .ok (.ireturn, 1) := by decide +kernel
theorem dX2_isOf_0 : decode cX2_isOf 0 = .ok (.aload_n 0, 1) := by decide +kernel
theorem dX2_isOf_1 : decode cX2_isOf 1 = .ok (.iload_n 1, 1) := by decide +kernel
theorem dX2_isOf_2 : decode cX2_isOf 2 = .ok (.invokevirtual 56, 3) := by decide +kernel
theorem dX2_isOf_5 : decode cX2_isOf 5 = .ok (.ifCond .eq 17, 3) := by decide +kernel
theorem dX2_isOf_8 : decode cX2_isOf 8 = .ok (.aload_n 0, 1) := by decide +kernel
theorem dX2_isOf_9 : decode cX2_isOf 9 = .ok (.getfield 11, 3) := by decide +kernel
theorem dX2_isOf_12 : decode cX2_isOf 12 = .ok (.iload_n 1, 1) := by decide +kernel
theorem dX2_isOf_13 : decode cX2_isOf 13 = .ok (.iaload, 1) := by decide +kernel
theorem dX2_isOf_14 : decode cX2_isOf 14 = .ok (.iload_n 2, 1) := by decide +kernel
theorem dX2_isOf_15 : decode cX2_isOf 15 = .ok (.if_icmp .ne 7, 3) := by decide +kernel
theorem dX2_isOf_18 : decode cX2_isOf 18 = .ok (.iconst 1, 1) := by decide +kernel
theorem dX2_isOf_19 : decode cX2_isOf 19 = .ok (.goto 4, 3) := by decide +kernel
theorem dX2_isOf_22 : decode cX2_isOf 22 = .ok (.iconst 0, 1) := by decide +kernel
theorem dX2_isOf_23 : decode cX2_isOf 23 = .ok (.ireturn, 1) := by decide +kernel
theorem dX2_beginReading_0 : decode cX2_beginReading 0 = .ok (.aload_n 0, 1) := by decide +kernel
theorem dX2_beginReading_1 : decode cX2_beginReading 1 = .ok (.aload_n 0, 1) := by decide +kernel
theorem dX2_beginReading_2 : decode cX2_beginReading 2 = .ok (.getfield 60, 3) := by decide +kernel
theorem dX2_beginReading_5 : decode cX2_beginReading 5 = .ok (.putfield 63, 3) := by decide +kernel
theorem dX2_beginReading_8 : decode cX2_beginReading 8 = .ok (.aload_n 0, 1) := by decide +kernel
theorem dX2_beginReading_9 : decode cX2_beginReading 9 = .ok (.getfield 27, 3) := by decide +kernel
theorem dX2_beginReading_12 : decode cX2_beginReading 12 = .ok (.arraylength, 1) := by decide +kernel
theorem dX2_beginReading_13 : decode cX2_beginReading 13 = .ok (.aload_n 0, 1) := by decide +kernel
theorem dX2_beginReading_14 : decode cX2_beginReading 14 = .ok (.getfield 60, 3) := by decide +kernel
theorem dX2_beginReading_17 : decode cX2_beginReading 17 = .ok (.sipush 400, 3) := by decide +kernel
theorem dX2_beginReading_20 : decode cX2_beginReading 20 = .ok (.iadd, 1) := by decide +kernel
theorem dX2_beginReading_21 : decode cX2_beginReading 21 = .ok (.if_icmp .ge 26, 3) := by decide +kernel
theorem dX2_beginReading_24 : decode cX2_beginReading 24 = .ok (.aload_n 0, 1) := by decide +kernel
theorem dX2_beginReading_25 : decode cX2_beginReading 25 = .ok (.aload_n 0, 1) := by decide +kernel
theorem dX2_beginReading_26 : decode cX2_beginReading 26 = .ok (.getfield 27, 3) := by decide +kernel
theorem dX2_beginReading_29 : decode cX2_beginReading 29 = .ok (.iconst 0, 1) := by decide +kernel
theorem dX2_beginReading_30 : decode cX2_beginReading 30 = .ok (.aload_n 0, 1) := by decide +kernel
theorem dX2_beginReading_31 : decode cX2_beginReading 31 = .ok (.getfield 60, 3) := by decide +kernel
theorem dX2_beginReading_34 : decode cX2_beginReading 34 = .ok (.invokestatic 66, 3) := by decide +kernel
theorem dX2_beginReading_37 : decode cX2_beginReading 37 = .ok (.sipush 400, 3) := by decide +kernel
theorem dX2_beginReading_40 : decode cX2_beginReading 40 = .ok (.iadd, 1) := by decide +kernel
theorem dX2_beginReading_41 : decode cX2_beginReading 41 = .ok (.invokestatic 72, 3) := by decide +kernel
theorem dX2_beginReading_44 : decode cX2_beginReading 44 = .ok (.putfield 27, 3) := by decide +kernel
theorem dX2_beginReading_47 : decode cX2_beginReading 47 = .ok (.aload_n 0, 1) := by decide +kernel
theorem dX2_beginReading_48 : decode cX2_beginReading 48 = .ok (.getfield 52, 3) := by decide +kernel
theorem dX2_beginReading_51 : decode cX2_beginReading 51 = .ok (.bipush 12, 2) := by decide +kernel
theorem dX2_beginReading_53 : decode cX2_beginReading 53 = .ok (.if_icmp .ge 13, 3) := by decide +kernel
theorem dX2_beginReading_56 : decode cX2_beginReading 56 = .ok (.aload_n 0, 1) := by decide +kernel
theorem dX2_beginReading_57 : decode cX2_beginReading 57 = .ok (.getfield 24, 3) := by decide +kernel
theorem dX2_beginReading_60 : decode cX2_beginReading 60 = .ok (.aload_n 0, 1) := by decide +kernel
theorem dX2_beginReading_61 : decode cX2_beginReading 61 = .ok (.getfield 52, 3) := by decide +kernel
theorem dX2_beginReading_64 : decode cX2_beginReading 64 = .ok (.iconst 0, 1) := by decide +kernel
theorem dX2_beginReading_65 : decode cX2_beginReading 65 = .ok (.iastore, 1) := by decide +kernel
theorem dX2_beginReading_66 : decode cX2_beginReading 66 = .ok (.return_, 1) := by decide +kernel
theorem dX2_clausesRead_0 : decode cX2_clausesRead 0 = .ok (.aload_n 0, 1) := by decide +kernel
theorem dX2_clausesRead_1 : decode cX2_clausesRead 1 = .ok (.getfield 52, 3) := by decide +kernel
theorem dX2_clausesRead_4 : decode cX2_clausesRead 4 = .ok (.bipush 12, 2) := by decide +kernel
theorem dX2_clausesRead_6 : decode cX2_clausesRead 6 = .ok (.if_icmp .ge 15, 3) := by decide +kernel
theorem dX2_clausesRead_9 : decode cX2_clausesRead 9 = .ok (.aload_n 0, 1) := by decide +kernel
theorem dX2_clausesRead_10 : decode cX2_clausesRead 10 = .ok (.getfield 24, 3) := by decide +kernel
theorem dX2_clausesRead_13 : decode cX2_clausesRead 13 = .ok (.aload_n 0, 1) := by decide +kernel
theorem dX2_clausesRead_14 : decode cX2_clausesRead 14 = .ok (.getfield 52, 3) := by decide +kernel
theorem dX2_clausesRead_17 : decode cX2_clausesRead 17 = .ok (.iaload, 1) := by decide +kernel
theorem dX2_clausesRead_18 : decode cX2_clausesRead 18 = .ok (.goto 5, 3) := by decide +kernel
theorem dX2_clausesRead_21 : decode cX2_clausesRead 21 = .ok (.bipush 12, 2) := by decide +kernel
theorem dX2_clausesRead_23 : decode cX2_clausesRead 23 = .ok (.ireturn, 1) := by decide +kernel
theorem dX2_clauseBeingRead_0 : decode cX2_clauseBeingRead 0 = .ok (.aload_n 0, 1) := by decide +kernel
theorem dX2_clauseBeingRead_1 : decode cX2_clauseBeingRead 1 = .ok (.getfield 52, 3) := by decide +kernel
theorem dX2_clauseBeingRead_4 : decode cX2_clauseBeingRead 4 = .ok (.bipush 12, 2) := by decide +kernel
theorem dX2_clauseBeingRead_6 : decode cX2_clauseBeingRead 6 = .ok (.imul, 1) := by decide +kernel
theorem dX2_clauseBeingRead_7 : decode cX2_clauseBeingRead 7 = .ok (.aload_n 0, 1) := by decide +kernel
theorem dX2_clauseBeingRead_8 : decode cX2_clauseBeingRead 8 = .ok (.invokevirtual 78, 3) := by decide +kernel
theorem dX2_clauseBeingRead_11 : decode cX2_clauseBeingRead 11 = .ok (.iadd, 1) := by decide +kernel
theorem dX2_clauseBeingRead_12 : decode cX2_clauseBeingRead 12 = .ok (.ireturn, 1) := by decide +kernel
theorem dX2_beginClause_0 : decode cX2_beginClause 0 = .ok (.aload_n 0, 1) := by decide +kernel
theorem dX2_beginClause_1 : decode cX2_beginClause 1 = .ok (.invokevirtual 78, 3) := by decide +kernel
theorem dX2_beginClause_4 : decode cX2_beginClause 4 = .ok (.bipush 12, 2) := by decide +kernel
theorem dX2_beginClause_6 : decode cX2_beginClause 6 = .ok (.if_icmp .ge 39, 3) := by decide +kernel
theorem dX2_beginClause_9 : decode cX2_beginClause 9 = .ok (.aload_n 0, 1) := by decide +kernel
theorem dX2_beginClause_10 : decode cX2_beginClause 10 = .ok (.invokevirtual 82, 3) := by decide +kernel
theorem dX2_beginClause_13 : decode cX2_beginClause 13 = .ok (.istore_n 3, 1) := by decide +kernel
theorem dX2_beginClause_14 : decode cX2_beginClause 14 = .ok (.aload_n 0, 1) := by decide +kernel
theorem dX2_beginClause_15 : decode cX2_beginClause 15 = .ok (.getfield 30, 3) := by decide +kernel
theorem dX2_beginClause_18 : decode cX2_beginClause 18 = .ok (.iload_n 3, 1) := by decide +kernel
theorem dX2_beginClause_19 : decode cX2_beginClause 19 = .ok (.iload_n 1, 1) := by decide +kernel
theorem dX2_beginClause_20 : decode cX2_beginClause 20 = .ok (.iastore, 1) := by decide +kernel
theorem dX2_beginClause_21 : decode cX2_beginClause 21 = .ok (.aload_n 0, 1) := by decide +kernel
theorem dX2_beginClause_22 : decode cX2_beginClause 22 = .ok (.getfield 33, 3) := by decide +kernel
theorem dX2_beginClause_25 : decode cX2_beginClause 25 = .ok (.iload_n 3, 1) := by decide +kernel
theorem dX2_beginClause_26 : decode cX2_beginClause 26 = .ok (.iload_n 2, 1) := by decide +kernel
theorem dX2_beginClause_27 : decode cX2_beginClause 27 = .ok (.iastore, 1) := by decide +kernel
theorem dX2_beginClause_28 : decode cX2_beginClause 28 = .ok (.aload_n 0, 1) := by decide +kernel
theorem dX2_beginClause_29 : decode cX2_beginClause 29 = .ok (.getfield 36, 3) := by decide +kernel
theorem dX2_beginClause_32 : decode cX2_beginClause 32 = .ok (.iload_n 3, 1) := by decide +kernel
theorem dX2_beginClause_33 : decode cX2_beginClause 33 = .ok (.iconst 0, 1) := by decide +kernel
theorem dX2_beginClause_34 : decode cX2_beginClause 34 = .ok (.iastore, 1) := by decide +kernel
theorem dX2_beginClause_35 : decode cX2_beginClause 35 = .ok (.aload_n 0, 1) := by decide +kernel
theorem dX2_beginClause_36 : decode cX2_beginClause 36 = .ok (.getfield 39, 3) := by decide +kernel
theorem dX2_beginClause_39 : decode cX2_beginClause 39 = .ok (.iload_n 3, 1) := by decide +kernel
theorem dX2_beginClause_40 : decode cX2_beginClause 40 = .ok (.aload_n 0, 1) := by decide +kernel
theorem dX2_beginClause_41 : decode cX2_beginClause 41 = .ok (.getfield 63, 3) := by decide +kernel
theorem dX2_beginClause_44 : decode cX2_beginClause 44 = .ok (.iastore, 1) := by decide +kernel
theorem dX2_beginClause_45 : decode cX2_beginClause 45 = .ok (.return_, 1) := by decide +kernel
theorem dX2_beginCond_0 : decode cX2_beginCond 0 = .ok (.aload_n 0, 1) := by decide +kernel
theorem dX2_beginCond_1 : decode cX2_beginCond 1 = .ok (.invokevirtual 78, 3) := by decide +kernel
theorem dX2_beginCond_4 : decode cX2_beginCond 4 = .ok (.bipush 12, 2) := by decide +kernel
theorem dX2_beginCond_6 : decode cX2_beginCond 6 = .ok (.if_icmp .ge 16, 3) := by decide +kernel
theorem dX2_beginCond_9 : decode cX2_beginCond 9 = .ok (.aload_n 0, 1) := by decide +kernel
theorem dX2_beginCond_10 : decode cX2_beginCond 10 = .ok (.getfield 42, 3) := by decide +kernel
theorem dX2_beginCond_13 : decode cX2_beginCond 13 = .ok (.aload_n 0, 1) := by decide +kernel
theorem dX2_beginCond_14 : decode cX2_beginCond 14 = .ok (.invokevirtual 82, 3) := by decide +kernel
theorem dX2_beginCond_17 : decode cX2_beginCond 17 = .ok (.aload_n 0, 1) := by decide +kernel
theorem dX2_beginCond_18 : decode cX2_beginCond 18 = .ok (.getfield 63, 3) := by decide +kernel
theorem dX2_beginCond_21 : decode cX2_beginCond 21 = .ok (.iastore, 1) := by decide +kernel
theorem dX2_beginCond_22 : decode cX2_beginCond 22 = .ok (.return_, 1) := by decide +kernel
theorem dX2_setCond_0 : decode cX2_setCond 0 = .ok (.aload_n 0, 1) := by decide +kernel
theorem dX2_setCond_1 : decode cX2_setCond 1 = .ok (.invokevirtual 78, 3) := by decide +kernel
theorem dX2_setCond_4 : decode cX2_setCond 4 = .ok (.bipush 12, 2) := by decide +kernel
theorem dX2_setCond_6 : decode cX2_setCond 6 = .ok (.if_icmp .ge 13, 3) := by decide +kernel
theorem dX2_setCond_9 : decode cX2_setCond 9 = .ok (.aload_n 0, 1) := by decide +kernel
theorem dX2_setCond_10 : decode cX2_setCond 10 = .ok (.getfield 36, 3) := by decide +kernel
theorem dX2_setCond_13 : decode cX2_setCond 13 = .ok (.aload_n 0, 1) := by decide +kernel
theorem dX2_setCond_14 : decode cX2_setCond 14 = .ok (.invokevirtual 82, 3) := by decide +kernel
theorem dX2_setCond_17 : decode cX2_setCond 17 = .ok (.iload_n 1, 1) := by decide +kernel
theorem dX2_setCond_18 : decode cX2_setCond 18 = .ok (.iastore, 1) := by decide +kernel
theorem dX2_setCond_19 : decode cX2_setCond 19 = .ok (.return_, 1) := by decide +kernel
theorem dX2_endClause_0 : decode cX2_endClause 0 = .ok (.aload_n 0, 1) := by decide +kernel
theorem dX2_endClause_1 : decode cX2_endClause 1 = .ok (.invokevirtual 78, 3) := by decide +kernel
theorem dX2_endClause_4 : decode cX2_endClause 4 = .ok (.bipush 12, 2) := by decide +kernel
theorem dX2_endClause_6 : decode cX2_endClause 6 = .ok (.if_icmp .ge 29, 3) := by decide +kernel
theorem dX2_endClause_9 : decode cX2_endClause 9 = .ok (.aload_n 0, 1) := by decide +kernel
theorem dX2_endClause_10 : decode cX2_endClause 10 = .ok (.getfield 45, 3) := by decide +kernel
theorem dX2_endClause_13 : decode cX2_endClause 13 = .ok (.aload_n 0, 1) := by decide +kernel
theorem dX2_endClause_14 : decode cX2_endClause 14 = .ok (.invokevirtual 82, 3) := by decide +kernel
theorem dX2_endClause_17 : decode cX2_endClause 17 = .ok (.aload_n 0, 1) := by decide +kernel
theorem dX2_endClause_18 : decode cX2_endClause 18 = .ok (.getfield 63, 3) := by decide +kernel
theorem dX2_endClause_21 : decode cX2_endClause 21 = .ok (.iastore, 1) := by decide +kernel
theorem dX2_endClause_22 : decode cX2_endClause 22 = .ok (.aload_n 0, 1) := by decide +kernel
theorem dX2_endClause_23 : decode cX2_endClause 23 = .ok (.getfield 24, 3) := by decide +kernel
theorem dX2_endClause_26 : decode cX2_endClause 26 = .ok (.aload_n 0, 1) := by decide +kernel
theorem dX2_endClause_27 : decode cX2_endClause 27 = .ok (.getfield 52, 3) := by decide +kernel
theorem dX2_endClause_30 : decode cX2_endClause 30 = .ok (.dup2, 1) := by decide +kernel
theorem dX2_endClause_31 : decode cX2_endClause 31 = .ok (.iaload, 1) := by decide +kernel
theorem dX2_endClause_32 : decode cX2_endClause 32 = .ok (.iconst 1, 1) := by decide +kernel
theorem dX2_endClause_33 : decode cX2_endClause 33 = .ok (.iadd, 1) := by decide +kernel
theorem dX2_endClause_34 : decode cX2_endClause 34 = .ok (.iastore, 1) := by decide +kernel
theorem dX2_endClause_35 : decode cX2_endClause 35 = .ok (.return_, 1) := by decide +kernel
theorem dX2_emit_0 : decode cX2_emit 0 = .ok (.aload_n 0, 1) := by decide +kernel
theorem dX2_emit_1 : decode cX2_emit 1 = .ok (.getfield 63, 3) := by decide +kernel
theorem dX2_emit_4 : decode cX2_emit 4 = .ok (.aload_n 0, 1) := by decide +kernel
theorem dX2_emit_5 : decode cX2_emit 5 = .ok (.getfield 27, 3) := by decide +kernel
theorem dX2_emit_8 : decode cX2_emit 8 = .ok (.arraylength, 1) := by decide +kernel
theorem dX2_emit_9 : decode cX2_emit 9 = .ok (.if_icmp .ge 23, 3) := by decide +kernel
theorem dX2_emit_12 : decode cX2_emit 12 = .ok (.aload_n 0, 1) := by decide +kernel
theorem dX2_emit_13 : decode cX2_emit 13 = .ok (.getfield 27, 3) := by decide +kernel
theorem dX2_emit_16 : decode cX2_emit 16 = .ok (.aload_n 0, 1) := by decide +kernel
theorem dX2_emit_17 : decode cX2_emit 17 = .ok (.getfield 63, 3) := by decide +kernel
theorem dX2_emit_20 : decode cX2_emit 20 = .ok (.iload_n 1, 1) := by decide +kernel
theorem dX2_emit_21 : decode cX2_emit 21 = .ok (.iastore, 1) := by decide +kernel
theorem dX2_emit_22 : decode cX2_emit 22 = .ok (.aload_n 0, 1) := by decide +kernel
theorem dX2_emit_23 : decode cX2_emit 23 = .ok (.dup, 1) := by decide +kernel
theorem dX2_emit_24 : decode cX2_emit 24 = .ok (.getfield 63, 3) := by decide +kernel
theorem dX2_emit_27 : decode cX2_emit 27 = .ok (.iconst 1, 1) := by decide +kernel
theorem dX2_emit_28 : decode cX2_emit 28 = .ok (.iadd, 1) := by decide +kernel
theorem dX2_emit_29 : decode cX2_emit 29 = .ok (.putfield 63, 3) := by decide +kernel
theorem dX2_emit_32 : decode cX2_emit 32 = .ok (.return_, 1) := by decide +kernel
theorem dX2_enact_0 : decode cX2_enact 0 = .ok (.aload_n 0, 1) := by decide +kernel
theorem dX2_enact_1 : decode cX2_enact 1 = .ok (.getfield 52, 3) := by decide +kernel
theorem dX2_enact_4 : decode cX2_enact 4 = .ok (.bipush 12, 2) := by decide +kernel
theorem dX2_enact_6 : decode cX2_enact 6 = .ok (.if_icmp .lt 5, 3) := by decide +kernel
theorem dX2_enact_9 : decode cX2_enact 9 = .ok (.iconst (-1), 1) := by decide +kernel
theorem dX2_enact_10 : decode cX2_enact 10 = .ok (.ireturn, 1) := by decide +kernel
theorem dX2_enact_11 : decode cX2_enact 11 = .ok (.aload_n 0, 1) := by decide +kernel
theorem dX2_enact_12 : decode cX2_enact 12 = .ok (.getfield 11, 3) := by decide +kernel
theorem dX2_enact_15 : decode cX2_enact 15 = .ok (.aload_n 0, 1) := by decide +kernel
theorem dX2_enact_16 : decode cX2_enact 16 = .ok (.getfield 52, 3) := by decide +kernel
theorem dX2_enact_19 : decode cX2_enact 19 = .ok (.iload_n 1, 1) := by decide +kernel
theorem dX2_enact_20 : decode cX2_enact 20 = .ok (.iastore, 1) := by decide +kernel
theorem dX2_enact_21 : decode cX2_enact 21 = .ok (.aload_n 0, 1) := by decide +kernel
theorem dX2_enact_22 : decode cX2_enact 22 = .ok (.getfield 15, 3) := by decide +kernel
theorem dX2_enact_25 : decode cX2_enact 25 = .ok (.aload_n 0, 1) := by decide +kernel
theorem dX2_enact_26 : decode cX2_enact 26 = .ok (.getfield 52, 3) := by decide +kernel
theorem dX2_enact_29 : decode cX2_enact 29 = .ok (.iload_n 2, 1) := by decide +kernel
theorem dX2_enact_30 : decode cX2_enact 30 = .ok (.iastore, 1) := by decide +kernel
theorem dX2_enact_31 : decode cX2_enact 31 = .ok (.aload_n 0, 1) := by decide +kernel
theorem dX2_enact_32 : decode cX2_enact 32 = .ok (.getfield 18, 3) := by decide +kernel
theorem dX2_enact_35 : decode cX2_enact 35 = .ok (.aload_n 0, 1) := by decide +kernel
theorem dX2_enact_36 : decode cX2_enact 36 = .ok (.getfield 52, 3) := by decide +kernel
theorem dX2_enact_39 : decode cX2_enact 39 = .ok (.sipush 9000, 3) := by decide +kernel
theorem dX2_enact_42 : decode cX2_enact 42 = .ok (.iastore, 1) := by decide +kernel
theorem dX2_enact_43 : decode cX2_enact 43 = .ok (.aload_n 0, 1) := by decide +kernel
theorem dX2_enact_44 : decode cX2_enact 44 = .ok (.aload_n 0, 1) := by decide +kernel
theorem dX2_enact_45 : decode cX2_enact 45 = .ok (.getfield 63, 3) := by decide +kernel
theorem dX2_enact_48 : decode cX2_enact 48 = .ok (.putfield 60, 3) := by decide +kernel
theorem dX2_enact_51 : decode cX2_enact 51 = .ok (.aload_n 0, 1) := by decide +kernel
theorem dX2_enact_52 : decode cX2_enact 52 = .ok (.iload_n 2, 1) := by decide +kernel
theorem dX2_enact_53 : decode cX2_enact 53 = .ok (.invokevirtual 85, 3) := by decide +kernel
theorem dX2_enact_56 : decode cX2_enact 56 = .ok (.aload_n 0, 1) := by decide +kernel
theorem dX2_enact_57 : decode cX2_enact 57 = .ok (.iload_n 2, 1) := by decide +kernel
theorem dX2_enact_58 : decode cX2_enact 58 = .ok (.invokevirtual 89, 3) := by decide +kernel
theorem dX2_enact_61 : decode cX2_enact 61 = .ok (.aload_n 0, 1) := by decide +kernel
theorem dX2_enact_62 : decode cX2_enact 62 = .ok (.dup, 1) := by decide +kernel
theorem dX2_enact_63 : decode cX2_enact 63 = .ok (.getfield 52, 3) := by decide +kernel
theorem dX2_enact_66 : decode cX2_enact 66 = .ok (.iconst 1, 1) := by decide +kernel
theorem dX2_enact_67 : decode cX2_enact 67 = .ok (.iadd, 1) := by decide +kernel
theorem dX2_enact_68 : decode cX2_enact 68 = .ok (.putfield 52, 3) := by decide +kernel
theorem dX2_enact_71 : decode cX2_enact 71 = .ok (.aload_n 0, 1) := by decide +kernel
theorem dX2_enact_72 : decode cX2_enact 72 = .ok (.getfield 52, 3) := by decide +kernel
theorem dX2_enact_75 : decode cX2_enact 75 = .ok (.iconst 1, 1) := by decide +kernel
theorem dX2_enact_76 : decode cX2_enact 76 = .ok (.isub, 1) := by decide +kernel
theorem dX2_enact_77 : decode cX2_enact 77 = .ok (.ireturn, 1) := by decide +kernel
theorem dX2_putInOrder_0 : decode cX2_putInOrder 0 = .ok (.aload_n 0, 1) := by decide +kernel
theorem dX2_putInOrder_1 : decode cX2_putInOrder 1 = .ok (.getfield 52, 3) := by decide +kernel
theorem dX2_putInOrder_4 : decode cX2_putInOrder 4 = .ok (.istore_n 2, 1) := by decide +kernel
theorem dX2_putInOrder_5 : decode cX2_putInOrder 5 = .ok (.iload_n 2, 1) := by decide +kernel
theorem dX2_putInOrder_6 : decode cX2_putInOrder 6 = .ok (.ifCond .le 34, 3) := by decide +kernel
theorem dX2_putInOrder_9 : decode cX2_putInOrder 9 = .ok (.aload_n 0, 1) := by decide +kernel
theorem dX2_putInOrder_10 : decode cX2_putInOrder 10 = .ok (.iload_n 2, 1) := by decide +kernel
theorem dX2_putInOrder_11 : decode cX2_putInOrder 11 = .ok (.iconst 1, 1) := by decide +kernel
theorem dX2_putInOrder_12 : decode cX2_putInOrder 12 = .ok (.isub, 1) := by decide +kernel
theorem dX2_putInOrder_13 : decode cX2_putInOrder 13 = .ok (.invokevirtual 92, 3) := by decide +kernel
theorem dX2_putInOrder_16 : decode cX2_putInOrder 16 = .ok (.iload_n 1, 1) := by decide +kernel
theorem dX2_putInOrder_17 : decode cX2_putInOrder 17 = .ok (.if_icmp .gt 23, 3) := by decide +kernel
theorem dX2_putInOrder_20 : decode cX2_putInOrder 20 = .ok (.aload_n 0, 1) := by decide +kernel
theorem dX2_putInOrder_21 : decode cX2_putInOrder 21 = .ok (.getfield 21, 3) := by decide +kernel
theorem dX2_putInOrder_24 : decode cX2_putInOrder 24 = .ok (.iload_n 2, 1) := by decide +kernel
theorem dX2_putInOrder_25 : decode cX2_putInOrder 25 = .ok (.aload_n 0, 1) := by decide +kernel
theorem dX2_putInOrder_26 : decode cX2_putInOrder 26 = .ok (.getfield 21, 3) := by decide +kernel
theorem dX2_putInOrder_29 : decode cX2_putInOrder 29 = .ok (.iload_n 2, 1) := by decide +kernel
theorem dX2_putInOrder_30 : decode cX2_putInOrder 30 = .ok (.iconst 1, 1) := by decide +kernel
theorem dX2_putInOrder_31 : decode cX2_putInOrder 31 = .ok (.isub, 1) := by decide +kernel
theorem dX2_putInOrder_32 : decode cX2_putInOrder 32 = .ok (.iaload, 1) := by decide +kernel
theorem dX2_putInOrder_33 : decode cX2_putInOrder 33 = .ok (.iastore, 1) := by decide +kernel
theorem dX2_putInOrder_34 : decode cX2_putInOrder 34 = .ok (.iinc 2 (-1), 3) := by decide +kernel
theorem dX2_putInOrder_37 : decode cX2_putInOrder 37 = .ok (.goto (-32), 3) := by decide +kernel
theorem dX2_putInOrder_40 : decode cX2_putInOrder 40 = .ok (.aload_n 0, 1) := by decide +kernel
theorem dX2_putInOrder_41 : decode cX2_putInOrder 41 = .ok (.getfield 21, 3) := by decide +kernel
theorem dX2_putInOrder_44 : decode cX2_putInOrder 44 = .ok (.iload_n 2, 1) := by decide +kernel
theorem dX2_putInOrder_45 : decode cX2_putInOrder 45 = .ok (.aload_n 0, 1) := by decide +kernel
theorem dX2_putInOrder_46 : decode cX2_putInOrder 46 = .ok (.getfield 52, 3) := by decide +kernel
theorem dX2_putInOrder_49 : decode cX2_putInOrder 49 = .ok (.iastore, 1) := by decide +kernel
theorem dX2_putInOrder_50 : decode cX2_putInOrder 50 = .ok (.return_, 1) := by decide +kernel
theorem dX2_minuteAt_0 : decode cX2_minuteAt 0 = .ok (.aload_n 0, 1) := by decide +kernel
theorem dX2_minuteAt_1 : decode cX2_minuteAt 1 = .ok (.getfield 21, 3) := by decide +kernel
theorem dX2_minuteAt_4 : decode cX2_minuteAt 4 = .ok (.iload_n 1, 1) := by decide +kernel
theorem dX2_minuteAt_5 : decode cX2_minuteAt 5 = .ok (.iaload, 1) := by decide +kernel
theorem dX2_minuteAt_6 : decode cX2_minuteAt 6 = .ok (.istore_n 2, 1) := by decide +kernel
theorem dX2_minuteAt_7 : decode cX2_minuteAt 7 = .ok (.iload_n 2, 1) := by decide +kernel
theorem dX2_minuteAt_8 : decode cX2_minuteAt 8 = .ok (.iconst 0, 1) := by decide +kernel
theorem dX2_minuteAt_9 : decode cX2_minuteAt 9 = .ok (.bipush 11, 2) := by decide +kernel
theorem dX2_minuteAt_11 : decode cX2_minuteAt 11 = .ok (.invokestatic 96, 3) := by decide +kernel
theorem dX2_minuteAt_14 : decode cX2_minuteAt 14 = .ok (.ifCond .eq 12, 3) := by decide +kernel
theorem dX2_minuteAt_17 : decode cX2_minuteAt 17 = .ok (.aload_n 0, 1) := by decide +kernel
theorem dX2_minuteAt_18 : decode cX2_minuteAt 18 = .ok (.getfield 15, 3) := by decide +kernel
theorem dX2_minuteAt_21 : decode cX2_minuteAt 21 = .ok (.iload_n 2, 1) := by decide +kernel
theorem dX2_minuteAt_22 : decode cX2_minuteAt 22 = .ok (.iaload, 1) := by decide +kernel
theorem dX2_minuteAt_23 : decode cX2_minuteAt 23 = .ok (.goto 4, 3) := by decide +kernel
theorem dX2_minuteAt_26 : decode cX2_minuteAt 26 = .ok (.iconst 0, 1) := by decide +kernel
theorem dX2_minuteAt_27 : decode cX2_minuteAt 27 = .ok (.ireturn, 1) := by decide +kernel
theorem dX2_strikeOthers_0 : decode cX2_strikeOthers 0 = .ok (.aload_n 0, 1) := by decide +kernel
theorem dX2_strikeOthers_1 : decode cX2_strikeOthers 1 = .ok (.getfield 52, 3) := by decide +kernel
theorem dX2_strikeOthers_4 : decode cX2_strikeOthers 4 = .ok (.bipush 12, 2) := by decide +kernel
theorem dX2_strikeOthers_6 : decode cX2_strikeOthers 6 = .ok (.imul, 1) := by decide +kernel
theorem dX2_strikeOthers_7 : decode cX2_strikeOthers 7 = .ok (.istore_n 2, 1) := by decide +kernel
theorem dX2_strikeOthers_8 : decode cX2_strikeOthers 8 = .ok (.iload_n 2, 1) := by decide +kernel
theorem dX2_strikeOthers_9 : decode cX2_strikeOthers 9 = .ok (.istore_n 3, 1) := by decide +kernel
theorem dX2_strikeOthers_10 : decode cX2_strikeOthers 10 = .ok (.iload_n 3, 1) := by decide +kernel
theorem dX2_strikeOthers_11 : decode cX2_strikeOthers 11 = .ok (.iload_n 2, 1) := by decide +kernel
theorem dX2_strikeOthers_12 : decode cX2_strikeOthers 12 = .ok (.aload_n 0, 1) := by decide +kernel
theorem dX2_strikeOthers_13 : decode cX2_strikeOthers 13 = .ok (.getfield 24, 3) := by decide +kernel
theorem dX2_strikeOthers_16 : decode cX2_strikeOthers 16 = .ok (.aload_n 0, 1) := by decide +kernel
theorem dX2_strikeOthers_17 : decode cX2_strikeOthers 17 = .ok (.getfield 52, 3) := by decide +kernel
theorem dX2_strikeOthers_20 : decode cX2_strikeOthers 20 = .ok (.iaload, 1) := by decide +kernel
theorem dX2_strikeOthers_21 : decode cX2_strikeOthers 21 = .ok (.iadd, 1) := by decide +kernel
theorem dX2_strikeOthers_22 : decode cX2_strikeOthers 22 = .ok (.if_icmp .ge 59, 3) := by decide +kernel
theorem dX2_strikeOthers_25 : decode cX2_strikeOthers 25 = .ok (.aload_n 0, 1) := by decide +kernel
theorem dX2_strikeOthers_26 : decode cX2_strikeOthers 26 = .ok (.getfield 30, 3) := by decide +kernel
theorem dX2_strikeOthers_29 : decode cX2_strikeOthers 29 = .ok (.iload_n 3, 1) := by decide +kernel
theorem dX2_strikeOthers_30 : decode cX2_strikeOthers 30 = .ok (.iaload, 1) := by decide +kernel
theorem dX2_strikeOthers_31 : decode cX2_strikeOthers 31 = .ok (.bipush 7, 2) := by decide +kernel
theorem dX2_strikeOthers_33 : decode cX2_strikeOthers 33 = .ok (.if_icmp .ne 42, 3) := by decide +kernel
theorem dX2_strikeOthers_36 : decode cX2_strikeOthers 36 = .ok (.aload_n 0, 1) := by decide +kernel
theorem dX2_strikeOthers_37 : decode cX2_strikeOthers 37 = .ok (.aload_n 0, 1) := by decide +kernel
theorem dX2_strikeOthers_38 : decode cX2_strikeOthers 38 = .ok (.getfield 33, 3) := by decide +kernel
theorem dX2_strikeOthers_41 : decode cX2_strikeOthers 41 = .ok (.iload_n 3, 1) := by decide +kernel
theorem dX2_strikeOthers_42 : decode cX2_strikeOthers 42 = .ok (.iaload, 1) := by decide +kernel
theorem dX2_strikeOthers_43 : decode cX2_strikeOthers 43 = .ok (.invokevirtual 56, 3) := by decide +kernel
theorem dX2_strikeOthers_46 : decode cX2_strikeOthers 46 = .ok (.ifCond .eq 29, 3) := by decide +kernel
theorem dX2_strikeOthers_49 : decode cX2_strikeOthers 49 = .ok (.aload_n 0, 1) := by decide +kernel
theorem dX2_strikeOthers_50 : decode cX2_strikeOthers 50 = .ok (.getfield 33, 3) := by decide +kernel
theorem dX2_strikeOthers_53 : decode cX2_strikeOthers 53 = .ok (.iload_n 3, 1) := by decide +kernel
theorem dX2_strikeOthers_54 : decode cX2_strikeOthers 54 = .ok (.iaload, 1) := by decide +kernel
theorem dX2_strikeOthers_55 : decode cX2_strikeOthers 55 = .ok (.istore 4, 2) := by decide +kernel
theorem dX2_strikeOthers_57 : decode cX2_strikeOthers 57 = .ok (.aload_n 0, 1) := by decide +kernel
theorem dX2_strikeOthers_58 : decode cX2_strikeOthers 58 = .ok (.getfield 18, 3) := by decide +kernel
theorem dX2_strikeOthers_61 : decode cX2_strikeOthers 61 = .ok (.iload 4, 2) := by decide +kernel
theorem dX2_strikeOthers_63 : decode cX2_strikeOthers 63 = .ok (.aload_n 0, 1) := by decide +kernel
theorem dX2_strikeOthers_64 : decode cX2_strikeOthers 64 = .ok (.getfield 18, 3) := by decide +kernel
theorem dX2_strikeOthers_67 : decode cX2_strikeOthers 67 = .ok (.iload 4, 2) := by decide +kernel
theorem dX2_strikeOthers_69 : decode cX2_strikeOthers 69 = .ok (.iaload, 1) := by decide +kernel
theorem dX2_strikeOthers_70 : decode cX2_strikeOthers 70 = .ok (.iload_n 1, 1) := by decide +kernel
theorem dX2_strikeOthers_71 : decode cX2_strikeOthers 71 = .ok (.invokestatic 100, 3) := by decide +kernel
theorem dX2_strikeOthers_74 : decode cX2_strikeOthers 74 = .ok (.iastore, 1) := by decide +kernel
theorem dX2_strikeOthers_75 : decode cX2_strikeOthers 75 = .ok (.iinc 3 1, 3) := by decide +kernel
theorem dX2_strikeOthers_78 : decode cX2_strikeOthers 78 = .ok (.goto (-68), 3) := by decide +kernel
theorem dX2_strikeOthers_81 : decode cX2_strikeOthers 81 = .ok (.return_, 1) := by decide +kernel
theorem dX2_stands_0 : decode cX2_stands 0 = .ok (.aload_n 0, 1) := by decide +kernel
theorem dX2_stands_1 : decode cX2_stands 1 = .ok (.iload_n 1, 1) := by decide +kernel
theorem dX2_stands_2 : decode cX2_stands 2 = .ok (.invokevirtual 56, 3) := by decide +kernel
theorem dX2_stands_5 : decode cX2_stands 5 = .ok (.ifCond .eq 27, 3) := by decide +kernel
theorem dX2_stands_8 : decode cX2_stands 8 = .ok (.aload_n 0, 1) := by decide +kernel
theorem dX2_stands_9 : decode cX2_stands 9 = .ok (.getfield 15, 3) := by decide +kernel
theorem dX2_stands_12 : decode cX2_stands 12 = .ok (.iload_n 1, 1) := by decide +kernel
theorem dX2_stands_13 : decode cX2_stands 13 = .ok (.iaload, 1) := by decide +kernel
theorem dX2_stands_14 : decode cX2_stands 14 = .ok (.iload_n 2, 1) := by decide +kernel
theorem dX2_stands_15 : decode cX2_stands 15 = .ok (.if_icmp .gt 17, 3) := by decide +kernel
theorem dX2_stands_18 : decode cX2_stands 18 = .ok (.iload_n 2, 1) := by decide +kernel
theorem dX2_stands_19 : decode cX2_stands 19 = .ok (.aload_n 0, 1) := by decide +kernel
theorem dX2_stands_20 : decode cX2_stands 20 = .ok (.getfield 18, 3) := by decide +kernel
theorem dX2_stands_23 : decode cX2_stands 23 = .ok (.iload_n 1, 1) := by decide +kernel
theorem dX2_stands_24 : decode cX2_stands 24 = .ok (.iaload, 1) := by decide +kernel
theorem dX2_stands_25 : decode cX2_stands 25 = .ok (.if_icmp .ge 7, 3) := by decide +kernel
theorem dX2_stands_28 : decode cX2_stands 28 = .ok (.iconst 1, 1) := by decide +kernel
theorem dX2_stands_29 : decode cX2_stands 29 = .ok (.goto 4, 3) := by decide +kernel
theorem dX2_stands_32 : decode cX2_stands 32 = .ok (.iconst 0, 1) := by decide +kernel
theorem dX2_stands_33 : decode cX2_stands 33 = .ok (.ireturn, 1) := by decide +kernel
theorem dX2_findClause_0 : decode cX2_findClause 0 = .ok (.iconst 0, 1) := by decide +kernel
theorem dX2_findClause_1 : decode cX2_findClause 1 = .ok (.istore 5, 2) := by decide +kernel
theorem dX2_findClause_3 : decode cX2_findClause 3 = .ok (.iload 5, 2) := by decide +kernel
theorem dX2_findClause_5 : decode cX2_findClause 5 = .ok (.aload_n 0, 1) := by decide +kernel
theorem dX2_findClause_6 : decode cX2_findClause 6 = .ok (.getfield 52, 3) := by decide +kernel
theorem dX2_findClause_9 : decode cX2_findClause 9 = .ok (.if_icmp .ge 105, 3) := by decide +kernel
theorem dX2_findClause_12 : decode cX2_findClause 12 = .ok (.aload_n 0, 1) := by decide +kernel
theorem dX2_findClause_13 : decode cX2_findClause 13 = .ok (.getfield 21, 3) := by decide +kernel
theorem dX2_findClause_16 : decode cX2_findClause 16 = .ok (.iload 5, 2) := by decide +kernel
theorem dX2_findClause_18 : decode cX2_findClause 18 = .ok (.iaload, 1) := by decide +kernel
theorem dX2_findClause_19 : decode cX2_findClause 19 = .ok (.istore 6, 2) := by decide +kernel
theorem dX2_findClause_21 : decode cX2_findClause 21 = .ok (.aload_n 0, 1) := by decide +kernel
theorem dX2_findClause_22 : decode cX2_findClause 22 = .ok (.iload 6, 2) := by decide +kernel
theorem dX2_findClause_24 : decode cX2_findClause 24 = .ok (.iload_n 1, 1) := by decide +kernel
theorem dX2_findClause_25 : decode cX2_findClause 25 = .ok (.invokevirtual 103, 3) := by decide +kernel
theorem dX2_findClause_28 : decode cX2_findClause 28 = .ok (.ifCond .eq 80, 3) := by decide +kernel
theorem dX2_findClause_31 : decode cX2_findClause 31 = .ok (.aload_n 0, 1) := by decide +kernel
theorem dX2_findClause_32 : decode cX2_findClause 32 = .ok (.iload 6, 2) := by decide +kernel
theorem dX2_findClause_34 : decode cX2_findClause 34 = .ok (.iload_n 3, 1) := by decide +kernel
theorem dX2_findClause_35 : decode cX2_findClause 35 = .ok (.invokevirtual 107, 3) := by decide +kernel
theorem dX2_findClause_38 : decode cX2_findClause 38 = .ok (.ifCond .ne 6, 3) := by decide +kernel
theorem dX2_findClause_41 : decode cX2_findClause 41 = .ok (.goto 67, 3) := by decide +kernel
theorem dX2_findClause_44 : decode cX2_findClause 44 = .ok (.iconst 0, 1) := by decide +kernel
theorem dX2_findClause_45 : decode cX2_findClause 45 = .ok (.istore 7, 2) := by decide +kernel
theorem dX2_findClause_47 : decode cX2_findClause 47 = .ok (.iload 7, 2) := by decide +kernel
theorem dX2_findClause_49 : decode cX2_findClause 49 = .ok (.aload_n 0, 1) := by decide +kernel
theorem dX2_findClause_50 : decode cX2_findClause 50 = .ok (.getfield 24, 3) := by decide +kernel
theorem dX2_findClause_53 : decode cX2_findClause 53 = .ok (.iload 6, 2) := by decide +kernel
theorem dX2_findClause_55 : decode cX2_findClause 55 = .ok (.iaload, 1) := by decide +kernel
theorem dX2_findClause_56 : decode cX2_findClause 56 = .ok (.if_icmp .ge 52, 3) := by decide +kernel
theorem dX2_findClause_59 : decode cX2_findClause 59 = .ok (.aload_n 0, 1) := by decide +kernel
theorem dX2_findClause_60 : decode cX2_findClause 60 = .ok (.getfield 30, 3) := by decide +kernel
theorem dX2_findClause_63 : decode cX2_findClause 63 = .ok (.iload 6, 2) := by decide +kernel
theorem dX2_findClause_65 : decode cX2_findClause 65 = .ok (.bipush 12, 2) := by decide +kernel
theorem dX2_findClause_67 : decode cX2_findClause 67 = .ok (.imul, 1) := by decide +kernel
theorem dX2_findClause_68 : decode cX2_findClause 68 = .ok (.iload 7, 2) := by decide +kernel
theorem dX2_findClause_70 : decode cX2_findClause 70 = .ok (.iadd, 1) := by decide +kernel
theorem dX2_findClause_71 : decode cX2_findClause 71 = .ok (.iaload, 1) := by decide +kernel
theorem dX2_findClause_72 : decode cX2_findClause 72 = .ok (.iload_n 2, 1) := by decide +kernel
theorem dX2_findClause_73 : decode cX2_findClause 73 = .ok (.if_icmp .ne 29, 3) := by decide +kernel
theorem dX2_findClause_76 : decode cX2_findClause 76 = .ok (.aload_n 0, 1) := by decide +kernel
theorem dX2_findClause_77 : decode cX2_findClause 77 = .ok (.iload 6, 2) := by decide +kernel
theorem dX2_findClause_79 : decode cX2_findClause 79 = .ok (.bipush 12, 2) := by decide +kernel
theorem dX2_findClause_81 : decode cX2_findClause 81 = .ok (.imul, 1) := by decide +kernel
theorem dX2_findClause_82 : decode cX2_findClause 82 = .ok (.iload 7, 2) := by decide +kernel
theorem dX2_findClause_84 : decode cX2_findClause 84 = .ok (.iadd, 1) := by decide +kernel
theorem dX2_findClause_85 : decode cX2_findClause 85 = .ok (.aload 4, 2) := by decide +kernel
theorem dX2_findClause_87 : decode cX2_findClause 87 = .ok (.invokevirtual 110, 3) := by decide +kernel
theorem dX2_findClause_90 : decode cX2_findClause 90 = .ok (.ifCond .eq 12, 3) := by decide +kernel
theorem dX2_findClause_93 : decode cX2_findClause 93 = .ok (.bipush 16, 2) := by decide +kernel
theorem dX2_findClause_95 : decode cX2_findClause 95 = .ok (.iload 6, 2) := by decide +kernel
theorem dX2_findClause_97 : decode cX2_findClause 97 = .ok (.imul, 1) := by decide +kernel
theorem dX2_findClause_98 : decode cX2_findClause 98 = .ok (.iload 7, 2) := by decide +kernel
theorem dX2_findClause_100 : decode cX2_findClause 100 = .ok (.iadd, 1) := by decide +kernel
theorem dX2_findClause_101 : decode cX2_findClause 101 = .ok (.ireturn, 1) := by decide +kernel
theorem dX2_findClause_102 : decode cX2_findClause 102 = .ok (.iinc 7 1, 3) := by decide +kernel
theorem dX2_findClause_105 : decode cX2_findClause 105 = .ok (.goto (-58), 3) := by decide +kernel
theorem dX2_findClause_108 : decode cX2_findClause 108 = .ok (.iinc 5 1, 3) := by decide +kernel
theorem dX2_findClause_111 : decode cX2_findClause 111 = .ok (.goto (-108), 3) := by decide +kernel
theorem dX2_findClause_114 : decode cX2_findClause 114 = .ok (.iconst (-1), 1) := by decide +kernel
theorem dX2_findClause_115 : decode cX2_findClause 115 = .ok (.ireturn, 1) := by decide +kernel
theorem dX2_holds_0 : decode cX2_holds 0 = .ok (.aload_n 0, 1) := by decide +kernel
theorem dX2_holds_1 : decode cX2_holds 1 = .ok (.getfield 36, 3) := by decide +kernel
theorem dX2_holds_4 : decode cX2_holds 4 = .ok (.iload_n 1, 1) := by decide +kernel
theorem dX2_holds_5 : decode cX2_holds 5 = .ok (.iaload, 1) := by decide +kernel
theorem dX2_holds_6 : decode cX2_holds 6 = .ok (.ifCond .ne 5, 3) := by decide +kernel
theorem dX2_holds_9 : decode cX2_holds 9 = .ok (.iconst 1, 1) := by decide +kernel
theorem dX2_holds_10 : decode cX2_holds 10 = .ok (.ireturn, 1) := by decide +kernel
theorem dX2_holds_11 : decode cX2_holds 11 = .ok (.aload_n 0, 1) := by decide +kernel
theorem dX2_holds_12 : decode cX2_holds 12 = .ok (.aload_n 0, 1) := by decide +kernel
theorem dX2_holds_13 : decode cX2_holds 13 = .ok (.getfield 42, 3) := by decide +kernel
theorem dX2_holds_16 : decode cX2_holds 16 = .ok (.iload_n 1, 1) := by decide +kernel
theorem dX2_holds_17 : decode cX2_holds 17 = .ok (.iaload, 1) := by decide +kernel
theorem dX2_holds_18 : decode cX2_holds 18 = .ok (.aload_n 0, 1) := by decide +kernel
theorem dX2_holds_19 : decode cX2_holds 19 = .ok (.getfield 45, 3) := by decide +kernel
theorem dX2_holds_22 : decode cX2_holds 22 = .ok (.iload_n 1, 1) := by decide +kernel
theorem dX2_holds_23 : decode cX2_holds 23 = .ok (.iaload, 1) := by decide +kernel
theorem dX2_holds_24 : decode cX2_holds 24 = .ok (.aload_n 2, 1) := by decide +kernel
theorem dX2_holds_25 : decode cX2_holds 25 = .ok (.invokevirtual 114, 3) := by decide +kernel
theorem dX2_holds_28 : decode cX2_holds 28 = .ok (.lconst 0, 1) := by decide +kernel
theorem dX2_holds_29 : decode cX2_holds 29 = .ok (.lcmp, 1) := by decide +kernel
theorem dX2_holds_30 : decode cX2_holds 30 = .ok (.ifCond .eq 7, 3) := by decide +kernel
theorem dX2_holds_33 : decode cX2_holds 33 = .ok (.iconst 1, 1) := by decide +kernel
theorem dX2_holds_34 : decode cX2_holds 34 = .ok (.goto 4, 3) := by decide +kernel
theorem dX2_holds_37 : decode cX2_holds 37 = .ok (.iconst 0, 1) := by decide +kernel
theorem dX2_holds_38 : decode cX2_holds 38 = .ok (.istore_n 3, 1) := by decide +kernel
theorem dX2_holds_39 : decode cX2_holds 39 = .ok (.iload_n 3, 1) := by decide +kernel
theorem dX2_holds_40 : decode cX2_holds 40 = .ok (.aload_n 0, 1) := by decide +kernel
theorem dX2_holds_41 : decode cX2_holds 41 = .ok (.getfield 36, 3) := by decide +kernel
theorem dX2_holds_44 : decode cX2_holds 44 = .ok (.iload_n 1, 1) := by decide +kernel
theorem dX2_holds_45 : decode cX2_holds 45 = .ok (.iaload, 1) := by decide +kernel
theorem dX2_holds_46 : decode cX2_holds 46 = .ok (.iconst 1, 1) := by decide +kernel
theorem dX2_holds_47 : decode cX2_holds 47 = .ok (.if_icmp .ne 7, 3) := by decide +kernel
theorem dX2_holds_50 : decode cX2_holds 50 = .ok (.iconst 1, 1) := by decide +kernel
theorem dX2_holds_51 : decode cX2_holds 51 = .ok (.goto 4, 3) := by decide +kernel
theorem dX2_holds_54 : decode cX2_holds 54 = .ok (.iconst 0, 1) := by decide +kernel
theorem dX2_holds_55 : decode cX2_holds 55 = .ok (.if_icmp .ne 7, 3) := by decide +kernel
theorem dX2_holds_58 : decode cX2_holds 58 = .ok (.iconst 1, 1) := by decide +kernel
theorem dX2_holds_59 : decode cX2_holds 59 = .ok (.goto 4, 3) := by decide +kernel
theorem dX2_holds_62 : decode cX2_holds 62 = .ok (.iconst 0, 1) := by decide +kernel
theorem dX2_holds_63 : decode cX2_holds 63 = .ok (.ireturn, 1) := by decide +kernel
theorem dX2_allows_0 : decode cX2_allows 0 = .ok (.iload_n 1, 1) := by decide +kernel
theorem dX2_allows_1 : decode cX2_allows 1 = .ok (.bipush 16, 2) := by decide +kernel
theorem dX2_allows_3 : decode cX2_allows 3 = .ok (.idiv, 1) := by decide +kernel
theorem dX2_allows_4 : decode cX2_allows 4 = .ok (.istore_n 3, 1) := by decide +kernel
theorem dX2_allows_5 : decode cX2_allows 5 = .ok (.iload_n 1, 1) := by decide +kernel
theorem dX2_allows_6 : decode cX2_allows 6 = .ok (.bipush 16, 2) := by decide +kernel
theorem dX2_allows_8 : decode cX2_allows 8 = .ok (.irem, 1) := by decide +kernel
theorem dX2_allows_9 : decode cX2_allows 9 = .ok (.istore 4, 2) := by decide +kernel
theorem dX2_allows_11 : decode cX2_allows 11 = .ok (.iload_n 1, 1) := by decide +kernel
theorem dX2_allows_12 : decode cX2_allows 12 = .ok (.ifCond .lt 18, 3) := by decide +kernel
theorem dX2_allows_15 : decode cX2_allows 15 = .ok (.aload_n 0, 1) := by decide +kernel
theorem dX2_allows_16 : decode cX2_allows 16 = .ok (.iload_n 3, 1) := by decide +kernel
theorem dX2_allows_17 : decode cX2_allows 17 = .ok (.invokevirtual 56, 3) := by decide +kernel
theorem dX2_allows_20 : decode cX2_allows 20 = .ok (.ifCond .eq 10, 3) := by decide +kernel
theorem dX2_allows_23 : decode cX2_allows 23 = .ok (.iload 4, 2) := by decide +kernel
theorem dX2_allows_25 : decode cX2_allows 25 = .ok (.bipush 12, 2) := by decide +kernel
theorem dX2_allows_27 : decode cX2_allows 27 = .ok (.if_icmp .lt 18, 3) := by decide +kernel
theorem dX2_allows_30 : decode cX2_allows 30 = .ok (.iload_n 2, 1) := by decide +kernel
theorem dX2_allows_31 : decode cX2_allows 31 = .ok (.ifCond .eq 8, 3) := by decide +kernel
theorem dX2_allows_34 : decode cX2_allows 34 = .ok (.iload_n 2, 1) := by decide +kernel
theorem dX2_allows_35 : decode cX2_allows 35 = .ok (.iconst 4, 1) := by decide +kernel
theorem dX2_allows_36 : decode cX2_allows 36 = .ok (.if_icmp .ne 7, 3) := by decide +kernel
theorem dX2_allows_39 : decode cX2_allows 39 = .ok (.iconst 1, 1) := by decide +kernel
theorem dX2_allows_40 : decode cX2_allows 40 = .ok (.goto 4, 3) := by decide +kernel
theorem dX2_allows_43 : decode cX2_allows 43 = .ok (.iconst 0, 1) := by decide +kernel
theorem dX2_allows_44 : decode cX2_allows 44 = .ok (.ireturn, 1) := by decide +kernel
theorem dX2_allows_45 : decode cX2_allows 45 = .ok (.aload_n 0, 1) := by decide +kernel
theorem dX2_allows_46 : decode cX2_allows 46 = .ok (.getfield 33, 3) := by decide +kernel
theorem dX2_allows_49 : decode cX2_allows 49 = .ok (.iload_n 3, 1) := by decide +kernel
theorem dX2_allows_50 : decode cX2_allows 50 = .ok (.bipush 12, 2) := by decide +kernel
theorem dX2_allows_52 : decode cX2_allows 52 = .ok (.imul, 1) := by decide +kernel
theorem dX2_allows_53 : decode cX2_allows 53 = .ok (.iload 4, 2) := by decide +kernel
theorem dX2_allows_55 : decode cX2_allows 55 = .ok (.iadd, 1) := by decide +kernel
theorem dX2_allows_56 : decode cX2_allows 56 = .ok (.iaload, 1) := by decide +kernel
theorem dX2_allows_57 : decode cX2_allows 57 = .ok (.iconst 1, 1) := by decide +kernel
theorem dX2_allows_58 : decode cX2_allows 58 = .ok (.if_icmp .ne 7, 3) := by decide +kernel
theorem dX2_allows_61 : decode cX2_allows 61 = .ok (.iconst 1, 1) := by decide +kernel
theorem dX2_allows_62 : decode cX2_allows 62 = .ok (.goto 4, 3) := by decide +kernel
theorem dX2_allows_65 : decode cX2_allows 65 = .ok (.iconst 0, 1) := by decide +kernel
theorem dX2_allows_66 : decode cX2_allows 66 = .ok (.ireturn, 1) := by decide +kernel
theorem dX2_sumOf_0 : decode cX2_sumOf 0 = .ok (.iload_n 1, 1) := by decide +kernel
theorem dX2_sumOf_1 : decode cX2_sumOf 1 = .ok (.bipush 16, 2) := by decide +kernel
theorem dX2_sumOf_3 : decode cX2_sumOf 3 = .ok (.idiv, 1) := by decide +kernel
theorem dX2_sumOf_4 : decode cX2_sumOf 4 = .ok (.istore_n 3, 1) := by decide +kernel
theorem dX2_sumOf_5 : decode cX2_sumOf 5 = .ok (.iload_n 1, 1) := by decide +kernel
theorem dX2_sumOf_6 : decode cX2_sumOf 6 = .ok (.bipush 16, 2) := by decide +kernel
theorem dX2_sumOf_8 : decode cX2_sumOf 8 = .ok (.irem, 1) := by decide +kernel
theorem dX2_sumOf_9 : decode cX2_sumOf 9 = .ok (.istore 4, 2) := by decide +kernel
theorem dX2_sumOf_11 : decode cX2_sumOf 11 = .ok (.iload_n 1, 1) := by decide +kernel
theorem dX2_sumOf_12 : decode cX2_sumOf 12 = .ok (.ifCond .lt 18, 3) := by decide +kernel
theorem dX2_sumOf_15 : decode cX2_sumOf 15 = .ok (.aload_n 0, 1) := by decide +kernel
theorem dX2_sumOf_16 : decode cX2_sumOf 16 = .ok (.iload_n 3, 1) := by decide +kernel
theorem dX2_sumOf_17 : decode cX2_sumOf 17 = .ok (.invokevirtual 56, 3) := by decide +kernel
theorem dX2_sumOf_20 : decode cX2_sumOf 20 = .ok (.ifCond .eq 10, 3) := by decide +kernel
theorem dX2_sumOf_23 : decode cX2_sumOf 23 = .ok (.iload 4, 2) := by decide +kernel
theorem dX2_sumOf_25 : decode cX2_sumOf 25 = .ok (.bipush 12, 2) := by decide +kernel
theorem dX2_sumOf_27 : decode cX2_sumOf 27 = .ok (.if_icmp .lt 5, 3) := by decide +kernel
theorem dX2_sumOf_30 : decode cX2_sumOf 30 = .ok (.lconst 0, 1) := by decide +kernel
theorem dX2_sumOf_31 : decode cX2_sumOf 31 = .ok (.lreturn, 1) := by decide +kernel
theorem dX2_sumOf_32 : decode cX2_sumOf 32 = .ok (.aload_n 0, 1) := by decide +kernel
theorem dX2_sumOf_33 : decode cX2_sumOf 33 = .ok (.aload_n 0, 1) := by decide +kernel
theorem dX2_sumOf_34 : decode cX2_sumOf 34 = .ok (.getfield 39, 3) := by decide +kernel
theorem dX2_sumOf_37 : decode cX2_sumOf 37 = .ok (.iload_n 3, 1) := by decide +kernel
theorem dX2_sumOf_38 : decode cX2_sumOf 38 = .ok (.bipush 12, 2) := by decide +kernel
theorem dX2_sumOf_40 : decode cX2_sumOf 40 = .ok (.imul, 1) := by decide +kernel
theorem dX2_sumOf_41 : decode cX2_sumOf 41 = .ok (.iload 4, 2) := by decide +kernel
theorem dX2_sumOf_43 : decode cX2_sumOf 43 = .ok (.iadd, 1) := by decide +kernel
theorem dX2_sumOf_44 : decode cX2_sumOf 44 = .ok (.iaload, 1) := by decide +kernel
theorem dX2_sumOf_45 : decode cX2_sumOf 45 = .ok (.aload_n 0, 1) := by decide +kernel
theorem dX2_sumOf_46 : decode cX2_sumOf 46 = .ok (.getfield 42, 3) := by decide +kernel
theorem dX2_sumOf_49 : decode cX2_sumOf 49 = .ok (.iload_n 3, 1) := by decide +kernel
theorem dX2_sumOf_50 : decode cX2_sumOf 50 = .ok (.bipush 12, 2) := by decide +kernel
theorem dX2_sumOf_52 : decode cX2_sumOf 52 = .ok (.imul, 1) := by decide +kernel
theorem dX2_sumOf_53 : decode cX2_sumOf 53 = .ok (.iload 4, 2) := by decide +kernel
theorem dX2_sumOf_55 : decode cX2_sumOf 55 = .ok (.iadd, 1) := by decide +kernel
theorem dX2_sumOf_56 : decode cX2_sumOf 56 = .ok (.iaload, 1) := by decide +kernel
theorem dX2_sumOf_57 : decode cX2_sumOf 57 = .ok (.aload_n 2, 1) := by decide +kernel
theorem dX2_sumOf_58 : decode cX2_sumOf 58 = .ok (.invokevirtual 114, 3) := by decide +kernel
theorem dX2_sumOf_61 : decode cX2_sumOf 61 = .ok (.lreturn, 1) := by decide +kernel
theorem dX2_valueOf_0 : decode cX2_valueOf 0 = .ok (.iconst 0, 1) := by decide +kernel
theorem dX2_valueOf_1 : decode cX2_valueOf 1 = .ok (.istore 4, 2) := by decide +kernel
theorem dX2_valueOf_3 : decode cX2_valueOf 3 = .ok (.iconst 0, 1) := by decide +kernel
theorem dX2_valueOf_4 : decode cX2_valueOf 4 = .ok (.iload_n 1, 1) := by decide +kernel
theorem dX2_valueOf_5 : decode cX2_valueOf 5 = .ok (.invokestatic 66, 3) := by decide +kernel
theorem dX2_valueOf_8 : decode cX2_valueOf 8 = .ok (.istore 5, 2) := by decide +kernel
theorem dX2_valueOf_10 : decode cX2_valueOf 10 = .ok (.iload 5, 2) := by decide +kernel
theorem dX2_valueOf_12 : decode cX2_valueOf 12 = .ok (.iload_n 2, 1) := by decide +kernel
theorem dX2_valueOf_13 : decode cX2_valueOf 13 = .ok (.if_icmp .ge 161, 3) := by decide +kernel
theorem dX2_valueOf_16 : decode cX2_valueOf 16 = .ok (.iload 5, 2) := by decide +kernel
theorem dX2_valueOf_18 : decode cX2_valueOf 18 = .ok (.aload_n 0, 1) := by decide +kernel
theorem dX2_valueOf_19 : decode cX2_valueOf 19 = .ok (.getfield 27, 3) := by decide +kernel
theorem dX2_valueOf_22 : decode cX2_valueOf 22 = .ok (.arraylength, 1) := by decide +kernel
theorem dX2_valueOf_23 : decode cX2_valueOf 23 = .ok (.if_icmp .ge 151, 3) := by decide +kernel
theorem dX2_valueOf_26 : decode cX2_valueOf 26 = .ok (.aload_n 0, 1) := by decide +kernel
theorem dX2_valueOf_27 : decode cX2_valueOf 27 = .ok (.getfield 27, 3) := by decide +kernel
theorem dX2_valueOf_30 : decode cX2_valueOf 30 = .ok (.iload 5, 2) := by decide +kernel
theorem dX2_valueOf_32 : decode cX2_valueOf 32 = .ok (.iaload, 1) := by decide +kernel
theorem dX2_valueOf_33 : decode cX2_valueOf 33 = .ok (.istore 6, 2) := by decide +kernel
theorem dX2_valueOf_35 : decode cX2_valueOf 35 = .ok (.iload 6, 2) := by decide +kernel
theorem dX2_valueOf_37 : decode cX2_valueOf 37 = .ok (.bipush (-10), 2) := by decide +kernel
theorem dX2_valueOf_39 : decode cX2_valueOf 39 = .ok (.if_icmp .le 42, 3) := by decide +kernel
theorem dX2_valueOf_42 : decode cX2_valueOf 42 = .ok (.iload 4, 2) := by decide +kernel
theorem dX2_valueOf_44 : decode cX2_valueOf 44 = .ok (.bipush 96, 2) := by decide +kernel
theorem dX2_valueOf_46 : decode cX2_valueOf 46 = .ok (.if_icmp .lt 5, 3) := by decide +kernel
theorem dX2_valueOf_49 : decode cX2_valueOf 49 = .ok (.lconst 0, 1) := by decide +kernel
theorem dX2_valueOf_50 : decode cX2_valueOf 50 = .ok (.lreturn, 1) := by decide +kernel
theorem dX2_valueOf_51 : decode cX2_valueOf 51 = .ok (.aload_n 0, 1) := by decide +kernel
theorem dX2_valueOf_52 : decode cX2_valueOf 52 = .ok (.getfield 48, 3) := by decide +kernel
theorem dX2_valueOf_55 : decode cX2_valueOf 55 = .ok (.iload 4, 2) := by decide +kernel
theorem dX2_valueOf_57 : decode cX2_valueOf 57 = .ok (.iload 6, 2) := by decide +kernel
theorem dX2_valueOf_59 : decode cX2_valueOf 59 = .ok (.ifCond .lt 9, 3) := by decide +kernel
theorem dX2_valueOf_62 : decode cX2_valueOf 62 = .ok (.iload 6, 2) := by decide +kernel
theorem dX2_valueOf_64 : decode cX2_valueOf 64 = .ok (.i2l, 1) := by decide +kernel
theorem dX2_valueOf_65 : decode cX2_valueOf 65 = .ok (.goto 9, 3) := by decide +kernel
theorem dX2_valueOf_68 : decode cX2_valueOf 68 = .ok (.iload 6, 2) := by decide +kernel
theorem dX2_valueOf_70 : decode cX2_valueOf 70 = .ok (.aload_n 3, 1) := by decide +kernel
theorem dX2_valueOf_71 : decode cX2_valueOf 71 = .ok (.invokestatic 118, 3) := by decide +kernel
theorem dX2_valueOf_74 : decode cX2_valueOf 74 = .ok (.lastore, 1) := by decide +kernel
theorem dX2_valueOf_75 : decode cX2_valueOf 75 = .ok (.iinc 4 1, 3) := by decide +kernel
theorem dX2_valueOf_78 : decode cX2_valueOf 78 = .ok (.goto 90, 3) := by decide +kernel
theorem dX2_valueOf_81 : decode cX2_valueOf 81 = .ok (.iload 6, 2) := by decide +kernel
theorem dX2_valueOf_83 : decode cX2_valueOf 83 = .ok (.bipush (-10), 2) := by decide +kernel
theorem dX2_valueOf_85 : decode cX2_valueOf 85 = .ok (.if_icmp .ne 42, 3) := by decide +kernel
theorem dX2_valueOf_88 : decode cX2_valueOf 88 = .ok (.iload 4, 2) := by decide +kernel
theorem dX2_valueOf_90 : decode cX2_valueOf 90 = .ok (.iconst 1, 1) := by decide +kernel
theorem dX2_valueOf_91 : decode cX2_valueOf 91 = .ok (.if_icmp .ge 5, 3) := by decide +kernel
theorem dX2_valueOf_94 : decode cX2_valueOf 94 = .ok (.lconst 0, 1) := by decide +kernel
theorem dX2_valueOf_95 : decode cX2_valueOf 95 = .ok (.lreturn, 1) := by decide +kernel
theorem dX2_valueOf_96 : decode cX2_valueOf 96 = .ok (.aload_n 0, 1) := by decide +kernel
theorem dX2_valueOf_97 : decode cX2_valueOf 97 = .ok (.getfield 48, 3) := by decide +kernel
theorem dX2_valueOf_100 : decode cX2_valueOf 100 = .ok (.iload 4, 2) := by decide +kernel
theorem dX2_valueOf_102 : decode cX2_valueOf 102 = .ok (.iconst 1, 1) := by decide +kernel
theorem dX2_valueOf_103 : decode cX2_valueOf 103 = .ok (.isub, 1) := by decide +kernel
theorem dX2_valueOf_104 : decode cX2_valueOf 104 = .ok (.aload_n 0, 1) := by decide +kernel
theorem dX2_valueOf_105 : decode cX2_valueOf 105 = .ok (.getfield 48, 3) := by decide +kernel
theorem dX2_valueOf_108 : decode cX2_valueOf 108 = .ok (.iload 4, 2) := by decide +kernel
theorem dX2_valueOf_110 : decode cX2_valueOf 110 = .ok (.iconst 1, 1) := by decide +kernel
theorem dX2_valueOf_111 : decode cX2_valueOf 111 = .ok (.isub, 1) := by decide +kernel
theorem dX2_valueOf_112 : decode cX2_valueOf 112 = .ok (.laload, 1) := by decide +kernel
theorem dX2_valueOf_113 : decode cX2_valueOf 113 = .ok (.lconst 0, 1) := by decide +kernel
theorem dX2_valueOf_114 : decode cX2_valueOf 114 = .ok (.lcmp, 1) := by decide +kernel
theorem dX2_valueOf_115 : decode cX2_valueOf 115 = .ok (.ifCond .ne 7, 3) := by decide +kernel
theorem dX2_valueOf_118 : decode cX2_valueOf 118 = .ok (.lconst 1, 1) := by decide +kernel
theorem dX2_valueOf_119 : decode cX2_valueOf 119 = .ok (.goto 4, 3) := by decide +kernel
theorem dX2_valueOf_122 : decode cX2_valueOf 122 = .ok (.lconst 0, 1) := by decide +kernel
theorem dX2_valueOf_123 : decode cX2_valueOf 123 = .ok (.lastore, 1) := by decide +kernel
theorem dX2_valueOf_124 : decode cX2_valueOf 124 = .ok (.goto 44, 3) := by decide +kernel
theorem dX2_valueOf_127 : decode cX2_valueOf 127 = .ok (.iload 4, 2) := by decide +kernel
theorem dX2_valueOf_129 : decode cX2_valueOf 129 = .ok (.iconst 2, 1) := by decide +kernel
theorem dX2_valueOf_130 : decode cX2_valueOf 130 = .ok (.if_icmp .ge 5, 3) := by decide +kernel
theorem dX2_valueOf_133 : decode cX2_valueOf 133 = .ok (.lconst 0, 1) := by decide +kernel
theorem dX2_valueOf_134 : decode cX2_valueOf 134 = .ok (.lreturn, 1) := by decide +kernel
theorem dX2_valueOf_135 : decode cX2_valueOf 135 = .ok (.iinc 4 (-1), 3) := by decide +kernel
theorem dX2_valueOf_138 : decode cX2_valueOf 138 = .ok (.aload_n 0, 1) := by decide +kernel
theorem dX2_valueOf_139 : decode cX2_valueOf 139 = .ok (.getfield 48, 3) := by decide +kernel
theorem dX2_valueOf_142 : decode cX2_valueOf 142 = .ok (.iload 4, 2) := by decide +kernel
theorem dX2_valueOf_144 : decode cX2_valueOf 144 = .ok (.iconst 1, 1) := by decide +kernel
theorem dX2_valueOf_145 : decode cX2_valueOf 145 = .ok (.isub, 1) := by decide +kernel
theorem dX2_valueOf_146 : decode cX2_valueOf 146 = .ok (.iload 6, 2) := by decide +kernel
theorem dX2_valueOf_148 : decode cX2_valueOf 148 = .ok (.aload_n 0, 1) := by decide +kernel
theorem dX2_valueOf_149 : decode cX2_valueOf 149 = .ok (.getfield 48, 3) := by decide +kernel
theorem dX2_valueOf_152 : decode cX2_valueOf 152 = .ok (.iload 4, 2) := by decide +kernel
theorem dX2_valueOf_154 : decode cX2_valueOf 154 = .ok (.iconst 1, 1) := by decide +kernel
theorem dX2_valueOf_155 : decode cX2_valueOf 155 = .ok (.isub, 1) := by decide +kernel
theorem dX2_valueOf_156 : decode cX2_valueOf 156 = .ok (.laload, 1) := by decide +kernel
theorem dX2_valueOf_157 : decode cX2_valueOf 157 = .ok (.aload_n 0, 1) := by decide +kernel
theorem dX2_valueOf_158 : decode cX2_valueOf 158 = .ok (.getfield 48, 3) := by decide +kernel
theorem dX2_valueOf_161 : decode cX2_valueOf 161 = .ok (.iload 4, 2) := by decide +kernel
theorem dX2_valueOf_163 : decode cX2_valueOf 163 = .ok (.laload, 1) := by decide +kernel
theorem dX2_valueOf_164 : decode cX2_valueOf 164 = .ok (.invokestatic 122, 3) := by decide +kernel
theorem dX2_valueOf_167 : decode cX2_valueOf 167 = .ok (.lastore, 1) := by decide +kernel
theorem dX2_valueOf_168 : decode cX2_valueOf 168 = .ok (.iinc 5 1, 3) := by decide +kernel
theorem dX2_valueOf_171 : decode cX2_valueOf 171 = .ok (.goto (-161), 3) := by decide +kernel
theorem dX2_valueOf_174 : decode cX2_valueOf 174 = .ok (.iload 4, 2) := by decide +kernel
theorem dX2_valueOf_176 : decode cX2_valueOf 176 = .ok (.iconst 1, 1) := by decide +kernel
theorem dX2_valueOf_177 : decode cX2_valueOf 177 = .ok (.if_icmp .ne 12, 3) := by decide +kernel
theorem dX2_valueOf_180 : decode cX2_valueOf 180 = .ok (.aload_n 0, 1) := by decide +kernel
theorem dX2_valueOf_181 : decode cX2_valueOf 181 = .ok (.getfield 48, 3) := by decide +kernel
theorem dX2_valueOf_184 : decode cX2_valueOf 184 = .ok (.iconst 0, 1) := by decide +kernel
theorem dX2_valueOf_185 : decode cX2_valueOf 185 = .ok (.laload, 1) := by decide +kernel
theorem dX2_valueOf_186 : decode cX2_valueOf 186 = .ok (.goto 4, 3) := by decide +kernel
theorem dX2_valueOf_189 : decode cX2_valueOf 189 = .ok (.lconst 0, 1) := by decide +kernel
theorem dX2_valueOf_190 : decode cX2_valueOf 190 = .ok (.lreturn, 1) := by decide +kernel
theorem dX2_wordOf_0 : decode cX2_wordOf 0 = .ok (.iconst (-1), 1) := by decide +kernel
theorem dX2_wordOf_1 : decode cX2_wordOf 1 = .ok (.iload_n 0, 1) := by decide +kernel
theorem dX2_wordOf_2 : decode cX2_wordOf 2 = .ok (.isub, 1) := by decide +kernel
theorem dX2_wordOf_3 : decode cX2_wordOf 3 = .ok (.istore_n 2, 1) := by decide +kernel
theorem dX2_wordOf_4 : decode cX2_wordOf 4 = .ok (.iload_n 2, 1) := by decide +kernel
theorem dX2_wordOf_5 : decode cX2_wordOf 5 = .ok (.ifCond .lt 15, 3) := by decide +kernel
theorem dX2_wordOf_8 : decode cX2_wordOf 8 = .ok (.iload_n 2, 1) := by decide +kernel
theorem dX2_wordOf_9 : decode cX2_wordOf 9 = .ok (.aload_n 1, 1) := by decide +kernel
theorem dX2_wordOf_10 : decode cX2_wordOf 10 = .ok (.arraylength, 1) := by decide +kernel
theorem dX2_wordOf_11 : decode cX2_wordOf 11 = .ok (.if_icmp .ge 9, 3) := by decide +kernel
theorem dX2_wordOf_14 : decode cX2_wordOf 14 = .ok (.aload_n 1, 1) := by decide +kernel
theorem dX2_wordOf_15 : decode cX2_wordOf 15 = .ok (.iload_n 2, 1) := by decide +kernel
theorem dX2_wordOf_16 : decode cX2_wordOf 16 = .ok (.laload, 1) := by decide +kernel
theorem dX2_wordOf_17 : decode cX2_wordOf 17 = .ok (.goto 4, 3) := by decide +kernel
theorem dX2_wordOf_20 : decode cX2_wordOf 20 = .ok (.lconst 0, 1) := by decide +kernel
theorem dX2_wordOf_21 : decode cX2_wordOf 21 = .ok (.lreturn, 1) := by decide +kernel
theorem dX2_join_0 : decode cX2_join 0 = .ok (.iload_n 0, 1) := by decide +kernel
theorem dX2_join_1 : decode cX2_join 1 = .ok (.tableswitch 135 (-20) (-11) #[123, 111, 99, 87, 75, 63, 59, 55, 71, 67], 55) := by decide +kernel
theorem dX2_join_56 : decode cX2_join 56 = .ok (.lload_n 1, 1) := by decide +kernel
theorem dX2_join_57 : decode cX2_join 57 = .ok (.lload_n 3, 1) := by decide +kernel
theorem dX2_join_58 : decode cX2_join 58 = .ok (.ladd, 1) := by decide +kernel
theorem dX2_join_59 : decode cX2_join 59 = .ok (.lreturn, 1) := by decide +kernel
theorem dX2_join_60 : decode cX2_join 60 = .ok (.lload_n 1, 1) := by decide +kernel
theorem dX2_join_61 : decode cX2_join 61 = .ok (.lload_n 3, 1) := by decide +kernel
theorem dX2_join_62 : decode cX2_join 62 = .ok (.lsub, 1) := by decide +kernel
theorem dX2_join_63 : decode cX2_join 63 = .ok (.lreturn, 1) := by decide +kernel
theorem dX2_join_64 : decode cX2_join 64 = .ok (.lload_n 1, 1) := by decide +kernel
theorem dX2_join_65 : decode cX2_join 65 = .ok (.lload_n 3, 1) := by decide +kernel
theorem dX2_join_66 : decode cX2_join 66 = .ok (.lmul, 1) := by decide +kernel
theorem dX2_join_67 : decode cX2_join 67 = .ok (.lreturn, 1) := by decide +kernel
theorem dX2_join_68 : decode cX2_join 68 = .ok (.lload_n 1, 1) := by decide +kernel
theorem dX2_join_69 : decode cX2_join 69 = .ok (.lload_n 3, 1) := by decide +kernel
theorem dX2_join_70 : decode cX2_join 70 = .ok (.land, 1) := by decide +kernel
theorem dX2_join_71 : decode cX2_join 71 = .ok (.lreturn, 1) := by decide +kernel
theorem dX2_join_72 : decode cX2_join 72 = .ok (.lload_n 1, 1) := by decide +kernel
theorem dX2_join_73 : decode cX2_join 73 = .ok (.lload_n 3, 1) := by decide +kernel
theorem dX2_join_74 : decode cX2_join 74 = .ok (.lor, 1) := by decide +kernel
theorem dX2_join_75 : decode cX2_join 75 = .ok (.lreturn, 1) := by decide +kernel
theorem dX2_join_76 : decode cX2_join 76 = .ok (.lload_n 1, 1) := by decide +kernel
theorem dX2_join_77 : decode cX2_join 77 = .ok (.lload_n 3, 1) := by decide +kernel
theorem dX2_join_78 : decode cX2_join 78 = .ok (.lcmp, 1) := by decide +kernel
theorem dX2_join_79 : decode cX2_join 79 = .ok (.ifCond .ge 7, 3) := by decide +kernel
theorem dX2_join_82 : decode cX2_join 82 = .ok (.lconst 1, 1) := by decide +kernel
theorem dX2_join_83 : decode cX2_join 83 = .ok (.goto 4, 3) := by decide +kernel
theorem dX2_join_86 : decode cX2_join 86 = .ok (.lconst 0, 1) := by decide +kernel
theorem dX2_join_87 : decode cX2_join 87 = .ok (.lreturn, 1) := by decide +kernel
theorem dX2_join_88 : decode cX2_join 88 = .ok (.lload_n 1, 1) := by decide +kernel
theorem dX2_join_89 : decode cX2_join 89 = .ok (.lload_n 3, 1) := by decide +kernel
theorem dX2_join_90 : decode cX2_join 90 = .ok (.lcmp, 1) := by decide +kernel
theorem dX2_join_91 : decode cX2_join 91 = .ok (.ifCond .gt 7, 3) := by decide +kernel
theorem dX2_join_94 : decode cX2_join 94 = .ok (.lconst 1, 1) := by decide +kernel
theorem dX2_join_95 : decode cX2_join 95 = .ok (.goto 4, 3) := by decide +kernel
theorem dX2_join_98 : decode cX2_join 98 = .ok (.lconst 0, 1) := by decide +kernel
theorem dX2_join_99 : decode cX2_join 99 = .ok (.lreturn, 1) := by decide +kernel
theorem dX2_join_100 : decode cX2_join 100 = .ok (.lload_n 1, 1) := by decide +kernel
theorem dX2_join_101 : decode cX2_join 101 = .ok (.lload_n 3, 1) := by decide +kernel
theorem dX2_join_102 : decode cX2_join 102 = .ok (.lcmp, 1) := by decide +kernel
theorem dX2_join_103 : decode cX2_join 103 = .ok (.ifCond .ne 7, 3) := by decide +kernel
theorem dX2_join_106 : decode cX2_join 106 = .ok (.lconst 1, 1) := by decide +kernel
theorem dX2_join_107 : decode cX2_join 107 = .ok (.goto 4, 3) := by decide +kernel
theorem dX2_join_110 : decode cX2_join 110 = .ok (.lconst 0, 1) := by decide +kernel
theorem dX2_join_111 : decode cX2_join 111 = .ok (.lreturn, 1) := by decide +kernel
theorem dX2_join_112 : decode cX2_join 112 = .ok (.lload_n 1, 1) := by decide +kernel
theorem dX2_join_113 : decode cX2_join 113 = .ok (.lload_n 3, 1) := by decide +kernel
theorem dX2_join_114 : decode cX2_join 114 = .ok (.lcmp, 1) := by decide +kernel
theorem dX2_join_115 : decode cX2_join 115 = .ok (.ifCond .lt 7, 3) := by decide +kernel
theorem dX2_join_118 : decode cX2_join 118 = .ok (.lconst 1, 1) := by decide +kernel
theorem dX2_join_119 : decode cX2_join 119 = .ok (.goto 4, 3) := by decide +kernel
theorem dX2_join_122 : decode cX2_join 122 = .ok (.lconst 0, 1) := by decide +kernel
theorem dX2_join_123 : decode cX2_join 123 = .ok (.lreturn, 1) := by decide +kernel
theorem dX2_join_124 : decode cX2_join 124 = .ok (.lload_n 1, 1) := by decide +kernel
theorem dX2_join_125 : decode cX2_join 125 = .ok (.lload_n 3, 1) := by decide +kernel
theorem dX2_join_126 : decode cX2_join 126 = .ok (.lcmp, 1) := by decide +kernel
theorem dX2_join_127 : decode cX2_join 127 = .ok (.ifCond .le 7, 3) := by decide +kernel
theorem dX2_join_130 : decode cX2_join 130 = .ok (.lconst 1, 1) := by decide +kernel
theorem dX2_join_131 : decode cX2_join 131 = .ok (.goto 4, 3) := by decide +kernel
theorem dX2_join_134 : decode cX2_join 134 = .ok (.lconst 0, 1) := by decide +kernel
theorem dX2_join_135 : decode cX2_join 135 = .ok (.lreturn, 1) := by decide +kernel
theorem dX2_join_136 : decode cX2_join 136 = .ok (.lconst 0, 1) := by decide +kernel
theorem dX2_join_137 : decode cX2_join 137 = .ok (.lreturn, 1) := by decide +kernel
theorem dX3_init_0 : decode cX3_init 0 = .ok (.aload_n 0, 1) := by decide +kernel
theorem dX3_init_1 : decode cX3_init 1 = .ok (.invokespecial 3, 3) := by decide +kernel
theorem dX3_init_4 : decode cX3_init 4 = .ok (.aload_n 0, 1) := by decide +kernel
theorem dX3_init_5 : decode cX3_init 5 = .ok (.bipush 9, 2) := by decide +kernel
theorem dX3_init_7 : decode cX3_init 7 = .ok (.newarray .int, 2) := by decide +kernel
theorem dX3_init_9 : decode cX3_init 9 = .ok (.putfield 11, 3) := by decide +kernel
theorem dX3_init_12 : decode cX3_init 12 = .ok (.aload_n 0, 1) := by decide +kernel
theorem dX3_init_13 : decode cX3_init 13 = .ok (.bipush 9, 2) := by decide +kernel
theorem dX3_init_15 : decode cX3_init 15 = .ok (.newarray .int, 2) := by decide +kernel
theorem dX3_init_17 : decode cX3_init 17 = .ok (.putfield 15, 3) := by decide +kernel
theorem dX3_init_20 : decode cX3_init 20 = .ok (.return_, 1) := by decide +kernel
theorem dX3_add_0 : decode cX3_add 0 = .ok (.aload_n 0, 1) := by decide +kernel
theorem dX3_add_1 : decode cX3_add 1 = .ok (.getfield 18, 3) := by decide +kernel
theorem dX3_add_4 : decode cX3_add 4 = .ok (.bipush 9, 2) := by decide +kernel
theorem dX3_add_6 : decode cX3_add 6 = .ok (.if_icmp .lt 5, 3) := by decide +kernel
theorem dX3_add_9 : decode cX3_add 9 = .ok (.iconst (-1), 1) := by decide +kernel
theorem dX3_add_10 : decode cX3_add 10 = .ok (.ireturn, 1) := by decide +kernel
theorem dX3_add_11 : decode cX3_add 11 = .ok (.aload_n 0, 1) := by decide +kernel
theorem dX3_add_12 : decode cX3_add 12 = .ok (.getfield 11, 3) := by decide +kernel
theorem dX3_add_15 : decode cX3_add 15 = .ok (.aload_n 0, 1) := by decide +kernel
theorem dX3_add_16 : decode cX3_add 16 = .ok (.getfield 18, 3) := by decide +kernel
theorem dX3_add_19 : decode cX3_add 19 = .ok (.iload_n 1, 1) := by decide +kernel
theorem dX3_add_20 : decode cX3_add 20 = .ok (.iastore, 1) := by decide +kernel
theorem dX3_add_21 : decode cX3_add 21 = .ok (.aload_n 0, 1) := by decide +kernel
theorem dX3_add_22 : decode cX3_add 22 = .ok (.getfield 15, 3) := by decide +kernel
theorem dX3_add_25 : decode cX3_add 25 = .ok (.aload_n 0, 1) := by decide +kernel
theorem dX3_add_26 : decode cX3_add 26 = .ok (.getfield 18, 3) := by decide +kernel
theorem dX3_add_29 : decode cX3_add 29 = .ok (.iload_n 2, 1) := by decide +kernel
theorem dX3_add_30 : decode cX3_add 30 = .ok (.iastore, 1) := by decide +kernel
theorem dX3_add_31 : decode cX3_add 31 = .ok (.aload_n 0, 1) := by decide +kernel
theorem dX3_add_32 : decode cX3_add 32 = .ok (.dup, 1) := by decide +kernel
theorem dX3_add_33 : decode cX3_add 33 = .ok (.getfield 18, 3) := by decide +kernel
theorem dX3_add_36 : decode cX3_add 36 = .ok (.iconst 1, 1) := by decide +kernel
theorem dX3_add_37 : decode cX3_add 37 = .ok (.iadd, 1) := by decide +kernel
theorem dX3_add_38 : decode cX3_add 38 = .ok (.putfield 18, 3) := by decide +kernel
theorem dX3_add_41 : decode cX3_add 41 = .ok (.aload_n 0, 1) := by decide +kernel
theorem dX3_add_42 : decode cX3_add 42 = .ok (.getfield 18, 3) := by decide +kernel
theorem dX3_add_45 : decode cX3_add 45 = .ok (.iconst 1, 1) := by decide +kernel
theorem dX3_add_46 : decode cX3_add 46 = .ok (.isub, 1) := by decide +kernel
theorem dX3_add_47 : decode cX3_add 47 = .ok (.ireturn, 1) := by decide +kernel
theorem dX3_bestSet_0 : decode cX3_bestSet 0 = .ok (.bipush (-2), 2) := by decide +kernel
theorem dX3_bestSet_2 : decode cX3_bestSet 2 = .ok (.istore_n 3, 1) := by decide +kernel
theorem dX3_bestSet_3 : decode cX3_bestSet 3 = .ok (.iconst 0, 1) := by decide +kernel
theorem dX3_bestSet_4 : decode cX3_bestSet 4 = .ok (.istore 4, 2) := by decide +kernel
theorem dX3_bestSet_6 : decode cX3_bestSet 6 = .ok (.iconst 0, 1) := by decide +kernel
theorem dX3_bestSet_7 : decode cX3_bestSet 7 = .ok (.istore 5, 2) := by decide +kernel
theorem dX3_bestSet_9 : decode cX3_bestSet 9 = .ok (.iload 5, 2) := by decide +kernel
theorem dX3_bestSet_11 : decode cX3_bestSet 11 = .ok (.iconst 1, 1) := by decide +kernel
theorem dX3_bestSet_12 : decode cX3_bestSet 12 = .ok (.aload_n 0, 1) := by decide +kernel
theorem dX3_bestSet_13 : decode cX3_bestSet 13 = .ok (.getfield 18, 3) := by decide +kernel
theorem dX3_bestSet_16 : decode cX3_bestSet 16 = .ok (.ishl, 1) := by decide +kernel
theorem dX3_bestSet_17 : decode cX3_bestSet 17 = .ok (.if_icmp .ge 84, 3) := by decide +kernel
theorem dX3_bestSet_20 : decode cX3_bestSet 20 = .ok (.aload_n 0, 1) := by decide +kernel
theorem dX3_bestSet_21 : decode cX3_bestSet 21 = .ok (.aload_n 0, 1) := by decide +kernel
theorem dX3_bestSet_22 : decode cX3_bestSet 22 = .ok (.getfield 11, 3) := by decide +kernel
theorem dX3_bestSet_25 : decode cX3_bestSet 25 = .ok (.iload 5, 2) := by decide +kernel
theorem dX3_bestSet_27 : decode cX3_bestSet 27 = .ok (.invokevirtual 22, 3) := by decide +kernel
theorem dX3_bestSet_30 : decode cX3_bestSet 30 = .ok (.istore 6, 2) := by decide +kernel
theorem dX3_bestSet_32 : decode cX3_bestSet 32 = .ok (.aload_n 0, 1) := by decide +kernel
theorem dX3_bestSet_33 : decode cX3_bestSet 33 = .ok (.aload_n 0, 1) := by decide +kernel
theorem dX3_bestSet_34 : decode cX3_bestSet 34 = .ok (.getfield 15, 3) := by decide +kernel
theorem dX3_bestSet_37 : decode cX3_bestSet 37 = .ok (.iload 5, 2) := by decide +kernel
theorem dX3_bestSet_39 : decode cX3_bestSet 39 = .ok (.invokevirtual 22, 3) := by decide +kernel
theorem dX3_bestSet_42 : decode cX3_bestSet 42 = .ok (.istore 7, 2) := by decide +kernel
theorem dX3_bestSet_44 : decode cX3_bestSet 44 = .ok (.iload 5, 2) := by decide +kernel
theorem dX3_bestSet_46 : decode cX3_bestSet 46 = .ok (.invokestatic 26, 3) := by decide +kernel
theorem dX3_bestSet_49 : decode cX3_bestSet 49 = .ok (.ldc 32, 2) := by decide +kernel
theorem dX3_bestSet_51 : decode cX3_bestSet 51 = .ok (.imul, 1) := by decide +kernel
theorem dX3_bestSet_52 : decode cX3_bestSet 52 = .ok (.iload 6, 2) := by decide +kernel
theorem dX3_bestSet_54 : decode cX3_bestSet 54 = .ok (.iload 7, 2) := by decide +kernel
theorem dX3_bestSet_56 : decode cX3_bestSet 56 = .ok (.isub, 1) := by decide +kernel
theorem dX3_bestSet_57 : decode cX3_bestSet 57 = .ok (.invokestatic 33, 3) := by decide +kernel
theorem dX3_bestSet_60 : decode cX3_bestSet 60 = .ok (.iadd, 1) := by decide +kernel
theorem dX3_bestSet_61 : decode cX3_bestSet 61 = .ok (.istore 8, 2) := by decide +kernel
theorem dX3_bestSet_63 : decode cX3_bestSet 63 = .ok (.iload 6, 2) := by decide +kernel
theorem dX3_bestSet_65 : decode cX3_bestSet 65 = .ok (.iload_n 1, 1) := by decide +kernel
theorem dX3_bestSet_66 : decode cX3_bestSet 66 = .ok (.if_icmp .lt 29, 3) := by decide +kernel
theorem dX3_bestSet_69 : decode cX3_bestSet 69 = .ok (.iload 7, 2) := by decide +kernel
theorem dX3_bestSet_71 : decode cX3_bestSet 71 = .ok (.iload_n 2, 1) := by decide +kernel
theorem dX3_bestSet_72 : decode cX3_bestSet 72 = .ok (.if_icmp .lt 23, 3) := by decide +kernel
theorem dX3_bestSet_75 : decode cX3_bestSet 75 = .ok (.iload_n 3, 1) := by decide +kernel
theorem dX3_bestSet_76 : decode cX3_bestSet 76 = .ok (.bipush (-2), 2) := by decide +kernel
theorem dX3_bestSet_78 : decode cX3_bestSet 78 = .ok (.if_icmp .eq 10, 3) := by decide +kernel
theorem dX3_bestSet_81 : decode cX3_bestSet 81 = .ok (.iload 8, 2) := by decide +kernel
theorem dX3_bestSet_83 : decode cX3_bestSet 83 = .ok (.iload 4, 2) := by decide +kernel
theorem dX3_bestSet_85 : decode cX3_bestSet 85 = .ok (.if_icmp .ge 10, 3) := by decide +kernel
theorem dX3_bestSet_88 : decode cX3_bestSet 88 = .ok (.iload 5, 2) := by decide +kernel
theorem dX3_bestSet_90 : decode cX3_bestSet 90 = .ok (.istore_n 3, 1) := by decide +kernel
theorem dX3_bestSet_91 : decode cX3_bestSet 91 = .ok (.iload 8, 2) := by decide +kernel
theorem dX3_bestSet_93 : decode cX3_bestSet 93 = .ok (.istore 4, 2) := by decide +kernel
theorem dX3_bestSet_95 : decode cX3_bestSet 95 = .ok (.iinc 5 1, 3) := by decide +kernel
theorem dX3_bestSet_98 : decode cX3_bestSet 98 = .ok (.goto (-89), 3) := by decide +kernel
theorem dX3_bestSet_101 : decode cX3_bestSet 101 = .ok (.iload_n 3, 1) := by decide +kernel
theorem dX3_bestSet_102 : decode cX3_bestSet 102 = .ok (.ireturn, 1) := by decide +kernel
theorem dX3_worthOf_0 : decode cX3_worthOf 0 = .ok (.iconst 0, 1) := by decide +kernel
theorem dX3_worthOf_1 : decode cX3_worthOf 1 = .ok (.istore_n 3, 1) := by decide +kernel
theorem dX3_worthOf_2 : decode cX3_worthOf 2 = .ok (.iconst 0, 1) := by decide +kernel
theorem dX3_worthOf_3 : decode cX3_worthOf 3 = .ok (.istore 4, 2) := by decide +kernel
theorem dX3_worthOf_5 : decode cX3_worthOf 5 = .ok (.iload 4, 2) := by decide +kernel
theorem dX3_worthOf_7 : decode cX3_worthOf 7 = .ok (.aload_n 0, 1) := by decide +kernel
theorem dX3_worthOf_8 : decode cX3_worthOf 8 = .ok (.getfield 18, 3) := by decide +kernel
theorem dX3_worthOf_11 : decode cX3_worthOf 11 = .ok (.if_icmp .ge 37, 3) := by decide +kernel
theorem dX3_worthOf_14 : decode cX3_worthOf 14 = .ok (.iload 4, 2) := by decide +kernel
theorem dX3_worthOf_16 : decode cX3_worthOf 16 = .ok (.aload_n 1, 1) := by decide +kernel
theorem dX3_worthOf_17 : decode cX3_worthOf 17 = .ok (.arraylength, 1) := by decide +kernel
theorem dX3_worthOf_18 : decode cX3_worthOf 18 = .ok (.if_icmp .ge 30, 3) := by decide +kernel
theorem dX3_worthOf_21 : decode cX3_worthOf 21 = .ok (.iload_n 3, 1) := by decide +kernel
theorem dX3_worthOf_22 : decode cX3_worthOf 22 = .ok (.iload_n 2, 1) := by decide +kernel
theorem dX3_worthOf_23 : decode cX3_worthOf 23 = .ok (.iload 4, 2) := by decide +kernel
theorem dX3_worthOf_25 : decode cX3_worthOf 25 = .ok (.iushr, 1) := by decide +kernel
theorem dX3_worthOf_26 : decode cX3_worthOf 26 = .ok (.iconst 1, 1) := by decide +kernel
theorem dX3_worthOf_27 : decode cX3_worthOf 27 = .ok (.iand, 1) := by decide +kernel
theorem dX3_worthOf_28 : decode cX3_worthOf 28 = .ok (.iconst 1, 1) := by decide +kernel
theorem dX3_worthOf_29 : decode cX3_worthOf 29 = .ok (.if_icmp .ne 10, 3) := by decide +kernel
theorem dX3_worthOf_32 : decode cX3_worthOf 32 = .ok (.aload_n 1, 1) := by decide +kernel
theorem dX3_worthOf_33 : decode cX3_worthOf 33 = .ok (.iload 4, 2) := by decide +kernel
theorem dX3_worthOf_35 : decode cX3_worthOf 35 = .ok (.iaload, 1) := by decide +kernel
theorem dX3_worthOf_36 : decode cX3_worthOf 36 = .ok (.goto 4, 3) := by decide +kernel
theorem dX3_worthOf_39 : decode cX3_worthOf 39 = .ok (.iconst 0, 1) := by decide +kernel
theorem dX3_worthOf_40 : decode cX3_worthOf 40 = .ok (.iadd, 1) := by decide +kernel
theorem dX3_worthOf_41 : decode cX3_worthOf 41 = .ok (.istore_n 3, 1) := by decide +kernel
theorem dX3_worthOf_42 : decode cX3_worthOf 42 = .ok (.iinc 4 1, 3) := by decide +kernel
theorem dX3_worthOf_45 : decode cX3_worthOf 45 = .ok (.goto (-40), 3) := by decide +kernel
theorem dX3_worthOf_48 : decode cX3_worthOf 48 = .ok (.iload_n 3, 1) := by decide +kernel
theorem dX3_worthOf_49 : decode cX3_worthOf 49 = .ok (.ireturn, 1) := by decide +kernel
theorem dX4_init_0 : decode cX4_init 0 = .ok (.aload_n 0, 1) := by decide +kernel
theorem dX4_init_1 : decode cX4_init 1 = .ok (.invokespecial 3, 3) := by decide +kernel
theorem dX4_init_4 : decode cX4_init 4 = .ok (.aload_n 0, 1) := by decide +kernel
theorem dX4_init_5 : decode cX4_init 5 = .ok (.sipush 400, 3) := by decide +kernel
theorem dX4_init_8 : decode cX4_init 8 = .ok (.newarray .int, 2) := by decide +kernel
theorem dX4_init_10 : decode cX4_init 10 = .ok (.putfield 11, 3) := by decide +kernel
theorem dX4_init_13 : decode cX4_init 13 = .ok (.aload_n 0, 1) := by decide +kernel
theorem dX4_init_14 : decode cX4_init 14 = .ok (.aload_n 1, 1) := by decide +kernel
theorem dX4_init_15 : decode cX4_init 15 = .ok (.putfield 17, 3) := by decide +kernel
theorem dX4_init_18 : decode cX4_init 18 = .ok (.return_, 1) := by decide +kernel
theorem dX4_hasRoomFor_0 : decode cX4_hasRoomFor 0 = .ok (.aload_n 0, 1) := by decide +kernel
theorem dX4_hasRoomFor_1 : decode cX4_hasRoomFor 1 = .ok (.getfield 21, 3) := by decide +kernel
theorem dX4_hasRoomFor_4 : decode cX4_hasRoomFor 4 = .ok (.iload_n 1, 1) := by decide +kernel
theorem dX4_hasRoomFor_5 : decode cX4_hasRoomFor 5 = .ok (.iadd, 1) := by decide +kernel
theorem dX4_hasRoomFor_6 : decode cX4_hasRoomFor 6 = .ok (.aload_n 0, 1) := by decide +kernel
theorem dX4_hasRoomFor_7 : decode cX4_hasRoomFor 7 = .ok (.getfield 11, 3) := by decide +kernel
theorem dX4_hasRoomFor_10 : decode cX4_hasRoomFor 10 = .ok (.arraylength, 1) := by decide +kernel
theorem dX4_hasRoomFor_11 : decode cX4_hasRoomFor 11 = .ok (.if_icmp .gt 7, 3) := by decide +kernel
theorem dX4_hasRoomFor_14 : decode cX4_hasRoomFor 14 = .ok (.iconst 1, 1) := by decide +kernel
theorem dX4_hasRoomFor_15 : decode cX4_hasRoomFor 15 = .ok (.goto 4, 3) := by decide +kernel
theorem dX4_hasRoomFor_18 : decode cX4_hasRoomFor 18 = .ok (.iconst 0, 1) := by decide +kernel
theorem dX4_hasRoomFor_19 : decode cX4_hasRoomFor 19 = .ok (.ireturn, 1) := by decide +kernel
theorem dX4_take_0 : decode cX4_take 0 = .ok (.bipush 24, 2) := by decide +kernel
theorem dX4_take_2 : decode cX4_take 2 = .ok (.istore_n 2, 1) := by decide +kernel
theorem dX4_take_3 : decode cX4_take 3 = .ok (.iload_n 2, 1) := by decide +kernel
theorem dX4_take_4 : decode cX4_take 4 = .ok (.ifCond .lt 47, 3) := by decide +kernel
theorem dX4_take_7 : decode cX4_take 7 = .ok (.aload_n 0, 1) := by decide +kernel
theorem dX4_take_8 : decode cX4_take 8 = .ok (.getfield 21, 3) := by decide +kernel
theorem dX4_take_11 : decode cX4_take 11 = .ok (.aload_n 0, 1) := by decide +kernel
theorem dX4_take_12 : decode cX4_take 12 = .ok (.getfield 11, 3) := by decide +kernel
theorem dX4_take_15 : decode cX4_take 15 = .ok (.arraylength, 1) := by decide +kernel
theorem dX4_take_16 : decode cX4_take 16 = .ok (.if_icmp .ge 29, 3) := by decide +kernel
theorem dX4_take_19 : decode cX4_take 19 = .ok (.aload_n 0, 1) := by decide +kernel
theorem dX4_take_20 : decode cX4_take 20 = .ok (.getfield 11, 3) := by decide +kernel
theorem dX4_take_23 : decode cX4_take 23 = .ok (.aload_n 0, 1) := by decide +kernel
theorem dX4_take_24 : decode cX4_take 24 = .ok (.getfield 21, 3) := by decide +kernel
theorem dX4_take_27 : decode cX4_take 27 = .ok (.iload_n 1, 1) := by decide +kernel
theorem dX4_take_28 : decode cX4_take 28 = .ok (.iload_n 2, 1) := by decide +kernel
theorem dX4_take_29 : decode cX4_take 29 = .ok (.iushr, 1) := by decide +kernel
theorem dX4_take_30 : decode cX4_take 30 = .ok (.sipush 255, 3) := by decide +kernel
theorem dX4_take_33 : decode cX4_take 33 = .ok (.iand, 1) := by decide +kernel
theorem dX4_take_34 : decode cX4_take 34 = .ok (.iastore, 1) := by decide +kernel
theorem dX4_take_35 : decode cX4_take 35 = .ok (.aload_n 0, 1) := by decide +kernel
theorem dX4_take_36 : decode cX4_take 36 = .ok (.dup, 1) := by decide +kernel
theorem dX4_take_37 : decode cX4_take 37 = .ok (.getfield 21, 3) := by decide +kernel
theorem dX4_take_40 : decode cX4_take 40 = .ok (.iconst 1, 1) := by decide +kernel
theorem dX4_take_41 : decode cX4_take 41 = .ok (.iadd, 1) := by decide +kernel
theorem dX4_take_42 : decode cX4_take 42 = .ok (.putfield 21, 3) := by decide +kernel
theorem dX4_take_45 : decode cX4_take 45 = .ok (.iinc 2 (-8), 3) := by decide +kernel
theorem dX4_take_48 : decode cX4_take 48 = .ok (.goto (-45), 3) := by decide +kernel
theorem dX4_take_51 : decode cX4_take 51 = .ok (.return_, 1) := by decide +kernel
theorem dX4_read_0 : decode cX4_read 0 = .ok (.aload_n 0, 1) := by decide +kernel
theorem dX4_read_1 : decode cX4_read 1 = .ok (.iconst 0, 1) := by decide +kernel
theorem dX4_read_2 : decode cX4_read 2 = .ok (.putfield 25, 3) := by decide +kernel
theorem dX4_read_5 : decode cX4_read 5 = .ok (.aload_n 0, 1) := by decide +kernel
theorem dX4_read_6 : decode cX4_read 6 = .ok (.iconst 0, 1) := by decide +kernel
theorem dX4_read_7 : decode cX4_read 7 = .ok (.putfield 28, 3) := by decide +kernel
theorem dX4_read_10 : decode cX4_read 10 = .ok (.aload_n 0, 1) := by decide +kernel
theorem dX4_read_11 : decode cX4_read 11 = .ok (.iconst 0, 1) := by decide +kernel
theorem dX4_read_12 : decode cX4_read 12 = .ok (.putfield 31, 3) := by decide +kernel
theorem dX4_read_15 : decode cX4_read 15 = .ok (.aload_n 0, 1) := by decide +kernel
theorem dX4_read_16 : decode cX4_read 16 = .ok (.getfield 17, 3) := by decide +kernel
theorem dX4_read_19 : decode cX4_read 19 = .ok (.invokevirtual 34, 3) := by decide +kernel
theorem dX4_read_22 : decode cX4_read 22 = .ok (.aload_n 0, 1) := by decide +kernel
theorem dX4_read_23 : decode cX4_read 23 = .ok (.invokevirtual 37, 3) := by decide +kernel
theorem dX4_read_26 : decode cX4_read 26 = .ok (.aload_n 0, 1) := by decide +kernel
theorem dX4_read_27 : decode cX4_read 27 = .ok (.iload_n 1, 1) := by decide +kernel
theorem dX4_read_28 : decode cX4_read 28 = .ok (.invokevirtual 40, 3) := by decide +kernel
theorem dX4_read_31 : decode cX4_read 31 = .ok (.iconst 0, 1) := by decide +kernel
theorem dX4_read_32 : decode cX4_read 32 = .ok (.istore_n 2, 1) := by decide +kernel
theorem dX4_read_33 : decode cX4_read 33 = .ok (.iload_n 2, 1) := by decide +kernel
theorem dX4_read_34 : decode cX4_read 34 = .ok (.bipush 12, 2) := by decide +kernel
theorem dX4_read_36 : decode cX4_read 36 = .ok (.if_icmp .ge 34, 3) := by decide +kernel
theorem dX4_read_39 : decode cX4_read 39 = .ok (.aload_n 0, 1) := by decide +kernel
theorem dX4_read_40 : decode cX4_read 40 = .ok (.getfield 31, 3) := by decide +kernel
theorem dX4_read_43 : decode cX4_read 43 = .ok (.ifCond .ne 27, 3) := by decide +kernel
theorem dX4_read_46 : decode cX4_read 46 = .ok (.aload_n 0, 1) := by decide +kernel
theorem dX4_read_47 : decode cX4_read 47 = .ok (.getfield 44, 3) := by decide +kernel
theorem dX4_read_50 : decode cX4_read 50 = .ok (.bipush 59, 2) := by decide +kernel
theorem dX4_read_52 : decode cX4_read 52 = .ok (.if_icmp .ne 18, 3) := by decide +kernel
theorem dX4_read_55 : decode cX4_read 55 = .ok (.aload_n 0, 1) := by decide +kernel
theorem dX4_read_56 : decode cX4_read 56 = .ok (.invokevirtual 37, 3) := by decide +kernel
theorem dX4_read_59 : decode cX4_read 59 = .ok (.aload_n 0, 1) := by decide +kernel
theorem dX4_read_60 : decode cX4_read 60 = .ok (.iload_n 1, 1) := by decide +kernel
theorem dX4_read_61 : decode cX4_read 61 = .ok (.invokevirtual 40, 3) := by decide +kernel
theorem dX4_read_64 : decode cX4_read 64 = .ok (.iinc 2 1, 3) := by decide +kernel
theorem dX4_read_67 : decode cX4_read 67 = .ok (.goto (-34), 3) := by decide +kernel
theorem dX4_read_70 : decode cX4_read 70 = .ok (.aload_n 0, 1) := by decide +kernel
theorem dX4_read_71 : decode cX4_read 71 = .ok (.getfield 44, 3) := by decide +kernel
theorem dX4_read_74 : decode cX4_read 74 = .ok (.iconst (-1), 1) := by decide +kernel
theorem dX4_read_75 : decode cX4_read 75 = .ok (.if_icmp .eq 8, 3) := by decide +kernel
theorem dX4_read_78 : decode cX4_read 78 = .ok (.aload_n 0, 1) := by decide +kernel
theorem dX4_read_79 : decode cX4_read 79 = .ok (.iconst 0, 1) := by decide +kernel
theorem dX4_read_80 : decode cX4_read 80 = .ok (.invokevirtual 47, 3) := by decide +kernel
theorem dX4_read_83 : decode cX4_read 83 = .ok (.aload_n 0, 1) := by decide +kernel
theorem dX4_read_84 : decode cX4_read 84 = .ok (.getfield 31, 3) := by decide +kernel
theorem dX4_read_87 : decode cX4_read 87 = .ok (.ireturn, 1) := by decide +kernel
theorem dX4_fail_0 : decode cX4_fail 0 = .ok (.aload_n 0, 1) := by decide +kernel
theorem dX4_fail_1 : decode cX4_fail 1 = .ok (.getfield 31, 3) := by decide +kernel
theorem dX4_fail_4 : decode cX4_fail 4 = .ok (.ifCond .ne 18, 3) := by decide +kernel
theorem dX4_fail_7 : decode cX4_fail 7 = .ok (.aload_n 0, 1) := by decide +kernel
theorem dX4_fail_8 : decode cX4_fail 8 = .ok (.iconst 1, 1) := by decide +kernel
theorem dX4_fail_9 : decode cX4_fail 9 = .ok (.bipush 8, 2) := by decide +kernel
theorem dX4_fail_11 : decode cX4_fail 11 = .ok (.aload_n 0, 1) := by decide +kernel
theorem dX4_fail_12 : decode cX4_fail 12 = .ok (.getfield 50, 3) := by decide +kernel
theorem dX4_fail_15 : decode cX4_fail 15 = .ok (.imul, 1) := by decide +kernel
theorem dX4_fail_16 : decode cX4_fail 16 = .ok (.iadd, 1) := by decide +kernel
theorem dX4_fail_17 : decode cX4_fail 17 = .ok (.iload_n 1, 1) := by decide +kernel
theorem dX4_fail_18 : decode cX4_fail 18 = .ok (.iadd, 1) := by decide +kernel
theorem dX4_fail_19 : decode cX4_fail 19 = .ok (.putfield 31, 3) := by decide +kernel
theorem dX4_fail_22 : decode cX4_fail 22 = .ok (.return_, 1) := by decide +kernel
theorem dX4_readClause_0 : decode cX4_readClause 0 = .ok (.aload_n 0, 1) := by decide +kernel
theorem dX4_readClause_1 : decode cX4_readClause 1 = .ok (.ldc 53, 2) := by decide +kernel
theorem dX4_readClause_3 : decode cX4_readClause 3 = .ok (.invokevirtual 55, 3) := by decide +kernel
theorem dX4_readClause_6 : decode cX4_readClause 6 = .ok (.ifCond .eq 7, 3) := by decide +kernel
theorem dX4_readClause_9 : decode cX4_readClause 9 = .ok (.iconst 5, 1) := by decide +kernel
theorem dX4_readClause_10 : decode cX4_readClause 10 = .ok (.goto 32, 3) := by decide +kernel
theorem dX4_readClause_13 : decode cX4_readClause 13 = .ok (.aload_n 0, 1) := by decide +kernel
theorem dX4_readClause_14 : decode cX4_readClause 14 = .ok (.ldc 59, 2) := by decide +kernel
theorem dX4_readClause_16 : decode cX4_readClause 16 = .ok (.invokevirtual 55, 3) := by decide +kernel
theorem dX4_readClause_19 : decode cX4_readClause 19 = .ok (.ifCond .eq 8, 3) := by decide +kernel
theorem dX4_readClause_22 : decode cX4_readClause 22 = .ok (.bipush 6, 2) := by decide +kernel
theorem dX4_readClause_24 : decode cX4_readClause 24 = .ok (.goto 18, 3) := by decide +kernel
theorem dX4_readClause_27 : decode cX4_readClause 27 = .ok (.aload_n 0, 1) := by decide +kernel
theorem dX4_readClause_28 : decode cX4_readClause 28 = .ok (.ldc 61, 2) := by decide +kernel
theorem dX4_readClause_30 : decode cX4_readClause 30 = .ok (.invokevirtual 55, 3) := by decide +kernel
theorem dX4_readClause_33 : decode cX4_readClause 33 = .ok (.ifCond .eq 8, 3) := by decide +kernel
theorem dX4_readClause_36 : decode cX4_readClause 36 = .ok (.bipush 7, 2) := by decide +kernel
theorem dX4_readClause_38 : decode cX4_readClause 38 = .ok (.goto 4, 3) := by decide +kernel
theorem dX4_readClause_41 : decode cX4_readClause 41 = .ok (.iconst (-1), 1) := by decide +kernel
theorem dX4_readClause_42 : decode cX4_readClause 42 = .ok (.istore_n 2, 1) := by decide +kernel
theorem dX4_readClause_43 : decode cX4_readClause 43 = .ok (.aload_n 0, 1) := by decide +kernel
theorem dX4_readClause_44 : decode cX4_readClause 44 = .ok (.ldc 63, 2) := by decide +kernel
theorem dX4_readClause_46 : decode cX4_readClause 46 = .ok (.invokevirtual 55, 3) := by decide +kernel
theorem dX4_readClause_49 : decode cX4_readClause 49 = .ok (.ifCond .eq 7, 3) := by decide +kernel
theorem dX4_readClause_52 : decode cX4_readClause 52 = .ok (.iconst 1, 1) := by decide +kernel
theorem dX4_readClause_53 : decode cX4_readClause 53 = .ok (.goto 4, 3) := by decide +kernel
theorem dX4_readClause_56 : decode cX4_readClause 56 = .ok (.iconst 0, 1) := by decide +kernel
theorem dX4_readClause_57 : decode cX4_readClause 57 = .ok (.istore_n 3, 1) := by decide +kernel
theorem dX4_readClause_58 : decode cX4_readClause 58 = .ok (.iload_n 2, 1) := by decide +kernel
theorem dX4_readClause_59 : decode cX4_readClause 59 = .ok (.iconst (-1), 1) := by decide +kernel
theorem dX4_readClause_60 : decode cX4_readClause 60 = .ok (.if_icmp .ne 22, 3) := by decide +kernel
theorem dX4_readClause_63 : decode cX4_readClause 63 = .ok (.iload_n 3, 1) := by decide +kernel
theorem dX4_readClause_64 : decode cX4_readClause 64 = .ok (.ifCond .ne 18, 3) := by decide +kernel
theorem dX4_readClause_67 : decode cX4_readClause 67 = .ok (.aload_n 0, 1) := by decide +kernel
theorem dX4_readClause_68 : decode cX4_readClause 68 = .ok (.ldc 65, 2) := by decide +kernel
theorem dX4_readClause_70 : decode cX4_readClause 70 = .ok (.invokevirtual 55, 3) := by decide +kernel
theorem dX4_readClause_73 : decode cX4_readClause 73 = .ok (.ifCond .ne 9, 3) := by decide +kernel
theorem dX4_readClause_76 : decode cX4_readClause 76 = .ok (.aload_n 0, 1) := by decide +kernel
theorem dX4_readClause_77 : decode cX4_readClause 77 = .ok (.iconst 0, 1) := by decide +kernel
theorem dX4_readClause_78 : decode cX4_readClause 78 = .ok (.invokevirtual 47, 3) := by decide +kernel
theorem dX4_readClause_81 : decode cX4_readClause 81 = .ok (.return_, 1) := by decide +kernel
theorem dX4_readClause_82 : decode cX4_readClause 82 = .ok (.aload_n 0, 1) := by decide +kernel
theorem dX4_readClause_83 : decode cX4_readClause 83 = .ok (.getfield 17, 3) := by decide +kernel
theorem dX4_readClause_86 : decode cX4_readClause 86 = .ok (.invokevirtual 67, 3) := by decide +kernel
theorem dX4_readClause_89 : decode cX4_readClause 89 = .ok (.bipush 12, 2) := by decide +kernel
theorem dX4_readClause_91 : decode cX4_readClause 91 = .ok (.if_icmp .lt 9, 3) := by decide +kernel
theorem dX4_readClause_94 : decode cX4_readClause 94 = .ok (.aload_n 0, 1) := by decide +kernel
theorem dX4_readClause_95 : decode cX4_readClause 95 = .ok (.iconst 4, 1) := by decide +kernel
theorem dX4_readClause_96 : decode cX4_readClause 96 = .ok (.invokevirtual 47, 3) := by decide +kernel
theorem dX4_readClause_99 : decode cX4_readClause 99 = .ok (.return_, 1) := by decide +kernel
theorem dX4_readClause_100 : decode cX4_readClause 100 = .ok (.aload_n 0, 1) := by decide +kernel
theorem dX4_readClause_101 : decode cX4_readClause 101 = .ok (.invokevirtual 37, 3) := by decide +kernel
theorem dX4_readClause_104 : decode cX4_readClause 104 = .ok (.iload_n 2, 1) := by decide +kernel
theorem dX4_readClause_105 : decode cX4_readClause 105 = .ok (.bipush 7, 2) := by decide +kernel
theorem dX4_readClause_107 : decode cX4_readClause 107 = .ok (.if_icmp .ne 11, 3) := by decide +kernel
theorem dX4_readClause_110 : decode cX4_readClause 110 = .ok (.aload_n 0, 1) := by decide +kernel
theorem dX4_readClause_111 : decode cX4_readClause 111 = .ok (.iload_n 1, 1) := by decide +kernel
theorem dX4_readClause_112 : decode cX4_readClause 112 = .ok (.invokevirtual 71, 3) := by decide +kernel
theorem dX4_readClause_115 : decode cX4_readClause 115 = .ok (.goto 30, 3) := by decide +kernel
theorem dX4_readClause_118 : decode cX4_readClause 118 = .ok (.iload_n 2, 1) := by decide +kernel
theorem dX4_readClause_119 : decode cX4_readClause 119 = .ok (.iconst (-1), 1) := by decide +kernel
theorem dX4_readClause_120 : decode cX4_readClause 120 = .ok (.if_icmp .ne 11, 3) := by decide +kernel
theorem dX4_readClause_123 : decode cX4_readClause 123 = .ok (.aload_n 0, 1) := by decide +kernel
theorem dX4_readClause_124 : decode cX4_readClause 124 = .ok (.iload_n 3, 1) := by decide +kernel
theorem dX4_readClause_125 : decode cX4_readClause 125 = .ok (.invokevirtual 74, 3) := by decide +kernel
theorem dX4_readClause_128 : decode cX4_readClause 128 = .ok (.goto 17, 3) := by decide +kernel
theorem dX4_readClause_131 : decode cX4_readClause 131 = .ok (.aload_n 0, 1) := by decide +kernel
theorem dX4_readClause_132 : decode cX4_readClause 132 = .ok (.getfield 17, 3) := by decide +kernel
theorem dX4_readClause_135 : decode cX4_readClause 135 = .ok (.iload_n 2, 1) := by decide +kernel
theorem dX4_readClause_136 : decode cX4_readClause 136 = .ok (.iconst 0, 1) := by decide +kernel
theorem dX4_readClause_137 : decode cX4_readClause 137 = .ok (.invokevirtual 77, 3) := by decide +kernel
theorem dX4_readClause_140 : decode cX4_readClause 140 = .ok (.aload_n 0, 1) := by decide +kernel
theorem dX4_readClause_141 : decode cX4_readClause 141 = .ok (.iconst 0, 1) := by decide +kernel
theorem dX4_readClause_142 : decode cX4_readClause 142 = .ok (.invokevirtual 81, 3) := by decide +kernel
theorem dX4_readClause_145 : decode cX4_readClause 145 = .ok (.aload_n 0, 1) := by decide +kernel
theorem dX4_readClause_146 : decode cX4_readClause 146 = .ok (.getfield 17, 3) := by decide +kernel
theorem dX4_readClause_149 : decode cX4_readClause 149 = .ok (.invokevirtual 84, 3) := by decide +kernel
theorem dX4_readClause_152 : decode cX4_readClause 152 = .ok (.iload_n 2, 1) := by decide +kernel
theorem dX4_readClause_153 : decode cX4_readClause 153 = .ok (.bipush 7, 2) := by decide +kernel
theorem dX4_readClause_155 : decode cX4_readClause 155 = .ok (.if_icmp .eq 7, 3) := by decide +kernel
theorem dX4_readClause_158 : decode cX4_readClause 158 = .ok (.aload_n 0, 1) := by decide +kernel
theorem dX4_readClause_159 : decode cX4_readClause 159 = .ok (.invokevirtual 87, 3) := by decide +kernel
theorem dX4_readClause_162 : decode cX4_readClause 162 = .ok (.aload_n 0, 1) := by decide +kernel
theorem dX4_readClause_163 : decode cX4_readClause 163 = .ok (.getfield 17, 3) := by decide +kernel
theorem dX4_readClause_166 : decode cX4_readClause 166 = .ok (.invokevirtual 90, 3) := by decide +kernel
theorem dX4_readClause_169 : decode cX4_readClause 169 = .ok (.return_, 1) := by decide +kernel
theorem dX4_readStruck_0 : decode cX4_readStruck 0 = .ok (.aload_n 0, 1) := by decide +kernel
theorem dX4_readStruck_1 : decode cX4_readStruck 1 = .ok (.getfield 44, 3) := by decide +kernel
theorem dX4_readStruck_4 : decode cX4_readStruck 4 = .ok (.bipush (-3), 2) := by decide +kernel
theorem dX4_readStruck_6 : decode cX4_readStruck 6 = .ok (.if_icmp .eq 11, 3) := by decide +kernel
theorem dX4_readStruck_9 : decode cX4_readStruck 9 = .ok (.aload_n 0, 1) := by decide +kernel
theorem dX4_readStruck_10 : decode cX4_readStruck 10 = .ok (.iconst 0, 1) := by decide +kernel
theorem dX4_readStruck_11 : decode cX4_readStruck 11 = .ok (.invokevirtual 47, 3) := by decide +kernel
theorem dX4_readStruck_14 : decode cX4_readStruck 14 = .ok (.goto 51, 3) := by decide +kernel
theorem dX4_readStruck_17 : decode cX4_readStruck 17 = .ok (.aload_n 0, 1) := by decide +kernel
theorem dX4_readStruck_18 : decode cX4_readStruck 18 = .ok (.getfield 93, 3) := by decide +kernel
theorem dX4_readStruck_21 : decode cX4_readStruck 21 = .ok (.iconst 5, 1) := by decide +kernel
theorem dX4_readStruck_22 : decode cX4_readStruck 22 = .ok (.if_icmp .gt 18, 3) := by decide +kernel
theorem dX4_readStruck_25 : decode cX4_readStruck 25 = .ok (.aload_n 0, 1) := by decide +kernel
theorem dX4_readStruck_26 : decode cX4_readStruck 26 = .ok (.getfield 17, 3) := by decide +kernel
theorem dX4_readStruck_29 : decode cX4_readStruck 29 = .ok (.aload_n 0, 1) := by decide +kernel
theorem dX4_readStruck_30 : decode cX4_readStruck 30 = .ok (.getfield 96, 3) := by decide +kernel
theorem dX4_readStruck_33 : decode cX4_readStruck 33 = .ok (.iload_n 1, 1) := by decide +kernel
theorem dX4_readStruck_34 : decode cX4_readStruck 34 = .ok (.invokevirtual 99, 3) := by decide +kernel
theorem dX4_readStruck_37 : decode cX4_readStruck 37 = .ok (.ifCond .ne 11, 3) := by decide +kernel
theorem dX4_readStruck_40 : decode cX4_readStruck 40 = .ok (.aload_n 0, 1) := by decide +kernel
theorem dX4_readStruck_41 : decode cX4_readStruck 41 = .ok (.iconst 1, 1) := by decide +kernel
theorem dX4_readStruck_42 : decode cX4_readStruck 42 = .ok (.invokevirtual 47, 3) := by decide +kernel
theorem dX4_readStruck_45 : decode cX4_readStruck 45 = .ok (.goto 20, 3) := by decide +kernel
theorem dX4_readStruck_48 : decode cX4_readStruck 48 = .ok (.aload_n 0, 1) := by decide +kernel
theorem dX4_readStruck_49 : decode cX4_readStruck 49 = .ok (.getfield 17, 3) := by decide +kernel
theorem dX4_readStruck_52 : decode cX4_readStruck 52 = .ok (.bipush 7, 2) := by decide +kernel
theorem dX4_readStruck_54 : decode cX4_readStruck 54 = .ok (.aload_n 0, 1) := by decide +kernel
theorem dX4_readStruck_55 : decode cX4_readStruck 55 = .ok (.getfield 96, 3) := by decide +kernel
theorem dX4_readStruck_58 : decode cX4_readStruck 58 = .ok (.invokevirtual 77, 3) := by decide +kernel
theorem dX4_readStruck_61 : decode cX4_readStruck 61 = .ok (.aload_n 0, 1) := by decide +kernel
theorem dX4_readStruck_62 : decode cX4_readStruck 62 = .ok (.invokevirtual 37, 3) := by decide +kernel
theorem dX4_readStruck_65 : decode cX4_readStruck 65 = .ok (.return_, 1) := by decide +kernel
theorem dX4_readWhat_0 : decode cX4_readWhat 0 = .ok (.aload_n 0, 1) := by decide +kernel
theorem dX4_readWhat_1 : decode cX4_readWhat 1 = .ok (.ldc 103, 2) := by decide +kernel
theorem dX4_readWhat_3 : decode cX4_readWhat 3 = .ok (.invokevirtual 55, 3) := by decide +kernel
theorem dX4_readWhat_6 : decode cX4_readWhat 6 = .ok (.ifCond .eq 7, 3) := by decide +kernel
theorem dX4_readWhat_9 : decode cX4_readWhat 9 = .ok (.iconst 0, 1) := by decide +kernel
theorem dX4_readWhat_10 : decode cX4_readWhat 10 = .ok (.goto 56, 3) := by decide +kernel
theorem dX4_readWhat_13 : decode cX4_readWhat 13 = .ok (.aload_n 0, 1) := by decide +kernel
theorem dX4_readWhat_14 : decode cX4_readWhat 14 = .ok (.ldc 105, 2) := by decide +kernel
theorem dX4_readWhat_16 : decode cX4_readWhat 16 = .ok (.invokevirtual 55, 3) := by decide +kernel
theorem dX4_readWhat_19 : decode cX4_readWhat 19 = .ok (.ifCond .eq 7, 3) := by decide +kernel
theorem dX4_readWhat_22 : decode cX4_readWhat 22 = .ok (.iconst 1, 1) := by decide +kernel
theorem dX4_readWhat_23 : decode cX4_readWhat 23 = .ok (.goto 43, 3) := by decide +kernel
theorem dX4_readWhat_26 : decode cX4_readWhat 26 = .ok (.aload_n 0, 1) := by decide +kernel
theorem dX4_readWhat_27 : decode cX4_readWhat 27 = .ok (.ldc 107, 2) := by decide +kernel
theorem dX4_readWhat_29 : decode cX4_readWhat 29 = .ok (.invokevirtual 55, 3) := by decide +kernel
theorem dX4_readWhat_32 : decode cX4_readWhat 32 = .ok (.ifCond .eq 7, 3) := by decide +kernel
theorem dX4_readWhat_35 : decode cX4_readWhat 35 = .ok (.iconst 2, 1) := by decide +kernel
theorem dX4_readWhat_36 : decode cX4_readWhat 36 = .ok (.goto 30, 3) := by decide +kernel
theorem dX4_readWhat_39 : decode cX4_readWhat 39 = .ok (.aload_n 0, 1) := by decide +kernel
theorem dX4_readWhat_40 : decode cX4_readWhat 40 = .ok (.ldc 109, 2) := by decide +kernel
theorem dX4_readWhat_42 : decode cX4_readWhat 42 = .ok (.invokevirtual 55, 3) := by decide +kernel
theorem dX4_readWhat_45 : decode cX4_readWhat 45 = .ok (.ifCond .eq 7, 3) := by decide +kernel
theorem dX4_readWhat_48 : decode cX4_readWhat 48 = .ok (.iconst 3, 1) := by decide +kernel
theorem dX4_readWhat_49 : decode cX4_readWhat 49 = .ok (.goto 17, 3) := by decide +kernel
theorem dX4_readWhat_52 : decode cX4_readWhat 52 = .ok (.aload_n 0, 1) := by decide +kernel
theorem dX4_readWhat_53 : decode cX4_readWhat 53 = .ok (.ldc 111, 2) := by decide +kernel
theorem dX4_readWhat_55 : decode cX4_readWhat 55 = .ok (.invokevirtual 55, 3) := by decide +kernel
theorem dX4_readWhat_58 : decode cX4_readWhat 58 = .ok (.ifCond .eq 7, 3) := by decide +kernel
theorem dX4_readWhat_61 : decode cX4_readWhat 61 = .ok (.iconst 4, 1) := by decide +kernel
theorem dX4_readWhat_62 : decode cX4_readWhat 62 = .ok (.goto 4, 3) := by decide +kernel
theorem dX4_readWhat_65 : decode cX4_readWhat 65 = .ok (.iconst (-1), 1) := by decide +kernel
theorem dX4_readWhat_66 : decode cX4_readWhat 66 = .ok (.istore_n 2, 1) := by decide +kernel
theorem dX4_readWhat_67 : decode cX4_readWhat 67 = .ok (.iload_n 2, 1) := by decide +kernel
theorem dX4_readWhat_68 : decode cX4_readWhat 68 = .ok (.iconst (-1), 1) := by decide +kernel
theorem dX4_readWhat_69 : decode cX4_readWhat 69 = .ok (.if_icmp .ne 9, 3) := by decide +kernel
theorem dX4_readWhat_72 : decode cX4_readWhat 72 = .ok (.aload_n 0, 1) := by decide +kernel
theorem dX4_readWhat_73 : decode cX4_readWhat 73 = .ok (.iconst 0, 1) := by decide +kernel
theorem dX4_readWhat_74 : decode cX4_readWhat 74 = .ok (.invokevirtual 47, 3) := by decide +kernel
theorem dX4_readWhat_77 : decode cX4_readWhat 77 = .ok (.return_, 1) := by decide +kernel
theorem dX4_readWhat_78 : decode cX4_readWhat 78 = .ok (.aload_n 0, 1) := by decide +kernel
theorem dX4_readWhat_79 : decode cX4_readWhat 79 = .ok (.getfield 17, 3) := by decide +kernel
theorem dX4_readWhat_82 : decode cX4_readWhat 82 = .ok (.iload_n 2, 1) := by decide +kernel
theorem dX4_readWhat_83 : decode cX4_readWhat 83 = .ok (.iload_n 1, 1) := by decide +kernel
theorem dX4_readWhat_84 : decode cX4_readWhat 84 = .ok (.invokevirtual 77, 3) := by decide +kernel
theorem dX4_readWhat_87 : decode cX4_readWhat 87 = .ok (.aload_n 0, 1) := by decide +kernel
theorem dX4_readWhat_88 : decode cX4_readWhat 88 = .ok (.invokevirtual 37, 3) := by decide +kernel
theorem dX4_readWhat_91 : decode cX4_readWhat 91 = .ok (.return_, 1) := by decide +kernel
theorem dX4_readCond_0 : decode cX4_readCond 0 = .ok (.aload_n 0, 1) := by decide +kernel
theorem dX4_readCond_1 : decode cX4_readCond 1 = .ok (.ldc 113, 2) := by decide +kernel
theorem dX4_readCond_3 : decode cX4_readCond 3 = .ok (.invokevirtual 55, 3) := by decide +kernel
theorem dX4_readCond_6 : decode cX4_readCond 6 = .ok (.ifCond .eq 7, 3) := by decide +kernel
theorem dX4_readCond_9 : decode cX4_readCond 9 = .ok (.iconst 1, 1) := by decide +kernel
theorem dX4_readCond_10 : decode cX4_readCond 10 = .ok (.goto 17, 3) := by decide +kernel
theorem dX4_readCond_13 : decode cX4_readCond 13 = .ok (.aload_n 0, 1) := by decide +kernel
theorem dX4_readCond_14 : decode cX4_readCond 14 = .ok (.ldc 115, 2) := by decide +kernel
theorem dX4_readCond_16 : decode cX4_readCond 16 = .ok (.invokevirtual 55, 3) := by decide +kernel
theorem dX4_readCond_19 : decode cX4_readCond 19 = .ok (.ifCond .eq 7, 3) := by decide +kernel
theorem dX4_readCond_22 : decode cX4_readCond 22 = .ok (.iconst 2, 1) := by decide +kernel
theorem dX4_readCond_23 : decode cX4_readCond 23 = .ok (.goto 4, 3) := by decide +kernel
theorem dX4_readCond_26 : decode cX4_readCond 26 = .ok (.iconst 0, 1) := by decide +kernel
theorem dX4_readCond_27 : decode cX4_readCond 27 = .ok (.istore_n 1, 1) := by decide +kernel
theorem dX4_readCond_28 : decode cX4_readCond 28 = .ok (.aload_n 0, 1) := by decide +kernel
theorem dX4_readCond_29 : decode cX4_readCond 29 = .ok (.getfield 31, 3) := by decide +kernel
theorem dX4_readCond_32 : decode cX4_readCond 32 = .ok (.ifCond .ne 7, 3) := by decide +kernel
theorem dX4_readCond_35 : decode cX4_readCond 35 = .ok (.iload_n 1, 1) := by decide +kernel
theorem dX4_readCond_36 : decode cX4_readCond 36 = .ok (.ifCond .ne 4, 3) := by decide +kernel
theorem dX4_readCond_39 : decode cX4_readCond 39 = .ok (.return_, 1) := by decide +kernel
theorem dX4_readCond_40 : decode cX4_readCond 40 = .ok (.aload_n 0, 1) := by decide +kernel
theorem dX4_readCond_41 : decode cX4_readCond 41 = .ok (.getfield 17, 3) := by decide +kernel
theorem dX4_readCond_44 : decode cX4_readCond 44 = .ok (.iload_n 1, 1) := by decide +kernel
theorem dX4_readCond_45 : decode cX4_readCond 45 = .ok (.invokevirtual 117, 3) := by decide +kernel
theorem dX4_readCond_48 : decode cX4_readCond 48 = .ok (.aload_n 0, 1) := by decide +kernel
theorem dX4_readCond_49 : decode cX4_readCond 49 = .ok (.invokevirtual 37, 3) := by decide +kernel
theorem dX4_readCond_52 : decode cX4_readCond 52 = .ok (.aload_n 0, 1) := by decide +kernel
theorem dX4_readCond_53 : decode cX4_readCond 53 = .ok (.iconst 0, 1) := by decide +kernel
theorem dX4_readCond_54 : decode cX4_readCond 54 = .ok (.invokevirtual 120, 3) := by decide +kernel
theorem dX4_readCond_57 : decode cX4_readCond 57 = .ok (.return_, 1) := by decide +kernel
theorem dX4_readTest_0 : decode cX4_readTest 0 = .ok (.aload_n 0, 1) := by decide +kernel
theorem dX4_readTest_1 : decode cX4_readTest 1 = .ok (.iload_n 1, 1) := by decide +kernel
theorem dX4_readTest_2 : decode cX4_readTest 2 = .ok (.invokevirtual 123, 3) := by decide +kernel
theorem dX4_readTest_5 : decode cX4_readTest 5 = .ok (.iconst 0, 1) := by decide +kernel
theorem dX4_readTest_6 : decode cX4_readTest 6 = .ok (.istore_n 2, 1) := by decide +kernel
theorem dX4_readTest_7 : decode cX4_readTest 7 = .ok (.iload_n 2, 1) := by decide +kernel
theorem dX4_readTest_8 : decode cX4_readTest 8 = .ok (.sipush 400, 3) := by decide +kernel
theorem dX4_readTest_11 : decode cX4_readTest 11 = .ok (.if_icmp .ge 43, 3) := by decide +kernel
theorem dX4_readTest_14 : decode cX4_readTest 14 = .ok (.aload_n 0, 1) := by decide +kernel
theorem dX4_readTest_15 : decode cX4_readTest 15 = .ok (.getfield 31, 3) := by decide +kernel
theorem dX4_readTest_18 : decode cX4_readTest 18 = .ok (.ifCond .ne 36, 3) := by decide +kernel
theorem dX4_readTest_21 : decode cX4_readTest 21 = .ok (.aload_n 0, 1) := by decide +kernel
theorem dX4_readTest_22 : decode cX4_readTest 22 = .ok (.ldc 126, 2) := by decide +kernel
theorem dX4_readTest_24 : decode cX4_readTest 24 = .ok (.invokevirtual 55, 3) := by decide +kernel
theorem dX4_readTest_27 : decode cX4_readTest 27 = .ok (.ifCond .eq 27, 3) := by decide +kernel
theorem dX4_readTest_30 : decode cX4_readTest 30 = .ok (.aload_n 0, 1) := by decide +kernel
theorem dX4_readTest_31 : decode cX4_readTest 31 = .ok (.invokevirtual 37, 3) := by decide +kernel
theorem dX4_readTest_34 : decode cX4_readTest 34 = .ok (.aload_n 0, 1) := by decide +kernel
theorem dX4_readTest_35 : decode cX4_readTest 35 = .ok (.iload_n 1, 1) := by decide +kernel
theorem dX4_readTest_36 : decode cX4_readTest 36 = .ok (.invokevirtual 123, 3) := by decide +kernel
theorem dX4_readTest_39 : decode cX4_readTest 39 = .ok (.aload_n 0, 1) := by decide +kernel
theorem dX4_readTest_40 : decode cX4_readTest 40 = .ok (.getfield 17, 3) := by decide +kernel
theorem dX4_readTest_43 : decode cX4_readTest 43 = .ok (.bipush (-12), 2) := by decide +kernel
theorem dX4_readTest_45 : decode cX4_readTest 45 = .ok (.invokevirtual 128, 3) := by decide +kernel
theorem dX4_readTest_48 : decode cX4_readTest 48 = .ok (.iinc 2 1, 3) := by decide +kernel
theorem dX4_readTest_51 : decode cX4_readTest 51 = .ok (.goto (-44), 3) := by decide +kernel
theorem dX4_readTest_54 : decode cX4_readTest 54 = .ok (.return_, 1) := by decide +kernel
theorem dX4_readPart_0 : decode cX4_readPart 0 = .ok (.aload_n 0, 1) := by decide +kernel
theorem dX4_readPart_1 : decode cX4_readPart 1 = .ok (.iload_n 1, 1) := by decide +kernel
theorem dX4_readPart_2 : decode cX4_readPart 2 = .ok (.invokevirtual 131, 3) := by decide +kernel
theorem dX4_readPart_5 : decode cX4_readPart 5 = .ok (.iconst 0, 1) := by decide +kernel
theorem dX4_readPart_6 : decode cX4_readPart 6 = .ok (.istore_n 2, 1) := by decide +kernel
theorem dX4_readPart_7 : decode cX4_readPart 7 = .ok (.iload_n 2, 1) := by decide +kernel
theorem dX4_readPart_8 : decode cX4_readPart 8 = .ok (.sipush 400, 3) := by decide +kernel
theorem dX4_readPart_11 : decode cX4_readPart 11 = .ok (.if_icmp .ge 43, 3) := by decide +kernel
theorem dX4_readPart_14 : decode cX4_readPart 14 = .ok (.aload_n 0, 1) := by decide +kernel
theorem dX4_readPart_15 : decode cX4_readPart 15 = .ok (.getfield 31, 3) := by decide +kernel
theorem dX4_readPart_18 : decode cX4_readPart 18 = .ok (.ifCond .ne 36, 3) := by decide +kernel
theorem dX4_readPart_21 : decode cX4_readPart 21 = .ok (.aload_n 0, 1) := by decide +kernel
theorem dX4_readPart_22 : decode cX4_readPart 22 = .ok (.ldc 134, 2) := by decide +kernel
theorem dX4_readPart_24 : decode cX4_readPart 24 = .ok (.invokevirtual 55, 3) := by decide +kernel
theorem dX4_readPart_27 : decode cX4_readPart 27 = .ok (.ifCond .eq 27, 3) := by decide +kernel
theorem dX4_readPart_30 : decode cX4_readPart 30 = .ok (.aload_n 0, 1) := by decide +kernel
theorem dX4_readPart_31 : decode cX4_readPart 31 = .ok (.invokevirtual 37, 3) := by decide +kernel
theorem dX4_readPart_34 : decode cX4_readPart 34 = .ok (.aload_n 0, 1) := by decide +kernel
theorem dX4_readPart_35 : decode cX4_readPart 35 = .ok (.iload_n 1, 1) := by decide +kernel
theorem dX4_readPart_36 : decode cX4_readPart 36 = .ok (.invokevirtual 131, 3) := by decide +kernel
theorem dX4_readPart_39 : decode cX4_readPart 39 = .ok (.aload_n 0, 1) := by decide +kernel
theorem dX4_readPart_40 : decode cX4_readPart 40 = .ok (.getfield 17, 3) := by decide +kernel
theorem dX4_readPart_43 : decode cX4_readPart 43 = .ok (.bipush (-11), 2) := by decide +kernel
theorem dX4_readPart_45 : decode cX4_readPart 45 = .ok (.invokevirtual 128, 3) := by decide +kernel
theorem dX4_readPart_48 : decode cX4_readPart 48 = .ok (.iinc 2 1, 3) := by decide +kernel
theorem dX4_readPart_51 : decode cX4_readPart 51 = .ok (.goto (-44), 3) := by decide +kernel
theorem dX4_readPart_54 : decode cX4_readPart 54 = .ok (.return_, 1) := by decide +kernel
theorem dX4_readFact_0 : decode cX4_readFact 0 = .ok (.aload_n 0, 1) := by decide +kernel
theorem dX4_readFact_1 : decode cX4_readFact 1 = .ok (.ldc 136, 2) := by decide +kernel
theorem dX4_readFact_3 : decode cX4_readFact 3 = .ok (.invokevirtual 55, 3) := by decide +kernel
theorem dX4_readFact_6 : decode cX4_readFact 6 = .ok (.ifCond .eq 34, 3) := by decide +kernel
theorem dX4_readFact_9 : decode cX4_readFact 9 = .ok (.aload_n 0, 1) := by decide +kernel
theorem dX4_readFact_10 : decode cX4_readFact 10 = .ok (.iload_n 1, 1) := by decide +kernel
theorem dX4_readFact_11 : decode cX4_readFact 11 = .ok (.invokevirtual 138, 3) := by decide +kernel
theorem dX4_readFact_14 : decode cX4_readFact 14 = .ok (.ifCond .eq 68, 3) := by decide +kernel
theorem dX4_readFact_17 : decode cX4_readFact 17 = .ok (.aload_n 0, 1) := by decide +kernel
theorem dX4_readFact_18 : decode cX4_readFact 18 = .ok (.invokevirtual 37, 3) := by decide +kernel
theorem dX4_readFact_21 : decode cX4_readFact 21 = .ok (.aload_n 0, 1) := by decide +kernel
theorem dX4_readFact_22 : decode cX4_readFact 22 = .ok (.iload_n 1, 1) := by decide +kernel
theorem dX4_readFact_23 : decode cX4_readFact 23 = .ok (.iconst 1, 1) := by decide +kernel
theorem dX4_readFact_24 : decode cX4_readFact 24 = .ok (.iadd, 1) := by decide +kernel
theorem dX4_readFact_25 : decode cX4_readFact 25 = .ok (.invokevirtual 131, 3) := by decide +kernel
theorem dX4_readFact_28 : decode cX4_readFact 28 = .ok (.aload_n 0, 1) := by decide +kernel
theorem dX4_readFact_29 : decode cX4_readFact 29 = .ok (.getfield 17, 3) := by decide +kernel
theorem dX4_readFact_32 : decode cX4_readFact 32 = .ok (.bipush (-10), 2) := by decide +kernel
theorem dX4_readFact_34 : decode cX4_readFact 34 = .ok (.invokevirtual 128, 3) := by decide +kernel
theorem dX4_readFact_37 : decode cX4_readFact 37 = .ok (.goto 45, 3) := by decide +kernel
theorem dX4_readFact_40 : decode cX4_readFact 40 = .ok (.aload_n 0, 1) := by decide +kernel
theorem dX4_readFact_41 : decode cX4_readFact 41 = .ok (.getfield 44, 3) := by decide +kernel
theorem dX4_readFact_44 : decode cX4_readFact 44 = .ok (.bipush 91, 2) := by decide +kernel
theorem dX4_readFact_46 : decode cX4_readFact 46 = .ok (.if_icmp .ne 31, 3) := by decide +kernel
theorem dX4_readFact_49 : decode cX4_readFact 49 = .ok (.aload_n 0, 1) := by decide +kernel
theorem dX4_readFact_50 : decode cX4_readFact 50 = .ok (.iload_n 1, 1) := by decide +kernel
theorem dX4_readFact_51 : decode cX4_readFact 51 = .ok (.invokevirtual 138, 3) := by decide +kernel
theorem dX4_readFact_54 : decode cX4_readFact 54 = .ok (.ifCond .eq 28, 3) := by decide +kernel
theorem dX4_readFact_57 : decode cX4_readFact 57 = .ok (.aload_n 0, 1) := by decide +kernel
theorem dX4_readFact_58 : decode cX4_readFact 58 = .ok (.invokevirtual 37, 3) := by decide +kernel
theorem dX4_readFact_61 : decode cX4_readFact 61 = .ok (.aload_n 0, 1) := by decide +kernel
theorem dX4_readFact_62 : decode cX4_readFact 62 = .ok (.iload_n 1, 1) := by decide +kernel
theorem dX4_readFact_63 : decode cX4_readFact 63 = .ok (.iconst 1, 1) := by decide +kernel
theorem dX4_readFact_64 : decode cX4_readFact 64 = .ok (.iadd, 1) := by decide +kernel
theorem dX4_readFact_65 : decode cX4_readFact 65 = .ok (.invokevirtual 120, 3) := by decide +kernel
theorem dX4_readFact_68 : decode cX4_readFact 68 = .ok (.aload_n 0, 1) := by decide +kernel
theorem dX4_readFact_69 : decode cX4_readFact 69 = .ok (.bipush 93, 2) := by decide +kernel
theorem dX4_readFact_71 : decode cX4_readFact 71 = .ok (.invokevirtual 142, 3) := by decide +kernel
theorem dX4_readFact_74 : decode cX4_readFact 74 = .ok (.goto 8, 3) := by decide +kernel
theorem dX4_readFact_77 : decode cX4_readFact 77 = .ok (.aload_n 0, 1) := by decide +kernel
theorem dX4_readFact_78 : decode cX4_readFact 78 = .ok (.iload_n 1, 1) := by decide +kernel
theorem dX4_readFact_79 : decode cX4_readFact 79 = .ok (.invokevirtual 145, 3) := by decide +kernel
theorem dX4_readFact_82 : decode cX4_readFact 82 = .ok (.return_, 1) := by decide +kernel
theorem dX4_readComparison_0 : decode cX4_readComparison 0 = .ok (.aload_n 0, 1) := by decide +kernel
theorem dX4_readComparison_1 : decode cX4_readComparison 1 = .ok (.iload_n 1, 1) := by decide +kernel
theorem dX4_readComparison_2 : decode cX4_readComparison 2 = .ok (.invokevirtual 81, 3) := by decide +kernel
theorem dX4_readComparison_5 : decode cX4_readComparison 5 = .ok (.aload_n 0, 1) := by decide +kernel
theorem dX4_readComparison_6 : decode cX4_readComparison 6 = .ok (.getfield 44, 3) := by decide +kernel
theorem dX4_readComparison_9 : decode cX4_readComparison 9 = .ok (.invokestatic 148, 3) := by decide +kernel
theorem dX4_readComparison_12 : decode cX4_readComparison 12 = .ok (.istore_n 2, 1) := by decide +kernel
theorem dX4_readComparison_13 : decode cX4_readComparison 13 = .ok (.aload_n 0, 1) := by decide +kernel
theorem dX4_readComparison_14 : decode cX4_readComparison 14 = .ok (.getfield 31, 3) := by decide +kernel
theorem dX4_readComparison_17 : decode cX4_readComparison 17 = .ok (.ifCond .eq 4, 3) := by decide +kernel
theorem dX4_readComparison_20 : decode cX4_readComparison 20 = .ok (.return_, 1) := by decide +kernel
theorem dX4_readComparison_21 : decode cX4_readComparison 21 = .ok (.iload_n 2, 1) := by decide +kernel
theorem dX4_readComparison_22 : decode cX4_readComparison 22 = .ok (.iconst (-1), 1) := by decide +kernel
theorem dX4_readComparison_23 : decode cX4_readComparison 23 = .ok (.if_icmp .ne 11, 3) := by decide +kernel
theorem dX4_readComparison_26 : decode cX4_readComparison 26 = .ok (.aload_n 0, 1) := by decide +kernel
theorem dX4_readComparison_27 : decode cX4_readComparison 27 = .ok (.iconst 0, 1) := by decide +kernel
theorem dX4_readComparison_28 : decode cX4_readComparison 28 = .ok (.invokevirtual 47, 3) := by decide +kernel
theorem dX4_readComparison_31 : decode cX4_readComparison 31 = .ok (.goto 27, 3) := by decide +kernel
theorem dX4_readComparison_34 : decode cX4_readComparison 34 = .ok (.aload_n 0, 1) := by decide +kernel
theorem dX4_readComparison_35 : decode cX4_readComparison 35 = .ok (.invokevirtual 152, 3) := by decide +kernel
theorem dX4_readComparison_38 : decode cX4_readComparison 38 = .ok (.ifCond .eq 20, 3) := by decide +kernel
theorem dX4_readComparison_41 : decode cX4_readComparison 41 = .ok (.aload_n 0, 1) := by decide +kernel
theorem dX4_readComparison_42 : decode cX4_readComparison 42 = .ok (.invokevirtual 37, 3) := by decide +kernel
theorem dX4_readComparison_45 : decode cX4_readComparison 45 = .ok (.aload_n 0, 1) := by decide +kernel
theorem dX4_readComparison_46 : decode cX4_readComparison 46 = .ok (.iload_n 1, 1) := by decide +kernel
theorem dX4_readComparison_47 : decode cX4_readComparison 47 = .ok (.invokevirtual 81, 3) := by decide +kernel
theorem dX4_readComparison_50 : decode cX4_readComparison 50 = .ok (.aload_n 0, 1) := by decide +kernel
theorem dX4_readComparison_51 : decode cX4_readComparison 51 = .ok (.getfield 17, 3) := by decide +kernel
theorem dX4_readComparison_54 : decode cX4_readComparison 54 = .ok (.iload_n 2, 1) := by decide +kernel
theorem dX4_readComparison_55 : decode cX4_readComparison 55 = .ok (.invokevirtual 128, 3) := by decide +kernel
theorem dX4_readComparison_58 : decode cX4_readComparison 58 = .ok (.return_, 1) := by decide +kernel
theorem dX4_comparisonOf_0 : decode cX4_comparisonOf 0 = .ok (.iload_n 0, 1) := by decide +kernel
theorem dX4_comparisonOf_1 : decode cX4_comparisonOf 1 = .ok (.lookupswitch 66 #[(60, 51), (61, 57), (62, 63), (316, 54), (318, 60)], 51) := by decide +kernel
theorem dX4_comparisonOf_52 : decode cX4_comparisonOf 52 = .ok (.bipush (-16), 2) := by decide +kernel
theorem dX4_comparisonOf_54 : decode cX4_comparisonOf 54 = .ok (.ireturn, 1) := by decide +kernel
theorem dX4_comparisonOf_55 : decode cX4_comparisonOf 55 = .ok (.bipush (-17), 2) := by decide +kernel
theorem dX4_comparisonOf_57 : decode cX4_comparisonOf 57 = .ok (.ireturn, 1) := by decide +kernel
theorem dX4_comparisonOf_58 : decode cX4_comparisonOf 58 = .ok (.bipush (-18), 2) := by decide +kernel
theorem dX4_comparisonOf_60 : decode cX4_comparisonOf 60 = .ok (.ireturn, 1) := by decide +kernel
theorem dX4_comparisonOf_61 : decode cX4_comparisonOf 61 = .ok (.bipush (-19), 2) := by decide +kernel
theorem dX4_comparisonOf_63 : decode cX4_comparisonOf 63 = .ok (.ireturn, 1) := by decide +kernel
theorem dX4_comparisonOf_64 : decode cX4_comparisonOf 64 = .ok (.bipush (-20), 2) := by decide +kernel
theorem dX4_comparisonOf_66 : decode cX4_comparisonOf 66 = .ok (.ireturn, 1) := by decide +kernel
theorem dX4_comparisonOf_67 : decode cX4_comparisonOf 67 = .ok (.iconst (-1), 1) := by decide +kernel
theorem dX4_comparisonOf_68 : decode cX4_comparisonOf 68 = .ok (.ireturn, 1) := by decide +kernel
theorem dX4_readSum_0 : decode cX4_readSum 0 = .ok (.aload_n 0, 1) := by decide +kernel
theorem dX4_readSum_1 : decode cX4_readSum 1 = .ok (.iload_n 1, 1) := by decide +kernel
theorem dX4_readSum_2 : decode cX4_readSum 2 = .ok (.invokevirtual 156, 3) := by decide +kernel
theorem dX4_readSum_5 : decode cX4_readSum 5 = .ok (.iconst 0, 1) := by decide +kernel
theorem dX4_readSum_6 : decode cX4_readSum 6 = .ok (.istore_n 2, 1) := by decide +kernel
theorem dX4_readSum_7 : decode cX4_readSum 7 = .ok (.iload_n 2, 1) := by decide +kernel
theorem dX4_readSum_8 : decode cX4_readSum 8 = .ok (.sipush 400, 3) := by decide +kernel
theorem dX4_readSum_11 : decode cX4_readSum 11 = .ok (.if_icmp .ge 68, 3) := by decide +kernel
theorem dX4_readSum_14 : decode cX4_readSum 14 = .ok (.aload_n 0, 1) := by decide +kernel
theorem dX4_readSum_15 : decode cX4_readSum 15 = .ok (.getfield 31, 3) := by decide +kernel
theorem dX4_readSum_18 : decode cX4_readSum 18 = .ok (.ifCond .ne 61, 3) := by decide +kernel
theorem dX4_readSum_21 : decode cX4_readSum 21 = .ok (.aload_n 0, 1) := by decide +kernel
theorem dX4_readSum_22 : decode cX4_readSum 22 = .ok (.getfield 44, 3) := by decide +kernel
theorem dX4_readSum_25 : decode cX4_readSum 25 = .ok (.bipush 43, 2) := by decide +kernel
theorem dX4_readSum_27 : decode cX4_readSum 27 = .ok (.if_icmp .eq 12, 3) := by decide +kernel
theorem dX4_readSum_30 : decode cX4_readSum 30 = .ok (.aload_n 0, 1) := by decide +kernel
theorem dX4_readSum_31 : decode cX4_readSum 31 = .ok (.getfield 44, 3) := by decide +kernel
theorem dX4_readSum_34 : decode cX4_readSum 34 = .ok (.bipush 45, 2) := by decide +kernel
theorem dX4_readSum_36 : decode cX4_readSum 36 = .ok (.if_icmp .ne 43, 3) := by decide +kernel
theorem dX4_readSum_39 : decode cX4_readSum 39 = .ok (.aload_n 0, 1) := by decide +kernel
theorem dX4_readSum_40 : decode cX4_readSum 40 = .ok (.getfield 44, 3) := by decide +kernel
theorem dX4_readSum_43 : decode cX4_readSum 43 = .ok (.bipush 43, 2) := by decide +kernel
theorem dX4_readSum_45 : decode cX4_readSum 45 = .ok (.if_icmp .ne 8, 3) := by decide +kernel
theorem dX4_readSum_48 : decode cX4_readSum 48 = .ok (.bipush (-13), 2) := by decide +kernel
theorem dX4_readSum_50 : decode cX4_readSum 50 = .ok (.goto 5, 3) := by decide +kernel
theorem dX4_readSum_53 : decode cX4_readSum 53 = .ok (.bipush (-14), 2) := by decide +kernel
theorem dX4_readSum_55 : decode cX4_readSum 55 = .ok (.istore_n 3, 1) := by decide +kernel
theorem dX4_readSum_56 : decode cX4_readSum 56 = .ok (.aload_n 0, 1) := by decide +kernel
theorem dX4_readSum_57 : decode cX4_readSum 57 = .ok (.invokevirtual 37, 3) := by decide +kernel
theorem dX4_readSum_60 : decode cX4_readSum 60 = .ok (.aload_n 0, 1) := by decide +kernel
theorem dX4_readSum_61 : decode cX4_readSum 61 = .ok (.iload_n 1, 1) := by decide +kernel
theorem dX4_readSum_62 : decode cX4_readSum 62 = .ok (.invokevirtual 156, 3) := by decide +kernel
theorem dX4_readSum_65 : decode cX4_readSum 65 = .ok (.aload_n 0, 1) := by decide +kernel
theorem dX4_readSum_66 : decode cX4_readSum 66 = .ok (.getfield 17, 3) := by decide +kernel
theorem dX4_readSum_69 : decode cX4_readSum 69 = .ok (.iload_n 3, 1) := by decide +kernel
theorem dX4_readSum_70 : decode cX4_readSum 70 = .ok (.invokevirtual 128, 3) := by decide +kernel
theorem dX4_readSum_73 : decode cX4_readSum 73 = .ok (.iinc 2 1, 3) := by decide +kernel
theorem dX4_readSum_76 : decode cX4_readSum 76 = .ok (.goto (-69), 3) := by decide +kernel
theorem dX4_readSum_79 : decode cX4_readSum 79 = .ok (.return_, 1) := by decide +kernel
theorem dX4_readProduct_0 : decode cX4_readProduct 0 = .ok (.aload_n 0, 1) := by decide +kernel
theorem dX4_readProduct_1 : decode cX4_readProduct 1 = .ok (.iload_n 1, 1) := by decide +kernel
theorem dX4_readProduct_2 : decode cX4_readProduct 2 = .ok (.invokevirtual 159, 3) := by decide +kernel
theorem dX4_readProduct_5 : decode cX4_readProduct 5 = .ok (.iconst 0, 1) := by decide +kernel
theorem dX4_readProduct_6 : decode cX4_readProduct 6 = .ok (.istore_n 2, 1) := by decide +kernel
theorem dX4_readProduct_7 : decode cX4_readProduct 7 = .ok (.iload_n 2, 1) := by decide +kernel
theorem dX4_readProduct_8 : decode cX4_readProduct 8 = .ok (.sipush 400, 3) := by decide +kernel
theorem dX4_readProduct_11 : decode cX4_readProduct 11 = .ok (.if_icmp .ge 43, 3) := by decide +kernel
theorem dX4_readProduct_14 : decode cX4_readProduct 14 = .ok (.aload_n 0, 1) := by decide +kernel
theorem dX4_readProduct_15 : decode cX4_readProduct 15 = .ok (.getfield 31, 3) := by decide +kernel
theorem dX4_readProduct_18 : decode cX4_readProduct 18 = .ok (.ifCond .ne 36, 3) := by decide +kernel
theorem dX4_readProduct_21 : decode cX4_readProduct 21 = .ok (.aload_n 0, 1) := by decide +kernel
theorem dX4_readProduct_22 : decode cX4_readProduct 22 = .ok (.getfield 44, 3) := by decide +kernel
theorem dX4_readProduct_25 : decode cX4_readProduct 25 = .ok (.bipush 42, 2) := by decide +kernel
theorem dX4_readProduct_27 : decode cX4_readProduct 27 = .ok (.if_icmp .ne 27, 3) := by decide +kernel
theorem dX4_readProduct_30 : decode cX4_readProduct 30 = .ok (.aload_n 0, 1) := by decide +kernel
theorem dX4_readProduct_31 : decode cX4_readProduct 31 = .ok (.invokevirtual 37, 3) := by decide +kernel
theorem dX4_readProduct_34 : decode cX4_readProduct 34 = .ok (.aload_n 0, 1) := by decide +kernel
theorem dX4_readProduct_35 : decode cX4_readProduct 35 = .ok (.iload_n 1, 1) := by decide +kernel
theorem dX4_readProduct_36 : decode cX4_readProduct 36 = .ok (.invokevirtual 159, 3) := by decide +kernel
theorem dX4_readProduct_39 : decode cX4_readProduct 39 = .ok (.aload_n 0, 1) := by decide +kernel
theorem dX4_readProduct_40 : decode cX4_readProduct 40 = .ok (.getfield 17, 3) := by decide +kernel
theorem dX4_readProduct_43 : decode cX4_readProduct 43 = .ok (.bipush (-15), 2) := by decide +kernel
theorem dX4_readProduct_45 : decode cX4_readProduct 45 = .ok (.invokevirtual 128, 3) := by decide +kernel
theorem dX4_readProduct_48 : decode cX4_readProduct 48 = .ok (.iinc 2 1, 3) := by decide +kernel
theorem dX4_readProduct_51 : decode cX4_readProduct 51 = .ok (.goto (-44), 3) := by decide +kernel
theorem dX4_readProduct_54 : decode cX4_readProduct 54 = .ok (.return_, 1) := by decide +kernel
theorem dX4_readValue_0 : decode cX4_readValue 0 = .ok (.aload_n 0, 1) := by decide +kernel
theorem dX4_readValue_1 : decode cX4_readValue 1 = .ok (.invokevirtual 162, 3) := by decide +kernel
theorem dX4_readValue_4 : decode cX4_readValue 4 = .ok (.istore_n 2, 1) := by decide +kernel
theorem dX4_readValue_5 : decode cX4_readValue 5 = .ok (.aload_n 0, 1) := by decide +kernel
theorem dX4_readValue_6 : decode cX4_readValue 6 = .ok (.getfield 31, 3) := by decide +kernel
theorem dX4_readValue_9 : decode cX4_readValue 9 = .ok (.ifCond .eq 4, 3) := by decide +kernel
theorem dX4_readValue_12 : decode cX4_readValue 12 = .ok (.return_, 1) := by decide +kernel
theorem dX4_readValue_13 : decode cX4_readValue 13 = .ok (.aload_n 0, 1) := by decide +kernel
theorem dX4_readValue_14 : decode cX4_readValue 14 = .ok (.getfield 44, 3) := by decide +kernel
theorem dX4_readValue_17 : decode cX4_readValue 17 = .ok (.bipush (-3), 2) := by decide +kernel
theorem dX4_readValue_19 : decode cX4_readValue 19 = .ok (.if_icmp .eq 25, 3) := by decide +kernel
theorem dX4_readValue_22 : decode cX4_readValue 22 = .ok (.aload_n 0, 1) := by decide +kernel
theorem dX4_readValue_23 : decode cX4_readValue 23 = .ok (.getfield 44, 3) := by decide +kernel
theorem dX4_readValue_26 : decode cX4_readValue 26 = .ok (.bipush 40, 2) := by decide +kernel
theorem dX4_readValue_28 : decode cX4_readValue 28 = .ok (.if_icmp .eq 16, 3) := by decide +kernel
theorem dX4_readValue_31 : decode cX4_readValue 31 = .ok (.iload_n 2, 1) := by decide +kernel
theorem dX4_readValue_32 : decode cX4_readValue 32 = .ok (.iconst (-1), 1) := by decide +kernel
theorem dX4_readValue_33 : decode cX4_readValue 33 = .ok (.if_icmp .ne 11, 3) := by decide +kernel
theorem dX4_readValue_36 : decode cX4_readValue 36 = .ok (.aload_n 0, 1) := by decide +kernel
theorem dX4_readValue_37 : decode cX4_readValue 37 = .ok (.iconst 0, 1) := by decide +kernel
theorem dX4_readValue_38 : decode cX4_readValue 38 = .ok (.invokevirtual 47, 3) := by decide +kernel
theorem dX4_readValue_41 : decode cX4_readValue 41 = .ok (.goto 109, 3) := by decide +kernel
theorem dX4_readValue_44 : decode cX4_readValue 44 = .ok (.aload_n 0, 1) := by decide +kernel
theorem dX4_readValue_45 : decode cX4_readValue 45 = .ok (.getfield 44, 3) := by decide +kernel
theorem dX4_readValue_48 : decode cX4_readValue 48 = .ok (.bipush (-3), 2) := by decide +kernel
theorem dX4_readValue_50 : decode cX4_readValue 50 = .ok (.if_icmp .ne 19, 3) := by decide +kernel
theorem dX4_readValue_53 : decode cX4_readValue 53 = .ok (.aload_n 0, 1) := by decide +kernel
theorem dX4_readValue_54 : decode cX4_readValue 54 = .ok (.getfield 93, 3) := by decide +kernel
theorem dX4_readValue_57 : decode cX4_readValue 57 = .ok (.iconst 5, 1) := by decide +kernel
theorem dX4_readValue_58 : decode cX4_readValue 58 = .ok (.if_icmp .le 11, 3) := by decide +kernel
theorem dX4_readValue_61 : decode cX4_readValue 61 = .ok (.aload_n 0, 1) := by decide +kernel
theorem dX4_readValue_62 : decode cX4_readValue 62 = .ok (.iconst 1, 1) := by decide +kernel
theorem dX4_readValue_63 : decode cX4_readValue 63 = .ok (.invokevirtual 47, 3) := by decide +kernel
theorem dX4_readValue_66 : decode cX4_readValue 66 = .ok (.goto 84, 3) := by decide +kernel
theorem dX4_readValue_69 : decode cX4_readValue 69 = .ok (.aload_n 0, 1) := by decide +kernel
theorem dX4_readValue_70 : decode cX4_readValue 70 = .ok (.getfield 44, 3) := by decide +kernel
theorem dX4_readValue_73 : decode cX4_readValue 73 = .ok (.bipush 40, 2) := by decide +kernel
theorem dX4_readValue_75 : decode cX4_readValue 75 = .ok (.if_icmp .ne 38, 3) := by decide +kernel
theorem dX4_readValue_78 : decode cX4_readValue 78 = .ok (.aload_n 0, 1) := by decide +kernel
theorem dX4_readValue_79 : decode cX4_readValue 79 = .ok (.iload_n 1, 1) := by decide +kernel
theorem dX4_readValue_80 : decode cX4_readValue 80 = .ok (.invokevirtual 138, 3) := by decide +kernel
theorem dX4_readValue_83 : decode cX4_readValue 83 = .ok (.ifCond .eq 67, 3) := by decide +kernel
theorem dX4_readValue_86 : decode cX4_readValue 86 = .ok (.aload_n 0, 1) := by decide +kernel
theorem dX4_readValue_87 : decode cX4_readValue 87 = .ok (.invokevirtual 152, 3) := by decide +kernel
theorem dX4_readValue_90 : decode cX4_readValue 90 = .ok (.ifCond .eq 60, 3) := by decide +kernel
theorem dX4_readValue_93 : decode cX4_readValue 93 = .ok (.aload_n 0, 1) := by decide +kernel
theorem dX4_readValue_94 : decode cX4_readValue 94 = .ok (.invokevirtual 37, 3) := by decide +kernel
theorem dX4_readValue_97 : decode cX4_readValue 97 = .ok (.aload_n 0, 1) := by decide +kernel
theorem dX4_readValue_98 : decode cX4_readValue 98 = .ok (.iload_n 1, 1) := by decide +kernel
theorem dX4_readValue_99 : decode cX4_readValue 99 = .ok (.iconst 1, 1) := by decide +kernel
theorem dX4_readValue_100 : decode cX4_readValue 100 = .ok (.iadd, 1) := by decide +kernel
theorem dX4_readValue_101 : decode cX4_readValue 101 = .ok (.invokevirtual 81, 3) := by decide +kernel
theorem dX4_readValue_104 : decode cX4_readValue 104 = .ok (.aload_n 0, 1) := by decide +kernel
theorem dX4_readValue_105 : decode cX4_readValue 105 = .ok (.bipush 41, 2) := by decide +kernel
theorem dX4_readValue_107 : decode cX4_readValue 107 = .ok (.invokevirtual 142, 3) := by decide +kernel
theorem dX4_readValue_110 : decode cX4_readValue 110 = .ok (.goto 40, 3) := by decide +kernel
theorem dX4_readValue_113 : decode cX4_readValue 113 = .ok (.aload_n 0, 1) := by decide +kernel
theorem dX4_readValue_114 : decode cX4_readValue 114 = .ok (.invokevirtual 152, 3) := by decide +kernel
theorem dX4_readValue_117 : decode cX4_readValue 117 = .ok (.ifCond .eq 33, 3) := by decide +kernel
theorem dX4_readValue_120 : decode cX4_readValue 120 = .ok (.aload_n 0, 1) := by decide +kernel
theorem dX4_readValue_121 : decode cX4_readValue 121 = .ok (.getfield 17, 3) := by decide +kernel
theorem dX4_readValue_124 : decode cX4_readValue 124 = .ok (.aload_n 0, 1) := by decide +kernel
theorem dX4_readValue_125 : decode cX4_readValue 125 = .ok (.getfield 44, 3) := by decide +kernel
theorem dX4_readValue_128 : decode cX4_readValue 128 = .ok (.bipush (-3), 2) := by decide +kernel
theorem dX4_readValue_130 : decode cX4_readValue 130 = .ok (.if_icmp .ne 10, 3) := by decide +kernel
theorem dX4_readValue_133 : decode cX4_readValue 133 = .ok (.aload_n 0, 1) := by decide +kernel
theorem dX4_readValue_134 : decode cX4_readValue 134 = .ok (.getfield 96, 3) := by decide +kernel
theorem dX4_readValue_137 : decode cX4_readValue 137 = .ok (.goto 6, 3) := by decide +kernel
theorem dX4_readValue_140 : decode cX4_readValue 140 = .ok (.iconst (-1), 1) := by decide +kernel
theorem dX4_readValue_141 : decode cX4_readValue 141 = .ok (.iload_n 2, 1) := by decide +kernel
theorem dX4_readValue_142 : decode cX4_readValue 142 = .ok (.isub, 1) := by decide +kernel
theorem dX4_readValue_143 : decode cX4_readValue 143 = .ok (.invokevirtual 128, 3) := by decide +kernel
theorem dX4_readValue_146 : decode cX4_readValue 146 = .ok (.aload_n 0, 1) := by decide +kernel
theorem dX4_readValue_147 : decode cX4_readValue 147 = .ok (.invokevirtual 37, 3) := by decide +kernel
theorem dX4_readValue_150 : decode cX4_readValue 150 = .ok (.return_, 1) := by decide +kernel
theorem dX4_goesDeeper_0 : decode cX4_goesDeeper 0 = .ok (.aload_n 0, 1) := by decide +kernel
theorem dX4_goesDeeper_1 : decode cX4_goesDeeper 1 = .ok (.getfield 31, 3) := by decide +kernel
theorem dX4_goesDeeper_4 : decode cX4_goesDeeper 4 = .ok (.ifCond .ne 14, 3) := by decide +kernel
theorem dX4_goesDeeper_7 : decode cX4_goesDeeper 7 = .ok (.iload_n 1, 1) := by decide +kernel
theorem dX4_goesDeeper_8 : decode cX4_goesDeeper 8 = .ok (.bipush 10, 2) := by decide +kernel
theorem dX4_goesDeeper_10 : decode cX4_goesDeeper 10 = .ok (.if_icmp .lt 8, 3) := by decide +kernel
theorem dX4_goesDeeper_13 : decode cX4_goesDeeper 13 = .ok (.aload_n 0, 1) := by decide +kernel
theorem dX4_goesDeeper_14 : decode cX4_goesDeeper 14 = .ok (.iconst 2, 1) := by decide +kernel
theorem dX4_goesDeeper_15 : decode cX4_goesDeeper 15 = .ok (.invokevirtual 47, 3) := by decide +kernel
theorem dX4_goesDeeper_18 : decode cX4_goesDeeper 18 = .ok (.aload_n 0, 1) := by decide +kernel
theorem dX4_goesDeeper_19 : decode cX4_goesDeeper 19 = .ok (.getfield 31, 3) := by decide +kernel
theorem dX4_goesDeeper_22 : decode cX4_goesDeeper 22 = .ok (.ifCond .ne 7, 3) := by decide +kernel
theorem dX4_goesDeeper_25 : decode cX4_goesDeeper 25 = .ok (.iconst 1, 1) := by decide +kernel
theorem dX4_goesDeeper_26 : decode cX4_goesDeeper 26 = .ok (.goto 4, 3) := by decide +kernel
theorem dX4_goesDeeper_29 : decode cX4_goesDeeper 29 = .ok (.iconst 0, 1) := by decide +kernel
theorem dX4_goesDeeper_30 : decode cX4_goesDeeper 30 = .ok (.ireturn, 1) := by decide +kernel
theorem dX4_countsOneMore_0 : decode cX4_countsOneMore 0 = .ok (.aload_n 0, 1) := by decide +kernel
theorem dX4_countsOneMore_1 : decode cX4_countsOneMore 1 = .ok (.getfield 31, 3) := by decide +kernel
theorem dX4_countsOneMore_4 : decode cX4_countsOneMore 4 = .ok (.ifCond .ne 17, 3) := by decide +kernel
theorem dX4_countsOneMore_7 : decode cX4_countsOneMore 7 = .ok (.aload_n 0, 1) := by decide +kernel
theorem dX4_countsOneMore_8 : decode cX4_countsOneMore 8 = .ok (.getfield 28, 3) := by decide +kernel
theorem dX4_countsOneMore_11 : decode cX4_countsOneMore 11 = .ok (.bipush 80, 2) := by decide +kernel
theorem dX4_countsOneMore_13 : decode cX4_countsOneMore 13 = .ok (.if_icmp .lt 8, 3) := by decide +kernel
theorem dX4_countsOneMore_16 : decode cX4_countsOneMore 16 = .ok (.aload_n 0, 1) := by decide +kernel
theorem dX4_countsOneMore_17 : decode cX4_countsOneMore 17 = .ok (.iconst 3, 1) := by decide +kernel
theorem dX4_countsOneMore_18 : decode cX4_countsOneMore 18 = .ok (.invokevirtual 47, 3) := by decide +kernel
theorem dX4_countsOneMore_21 : decode cX4_countsOneMore 21 = .ok (.aload_n 0, 1) := by decide +kernel
theorem dX4_countsOneMore_22 : decode cX4_countsOneMore 22 = .ok (.dup, 1) := by decide +kernel
theorem dX4_countsOneMore_23 : decode cX4_countsOneMore 23 = .ok (.getfield 28, 3) := by decide +kernel
theorem dX4_countsOneMore_26 : decode cX4_countsOneMore 26 = .ok (.iconst 1, 1) := by decide +kernel
theorem dX4_countsOneMore_27 : decode cX4_countsOneMore 27 = .ok (.iadd, 1) := by decide +kernel
theorem dX4_countsOneMore_28 : decode cX4_countsOneMore 28 = .ok (.putfield 28, 3) := by decide +kernel
theorem dX4_countsOneMore_31 : decode cX4_countsOneMore 31 = .ok (.aload_n 0, 1) := by decide +kernel
theorem dX4_countsOneMore_32 : decode cX4_countsOneMore 32 = .ok (.getfield 31, 3) := by decide +kernel
theorem dX4_countsOneMore_35 : decode cX4_countsOneMore 35 = .ok (.ifCond .ne 7, 3) := by decide +kernel
theorem dX4_countsOneMore_38 : decode cX4_countsOneMore 38 = .ok (.iconst 1, 1) := by decide +kernel
theorem dX4_countsOneMore_39 : decode cX4_countsOneMore 39 = .ok (.goto 4, 3) := by decide +kernel
theorem dX4_countsOneMore_42 : decode cX4_countsOneMore 42 = .ok (.iconst 0, 1) := by decide +kernel
theorem dX4_countsOneMore_43 : decode cX4_countsOneMore 43 = .ok (.ireturn, 1) := by decide +kernel
theorem dX4_readClosing_0 : decode cX4_readClosing 0 = .ok (.aload_n 0, 1) := by decide +kernel
theorem dX4_readClosing_1 : decode cX4_readClosing 1 = .ok (.getfield 31, 3) := by decide +kernel
theorem dX4_readClosing_4 : decode cX4_readClosing 4 = .ok (.ifCond .eq 4, 3) := by decide +kernel
theorem dX4_readClosing_7 : decode cX4_readClosing 7 = .ok (.return_, 1) := by decide +kernel
theorem dX4_readClosing_8 : decode cX4_readClosing 8 = .ok (.aload_n 0, 1) := by decide +kernel
theorem dX4_readClosing_9 : decode cX4_readClosing 9 = .ok (.getfield 44, 3) := by decide +kernel
theorem dX4_readClosing_12 : decode cX4_readClosing 12 = .ok (.iload_n 1, 1) := by decide +kernel
theorem dX4_readClosing_13 : decode cX4_readClosing 13 = .ok (.if_icmp .ne 10, 3) := by decide +kernel
theorem dX4_readClosing_16 : decode cX4_readClosing 16 = .ok (.aload_n 0, 1) := by decide +kernel
theorem dX4_readClosing_17 : decode cX4_readClosing 17 = .ok (.invokevirtual 37, 3) := by decide +kernel
theorem dX4_readClosing_20 : decode cX4_readClosing 20 = .ok (.goto 8, 3) := by decide +kernel
theorem dX4_readClosing_23 : decode cX4_readClosing 23 = .ok (.aload_n 0, 1) := by decide +kernel
theorem dX4_readClosing_24 : decode cX4_readClosing 24 = .ok (.iconst 0, 1) := by decide +kernel
theorem dX4_readClosing_25 : decode cX4_readClosing 25 = .ok (.invokevirtual 47, 3) := by decide +kernel
theorem dX4_readClosing_28 : decode cX4_readClosing 28 = .ok (.return_, 1) := by decide +kernel
theorem dX4_wordNumber_0 : decode cX4_wordNumber 0 = .ok (.aload_n 0, 1) := by decide +kernel
theorem dX4_wordNumber_1 : decode cX4_wordNumber 1 = .ok (.getfield 44, 3) := by decide +kernel
theorem dX4_wordNumber_4 : decode cX4_wordNumber 4 = .ok (.bipush (-2), 2) := by decide +kernel
theorem dX4_wordNumber_6 : decode cX4_wordNumber 6 = .ok (.if_icmp .eq 5, 3) := by decide +kernel
theorem dX4_wordNumber_9 : decode cX4_wordNumber 9 = .ok (.iconst (-1), 1) := by decide +kernel
theorem dX4_wordNumber_10 : decode cX4_wordNumber 10 = .ok (.ireturn, 1) := by decide +kernel
theorem dX4_wordNumber_11 : decode cX4_wordNumber 11 = .ok (.aload_n 0, 1) := by decide +kernel
theorem dX4_wordNumber_12 : decode cX4_wordNumber 12 = .ok (.ldc 165, 2) := by decide +kernel
theorem dX4_wordNumber_14 : decode cX4_wordNumber 14 = .ok (.invokevirtual 55, 3) := by decide +kernel
theorem dX4_wordNumber_17 : decode cX4_wordNumber 17 = .ok (.ifCond .eq 7, 3) := by decide +kernel
theorem dX4_wordNumber_20 : decode cX4_wordNumber 20 = .ok (.iconst 0, 1) := by decide +kernel
theorem dX4_wordNumber_21 : decode cX4_wordNumber 21 = .ok (.goto 111, 3) := by decide +kernel
theorem dX4_wordNumber_24 : decode cX4_wordNumber 24 = .ok (.aload_n 0, 1) := by decide +kernel
theorem dX4_wordNumber_25 : decode cX4_wordNumber 25 = .ok (.ldc 167, 2) := by decide +kernel
theorem dX4_wordNumber_27 : decode cX4_wordNumber 27 = .ok (.invokevirtual 55, 3) := by decide +kernel
theorem dX4_wordNumber_30 : decode cX4_wordNumber 30 = .ok (.ifCond .eq 7, 3) := by decide +kernel
theorem dX4_wordNumber_33 : decode cX4_wordNumber 33 = .ok (.iconst 1, 1) := by decide +kernel
theorem dX4_wordNumber_34 : decode cX4_wordNumber 34 = .ok (.goto 98, 3) := by decide +kernel
theorem dX4_wordNumber_37 : decode cX4_wordNumber 37 = .ok (.aload_n 0, 1) := by decide +kernel
theorem dX4_wordNumber_38 : decode cX4_wordNumber 38 = .ok (.ldc 169, 2) := by decide +kernel
theorem dX4_wordNumber_40 : decode cX4_wordNumber 40 = .ok (.invokevirtual 55, 3) := by decide +kernel
theorem dX4_wordNumber_43 : decode cX4_wordNumber 43 = .ok (.ifCond .eq 7, 3) := by decide +kernel
theorem dX4_wordNumber_46 : decode cX4_wordNumber 46 = .ok (.iconst 2, 1) := by decide +kernel
theorem dX4_wordNumber_47 : decode cX4_wordNumber 47 = .ok (.goto 85, 3) := by decide +kernel
theorem dX4_wordNumber_50 : decode cX4_wordNumber 50 = .ok (.aload_n 0, 1) := by decide +kernel
theorem dX4_wordNumber_51 : decode cX4_wordNumber 51 = .ok (.ldc 171, 2) := by decide +kernel
theorem dX4_wordNumber_53 : decode cX4_wordNumber 53 = .ok (.invokevirtual 55, 3) := by decide +kernel
theorem dX4_wordNumber_56 : decode cX4_wordNumber 56 = .ok (.ifCond .eq 7, 3) := by decide +kernel
theorem dX4_wordNumber_59 : decode cX4_wordNumber 59 = .ok (.iconst 3, 1) := by decide +kernel
theorem dX4_wordNumber_60 : decode cX4_wordNumber 60 = .ok (.goto 72, 3) := by decide +kernel
theorem dX4_wordNumber_63 : decode cX4_wordNumber 63 = .ok (.aload_n 0, 1) := by decide +kernel
theorem dX4_wordNumber_64 : decode cX4_wordNumber 64 = .ok (.ldc 173, 2) := by decide +kernel
theorem dX4_wordNumber_66 : decode cX4_wordNumber 66 = .ok (.invokevirtual 55, 3) := by decide +kernel
theorem dX4_wordNumber_69 : decode cX4_wordNumber 69 = .ok (.ifCond .eq 7, 3) := by decide +kernel
theorem dX4_wordNumber_72 : decode cX4_wordNumber 72 = .ok (.iconst 4, 1) := by decide +kernel
theorem dX4_wordNumber_73 : decode cX4_wordNumber 73 = .ok (.goto 59, 3) := by decide +kernel
theorem dX4_wordNumber_76 : decode cX4_wordNumber 76 = .ok (.aload_n 0, 1) := by decide +kernel
theorem dX4_wordNumber_77 : decode cX4_wordNumber 77 = .ok (.ldc 175, 2) := by decide +kernel
theorem dX4_wordNumber_79 : decode cX4_wordNumber 79 = .ok (.invokevirtual 55, 3) := by decide +kernel
theorem dX4_wordNumber_82 : decode cX4_wordNumber 82 = .ok (.ifCond .eq 7, 3) := by decide +kernel
theorem dX4_wordNumber_85 : decode cX4_wordNumber 85 = .ok (.iconst 5, 1) := by decide +kernel
theorem dX4_wordNumber_86 : decode cX4_wordNumber 86 = .ok (.goto 46, 3) := by decide +kernel
theorem dX4_wordNumber_89 : decode cX4_wordNumber 89 = .ok (.aload_n 0, 1) := by decide +kernel
theorem dX4_wordNumber_90 : decode cX4_wordNumber 90 = .ok (.ldc 177, 2) := by decide +kernel
theorem dX4_wordNumber_92 : decode cX4_wordNumber 92 = .ok (.invokevirtual 55, 3) := by decide +kernel
theorem dX4_wordNumber_95 : decode cX4_wordNumber 95 = .ok (.ifCond .eq 8, 3) := by decide +kernel
theorem dX4_wordNumber_98 : decode cX4_wordNumber 98 = .ok (.bipush 6, 2) := by decide +kernel
theorem dX4_wordNumber_100 : decode cX4_wordNumber 100 = .ok (.goto 32, 3) := by decide +kernel
theorem dX4_wordNumber_103 : decode cX4_wordNumber 103 = .ok (.aload_n 0, 1) := by decide +kernel
theorem dX4_wordNumber_104 : decode cX4_wordNumber 104 = .ok (.ldc 179, 2) := by decide +kernel
theorem dX4_wordNumber_106 : decode cX4_wordNumber 106 = .ok (.invokevirtual 55, 3) := by decide +kernel
theorem dX4_wordNumber_109 : decode cX4_wordNumber 109 = .ok (.ifCond .eq 8, 3) := by decide +kernel
theorem dX4_wordNumber_112 : decode cX4_wordNumber 112 = .ok (.bipush 7, 2) := by decide +kernel
theorem dX4_wordNumber_114 : decode cX4_wordNumber 114 = .ok (.goto 18, 3) := by decide +kernel
theorem dX4_wordNumber_117 : decode cX4_wordNumber 117 = .ok (.aload_n 0, 1) := by decide +kernel
theorem dX4_wordNumber_118 : decode cX4_wordNumber 118 = .ok (.ldc 181, 2) := by decide +kernel
theorem dX4_wordNumber_120 : decode cX4_wordNumber 120 = .ok (.invokevirtual 55, 3) := by decide +kernel
theorem dX4_wordNumber_123 : decode cX4_wordNumber 123 = .ok (.ifCond .eq 8, 3) := by decide +kernel
theorem dX4_wordNumber_126 : decode cX4_wordNumber 126 = .ok (.bipush 8, 2) := by decide +kernel
theorem dX4_wordNumber_128 : decode cX4_wordNumber 128 = .ok (.goto 4, 3) := by decide +kernel
theorem dX4_wordNumber_131 : decode cX4_wordNumber 131 = .ok (.iconst (-1), 1) := by decide +kernel
theorem dX4_wordNumber_132 : decode cX4_wordNumber 132 = .ok (.ireturn, 1) := by decide +kernel
theorem dX4_isWord_0 : decode cX4_isWord 0 = .ok (.aload_n 0, 1) := by decide +kernel
theorem dX4_isWord_1 : decode cX4_isWord 1 = .ok (.getfield 44, 3) := by decide +kernel
theorem dX4_isWord_4 : decode cX4_isWord 4 = .ok (.bipush (-2), 2) := by decide +kernel
theorem dX4_isWord_6 : decode cX4_isWord 6 = .ok (.if_icmp .ne 19, 3) := by decide +kernel
theorem dX4_isWord_9 : decode cX4_isWord 9 = .ok (.aload_n 0, 1) := by decide +kernel
theorem dX4_isWord_10 : decode cX4_isWord 10 = .ok (.getfield 25, 3) := by decide +kernel
theorem dX4_isWord_13 : decode cX4_isWord 13 = .ok (.aload_n 0, 1) := by decide +kernel
theorem dX4_isWord_14 : decode cX4_isWord 14 = .ok (.getfield 50, 3) := by decide +kernel
theorem dX4_isWord_17 : decode cX4_isWord 17 = .ok (.isub, 1) := by decide +kernel
theorem dX4_isWord_18 : decode cX4_isWord 18 = .ok (.aload_n 1, 1) := by decide +kernel
theorem dX4_isWord_19 : decode cX4_isWord 19 = .ok (.invokevirtual 183, 3) := by decide +kernel
theorem dX4_isWord_22 : decode cX4_isWord 22 = .ok (.if_icmp .eq 5, 3) := by decide +kernel
theorem dX4_isWord_25 : decode cX4_isWord 25 = .ok (.iconst 0, 1) := by decide +kernel
theorem dX4_isWord_26 : decode cX4_isWord 26 = .ok (.ireturn, 1) := by decide +kernel
theorem dX4_isWord_27 : decode cX4_isWord 27 = .ok (.iconst 0, 1) := by decide +kernel
theorem dX4_isWord_28 : decode cX4_isWord 28 = .ok (.istore_n 2, 1) := by decide +kernel
theorem dX4_isWord_29 : decode cX4_isWord 29 = .ok (.iload_n 2, 1) := by decide +kernel
theorem dX4_isWord_30 : decode cX4_isWord 30 = .ok (.aload_n 1, 1) := by decide +kernel
theorem dX4_isWord_31 : decode cX4_isWord 31 = .ok (.invokevirtual 183, 3) := by decide +kernel
theorem dX4_isWord_34 : decode cX4_isWord 34 = .ok (.if_icmp .ge 29, 3) := by decide +kernel
theorem dX4_isWord_37 : decode cX4_isWord 37 = .ok (.aload_n 0, 1) := by decide +kernel
theorem dX4_isWord_38 : decode cX4_isWord 38 = .ok (.aload_n 0, 1) := by decide +kernel
theorem dX4_isWord_39 : decode cX4_isWord 39 = .ok (.getfield 50, 3) := by decide +kernel
theorem dX4_isWord_42 : decode cX4_isWord 42 = .ok (.iload_n 2, 1) := by decide +kernel
theorem dX4_isWord_43 : decode cX4_isWord 43 = .ok (.iadd, 1) := by decide +kernel
theorem dX4_isWord_44 : decode cX4_isWord 44 = .ok (.invokevirtual 187, 3) := by decide +kernel
theorem dX4_isWord_47 : decode cX4_isWord 47 = .ok (.aload_n 1, 1) := by decide +kernel
theorem dX4_isWord_48 : decode cX4_isWord 48 = .ok (.iload_n 2, 1) := by decide +kernel
theorem dX4_isWord_49 : decode cX4_isWord 49 = .ok (.invokevirtual 190, 3) := by decide +kernel
theorem dX4_isWord_52 : decode cX4_isWord 52 = .ok (.if_icmp .eq 5, 3) := by decide +kernel
theorem dX4_isWord_55 : decode cX4_isWord 55 = .ok (.iconst 0, 1) := by decide +kernel
theorem dX4_isWord_56 : decode cX4_isWord 56 = .ok (.ireturn, 1) := by decide +kernel
theorem dX4_isWord_57 : decode cX4_isWord 57 = .ok (.iinc 2 1, 3) := by decide +kernel
theorem dX4_isWord_60 : decode cX4_isWord 60 = .ok (.goto (-31), 3) := by decide +kernel
theorem dX4_isWord_63 : decode cX4_isWord 63 = .ok (.iconst 1, 1) := by decide +kernel
theorem dX4_isWord_64 : decode cX4_isWord 64 = .ok (.ireturn, 1) := by decide +kernel
theorem dX4_byteAt_0 : decode cX4_byteAt 0 = .ok (.iload_n 1, 1) := by decide +kernel
theorem dX4_byteAt_1 : decode cX4_byteAt 1 = .ok (.ifCond .lt 29, 3) := by decide +kernel
theorem dX4_byteAt_4 : decode cX4_byteAt 4 = .ok (.iload_n 1, 1) := by decide +kernel
theorem dX4_byteAt_5 : decode cX4_byteAt 5 = .ok (.aload_n 0, 1) := by decide +kernel
theorem dX4_byteAt_6 : decode cX4_byteAt 6 = .ok (.getfield 21, 3) := by decide +kernel
theorem dX4_byteAt_9 : decode cX4_byteAt 9 = .ok (.if_icmp .ge 21, 3) := by decide +kernel
theorem dX4_byteAt_12 : decode cX4_byteAt 12 = .ok (.iload_n 1, 1) := by decide +kernel
theorem dX4_byteAt_13 : decode cX4_byteAt 13 = .ok (.aload_n 0, 1) := by decide +kernel
theorem dX4_byteAt_14 : decode cX4_byteAt 14 = .ok (.getfield 11, 3) := by decide +kernel
theorem dX4_byteAt_17 : decode cX4_byteAt 17 = .ok (.arraylength, 1) := by decide +kernel
theorem dX4_byteAt_18 : decode cX4_byteAt 18 = .ok (.if_icmp .ge 12, 3) := by decide +kernel
theorem dX4_byteAt_21 : decode cX4_byteAt 21 = .ok (.aload_n 0, 1) := by decide +kernel
theorem dX4_byteAt_22 : decode cX4_byteAt 22 = .ok (.getfield 11, 3) := by decide +kernel
theorem dX4_byteAt_25 : decode cX4_byteAt 25 = .ok (.iload_n 1, 1) := by decide +kernel
theorem dX4_byteAt_26 : decode cX4_byteAt 26 = .ok (.iaload, 1) := by decide +kernel
theorem dX4_byteAt_27 : decode cX4_byteAt 27 = .ok (.goto 4, 3) := by decide +kernel
theorem dX4_byteAt_30 : decode cX4_byteAt 30 = .ok (.iconst (-1), 1) := by decide +kernel
theorem dX4_byteAt_31 : decode cX4_byteAt 31 = .ok (.ireturn, 1) := by decide +kernel
theorem dX4_advance_0 : decode cX4_advance 0 = .ok (.aload_n 0, 1) := by decide +kernel
theorem dX4_advance_1 : decode cX4_advance 1 = .ok (.getfield 25, 3) := by decide +kernel
theorem dX4_advance_4 : decode cX4_advance 4 = .ok (.aload_n 0, 1) := by decide +kernel
theorem dX4_advance_5 : decode cX4_advance 5 = .ok (.getfield 21, 3) := by decide +kernel
theorem dX4_advance_8 : decode cX4_advance 8 = .ok (.if_icmp .ge 29, 3) := by decide +kernel
theorem dX4_advance_11 : decode cX4_advance 11 = .ok (.aload_n 0, 1) := by decide +kernel
theorem dX4_advance_12 : decode cX4_advance 12 = .ok (.aload_n 0, 1) := by decide +kernel
theorem dX4_advance_13 : decode cX4_advance 13 = .ok (.getfield 25, 3) := by decide +kernel
theorem dX4_advance_16 : decode cX4_advance 16 = .ok (.invokevirtual 187, 3) := by decide +kernel
theorem dX4_advance_19 : decode cX4_advance 19 = .ok (.bipush 32, 2) := by decide +kernel
theorem dX4_advance_21 : decode cX4_advance 21 = .ok (.if_icmp .ne 16, 3) := by decide +kernel
theorem dX4_advance_24 : decode cX4_advance 24 = .ok (.aload_n 0, 1) := by decide +kernel
theorem dX4_advance_25 : decode cX4_advance 25 = .ok (.dup, 1) := by decide +kernel
theorem dX4_advance_26 : decode cX4_advance 26 = .ok (.getfield 25, 3) := by decide +kernel
theorem dX4_advance_29 : decode cX4_advance 29 = .ok (.iconst 1, 1) := by decide +kernel
theorem dX4_advance_30 : decode cX4_advance 30 = .ok (.iadd, 1) := by decide +kernel
theorem dX4_advance_31 : decode cX4_advance 31 = .ok (.putfield 25, 3) := by decide +kernel
theorem dX4_advance_34 : decode cX4_advance 34 = .ok (.goto (-34), 3) := by decide +kernel
theorem dX4_advance_37 : decode cX4_advance 37 = .ok (.aload_n 0, 1) := by decide +kernel
theorem dX4_advance_38 : decode cX4_advance 38 = .ok (.aload_n 0, 1) := by decide +kernel
theorem dX4_advance_39 : decode cX4_advance 39 = .ok (.getfield 25, 3) := by decide +kernel
theorem dX4_advance_42 : decode cX4_advance 42 = .ok (.putfield 50, 3) := by decide +kernel
theorem dX4_advance_45 : decode cX4_advance 45 = .ok (.aload_n 0, 1) := by decide +kernel
theorem dX4_advance_46 : decode cX4_advance 46 = .ok (.aload_n 0, 1) := by decide +kernel
theorem dX4_advance_47 : decode cX4_advance 47 = .ok (.getfield 25, 3) := by decide +kernel
theorem dX4_advance_50 : decode cX4_advance 50 = .ok (.invokevirtual 187, 3) := by decide +kernel
theorem dX4_advance_53 : decode cX4_advance 53 = .ok (.istore_n 1, 1) := by decide +kernel
theorem dX4_advance_54 : decode cX4_advance 54 = .ok (.iload_n 1, 1) := by decide +kernel
theorem dX4_advance_55 : decode cX4_advance 55 = .ok (.bipush 97, 2) := by decide +kernel
theorem dX4_advance_57 : decode cX4_advance 57 = .ok (.bipush 122, 2) := by decide +kernel
theorem dX4_advance_59 : decode cX4_advance 59 = .ok (.invokestatic 194, 3) := by decide +kernel
theorem dX4_advance_62 : decode cX4_advance 62 = .ok (.ifCond .eq 51, 3) := by decide +kernel
theorem dX4_advance_65 : decode cX4_advance 65 = .ok (.aload_n 0, 1) := by decide +kernel
theorem dX4_advance_66 : decode cX4_advance 66 = .ok (.bipush (-2), 2) := by decide +kernel
theorem dX4_advance_68 : decode cX4_advance 68 = .ok (.putfield 44, 3) := by decide +kernel
theorem dX4_advance_71 : decode cX4_advance 71 = .ok (.aload_n 0, 1) := by decide +kernel
theorem dX4_advance_72 : decode cX4_advance 72 = .ok (.getfield 25, 3) := by decide +kernel
theorem dX4_advance_75 : decode cX4_advance 75 = .ok (.aload_n 0, 1) := by decide +kernel
theorem dX4_advance_76 : decode cX4_advance 76 = .ok (.getfield 21, 3) := by decide +kernel
theorem dX4_advance_79 : decode cX4_advance 79 = .ok (.if_icmp .ge 223, 3) := by decide +kernel
theorem dX4_advance_82 : decode cX4_advance 82 = .ok (.aload_n 0, 1) := by decide +kernel
theorem dX4_advance_83 : decode cX4_advance 83 = .ok (.aload_n 0, 1) := by decide +kernel
theorem dX4_advance_84 : decode cX4_advance 84 = .ok (.getfield 25, 3) := by decide +kernel
theorem dX4_advance_87 : decode cX4_advance 87 = .ok (.invokevirtual 187, 3) := by decide +kernel
theorem dX4_advance_90 : decode cX4_advance 90 = .ok (.bipush 97, 2) := by decide +kernel
theorem dX4_advance_92 : decode cX4_advance 92 = .ok (.bipush 122, 2) := by decide +kernel
theorem dX4_advance_94 : decode cX4_advance 94 = .ok (.invokestatic 194, 3) := by decide +kernel
theorem dX4_advance_97 : decode cX4_advance 97 = .ok (.ifCond .eq 205, 3) := by decide +kernel
theorem dX4_advance_100 : decode cX4_advance 100 = .ok (.aload_n 0, 1) := by decide +kernel
theorem dX4_advance_101 : decode cX4_advance 101 = .ok (.dup, 1) := by decide +kernel
theorem dX4_advance_102 : decode cX4_advance 102 = .ok (.getfield 25, 3) := by decide +kernel
theorem dX4_advance_105 : decode cX4_advance 105 = .ok (.iconst 1, 1) := by decide +kernel
theorem dX4_advance_106 : decode cX4_advance 106 = .ok (.iadd, 1) := by decide +kernel
theorem dX4_advance_107 : decode cX4_advance 107 = .ok (.putfield 25, 3) := by decide +kernel
theorem dX4_advance_110 : decode cX4_advance 110 = .ok (.goto (-39), 3) := by decide +kernel
theorem dX4_advance_113 : decode cX4_advance 113 = .ok (.iload_n 1, 1) := by decide +kernel
theorem dX4_advance_114 : decode cX4_advance 114 = .ok (.bipush 48, 2) := by decide +kernel
theorem dX4_advance_116 : decode cX4_advance 116 = .ok (.bipush 57, 2) := by decide +kernel
theorem dX4_advance_118 : decode cX4_advance 118 = .ok (.invokestatic 194, 3) := by decide +kernel
theorem dX4_advance_121 : decode cX4_advance 121 = .ok (.ifCond .eq 109, 3) := by decide +kernel
theorem dX4_advance_124 : decode cX4_advance 124 = .ok (.aload_n 0, 1) := by decide +kernel
theorem dX4_advance_125 : decode cX4_advance 125 = .ok (.bipush (-3), 2) := by decide +kernel
theorem dX4_advance_127 : decode cX4_advance 127 = .ok (.putfield 44, 3) := by decide +kernel
theorem dX4_advance_130 : decode cX4_advance 130 = .ok (.aload_n 0, 1) := by decide +kernel
theorem dX4_advance_131 : decode cX4_advance 131 = .ok (.iconst 0, 1) := by decide +kernel
theorem dX4_advance_132 : decode cX4_advance 132 = .ok (.putfield 96, 3) := by decide +kernel
theorem dX4_advance_135 : decode cX4_advance 135 = .ok (.aload_n 0, 1) := by decide +kernel
theorem dX4_advance_136 : decode cX4_advance 136 = .ok (.iconst 0, 1) := by decide +kernel
theorem dX4_advance_137 : decode cX4_advance 137 = .ok (.putfield 93, 3) := by decide +kernel
theorem dX4_advance_140 : decode cX4_advance 140 = .ok (.aload_n 0, 1) := by decide +kernel
theorem dX4_advance_141 : decode cX4_advance 141 = .ok (.getfield 25, 3) := by decide +kernel
theorem dX4_advance_144 : decode cX4_advance 144 = .ok (.aload_n 0, 1) := by decide +kernel
theorem dX4_advance_145 : decode cX4_advance 145 = .ok (.getfield 21, 3) := by decide +kernel
theorem dX4_advance_148 : decode cX4_advance 148 = .ok (.if_icmp .ge 154, 3) := by decide +kernel
theorem dX4_advance_151 : decode cX4_advance 151 = .ok (.aload_n 0, 1) := by decide +kernel
theorem dX4_advance_152 : decode cX4_advance 152 = .ok (.aload_n 0, 1) := by decide +kernel
theorem dX4_advance_153 : decode cX4_advance 153 = .ok (.getfield 25, 3) := by decide +kernel
theorem dX4_advance_156 : decode cX4_advance 156 = .ok (.invokevirtual 187, 3) := by decide +kernel
theorem dX4_advance_159 : decode cX4_advance 159 = .ok (.bipush 48, 2) := by decide +kernel
theorem dX4_advance_161 : decode cX4_advance 161 = .ok (.bipush 57, 2) := by decide +kernel
theorem dX4_advance_163 : decode cX4_advance 163 = .ok (.invokestatic 194, 3) := by decide +kernel
theorem dX4_advance_166 : decode cX4_advance 166 = .ok (.ifCond .eq 136, 3) := by decide +kernel
theorem dX4_advance_169 : decode cX4_advance 169 = .ok (.aload_n 0, 1) := by decide +kernel
theorem dX4_advance_170 : decode cX4_advance 170 = .ok (.aload_n 0, 1) := by decide +kernel
theorem dX4_advance_171 : decode cX4_advance 171 = .ok (.getfield 93, 3) := by decide +kernel
theorem dX4_advance_174 : decode cX4_advance 174 = .ok (.iconst 5, 1) := by decide +kernel
theorem dX4_advance_175 : decode cX4_advance 175 = .ok (.if_icmp .ge 25, 3) := by decide +kernel
theorem dX4_advance_178 : decode cX4_advance 178 = .ok (.aload_n 0, 1) := by decide +kernel
theorem dX4_advance_179 : decode cX4_advance 179 = .ok (.getfield 96, 3) := by decide +kernel
theorem dX4_advance_182 : decode cX4_advance 182 = .ok (.bipush 10, 2) := by decide +kernel
theorem dX4_advance_184 : decode cX4_advance 184 = .ok (.imul, 1) := by decide +kernel
theorem dX4_advance_185 : decode cX4_advance 185 = .ok (.aload_n 0, 1) := by decide +kernel
theorem dX4_advance_186 : decode cX4_advance 186 = .ok (.aload_n 0, 1) := by decide +kernel
theorem dX4_advance_187 : decode cX4_advance 187 = .ok (.getfield 25, 3) := by decide +kernel
theorem dX4_advance_190 : decode cX4_advance 190 = .ok (.invokevirtual 187, 3) := by decide +kernel
theorem dX4_advance_193 : decode cX4_advance 193 = .ok (.iadd, 1) := by decide +kernel
theorem dX4_advance_194 : decode cX4_advance 194 = .ok (.bipush 48, 2) := by decide +kernel
theorem dX4_advance_196 : decode cX4_advance 196 = .ok (.isub, 1) := by decide +kernel
theorem dX4_advance_197 : decode cX4_advance 197 = .ok (.goto 7, 3) := by decide +kernel
theorem dX4_advance_200 : decode cX4_advance 200 = .ok (.aload_n 0, 1) := by decide +kernel
theorem dX4_advance_201 : decode cX4_advance 201 = .ok (.getfield 96, 3) := by decide +kernel
theorem dX4_advance_204 : decode cX4_advance 204 = .ok (.putfield 96, 3) := by decide +kernel
theorem dX4_advance_207 : decode cX4_advance 207 = .ok (.aload_n 0, 1) := by decide +kernel
theorem dX4_advance_208 : decode cX4_advance 208 = .ok (.dup, 1) := by decide +kernel
theorem dX4_advance_209 : decode cX4_advance 209 = .ok (.getfield 93, 3) := by decide +kernel
theorem dX4_advance_212 : decode cX4_advance 212 = .ok (.iconst 1, 1) := by decide +kernel
theorem dX4_advance_213 : decode cX4_advance 213 = .ok (.iadd, 1) := by decide +kernel
theorem dX4_advance_214 : decode cX4_advance 214 = .ok (.putfield 93, 3) := by decide +kernel
theorem dX4_advance_217 : decode cX4_advance 217 = .ok (.aload_n 0, 1) := by decide +kernel
theorem dX4_advance_218 : decode cX4_advance 218 = .ok (.dup, 1) := by decide +kernel
theorem dX4_advance_219 : decode cX4_advance 219 = .ok (.getfield 25, 3) := by decide +kernel
theorem dX4_advance_222 : decode cX4_advance 222 = .ok (.iconst 1, 1) := by decide +kernel
theorem dX4_advance_223 : decode cX4_advance 223 = .ok (.iadd, 1) := by decide +kernel
theorem dX4_advance_224 : decode cX4_advance 224 = .ok (.putfield 25, 3) := by decide +kernel
theorem dX4_advance_227 : decode cX4_advance 227 = .ok (.goto (-87), 3) := by decide +kernel
theorem dX4_advance_230 : decode cX4_advance 230 = .ok (.iload_n 1, 1) := by decide +kernel
theorem dX4_advance_231 : decode cX4_advance 231 = .ok (.iconst (-1), 1) := by decide +kernel
theorem dX4_advance_232 : decode cX4_advance 232 = .ok (.if_icmp .ne 11, 3) := by decide +kernel
theorem dX4_advance_235 : decode cX4_advance 235 = .ok (.aload_n 0, 1) := by decide +kernel
theorem dX4_advance_236 : decode cX4_advance 236 = .ok (.iconst (-1), 1) := by decide +kernel
theorem dX4_advance_237 : decode cX4_advance 237 = .ok (.putfield 44, 3) := by decide +kernel
theorem dX4_advance_240 : decode cX4_advance 240 = .ok (.goto 62, 3) := by decide +kernel
theorem dX4_advance_243 : decode cX4_advance 243 = .ok (.aload_n 0, 1) := by decide +kernel
theorem dX4_advance_244 : decode cX4_advance 244 = .ok (.dup, 1) := by decide +kernel
theorem dX4_advance_245 : decode cX4_advance 245 = .ok (.getfield 25, 3) := by decide +kernel
theorem dX4_advance_248 : decode cX4_advance 248 = .ok (.iconst 1, 1) := by decide +kernel
theorem dX4_advance_249 : decode cX4_advance 249 = .ok (.iadd, 1) := by decide +kernel
theorem dX4_advance_250 : decode cX4_advance 250 = .ok (.putfield 25, 3) := by decide +kernel
theorem dX4_advance_253 : decode cX4_advance 253 = .ok (.aload_n 0, 1) := by decide +kernel
theorem dX4_advance_254 : decode cX4_advance 254 = .ok (.iload_n 1, 1) := by decide +kernel
theorem dX4_advance_255 : decode cX4_advance 255 = .ok (.putfield 44, 3) := by decide +kernel
theorem dX4_advance_258 : decode cX4_advance 258 = .ok (.iload_n 1, 1) := by decide +kernel
theorem dX4_advance_259 : decode cX4_advance 259 = .ok (.bipush 60, 2) := by decide +kernel
theorem dX4_advance_261 : decode cX4_advance 261 = .ok (.if_icmp .eq 9, 3) := by decide +kernel
theorem dX4_advance_264 : decode cX4_advance 264 = .ok (.iload_n 1, 1) := by decide +kernel
theorem dX4_advance_265 : decode cX4_advance 265 = .ok (.bipush 62, 2) := by decide +kernel
theorem dX4_advance_267 : decode cX4_advance 267 = .ok (.if_icmp .ne 35, 3) := by decide +kernel
theorem dX4_advance_270 : decode cX4_advance 270 = .ok (.aload_n 0, 1) := by decide +kernel
theorem dX4_advance_271 : decode cX4_advance 271 = .ok (.aload_n 0, 1) := by decide +kernel
theorem dX4_advance_272 : decode cX4_advance 272 = .ok (.getfield 25, 3) := by decide +kernel
theorem dX4_advance_275 : decode cX4_advance 275 = .ok (.invokevirtual 187, 3) := by decide +kernel
theorem dX4_advance_278 : decode cX4_advance 278 = .ok (.bipush 61, 2) := by decide +kernel
theorem dX4_advance_280 : decode cX4_advance 280 = .ok (.if_icmp .ne 22, 3) := by decide +kernel
theorem dX4_advance_283 : decode cX4_advance 283 = .ok (.aload_n 0, 1) := by decide +kernel
theorem dX4_advance_284 : decode cX4_advance 284 = .ok (.dup, 1) := by decide +kernel
theorem dX4_advance_285 : decode cX4_advance 285 = .ok (.getfield 25, 3) := by decide +kernel
theorem dX4_advance_288 : decode cX4_advance 288 = .ok (.iconst 1, 1) := by decide +kernel
theorem dX4_advance_289 : decode cX4_advance 289 = .ok (.iadd, 1) := by decide +kernel
theorem dX4_advance_290 : decode cX4_advance 290 = .ok (.putfield 25, 3) := by decide +kernel
theorem dX4_advance_293 : decode cX4_advance 293 = .ok (.aload_n 0, 1) := by decide +kernel
theorem dX4_advance_294 : decode cX4_advance 294 = .ok (.iload_n 1, 1) := by decide +kernel
theorem dX4_advance_295 : decode cX4_advance 295 = .ok (.sipush 256, 3) := by decide +kernel
theorem dX4_advance_298 : decode cX4_advance 298 = .ok (.iadd, 1) := by decide +kernel
theorem dX4_advance_299 : decode cX4_advance 299 = .ok (.putfield 44, 3) := by decide +kernel
theorem dX4_advance_302 : decode cX4_advance 302 = .ok (.return_, 1) := by decide +kernel
theorem dX5_init_0 : decode cX5_init 0 = .ok (.aload_n 0, 1) := by decide +kernel
theorem dX5_init_1 : decode cX5_init 1 = .ok (.invokespecial 3, 3) := by decide +kernel
theorem dX5_init_4 : decode cX5_init 4 = .ok (.aload_n 0, 1) := by decide +kernel
theorem dX5_init_5 : decode cX5_init 5 = .ok (.sipush 300, 3) := by decide +kernel
theorem dX5_init_8 : decode cX5_init 8 = .ok (.newarray .int, 2) := by decide +kernel
theorem dX5_init_10 : decode cX5_init 10 = .ok (.putfield 11, 3) := by decide +kernel
theorem dX5_init_13 : decode cX5_init 13 = .ok (.aload_n 0, 1) := by decide +kernel
theorem dX5_init_14 : decode cX5_init 14 = .ok (.sipush 300, 3) := by decide +kernel
theorem dX5_init_17 : decode cX5_init 17 = .ok (.newarray .int, 2) := by decide +kernel
theorem dX5_init_19 : decode cX5_init 19 = .ok (.putfield 15, 3) := by decide +kernel
theorem dX5_init_22 : decode cX5_init 22 = .ok (.aload_n 0, 1) := by decide +kernel
theorem dX5_init_23 : decode cX5_init 23 = .ok (.sipush 300, 3) := by decide +kernel
theorem dX5_init_26 : decode cX5_init 26 = .ok (.newarray .int, 2) := by decide +kernel
theorem dX5_init_28 : decode cX5_init 28 = .ok (.putfield 18, 3) := by decide +kernel
theorem dX5_init_31 : decode cX5_init 31 = .ok (.aload_n 0, 1) := by decide +kernel
theorem dX5_init_32 : decode cX5_init 32 = .ok (.sipush 300, 3) := by decide +kernel
theorem dX5_init_35 : decode cX5_init 35 = .ok (.newarray .int, 2) := by decide +kernel
theorem dX5_init_37 : decode cX5_init 37 = .ok (.putfield 21, 3) := by decide +kernel
theorem dX5_init_40 : decode cX5_init 40 = .ok (.aload_n 0, 1) := by decide +kernel
theorem dX5_init_41 : decode cX5_init 41 = .ok (.sipush 300, 3) := by decide +kernel
theorem dX5_init_44 : decode cX5_init 44 = .ok (.newarray .int, 2) := by decide +kernel
theorem dX5_init_46 : decode cX5_init 46 = .ok (.putfield 24, 3) := by decide +kernel
theorem dX5_init_49 : decode cX5_init 49 = .ok (.aload_n 0, 1) := by decide +kernel
theorem dX5_init_50 : decode cX5_init 50 = .ok (.sipush 300, 3) := by decide +kernel
theorem dX5_init_53 : decode cX5_init 53 = .ok (.newarray .int, 2) := by decide +kernel
theorem dX5_init_55 : decode cX5_init 55 = .ok (.putfield 27, 3) := by decide +kernel
theorem dX5_init_58 : decode cX5_init 58 = .ok (.aload_n 0, 1) := by decide +kernel
theorem dX5_init_59 : decode cX5_init 59 = .ok (.sipush 300, 3) := by decide +kernel
theorem dX5_init_62 : decode cX5_init 62 = .ok (.newarray .int, 2) := by decide +kernel
theorem dX5_init_64 : decode cX5_init 64 = .ok (.putfield 30, 3) := by decide +kernel
theorem dX5_init_67 : decode cX5_init 67 = .ok (.aload_n 0, 1) := by decide +kernel
theorem dX5_init_68 : decode cX5_init 68 = .ok (.sipush 300, 3) := by decide +kernel
theorem dX5_init_71 : decode cX5_init 71 = .ok (.newarray .int, 2) := by decide +kernel
theorem dX5_init_73 : decode cX5_init 73 = .ok (.putfield 33, 3) := by decide +kernel
theorem dX5_init_76 : decode cX5_init 76 = .ok (.aload_n 0, 1) := by decide +kernel
theorem dX5_init_77 : decode cX5_init 77 = .ok (.sipush 300, 3) := by decide +kernel
theorem dX5_init_80 : decode cX5_init 80 = .ok (.newarray .int, 2) := by decide +kernel
theorem dX5_init_82 : decode cX5_init 82 = .ok (.putfield 36, 3) := by decide +kernel
theorem dX5_init_85 : decode cX5_init 85 = .ok (.aload_n 0, 1) := by decide +kernel
theorem dX5_init_86 : decode cX5_init 86 = .ok (.sipush 300, 3) := by decide +kernel
theorem dX5_init_89 : decode cX5_init 89 = .ok (.newarray .int, 2) := by decide +kernel
theorem dX5_init_91 : decode cX5_init 91 = .ok (.putfield 39, 3) := by decide +kernel
theorem dX5_init_94 : decode cX5_init 94 = .ok (.return_, 1) := by decide +kernel
theorem dX5_add_0 : decode cX5_add 0 = .ok (.aload_n 0, 1) := by decide +kernel
theorem dX5_add_1 : decode cX5_add 1 = .ok (.getfield 42, 3) := by decide +kernel
theorem dX5_add_4 : decode cX5_add 4 = .ok (.sipush 300, 3) := by decide +kernel
theorem dX5_add_7 : decode cX5_add 7 = .ok (.if_icmp .lt 5, 3) := by decide +kernel
theorem dX5_add_10 : decode cX5_add 10 = .ok (.iconst (-1), 1) := by decide +kernel
theorem dX5_add_11 : decode cX5_add 11 = .ok (.ireturn, 1) := by decide +kernel
theorem dX5_add_12 : decode cX5_add 12 = .ok (.aload_n 0, 1) := by decide +kernel
theorem dX5_add_13 : decode cX5_add 13 = .ok (.getfield 11, 3) := by decide +kernel
theorem dX5_add_16 : decode cX5_add 16 = .ok (.aload_n 0, 1) := by decide +kernel
theorem dX5_add_17 : decode cX5_add 17 = .ok (.getfield 42, 3) := by decide +kernel
theorem dX5_add_20 : decode cX5_add 20 = .ok (.iload_n 1, 1) := by decide +kernel
theorem dX5_add_21 : decode cX5_add 21 = .ok (.iastore, 1) := by decide +kernel
theorem dX5_add_22 : decode cX5_add 22 = .ok (.aload_n 0, 1) := by decide +kernel
theorem dX5_add_23 : decode cX5_add 23 = .ok (.getfield 15, 3) := by decide +kernel
theorem dX5_add_26 : decode cX5_add 26 = .ok (.aload_n 0, 1) := by decide +kernel
theorem dX5_add_27 : decode cX5_add 27 = .ok (.getfield 42, 3) := by decide +kernel
theorem dX5_add_30 : decode cX5_add 30 = .ok (.iload_n 2, 1) := by decide +kernel
theorem dX5_add_31 : decode cX5_add 31 = .ok (.iastore, 1) := by decide +kernel
theorem dX5_add_32 : decode cX5_add 32 = .ok (.aload_n 0, 1) := by decide +kernel
theorem dX5_add_33 : decode cX5_add 33 = .ok (.getfield 18, 3) := by decide +kernel
theorem dX5_add_36 : decode cX5_add 36 = .ok (.aload_n 0, 1) := by decide +kernel
theorem dX5_add_37 : decode cX5_add 37 = .ok (.getfield 42, 3) := by decide +kernel
theorem dX5_add_40 : decode cX5_add 40 = .ok (.iload_n 3, 1) := by decide +kernel
theorem dX5_add_41 : decode cX5_add 41 = .ok (.iastore, 1) := by decide +kernel
theorem dX5_add_42 : decode cX5_add 42 = .ok (.aload_n 0, 1) := by decide +kernel
theorem dX5_add_43 : decode cX5_add 43 = .ok (.getfield 21, 3) := by decide +kernel
theorem dX5_add_46 : decode cX5_add 46 = .ok (.aload_n 0, 1) := by decide +kernel
theorem dX5_add_47 : decode cX5_add 47 = .ok (.getfield 42, 3) := by decide +kernel
theorem dX5_add_50 : decode cX5_add 50 = .ok (.iload 4, 2) := by decide +kernel
theorem dX5_add_52 : decode cX5_add 52 = .ok (.iastore, 1) := by decide +kernel
theorem dX5_add_53 : decode cX5_add 53 = .ok (.aload_n 0, 1) := by decide +kernel
theorem dX5_add_54 : decode cX5_add 54 = .ok (.getfield 24, 3) := by decide +kernel
theorem dX5_add_57 : decode cX5_add 57 = .ok (.aload_n 0, 1) := by decide +kernel
theorem dX5_add_58 : decode cX5_add 58 = .ok (.getfield 42, 3) := by decide +kernel
theorem dX5_add_61 : decode cX5_add 61 = .ok (.iload 5, 2) := by decide +kernel
theorem dX5_add_63 : decode cX5_add 63 = .ok (.iastore, 1) := by decide +kernel
theorem dX5_add_64 : decode cX5_add 64 = .ok (.aload_n 0, 1) := by decide +kernel
theorem dX5_add_65 : decode cX5_add 65 = .ok (.getfield 27, 3) := by decide +kernel
theorem dX5_add_68 : decode cX5_add 68 = .ok (.aload_n 0, 1) := by decide +kernel
theorem dX5_add_69 : decode cX5_add 69 = .ok (.getfield 42, 3) := by decide +kernel
theorem dX5_add_72 : decode cX5_add 72 = .ok (.iload 6, 2) := by decide +kernel
theorem dX5_add_74 : decode cX5_add 74 = .ok (.iastore, 1) := by decide +kernel
theorem dX5_add_75 : decode cX5_add 75 = .ok (.aload_n 0, 1) := by decide +kernel
theorem dX5_add_76 : decode cX5_add 76 = .ok (.aload_n 0, 1) := by decide +kernel
theorem dX5_add_77 : decode cX5_add 77 = .ok (.getfield 42, 3) := by decide +kernel
theorem dX5_add_80 : decode cX5_add 80 = .ok (.iload_n 3, 1) := by decide +kernel
theorem dX5_add_81 : decode cX5_add 81 = .ok (.invokevirtual 46, 3) := by decide +kernel
theorem dX5_add_84 : decode cX5_add 84 = .ok (.aload_n 0, 1) := by decide +kernel
theorem dX5_add_85 : decode cX5_add 85 = .ok (.dup, 1) := by decide +kernel
theorem dX5_add_86 : decode cX5_add 86 = .ok (.getfield 42, 3) := by decide +kernel
theorem dX5_add_89 : decode cX5_add 89 = .ok (.iconst 1, 1) := by decide +kernel
theorem dX5_add_90 : decode cX5_add 90 = .ok (.iadd, 1) := by decide +kernel
theorem dX5_add_91 : decode cX5_add 91 = .ok (.putfield 42, 3) := by decide +kernel
theorem dX5_add_94 : decode cX5_add 94 = .ok (.aload_n 0, 1) := by decide +kernel
theorem dX5_add_95 : decode cX5_add 95 = .ok (.getfield 42, 3) := by decide +kernel
theorem dX5_add_98 : decode cX5_add 98 = .ok (.iconst 1, 1) := by decide +kernel
theorem dX5_add_99 : decode cX5_add 99 = .ok (.isub, 1) := by decide +kernel
theorem dX5_add_100 : decode cX5_add 100 = .ok (.ireturn, 1) := by decide +kernel
theorem dX5_putInOrder_0 : decode cX5_putInOrder 0 = .ok (.iload_n 1, 1) := by decide +kernel
theorem dX5_putInOrder_1 : decode cX5_putInOrder 1 = .ok (.istore_n 3, 1) := by decide +kernel
theorem dX5_putInOrder_2 : decode cX5_putInOrder 2 = .ok (.iload_n 3, 1) := by decide +kernel
theorem dX5_putInOrder_3 : decode cX5_putInOrder 3 = .ok (.ifCond .le 34, 3) := by decide +kernel
theorem dX5_putInOrder_6 : decode cX5_putInOrder 6 = .ok (.aload_n 0, 1) := by decide +kernel
theorem dX5_putInOrder_7 : decode cX5_putInOrder 7 = .ok (.iload_n 3, 1) := by decide +kernel
theorem dX5_putInOrder_8 : decode cX5_putInOrder 8 = .ok (.iconst 1, 1) := by decide +kernel
theorem dX5_putInOrder_9 : decode cX5_putInOrder 9 = .ok (.isub, 1) := by decide +kernel
theorem dX5_putInOrder_10 : decode cX5_putInOrder 10 = .ok (.invokevirtual 50, 3) := by decide +kernel
theorem dX5_putInOrder_13 : decode cX5_putInOrder 13 = .ok (.iload_n 2, 1) := by decide +kernel
theorem dX5_putInOrder_14 : decode cX5_putInOrder 14 = .ok (.if_icmp .le 23, 3) := by decide +kernel
theorem dX5_putInOrder_17 : decode cX5_putInOrder 17 = .ok (.aload_n 0, 1) := by decide +kernel
theorem dX5_putInOrder_18 : decode cX5_putInOrder 18 = .ok (.getfield 30, 3) := by decide +kernel
theorem dX5_putInOrder_21 : decode cX5_putInOrder 21 = .ok (.iload_n 3, 1) := by decide +kernel
theorem dX5_putInOrder_22 : decode cX5_putInOrder 22 = .ok (.aload_n 0, 1) := by decide +kernel
theorem dX5_putInOrder_23 : decode cX5_putInOrder 23 = .ok (.getfield 30, 3) := by decide +kernel
theorem dX5_putInOrder_26 : decode cX5_putInOrder 26 = .ok (.iload_n 3, 1) := by decide +kernel
theorem dX5_putInOrder_27 : decode cX5_putInOrder 27 = .ok (.iconst 1, 1) := by decide +kernel
theorem dX5_putInOrder_28 : decode cX5_putInOrder 28 = .ok (.isub, 1) := by decide +kernel
theorem dX5_putInOrder_29 : decode cX5_putInOrder 29 = .ok (.iaload, 1) := by decide +kernel
theorem dX5_putInOrder_30 : decode cX5_putInOrder 30 = .ok (.iastore, 1) := by decide +kernel
theorem dX5_putInOrder_31 : decode cX5_putInOrder 31 = .ok (.iinc 3 (-1), 3) := by decide +kernel
theorem dX5_putInOrder_34 : decode cX5_putInOrder 34 = .ok (.goto (-32), 3) := by decide +kernel
theorem dX5_putInOrder_37 : decode cX5_putInOrder 37 = .ok (.aload_n 0, 1) := by decide +kernel
theorem dX5_putInOrder_38 : decode cX5_putInOrder 38 = .ok (.getfield 30, 3) := by decide +kernel
theorem dX5_putInOrder_41 : decode cX5_putInOrder 41 = .ok (.iload_n 3, 1) := by decide +kernel
theorem dX5_putInOrder_42 : decode cX5_putInOrder 42 = .ok (.iload_n 1, 1) := by decide +kernel
theorem dX5_putInOrder_43 : decode cX5_putInOrder 43 = .ok (.iastore, 1) := by decide +kernel
theorem dX5_putInOrder_44 : decode cX5_putInOrder 44 = .ok (.return_, 1) := by decide +kernel
theorem dX5_minuteAt_0 : decode cX5_minuteAt 0 = .ok (.aload_n 0, 1) := by decide +kernel
theorem dX5_minuteAt_1 : decode cX5_minuteAt 1 = .ok (.getfield 30, 3) := by decide +kernel
theorem dX5_minuteAt_4 : decode cX5_minuteAt 4 = .ok (.iload_n 1, 1) := by decide +kernel
theorem dX5_minuteAt_5 : decode cX5_minuteAt 5 = .ok (.iaload, 1) := by decide +kernel
theorem dX5_minuteAt_6 : decode cX5_minuteAt 6 = .ok (.istore_n 2, 1) := by decide +kernel
theorem dX5_minuteAt_7 : decode cX5_minuteAt 7 = .ok (.iload_n 2, 1) := by decide +kernel
theorem dX5_minuteAt_8 : decode cX5_minuteAt 8 = .ok (.iconst 0, 1) := by decide +kernel
theorem dX5_minuteAt_9 : decode cX5_minuteAt 9 = .ok (.sipush 299, 3) := by decide +kernel
theorem dX5_minuteAt_12 : decode cX5_minuteAt 12 = .ok (.invokestatic 54, 3) := by decide +kernel
theorem dX5_minuteAt_15 : decode cX5_minuteAt 15 = .ok (.ifCond .eq 12, 3) := by decide +kernel
theorem dX5_minuteAt_18 : decode cX5_minuteAt 18 = .ok (.aload_n 0, 1) := by decide +kernel
theorem dX5_minuteAt_19 : decode cX5_minuteAt 19 = .ok (.getfield 18, 3) := by decide +kernel
theorem dX5_minuteAt_22 : decode cX5_minuteAt 22 = .ok (.iload_n 2, 1) := by decide +kernel
theorem dX5_minuteAt_23 : decode cX5_minuteAt 23 = .ok (.iaload, 1) := by decide +kernel
theorem dX5_minuteAt_24 : decode cX5_minuteAt 24 = .ok (.goto 4, 3) := by decide +kernel
theorem dX5_minuteAt_27 : decode cX5_minuteAt 27 = .ok (.iconst 0, 1) := by decide +kernel
theorem dX5_minuteAt_28 : decode cX5_minuteAt 28 = .ok (.ireturn, 1) := by decide +kernel
theorem dX5_cellOf_0 : decode cX5_cellOf 0 = .ok (.aload_n 0, 1) := by decide +kernel
theorem dX5_cellOf_1 : decode cX5_cellOf 1 = .ok (.getfield 42, 3) := by decide +kernel
theorem dX5_cellOf_4 : decode cX5_cellOf 4 = .ok (.iconst 1, 1) := by decide +kernel
theorem dX5_cellOf_5 : decode cX5_cellOf 5 = .ok (.isub, 1) := by decide +kernel
theorem dX5_cellOf_6 : decode cX5_cellOf 6 = .ok (.istore 4, 2) := by decide +kernel
theorem dX5_cellOf_8 : decode cX5_cellOf 8 = .ok (.iload 4, 2) := by decide +kernel
theorem dX5_cellOf_10 : decode cX5_cellOf 10 = .ok (.ifCond .lt 96, 3) := by decide +kernel
theorem dX5_cellOf_13 : decode cX5_cellOf 13 = .ok (.aload_n 0, 1) := by decide +kernel
theorem dX5_cellOf_14 : decode cX5_cellOf 14 = .ok (.getfield 30, 3) := by decide +kernel
theorem dX5_cellOf_17 : decode cX5_cellOf 17 = .ok (.iload 4, 2) := by decide +kernel
theorem dX5_cellOf_19 : decode cX5_cellOf 19 = .ok (.iaload, 1) := by decide +kernel
theorem dX5_cellOf_20 : decode cX5_cellOf 20 = .ok (.istore 5, 2) := by decide +kernel
theorem dX5_cellOf_22 : decode cX5_cellOf 22 = .ok (.iload 5, 2) := by decide +kernel
theorem dX5_cellOf_24 : decode cX5_cellOf 24 = .ok (.iconst 0, 1) := by decide +kernel
theorem dX5_cellOf_25 : decode cX5_cellOf 25 = .ok (.aload_n 0, 1) := by decide +kernel
theorem dX5_cellOf_26 : decode cX5_cellOf 26 = .ok (.getfield 42, 3) := by decide +kernel
theorem dX5_cellOf_29 : decode cX5_cellOf 29 = .ok (.iconst 1, 1) := by decide +kernel
theorem dX5_cellOf_30 : decode cX5_cellOf 30 = .ok (.isub, 1) := by decide +kernel
theorem dX5_cellOf_31 : decode cX5_cellOf 31 = .ok (.invokestatic 54, 3) := by decide +kernel
theorem dX5_cellOf_34 : decode cX5_cellOf 34 = .ok (.ifCond .eq 66, 3) := by decide +kernel
theorem dX5_cellOf_37 : decode cX5_cellOf 37 = .ok (.aload_n 0, 1) := by decide +kernel
theorem dX5_cellOf_38 : decode cX5_cellOf 38 = .ok (.getfield 15, 3) := by decide +kernel
theorem dX5_cellOf_41 : decode cX5_cellOf 41 = .ok (.iload 5, 2) := by decide +kernel
theorem dX5_cellOf_43 : decode cX5_cellOf 43 = .ok (.iaload, 1) := by decide +kernel
theorem dX5_cellOf_44 : decode cX5_cellOf 44 = .ok (.iload_n 1, 1) := by decide +kernel
theorem dX5_cellOf_45 : decode cX5_cellOf 45 = .ok (.if_icmp .ne 55, 3) := by decide +kernel
theorem dX5_cellOf_48 : decode cX5_cellOf 48 = .ok (.aload_n 0, 1) := by decide +kernel
theorem dX5_cellOf_49 : decode cX5_cellOf 49 = .ok (.getfield 11, 3) := by decide +kernel
theorem dX5_cellOf_52 : decode cX5_cellOf 52 = .ok (.iload 5, 2) := by decide +kernel
theorem dX5_cellOf_54 : decode cX5_cellOf 54 = .ok (.iaload, 1) := by decide +kernel
theorem dX5_cellOf_55 : decode cX5_cellOf 55 = .ok (.iload_n 1, 1) := by decide +kernel
theorem dX5_cellOf_56 : decode cX5_cellOf 56 = .ok (.if_icmp .ne 44, 3) := by decide +kernel
theorem dX5_cellOf_59 : decode cX5_cellOf 59 = .ok (.aload_n 0, 1) := by decide +kernel
theorem dX5_cellOf_60 : decode cX5_cellOf 60 = .ok (.getfield 18, 3) := by decide +kernel
theorem dX5_cellOf_63 : decode cX5_cellOf 63 = .ok (.iload 5, 2) := by decide +kernel
theorem dX5_cellOf_65 : decode cX5_cellOf 65 = .ok (.iaload, 1) := by decide +kernel
theorem dX5_cellOf_66 : decode cX5_cellOf 66 = .ok (.iload_n 2, 1) := by decide +kernel
theorem dX5_cellOf_67 : decode cX5_cellOf 67 = .ok (.if_icmp .gt 33, 3) := by decide +kernel
theorem dX5_cellOf_70 : decode cX5_cellOf 70 = .ok (.aload_n 0, 1) := by decide +kernel
theorem dX5_cellOf_71 : decode cX5_cellOf 71 = .ok (.getfield 27, 3) := by decide +kernel
theorem dX5_cellOf_74 : decode cX5_cellOf 74 = .ok (.iload 5, 2) := by decide +kernel
theorem dX5_cellOf_76 : decode cX5_cellOf 76 = .ok (.iaload, 1) := by decide +kernel
theorem dX5_cellOf_77 : decode cX5_cellOf 77 = .ok (.iload_n 3, 1) := by decide +kernel
theorem dX5_cellOf_78 : decode cX5_cellOf 78 = .ok (.if_icmp .gt 22, 3) := by decide +kernel
theorem dX5_cellOf_81 : decode cX5_cellOf 81 = .ok (.bipush 24, 2) := by decide +kernel
theorem dX5_cellOf_83 : decode cX5_cellOf 83 = .ok (.aload_n 0, 1) := by decide +kernel
theorem dX5_cellOf_84 : decode cX5_cellOf 84 = .ok (.getfield 24, 3) := by decide +kernel
theorem dX5_cellOf_87 : decode cX5_cellOf 87 = .ok (.iload 5, 2) := by decide +kernel
theorem dX5_cellOf_89 : decode cX5_cellOf 89 = .ok (.iaload, 1) := by decide +kernel
theorem dX5_cellOf_90 : decode cX5_cellOf 90 = .ok (.imul, 1) := by decide +kernel
theorem dX5_cellOf_91 : decode cX5_cellOf 91 = .ok (.aload_n 0, 1) := by decide +kernel
theorem dX5_cellOf_92 : decode cX5_cellOf 92 = .ok (.getfield 21, 3) := by decide +kernel
theorem dX5_cellOf_95 : decode cX5_cellOf 95 = .ok (.iload 5, 2) := by decide +kernel
theorem dX5_cellOf_97 : decode cX5_cellOf 97 = .ok (.iaload, 1) := by decide +kernel
theorem dX5_cellOf_98 : decode cX5_cellOf 98 = .ok (.iadd, 1) := by decide +kernel
theorem dX5_cellOf_99 : decode cX5_cellOf 99 = .ok (.ireturn, 1) := by decide +kernel
theorem dX5_cellOf_100 : decode cX5_cellOf 100 = .ok (.iinc 4 (-1), 3) := by decide +kernel
theorem dX5_cellOf_103 : decode cX5_cellOf 103 = .ok (.goto (-95), 3) := by decide +kernel
theorem dX5_cellOf_106 : decode cX5_cellOf 106 = .ok (.iconst (-1), 1) := by decide +kernel
theorem dX5_cellOf_107 : decode cX5_cellOf 107 = .ok (.ireturn, 1) := by decide +kernel
theorem dX5_findChain_0 : decode cX5_findChain 0 = .ok (.aload_n 0, 1) := by decide +kernel
theorem dX5_findChain_1 : decode cX5_findChain 1 = .ok (.iload_n 1, 1) := by decide +kernel
theorem dX5_findChain_2 : decode cX5_findChain 2 = .ok (.iload_n 3, 1) := by decide +kernel
theorem dX5_findChain_3 : decode cX5_findChain 3 = .ok (.invokevirtual 60, 3) := by decide +kernel
theorem dX5_findChain_6 : decode cX5_findChain 6 = .ok (.istore 4, 2) := by decide +kernel
theorem dX5_findChain_8 : decode cX5_findChain 8 = .ok (.aload_n 0, 1) := by decide +kernel
theorem dX5_findChain_9 : decode cX5_findChain 9 = .ok (.iload 4, 2) := by decide +kernel
theorem dX5_findChain_11 : decode cX5_findChain 11 = .ok (.iload_n 2, 1) := by decide +kernel
theorem dX5_findChain_12 : decode cX5_findChain 12 = .ok (.invokevirtual 64, 3) := by decide +kernel
theorem dX5_findChain_15 : decode cX5_findChain 15 = .ok (.istore 5, 2) := by decide +kernel
theorem dX5_findChain_17 : decode cX5_findChain 17 = .ok (.aload_n 0, 1) := by decide +kernel
theorem dX5_findChain_18 : decode cX5_findChain 18 = .ok (.iload 4, 2) := by decide +kernel
theorem dX5_findChain_20 : decode cX5_findChain 20 = .ok (.iload_n 2, 1) := by decide +kernel
theorem dX5_findChain_21 : decode cX5_findChain 21 = .ok (.iload 5, 2) := by decide +kernel
theorem dX5_findChain_23 : decode cX5_findChain 23 = .ok (.invokevirtual 67, 3) := by decide +kernel
theorem dX5_findChain_26 : decode cX5_findChain 26 = .ok (.aload_n 0, 1) := by decide +kernel
theorem dX5_findChain_27 : decode cX5_findChain 27 = .ok (.getfield 71, 3) := by decide +kernel
theorem dX5_findChain_30 : decode cX5_findChain 30 = .ok (.ireturn, 1) := by decide +kernel
theorem dX5_pick_0 : decode cX5_pick 0 = .ok (.iconst 0, 1) := by decide +kernel
theorem dX5_pick_1 : decode cX5_pick 1 = .ok (.istore_n 3, 1) := by decide +kernel
theorem dX5_pick_2 : decode cX5_pick 2 = .ok (.iconst 0, 1) := by decide +kernel
theorem dX5_pick_3 : decode cX5_pick 3 = .ok (.istore 4, 2) := by decide +kernel
theorem dX5_pick_5 : decode cX5_pick 5 = .ok (.iload 4, 2) := by decide +kernel
theorem dX5_pick_7 : decode cX5_pick 7 = .ok (.aload_n 0, 1) := by decide +kernel
theorem dX5_pick_8 : decode cX5_pick 8 = .ok (.getfield 42, 3) := by decide +kernel
theorem dX5_pick_11 : decode cX5_pick 11 = .ok (.if_icmp .ge 66, 3) := by decide +kernel
theorem dX5_pick_14 : decode cX5_pick 14 = .ok (.aload_n 0, 1) := by decide +kernel
theorem dX5_pick_15 : decode cX5_pick 15 = .ok (.getfield 30, 3) := by decide +kernel
theorem dX5_pick_18 : decode cX5_pick 18 = .ok (.iload 4, 2) := by decide +kernel
theorem dX5_pick_20 : decode cX5_pick 20 = .ok (.iaload, 1) := by decide +kernel
theorem dX5_pick_21 : decode cX5_pick 21 = .ok (.istore 5, 2) := by decide +kernel
theorem dX5_pick_23 : decode cX5_pick 23 = .ok (.iload 5, 2) := by decide +kernel
theorem dX5_pick_25 : decode cX5_pick 25 = .ok (.iconst 0, 1) := by decide +kernel
theorem dX5_pick_26 : decode cX5_pick 26 = .ok (.aload_n 0, 1) := by decide +kernel
theorem dX5_pick_27 : decode cX5_pick 27 = .ok (.getfield 42, 3) := by decide +kernel
theorem dX5_pick_30 : decode cX5_pick 30 = .ok (.iconst 1, 1) := by decide +kernel
theorem dX5_pick_31 : decode cX5_pick 31 = .ok (.isub, 1) := by decide +kernel
theorem dX5_pick_32 : decode cX5_pick 32 = .ok (.invokestatic 54, 3) := by decide +kernel
theorem dX5_pick_35 : decode cX5_pick 35 = .ok (.ifCond .eq 36, 3) := by decide +kernel
theorem dX5_pick_38 : decode cX5_pick 38 = .ok (.aload_n 0, 1) := by decide +kernel
theorem dX5_pick_39 : decode cX5_pick 39 = .ok (.getfield 15, 3) := by decide +kernel
theorem dX5_pick_42 : decode cX5_pick 42 = .ok (.iload 5, 2) := by decide +kernel
theorem dX5_pick_44 : decode cX5_pick 44 = .ok (.iaload, 1) := by decide +kernel
theorem dX5_pick_45 : decode cX5_pick 45 = .ok (.iload_n 1, 1) := by decide +kernel
theorem dX5_pick_46 : decode cX5_pick 46 = .ok (.if_icmp .ne 25, 3) := by decide +kernel
theorem dX5_pick_49 : decode cX5_pick 49 = .ok (.aload_n 0, 1) := by decide +kernel
theorem dX5_pick_50 : decode cX5_pick 50 = .ok (.getfield 27, 3) := by decide +kernel
theorem dX5_pick_53 : decode cX5_pick 53 = .ok (.iload 5, 2) := by decide +kernel
theorem dX5_pick_55 : decode cX5_pick 55 = .ok (.iaload, 1) := by decide +kernel
theorem dX5_pick_56 : decode cX5_pick 56 = .ok (.iload_n 2, 1) := by decide +kernel
theorem dX5_pick_57 : decode cX5_pick 57 = .ok (.if_icmp .gt 14, 3) := by decide +kernel
theorem dX5_pick_60 : decode cX5_pick 60 = .ok (.aload_n 0, 1) := by decide +kernel
theorem dX5_pick_61 : decode cX5_pick 61 = .ok (.getfield 33, 3) := by decide +kernel
theorem dX5_pick_64 : decode cX5_pick 64 = .ok (.iload_n 3, 1) := by decide +kernel
theorem dX5_pick_65 : decode cX5_pick 65 = .ok (.iload 5, 2) := by decide +kernel
theorem dX5_pick_67 : decode cX5_pick 67 = .ok (.iastore, 1) := by decide +kernel
theorem dX5_pick_68 : decode cX5_pick 68 = .ok (.iinc 3 1, 3) := by decide +kernel
theorem dX5_pick_71 : decode cX5_pick 71 = .ok (.iinc 4 1, 3) := by decide +kernel
theorem dX5_pick_74 : decode cX5_pick 74 = .ok (.goto (-69), 3) := by decide +kernel
theorem dX5_pick_77 : decode cX5_pick 77 = .ok (.iload_n 3, 1) := by decide +kernel
theorem dX5_pick_78 : decode cX5_pick 78 = .ok (.ireturn, 1) := by decide +kernel
theorem dX5_measure_0 : decode cX5_measure 0 = .ok (.iconst 0, 1) := by decide +kernel
theorem dX5_measure_1 : decode cX5_measure 1 = .ok (.istore_n 3, 1) := by decide +kernel
theorem dX5_measure_2 : decode cX5_measure 2 = .ok (.iload_n 1, 1) := by decide +kernel
theorem dX5_measure_3 : decode cX5_measure 3 = .ok (.iconst 1, 1) := by decide +kernel
theorem dX5_measure_4 : decode cX5_measure 4 = .ok (.isub, 1) := by decide +kernel
theorem dX5_measure_5 : decode cX5_measure 5 = .ok (.istore 4, 2) := by decide +kernel
theorem dX5_measure_7 : decode cX5_measure 7 = .ok (.iload 4, 2) := by decide +kernel
theorem dX5_measure_9 : decode cX5_measure 9 = .ok (.ifCond .lt 96, 3) := by decide +kernel
theorem dX5_measure_12 : decode cX5_measure 12 = .ok (.iconst 0, 1) := by decide +kernel
theorem dX5_measure_13 : decode cX5_measure 13 = .ok (.istore 5, 2) := by decide +kernel
theorem dX5_measure_15 : decode cX5_measure 15 = .ok (.iload 4, 2) := by decide +kernel
theorem dX5_measure_17 : decode cX5_measure 17 = .ok (.iconst 1, 1) := by decide +kernel
theorem dX5_measure_18 : decode cX5_measure 18 = .ok (.iadd, 1) := by decide +kernel
theorem dX5_measure_19 : decode cX5_measure 19 = .ok (.istore 6, 2) := by decide +kernel
theorem dX5_measure_21 : decode cX5_measure 21 = .ok (.iload 6, 2) := by decide +kernel
theorem dX5_measure_23 : decode cX5_measure 23 = .ok (.iload_n 1, 1) := by decide +kernel
theorem dX5_measure_24 : decode cX5_measure 24 = .ok (.if_icmp .ge 52, 3) := by decide +kernel
theorem dX5_measure_27 : decode cX5_measure 27 = .ok (.aload_n 0, 1) := by decide +kernel
theorem dX5_measure_28 : decode cX5_measure 28 = .ok (.getfield 36, 3) := by decide +kernel
theorem dX5_measure_31 : decode cX5_measure 31 = .ok (.iload 6, 2) := by decide +kernel
theorem dX5_measure_33 : decode cX5_measure 33 = .ok (.iaload, 1) := by decide +kernel
theorem dX5_measure_34 : decode cX5_measure 34 = .ok (.iload 5, 2) := by decide +kernel
theorem dX5_measure_36 : decode cX5_measure 36 = .ok (.if_icmp .le 34, 3) := by decide +kernel
theorem dX5_measure_39 : decode cX5_measure 39 = .ok (.aload_n 0, 1) := by decide +kernel
theorem dX5_measure_40 : decode cX5_measure 40 = .ok (.aload_n 0, 1) := by decide +kernel
theorem dX5_measure_41 : decode cX5_measure 41 = .ok (.getfield 33, 3) := by decide +kernel
theorem dX5_measure_44 : decode cX5_measure 44 = .ok (.iload 4, 2) := by decide +kernel
theorem dX5_measure_46 : decode cX5_measure 46 = .ok (.iaload, 1) := by decide +kernel
theorem dX5_measure_47 : decode cX5_measure 47 = .ok (.aload_n 0, 1) := by decide +kernel
theorem dX5_measure_48 : decode cX5_measure 48 = .ok (.getfield 33, 3) := by decide +kernel
theorem dX5_measure_51 : decode cX5_measure 51 = .ok (.iload 6, 2) := by decide +kernel
theorem dX5_measure_53 : decode cX5_measure 53 = .ok (.iaload, 1) := by decide +kernel
theorem dX5_measure_54 : decode cX5_measure 54 = .ok (.iload_n 2, 1) := by decide +kernel
theorem dX5_measure_55 : decode cX5_measure 55 = .ok (.invokevirtual 74, 3) := by decide +kernel
theorem dX5_measure_58 : decode cX5_measure 58 = .ok (.ifCond .eq 12, 3) := by decide +kernel
theorem dX5_measure_61 : decode cX5_measure 61 = .ok (.aload_n 0, 1) := by decide +kernel
theorem dX5_measure_62 : decode cX5_measure 62 = .ok (.getfield 36, 3) := by decide +kernel
theorem dX5_measure_65 : decode cX5_measure 65 = .ok (.iload 6, 2) := by decide +kernel
theorem dX5_measure_67 : decode cX5_measure 67 = .ok (.iaload, 1) := by decide +kernel
theorem dX5_measure_68 : decode cX5_measure 68 = .ok (.istore 5, 2) := by decide +kernel
theorem dX5_measure_70 : decode cX5_measure 70 = .ok (.iinc 6 1, 3) := by decide +kernel
theorem dX5_measure_73 : decode cX5_measure 73 = .ok (.goto (-52), 3) := by decide +kernel
theorem dX5_measure_76 : decode cX5_measure 76 = .ok (.aload_n 0, 1) := by decide +kernel
theorem dX5_measure_77 : decode cX5_measure 77 = .ok (.getfield 36, 3) := by decide +kernel
theorem dX5_measure_80 : decode cX5_measure 80 = .ok (.iload 4, 2) := by decide +kernel
theorem dX5_measure_82 : decode cX5_measure 82 = .ok (.iload 5, 2) := by decide +kernel
theorem dX5_measure_84 : decode cX5_measure 84 = .ok (.iconst 1, 1) := by decide +kernel
theorem dX5_measure_85 : decode cX5_measure 85 = .ok (.iadd, 1) := by decide +kernel
theorem dX5_measure_86 : decode cX5_measure 86 = .ok (.iastore, 1) := by decide +kernel
theorem dX5_measure_87 : decode cX5_measure 87 = .ok (.iload_n 3, 1) := by decide +kernel
theorem dX5_measure_88 : decode cX5_measure 88 = .ok (.aload_n 0, 1) := by decide +kernel
theorem dX5_measure_89 : decode cX5_measure 89 = .ok (.getfield 36, 3) := by decide +kernel
theorem dX5_measure_92 : decode cX5_measure 92 = .ok (.iload 4, 2) := by decide +kernel
theorem dX5_measure_94 : decode cX5_measure 94 = .ok (.iaload, 1) := by decide +kernel
theorem dX5_measure_95 : decode cX5_measure 95 = .ok (.invokestatic 77, 3) := by decide +kernel
theorem dX5_measure_98 : decode cX5_measure 98 = .ok (.istore_n 3, 1) := by decide +kernel
theorem dX5_measure_99 : decode cX5_measure 99 = .ok (.iinc 4 (-1), 3) := by decide +kernel
theorem dX5_measure_102 : decode cX5_measure 102 = .ok (.goto (-95), 3) := by decide +kernel
theorem dX5_measure_105 : decode cX5_measure 105 = .ok (.iload_n 3, 1) := by decide +kernel
theorem dX5_measure_106 : decode cX5_measure 106 = .ok (.ireturn, 1) := by decide +kernel
theorem dX5_follow_0 : decode cX5_follow 0 = .ok (.aload_n 0, 1) := by decide +kernel
theorem dX5_follow_1 : decode cX5_follow 1 = .ok (.iconst 0, 1) := by decide +kernel
theorem dX5_follow_2 : decode cX5_follow 2 = .ok (.putfield 71, 3) := by decide +kernel
theorem dX5_follow_5 : decode cX5_follow 5 = .ok (.iconst 0, 1) := by decide +kernel
theorem dX5_follow_6 : decode cX5_follow 6 = .ok (.istore 4, 2) := by decide +kernel
theorem dX5_follow_8 : decode cX5_follow 8 = .ok (.iload 4, 2) := by decide +kernel
theorem dX5_follow_10 : decode cX5_follow 10 = .ok (.iload_n 1, 1) := by decide +kernel
theorem dX5_follow_11 : decode cX5_follow 11 = .ok (.if_icmp .ge 92, 3) := by decide +kernel
theorem dX5_follow_14 : decode cX5_follow 14 = .ok (.aload_n 0, 1) := by decide +kernel
theorem dX5_follow_15 : decode cX5_follow 15 = .ok (.getfield 71, 3) := by decide +kernel
theorem dX5_follow_18 : decode cX5_follow 18 = .ok (.iload_n 3, 1) := by decide +kernel
theorem dX5_follow_19 : decode cX5_follow 19 = .ok (.if_icmp .ge 84, 3) := by decide +kernel
theorem dX5_follow_22 : decode cX5_follow 22 = .ok (.aload_n 0, 1) := by decide +kernel
theorem dX5_follow_23 : decode cX5_follow 23 = .ok (.getfield 36, 3) := by decide +kernel
theorem dX5_follow_26 : decode cX5_follow 26 = .ok (.iload 4, 2) := by decide +kernel
theorem dX5_follow_28 : decode cX5_follow 28 = .ok (.iaload, 1) := by decide +kernel
theorem dX5_follow_29 : decode cX5_follow 29 = .ok (.iload_n 3, 1) := by decide +kernel
theorem dX5_follow_30 : decode cX5_follow 30 = .ok (.aload_n 0, 1) := by decide +kernel
theorem dX5_follow_31 : decode cX5_follow 31 = .ok (.getfield 71, 3) := by decide +kernel
theorem dX5_follow_34 : decode cX5_follow 34 = .ok (.isub, 1) := by decide +kernel
theorem dX5_follow_35 : decode cX5_follow 35 = .ok (.if_icmp .ne 62, 3) := by decide +kernel
theorem dX5_follow_38 : decode cX5_follow 38 = .ok (.aload_n 0, 1) := by decide +kernel
theorem dX5_follow_39 : decode cX5_follow 39 = .ok (.getfield 71, 3) := by decide +kernel
theorem dX5_follow_42 : decode cX5_follow 42 = .ok (.ifCond .eq 29, 3) := by decide +kernel
theorem dX5_follow_45 : decode cX5_follow 45 = .ok (.aload_n 0, 1) := by decide +kernel
theorem dX5_follow_46 : decode cX5_follow 46 = .ok (.aload_n 0, 1) := by decide +kernel
theorem dX5_follow_47 : decode cX5_follow 47 = .ok (.getfield 39, 3) := by decide +kernel
theorem dX5_follow_50 : decode cX5_follow 50 = .ok (.aload_n 0, 1) := by decide +kernel
theorem dX5_follow_51 : decode cX5_follow 51 = .ok (.getfield 71, 3) := by decide +kernel
theorem dX5_follow_54 : decode cX5_follow 54 = .ok (.iconst 1, 1) := by decide +kernel
theorem dX5_follow_55 : decode cX5_follow 55 = .ok (.isub, 1) := by decide +kernel
theorem dX5_follow_56 : decode cX5_follow 56 = .ok (.iaload, 1) := by decide +kernel
theorem dX5_follow_57 : decode cX5_follow 57 = .ok (.aload_n 0, 1) := by decide +kernel
theorem dX5_follow_58 : decode cX5_follow 58 = .ok (.getfield 33, 3) := by decide +kernel
theorem dX5_follow_61 : decode cX5_follow 61 = .ok (.iload 4, 2) := by decide +kernel
theorem dX5_follow_63 : decode cX5_follow 63 = .ok (.iaload, 1) := by decide +kernel
theorem dX5_follow_64 : decode cX5_follow 64 = .ok (.iload_n 2, 1) := by decide +kernel
theorem dX5_follow_65 : decode cX5_follow 65 = .ok (.invokevirtual 74, 3) := by decide +kernel
theorem dX5_follow_68 : decode cX5_follow 68 = .ok (.ifCond .eq 29, 3) := by decide +kernel
theorem dX5_follow_71 : decode cX5_follow 71 = .ok (.aload_n 0, 1) := by decide +kernel
theorem dX5_follow_72 : decode cX5_follow 72 = .ok (.getfield 39, 3) := by decide +kernel
theorem dX5_follow_75 : decode cX5_follow 75 = .ok (.aload_n 0, 1) := by decide +kernel
theorem dX5_follow_76 : decode cX5_follow 76 = .ok (.getfield 71, 3) := by decide +kernel
theorem dX5_follow_79 : decode cX5_follow 79 = .ok (.aload_n 0, 1) := by decide +kernel
theorem dX5_follow_80 : decode cX5_follow 80 = .ok (.getfield 33, 3) := by decide +kernel
theorem dX5_follow_83 : decode cX5_follow 83 = .ok (.iload 4, 2) := by decide +kernel
theorem dX5_follow_85 : decode cX5_follow 85 = .ok (.iaload, 1) := by decide +kernel
theorem dX5_follow_86 : decode cX5_follow 86 = .ok (.iastore, 1) := by decide +kernel
theorem dX5_follow_87 : decode cX5_follow 87 = .ok (.aload_n 0, 1) := by decide +kernel
theorem dX5_follow_88 : decode cX5_follow 88 = .ok (.dup, 1) := by decide +kernel
theorem dX5_follow_89 : decode cX5_follow 89 = .ok (.getfield 71, 3) := by decide +kernel
theorem dX5_follow_92 : decode cX5_follow 92 = .ok (.iconst 1, 1) := by decide +kernel
theorem dX5_follow_93 : decode cX5_follow 93 = .ok (.iadd, 1) := by decide +kernel
theorem dX5_follow_94 : decode cX5_follow 94 = .ok (.putfield 71, 3) := by decide +kernel
theorem dX5_follow_97 : decode cX5_follow 97 = .ok (.iinc 4 1, 3) := by decide +kernel
theorem dX5_follow_100 : decode cX5_follow 100 = .ok (.goto (-92), 3) := by decide +kernel
theorem dX5_follow_103 : decode cX5_follow 103 = .ok (.return_, 1) := by decide +kernel
theorem dX5_canBothBe_0 : decode cX5_canBothBe 0 = .ok (.iload_n 1, 1) := by decide +kernel
theorem dX5_canBothBe_1 : decode cX5_canBothBe 1 = .ok (.iconst 0, 1) := by decide +kernel
theorem dX5_canBothBe_2 : decode cX5_canBothBe 2 = .ok (.aload_n 0, 1) := by decide +kernel
theorem dX5_canBothBe_3 : decode cX5_canBothBe 3 = .ok (.getfield 42, 3) := by decide +kernel
theorem dX5_canBothBe_6 : decode cX5_canBothBe 6 = .ok (.iconst 1, 1) := by decide +kernel
theorem dX5_canBothBe_7 : decode cX5_canBothBe 7 = .ok (.isub, 1) := by decide +kernel
theorem dX5_canBothBe_8 : decode cX5_canBothBe 8 = .ok (.invokestatic 54, 3) := by decide +kernel
theorem dX5_canBothBe_11 : decode cX5_canBothBe 11 = .ok (.ifCond .eq 17, 3) := by decide +kernel
theorem dX5_canBothBe_14 : decode cX5_canBothBe 14 = .ok (.iload_n 2, 1) := by decide +kernel
theorem dX5_canBothBe_15 : decode cX5_canBothBe 15 = .ok (.iconst 0, 1) := by decide +kernel
theorem dX5_canBothBe_16 : decode cX5_canBothBe 16 = .ok (.aload_n 0, 1) := by decide +kernel
theorem dX5_canBothBe_17 : decode cX5_canBothBe 17 = .ok (.getfield 42, 3) := by decide +kernel
theorem dX5_canBothBe_20 : decode cX5_canBothBe 20 = .ok (.iconst 1, 1) := by decide +kernel
theorem dX5_canBothBe_21 : decode cX5_canBothBe 21 = .ok (.isub, 1) := by decide +kernel
theorem dX5_canBothBe_22 : decode cX5_canBothBe 22 = .ok (.invokestatic 54, 3) := by decide +kernel
theorem dX5_canBothBe_25 : decode cX5_canBothBe 25 = .ok (.ifCond .ne 5, 3) := by decide +kernel
theorem dX5_canBothBe_28 : decode cX5_canBothBe 28 = .ok (.iconst 0, 1) := by decide +kernel
theorem dX5_canBothBe_29 : decode cX5_canBothBe 29 = .ok (.ireturn, 1) := by decide +kernel
theorem dX5_canBothBe_30 : decode cX5_canBothBe 30 = .ok (.aload_n 0, 1) := by decide +kernel
theorem dX5_canBothBe_31 : decode cX5_canBothBe 31 = .ok (.getfield 21, 3) := by decide +kernel
theorem dX5_canBothBe_34 : decode cX5_canBothBe 34 = .ok (.iload_n 1, 1) := by decide +kernel
theorem dX5_canBothBe_35 : decode cX5_canBothBe 35 = .ok (.iaload, 1) := by decide +kernel
theorem dX5_canBothBe_36 : decode cX5_canBothBe 36 = .ok (.aload_n 0, 1) := by decide +kernel
theorem dX5_canBothBe_37 : decode cX5_canBothBe 37 = .ok (.getfield 21, 3) := by decide +kernel
theorem dX5_canBothBe_40 : decode cX5_canBothBe 40 = .ok (.iload_n 2, 1) := by decide +kernel
theorem dX5_canBothBe_41 : decode cX5_canBothBe 41 = .ok (.iaload, 1) := by decide +kernel
theorem dX5_canBothBe_42 : decode cX5_canBothBe 42 = .ok (.isub, 1) := by decide +kernel
theorem dX5_canBothBe_43 : decode cX5_canBothBe 43 = .ok (.invokestatic 82, 3) := by decide +kernel
theorem dX5_canBothBe_46 : decode cX5_canBothBe 46 = .ok (.aload_n 0, 1) := by decide +kernel
theorem dX5_canBothBe_47 : decode cX5_canBothBe 47 = .ok (.getfield 24, 3) := by decide +kernel
theorem dX5_canBothBe_50 : decode cX5_canBothBe 50 = .ok (.iload_n 1, 1) := by decide +kernel
theorem dX5_canBothBe_51 : decode cX5_canBothBe 51 = .ok (.iaload, 1) := by decide +kernel
theorem dX5_canBothBe_52 : decode cX5_canBothBe 52 = .ok (.aload_n 0, 1) := by decide +kernel
theorem dX5_canBothBe_53 : decode cX5_canBothBe 53 = .ok (.getfield 24, 3) := by decide +kernel
theorem dX5_canBothBe_56 : decode cX5_canBothBe 56 = .ok (.iload_n 2, 1) := by decide +kernel
theorem dX5_canBothBe_57 : decode cX5_canBothBe 57 = .ok (.iaload, 1) := by decide +kernel
theorem dX5_canBothBe_58 : decode cX5_canBothBe 58 = .ok (.isub, 1) := by decide +kernel
theorem dX5_canBothBe_59 : decode cX5_canBothBe 59 = .ok (.invokestatic 82, 3) := by decide +kernel
theorem dX5_canBothBe_62 : decode cX5_canBothBe 62 = .ok (.invokestatic 77, 3) := by decide +kernel
theorem dX5_canBothBe_65 : decode cX5_canBothBe 65 = .ok (.istore 4, 2) := by decide +kernel
theorem dX5_canBothBe_67 : decode cX5_canBothBe 67 = .ok (.iload 4, 2) := by decide +kernel
theorem dX5_canBothBe_69 : decode cX5_canBothBe 69 = .ok (.iload_n 3, 1) := by decide +kernel
theorem dX5_canBothBe_70 : decode cX5_canBothBe 70 = .ok (.aload_n 0, 1) := by decide +kernel
theorem dX5_canBothBe_71 : decode cX5_canBothBe 71 = .ok (.getfield 18, 3) := by decide +kernel
theorem dX5_canBothBe_74 : decode cX5_canBothBe 74 = .ok (.iload_n 1, 1) := by decide +kernel
theorem dX5_canBothBe_75 : decode cX5_canBothBe 75 = .ok (.iaload, 1) := by decide +kernel
theorem dX5_canBothBe_76 : decode cX5_canBothBe 76 = .ok (.aload_n 0, 1) := by decide +kernel
theorem dX5_canBothBe_77 : decode cX5_canBothBe 77 = .ok (.getfield 18, 3) := by decide +kernel
theorem dX5_canBothBe_80 : decode cX5_canBothBe 80 = .ok (.iload_n 2, 1) := by decide +kernel
theorem dX5_canBothBe_81 : decode cX5_canBothBe 81 = .ok (.iaload, 1) := by decide +kernel
theorem dX5_canBothBe_82 : decode cX5_canBothBe 82 = .ok (.isub, 1) := by decide +kernel
theorem dX5_canBothBe_83 : decode cX5_canBothBe 83 = .ok (.invokestatic 82, 3) := by decide +kernel
theorem dX5_canBothBe_86 : decode cX5_canBothBe 86 = .ok (.imul, 1) := by decide +kernel
theorem dX5_canBothBe_87 : decode cX5_canBothBe 87 = .ok (.if_icmp .gt 7, 3) := by decide +kernel
theorem dX5_canBothBe_90 : decode cX5_canBothBe 90 = .ok (.iconst 1, 1) := by decide +kernel
theorem dX5_canBothBe_91 : decode cX5_canBothBe 91 = .ok (.goto 4, 3) := by decide +kernel
theorem dX5_canBothBe_94 : decode cX5_canBothBe 94 = .ok (.iconst 0, 1) := by decide +kernel
theorem dX5_canBothBe_95 : decode cX5_canBothBe 95 = .ok (.ireturn, 1) := by decide +kernel
theorem dX5_inChain_0 : decode cX5_inChain 0 = .ok (.iload_n 1, 1) := by decide +kernel
theorem dX5_inChain_1 : decode cX5_inChain 1 = .ok (.ifCond .lt 20, 3) := by decide +kernel
theorem dX5_inChain_4 : decode cX5_inChain 4 = .ok (.iload_n 1, 1) := by decide +kernel
theorem dX5_inChain_5 : decode cX5_inChain 5 = .ok (.aload_n 0, 1) := by decide +kernel
theorem dX5_inChain_6 : decode cX5_inChain 6 = .ok (.getfield 71, 3) := by decide +kernel
theorem dX5_inChain_9 : decode cX5_inChain 9 = .ok (.if_icmp .ge 12, 3) := by decide +kernel
theorem dX5_inChain_12 : decode cX5_inChain 12 = .ok (.aload_n 0, 1) := by decide +kernel
theorem dX5_inChain_13 : decode cX5_inChain 13 = .ok (.getfield 39, 3) := by decide +kernel
theorem dX5_inChain_16 : decode cX5_inChain 16 = .ok (.iload_n 1, 1) := by decide +kernel
theorem dX5_inChain_17 : decode cX5_inChain 17 = .ok (.iaload, 1) := by decide +kernel
theorem dX5_inChain_18 : decode cX5_inChain 18 = .ok (.goto 4, 3) := by decide +kernel
theorem dX5_inChain_21 : decode cX5_inChain 21 = .ok (.iconst (-1), 1) := by decide +kernel
theorem dX5_inChain_22 : decode cX5_inChain 22 = .ok (.ireturn, 1) := by decide +kernel
theorem dX6_init_0 : decode cX6_init 0 = .ok (.aload_n 0, 1) := by decide +kernel
theorem dX6_init_1 : decode cX6_init 1 = .ok (.invokespecial 3, 3) := by decide +kernel
theorem dX6_init_4 : decode cX6_init 4 = .ok (.aload_n 0, 1) := by decide +kernel
theorem dX6_init_5 : decode cX6_init 5 = .ok (.sipush 576, 3) := by decide +kernel
theorem dX6_init_8 : decode cX6_init 8 = .ok (.newarray .int, 2) := by decide +kernel
theorem dX6_init_10 : decode cX6_init 10 = .ok (.putfield 11, 3) := by decide +kernel
theorem dX6_init_13 : decode cX6_init 13 = .ok (.aload_n 0, 1) := by decide +kernel
theorem dX6_init_14 : decode cX6_init 14 = .ok (.bipush 32, 2) := by decide +kernel
theorem dX6_init_16 : decode cX6_init 16 = .ok (.newarray .int, 2) := by decide +kernel
theorem dX6_init_18 : decode cX6_init 18 = .ok (.putfield 15, 3) := by decide +kernel
theorem dX6_init_21 : decode cX6_init 21 = .ok (.aload_n 0, 1) := by decide +kernel
theorem dX6_init_22 : decode cX6_init 22 = .ok (.bipush 32, 2) := by decide +kernel
theorem dX6_init_24 : decode cX6_init 24 = .ok (.newarray .int, 2) := by decide +kernel
theorem dX6_init_26 : decode cX6_init 26 = .ok (.putfield 18, 3) := by decide +kernel
theorem dX6_init_29 : decode cX6_init 29 = .ok (.aload_n 0, 1) := by decide +kernel
theorem dX6_init_30 : decode cX6_init 30 = .ok (.iconst 2, 1) := by decide +kernel
theorem dX6_init_31 : decode cX6_init 31 = .ok (.newarray .int, 2) := by decide +kernel
theorem dX6_init_33 : decode cX6_init 33 = .ok (.putfield 21, 3) := by decide +kernel
theorem dX6_init_36 : decode cX6_init 36 = .ok (.return_, 1) := by decide +kernel
theorem dX6_isCell_0 : decode cX6_isCell 0 = .ok (.iload_n 0, 1) := by decide +kernel
theorem dX6_isCell_1 : decode cX6_isCell 1 = .ok (.iconst 0, 1) := by decide +kernel
theorem dX6_isCell_2 : decode cX6_isCell 2 = .ok (.bipush 23, 2) := by decide +kernel
theorem dX6_isCell_4 : decode cX6_isCell 4 = .ok (.invokestatic 24, 3) := by decide +kernel
theorem dX6_isCell_7 : decode cX6_isCell 7 = .ok (.ifCond .eq 17, 3) := by decide +kernel
theorem dX6_isCell_10 : decode cX6_isCell 10 = .ok (.iload_n 1, 1) := by decide +kernel
theorem dX6_isCell_11 : decode cX6_isCell 11 = .ok (.iconst 0, 1) := by decide +kernel
theorem dX6_isCell_12 : decode cX6_isCell 12 = .ok (.bipush 23, 2) := by decide +kernel
theorem dX6_isCell_14 : decode cX6_isCell 14 = .ok (.invokestatic 24, 3) := by decide +kernel
theorem dX6_isCell_17 : decode cX6_isCell 17 = .ok (.ifCond .eq 7, 3) := by decide +kernel
theorem dX6_isCell_20 : decode cX6_isCell 20 = .ok (.iconst 1, 1) := by decide +kernel
theorem dX6_isCell_21 : decode cX6_isCell 21 = .ok (.goto 4, 3) := by decide +kernel
theorem dX6_isCell_24 : decode cX6_isCell 24 = .ok (.iconst 0, 1) := by decide +kernel
theorem dX6_isCell_25 : decode cX6_isCell 25 = .ok (.ireturn, 1) := by decide +kernel
theorem dX6_xOf_0 : decode cX6_xOf 0 = .ok (.iload_n 0, 1) := by decide +kernel
theorem dX6_xOf_1 : decode cX6_xOf 1 = .ok (.bipush 24, 2) := by decide +kernel
theorem dX6_xOf_3 : decode cX6_xOf 3 = .ok (.irem, 1) := by decide +kernel
theorem dX6_xOf_4 : decode cX6_xOf 4 = .ok (.ireturn, 1) := by decide +kernel
theorem dX6_yOf_0 : decode cX6_yOf 0 = .ok (.iload_n 0, 1) := by decide +kernel
theorem dX6_yOf_1 : decode cX6_yOf 1 = .ok (.bipush 24, 2) := by decide +kernel
theorem dX6_yOf_3 : decode cX6_yOf 3 = .ok (.idiv, 1) := by decide +kernel
theorem dX6_yOf_4 : decode cX6_yOf 4 = .ok (.ireturn, 1) := by decide +kernel
theorem dX6_depthAt_0 : decode cX6_depthAt 0 = .ok (.iload_n 1, 1) := by decide +kernel
theorem dX6_depthAt_1 : decode cX6_depthAt 1 = .ok (.iload_n 2, 1) := by decide +kernel
theorem dX6_depthAt_2 : decode cX6_depthAt 2 = .ok (.invokestatic 28, 3) := by decide +kernel
theorem dX6_depthAt_5 : decode cX6_depthAt 5 = .ok (.ifCond .eq 17, 3) := by decide +kernel
theorem dX6_depthAt_8 : decode cX6_depthAt 8 = .ok (.aload_n 0, 1) := by decide +kernel
theorem dX6_depthAt_9 : decode cX6_depthAt 9 = .ok (.getfield 11, 3) := by decide +kernel
theorem dX6_depthAt_12 : decode cX6_depthAt 12 = .ok (.bipush 24, 2) := by decide +kernel
theorem dX6_depthAt_14 : decode cX6_depthAt 14 = .ok (.iload_n 2, 1) := by decide +kernel
theorem dX6_depthAt_15 : decode cX6_depthAt 15 = .ok (.imul, 1) := by decide +kernel
theorem dX6_depthAt_16 : decode cX6_depthAt 16 = .ok (.iload_n 1, 1) := by decide +kernel
theorem dX6_depthAt_17 : decode cX6_depthAt 17 = .ok (.iadd, 1) := by decide +kernel
theorem dX6_depthAt_18 : decode cX6_depthAt 18 = .ok (.iaload, 1) := by decide +kernel
theorem dX6_depthAt_19 : decode cX6_depthAt 19 = .ok (.goto 4, 3) := by decide +kernel
theorem dX6_depthAt_22 : decode cX6_depthAt 22 = .ok (.iconst 0, 1) := by decide +kernel
theorem dX6_depthAt_23 : decode cX6_depthAt 23 = .ok (.ireturn, 1) := by decide +kernel
theorem dX6_changeDepth_0 : decode cX6_changeDepth 0 = .ok (.iload_n 1, 1) := by decide +kernel
theorem dX6_changeDepth_1 : decode cX6_changeDepth 1 = .ok (.iload_n 2, 1) := by decide +kernel
theorem dX6_changeDepth_2 : decode cX6_changeDepth 2 = .ok (.invokestatic 28, 3) := by decide +kernel
theorem dX6_changeDepth_5 : decode cX6_changeDepth 5 = .ok (.ifCond .ne 5, 3) := by decide +kernel
theorem dX6_changeDepth_8 : decode cX6_changeDepth 8 = .ok (.iconst (-1), 1) := by decide +kernel
theorem dX6_changeDepth_9 : decode cX6_changeDepth 9 = .ok (.ireturn, 1) := by decide +kernel
theorem dX6_changeDepth_10 : decode cX6_changeDepth 10 = .ok (.aload_n 0, 1) := by decide +kernel
theorem dX6_changeDepth_11 : decode cX6_changeDepth 11 = .ok (.getfield 11, 3) := by decide +kernel
theorem dX6_changeDepth_14 : decode cX6_changeDepth 14 = .ok (.bipush 24, 2) := by decide +kernel
theorem dX6_changeDepth_16 : decode cX6_changeDepth 16 = .ok (.iload_n 2, 1) := by decide +kernel
theorem dX6_changeDepth_17 : decode cX6_changeDepth 17 = .ok (.imul, 1) := by decide +kernel
theorem dX6_changeDepth_18 : decode cX6_changeDepth 18 = .ok (.iload_n 1, 1) := by decide +kernel
theorem dX6_changeDepth_19 : decode cX6_changeDepth 19 = .ok (.iadd, 1) := by decide +kernel
theorem dX6_changeDepth_20 : decode cX6_changeDepth 20 = .ok (.iaload, 1) := by decide +kernel
theorem dX6_changeDepth_21 : decode cX6_changeDepth 21 = .ok (.istore 4, 2) := by decide +kernel
theorem dX6_changeDepth_23 : decode cX6_changeDepth 23 = .ok (.aload_n 0, 1) := by decide +kernel
theorem dX6_changeDepth_24 : decode cX6_changeDepth 24 = .ok (.getfield 11, 3) := by decide +kernel
theorem dX6_changeDepth_27 : decode cX6_changeDepth 27 = .ok (.bipush 24, 2) := by decide +kernel
theorem dX6_changeDepth_29 : decode cX6_changeDepth 29 = .ok (.iload_n 2, 1) := by decide +kernel
theorem dX6_changeDepth_30 : decode cX6_changeDepth 30 = .ok (.imul, 1) := by decide +kernel
theorem dX6_changeDepth_31 : decode cX6_changeDepth 31 = .ok (.iload_n 1, 1) := by decide +kernel
theorem dX6_changeDepth_32 : decode cX6_changeDepth 32 = .ok (.iadd, 1) := by decide +kernel
theorem dX6_changeDepth_33 : decode cX6_changeDepth 33 = .ok (.iload_n 3, 1) := by decide +kernel
theorem dX6_changeDepth_34 : decode cX6_changeDepth 34 = .ok (.iastore, 1) := by decide +kernel
theorem dX6_changeDepth_35 : decode cX6_changeDepth 35 = .ok (.iload 4, 2) := by decide +kernel
theorem dX6_changeDepth_37 : decode cX6_changeDepth 37 = .ok (.ireturn, 1) := by decide +kernel
theorem dX6_addPoint_0 : decode cX6_addPoint 0 = .ok (.iload_n 1, 1) := by decide +kernel
theorem dX6_addPoint_1 : decode cX6_addPoint 1 = .ok (.invokestatic 32, 3) := by decide +kernel
theorem dX6_addPoint_4 : decode cX6_addPoint 4 = .ok (.ifCond .eq 14, 3) := by decide +kernel
theorem dX6_addPoint_7 : decode cX6_addPoint 7 = .ok (.aload_n 0, 1) := by decide +kernel
theorem dX6_addPoint_8 : decode cX6_addPoint 8 = .ok (.getfield 21, 3) := by decide +kernel
theorem dX6_addPoint_11 : decode cX6_addPoint 11 = .ok (.iload_n 1, 1) := by decide +kernel
theorem dX6_addPoint_12 : decode cX6_addPoint 12 = .ok (.iaload, 1) := by decide +kernel
theorem dX6_addPoint_13 : decode cX6_addPoint 13 = .ok (.bipush 16, 2) := by decide +kernel
theorem dX6_addPoint_15 : decode cX6_addPoint 15 = .ok (.if_icmp .lt 5, 3) := by decide +kernel
theorem dX6_addPoint_18 : decode cX6_addPoint 18 = .ok (.iconst (-1), 1) := by decide +kernel
theorem dX6_addPoint_19 : decode cX6_addPoint 19 = .ok (.ireturn, 1) := by decide +kernel
theorem dX6_addPoint_20 : decode cX6_addPoint 20 = .ok (.aload_n 0, 1) := by decide +kernel
theorem dX6_addPoint_21 : decode cX6_addPoint 21 = .ok (.getfield 21, 3) := by decide +kernel
theorem dX6_addPoint_24 : decode cX6_addPoint 24 = .ok (.iload_n 1, 1) := by decide +kernel
theorem dX6_addPoint_25 : decode cX6_addPoint 25 = .ok (.iaload, 1) := by decide +kernel
theorem dX6_addPoint_26 : decode cX6_addPoint 26 = .ok (.istore 4, 2) := by decide +kernel
theorem dX6_addPoint_28 : decode cX6_addPoint 28 = .ok (.aload_n 0, 1) := by decide +kernel
theorem dX6_addPoint_29 : decode cX6_addPoint 29 = .ok (.getfield 15, 3) := by decide +kernel
theorem dX6_addPoint_32 : decode cX6_addPoint 32 = .ok (.iload_n 1, 1) := by decide +kernel
theorem dX6_addPoint_33 : decode cX6_addPoint 33 = .ok (.bipush 16, 2) := by decide +kernel
theorem dX6_addPoint_35 : decode cX6_addPoint 35 = .ok (.imul, 1) := by decide +kernel
theorem dX6_addPoint_36 : decode cX6_addPoint 36 = .ok (.iload 4, 2) := by decide +kernel
theorem dX6_addPoint_38 : decode cX6_addPoint 38 = .ok (.iadd, 1) := by decide +kernel
theorem dX6_addPoint_39 : decode cX6_addPoint 39 = .ok (.iload_n 2, 1) := by decide +kernel
theorem dX6_addPoint_40 : decode cX6_addPoint 40 = .ok (.iastore, 1) := by decide +kernel
theorem dX6_addPoint_41 : decode cX6_addPoint 41 = .ok (.aload_n 0, 1) := by decide +kernel
theorem dX6_addPoint_42 : decode cX6_addPoint 42 = .ok (.getfield 18, 3) := by decide +kernel
theorem dX6_addPoint_45 : decode cX6_addPoint 45 = .ok (.iload_n 1, 1) := by decide +kernel
theorem dX6_addPoint_46 : decode cX6_addPoint 46 = .ok (.bipush 16, 2) := by decide +kernel
theorem dX6_addPoint_48 : decode cX6_addPoint 48 = .ok (.imul, 1) := by decide +kernel
theorem dX6_addPoint_49 : decode cX6_addPoint 49 = .ok (.iload 4, 2) := by decide +kernel
theorem dX6_addPoint_51 : decode cX6_addPoint 51 = .ok (.iadd, 1) := by decide +kernel
theorem dX6_addPoint_52 : decode cX6_addPoint 52 = .ok (.iload_n 3, 1) := by decide +kernel
theorem dX6_addPoint_53 : decode cX6_addPoint 53 = .ok (.iastore, 1) := by decide +kernel
theorem dX6_addPoint_54 : decode cX6_addPoint 54 = .ok (.aload_n 0, 1) := by decide +kernel
theorem dX6_addPoint_55 : decode cX6_addPoint 55 = .ok (.getfield 21, 3) := by decide +kernel
theorem dX6_addPoint_58 : decode cX6_addPoint 58 = .ok (.iload_n 1, 1) := by decide +kernel
theorem dX6_addPoint_59 : decode cX6_addPoint 59 = .ok (.iload 4, 2) := by decide +kernel
theorem dX6_addPoint_61 : decode cX6_addPoint 61 = .ok (.iconst 1, 1) := by decide +kernel
theorem dX6_addPoint_62 : decode cX6_addPoint 62 = .ok (.iadd, 1) := by decide +kernel
theorem dX6_addPoint_63 : decode cX6_addPoint 63 = .ok (.iastore, 1) := by decide +kernel
theorem dX6_addPoint_64 : decode cX6_addPoint 64 = .ok (.iload 4, 2) := by decide +kernel
theorem dX6_addPoint_66 : decode cX6_addPoint 66 = .ok (.ireturn, 1) := by decide +kernel
theorem dX6_isNear_0 : decode cX6_isNear 0 = .ok (.iload_n 1, 1) := by decide +kernel
theorem dX6_isNear_1 : decode cX6_isNear 1 = .ok (.invokestatic 32, 3) := by decide +kernel
theorem dX6_isNear_4 : decode cX6_isNear 4 = .ok (.ifCond .ne 5, 3) := by decide +kernel
theorem dX6_isNear_7 : decode cX6_isNear 7 = .ok (.iconst 0, 1) := by decide +kernel
theorem dX6_isNear_8 : decode cX6_isNear 8 = .ok (.ireturn, 1) := by decide +kernel
theorem dX6_isNear_9 : decode cX6_isNear 9 = .ok (.iload_n 1, 1) := by decide +kernel
theorem dX6_isNear_10 : decode cX6_isNear 10 = .ok (.bipush 16, 2) := by decide +kernel
theorem dX6_isNear_12 : decode cX6_isNear 12 = .ok (.imul, 1) := by decide +kernel
theorem dX6_isNear_13 : decode cX6_isNear 13 = .ok (.istore 6, 2) := by decide +kernel
theorem dX6_isNear_15 : decode cX6_isNear 15 = .ok (.iload 6, 2) := by decide +kernel
theorem dX6_isNear_17 : decode cX6_isNear 17 = .ok (.istore 7, 2) := by decide +kernel
theorem dX6_isNear_19 : decode cX6_isNear 19 = .ok (.iload 7, 2) := by decide +kernel
theorem dX6_isNear_21 : decode cX6_isNear 21 = .ok (.iload 6, 2) := by decide +kernel
theorem dX6_isNear_23 : decode cX6_isNear 23 = .ok (.aload_n 0, 1) := by decide +kernel
theorem dX6_isNear_24 : decode cX6_isNear 24 = .ok (.getfield 21, 3) := by decide +kernel
theorem dX6_isNear_27 : decode cX6_isNear 27 = .ok (.iload_n 1, 1) := by decide +kernel
theorem dX6_isNear_28 : decode cX6_isNear 28 = .ok (.iaload, 1) := by decide +kernel
theorem dX6_isNear_29 : decode cX6_isNear 29 = .ok (.iadd, 1) := by decide +kernel
theorem dX6_isNear_30 : decode cX6_isNear 30 = .ok (.if_icmp .ge 81, 3) := by decide +kernel
theorem dX6_isNear_33 : decode cX6_isNear 33 = .ok (.iload_n 3, 1) := by decide +kernel
theorem dX6_isNear_34 : decode cX6_isNear 34 = .ok (.aload_n 0, 1) := by decide +kernel
theorem dX6_isNear_35 : decode cX6_isNear 35 = .ok (.getfield 15, 3) := by decide +kernel
theorem dX6_isNear_38 : decode cX6_isNear 38 = .ok (.iload 7, 2) := by decide +kernel
theorem dX6_isNear_40 : decode cX6_isNear 40 = .ok (.iaload, 1) := by decide +kernel
theorem dX6_isNear_41 : decode cX6_isNear 41 = .ok (.isub, 1) := by decide +kernel
theorem dX6_isNear_42 : decode cX6_isNear 42 = .ok (.iload_n 2, 1) := by decide +kernel
theorem dX6_isNear_43 : decode cX6_isNear 43 = .ok (.iconst 1, 1) := by decide +kernel
theorem dX6_isNear_44 : decode cX6_isNear 44 = .ok (.if_icmp .ne 10, 3) := by decide +kernel
theorem dX6_isNear_47 : decode cX6_isNear 47 = .ok (.aload_n 0, 1) := by decide +kernel
theorem dX6_isNear_48 : decode cX6_isNear 48 = .ok (.getfield 36, 3) := by decide +kernel
theorem dX6_isNear_51 : decode cX6_isNear 51 = .ok (.goto 4, 3) := by decide +kernel
theorem dX6_isNear_54 : decode cX6_isNear 54 = .ok (.iconst 0, 1) := by decide +kernel
theorem dX6_isNear_55 : decode cX6_isNear 55 = .ok (.isub, 1) := by decide +kernel
theorem dX6_isNear_56 : decode cX6_isNear 56 = .ok (.istore 8, 2) := by decide +kernel
theorem dX6_isNear_58 : decode cX6_isNear 58 = .ok (.iload 4, 2) := by decide +kernel
theorem dX6_isNear_60 : decode cX6_isNear 60 = .ok (.aload_n 0, 1) := by decide +kernel
theorem dX6_isNear_61 : decode cX6_isNear 61 = .ok (.getfield 18, 3) := by decide +kernel
theorem dX6_isNear_64 : decode cX6_isNear 64 = .ok (.iload 7, 2) := by decide +kernel
theorem dX6_isNear_66 : decode cX6_isNear 66 = .ok (.iaload, 1) := by decide +kernel
theorem dX6_isNear_67 : decode cX6_isNear 67 = .ok (.isub, 1) := by decide +kernel
theorem dX6_isNear_68 : decode cX6_isNear 68 = .ok (.iload_n 2, 1) := by decide +kernel
theorem dX6_isNear_69 : decode cX6_isNear 69 = .ok (.iconst 1, 1) := by decide +kernel
theorem dX6_isNear_70 : decode cX6_isNear 70 = .ok (.if_icmp .ne 10, 3) := by decide +kernel
theorem dX6_isNear_73 : decode cX6_isNear 73 = .ok (.aload_n 0, 1) := by decide +kernel
theorem dX6_isNear_74 : decode cX6_isNear 74 = .ok (.getfield 40, 3) := by decide +kernel
theorem dX6_isNear_77 : decode cX6_isNear 77 = .ok (.goto 4, 3) := by decide +kernel
theorem dX6_isNear_80 : decode cX6_isNear 80 = .ok (.iconst 0, 1) := by decide +kernel
theorem dX6_isNear_81 : decode cX6_isNear 81 = .ok (.isub, 1) := by decide +kernel
theorem dX6_isNear_82 : decode cX6_isNear 82 = .ok (.istore 9, 2) := by decide +kernel
theorem dX6_isNear_84 : decode cX6_isNear 84 = .ok (.iload 8, 2) := by decide +kernel
theorem dX6_isNear_86 : decode cX6_isNear 86 = .ok (.iload 8, 2) := by decide +kernel
theorem dX6_isNear_88 : decode cX6_isNear 88 = .ok (.imul, 1) := by decide +kernel
theorem dX6_isNear_89 : decode cX6_isNear 89 = .ok (.iload 9, 2) := by decide +kernel
theorem dX6_isNear_91 : decode cX6_isNear 91 = .ok (.iload 9, 2) := by decide +kernel
theorem dX6_isNear_93 : decode cX6_isNear 93 = .ok (.imul, 1) := by decide +kernel
theorem dX6_isNear_94 : decode cX6_isNear 94 = .ok (.iadd, 1) := by decide +kernel
theorem dX6_isNear_95 : decode cX6_isNear 95 = .ok (.iload 5, 2) := by decide +kernel
theorem dX6_isNear_97 : decode cX6_isNear 97 = .ok (.iload 5, 2) := by decide +kernel
theorem dX6_isNear_99 : decode cX6_isNear 99 = .ok (.imul, 1) := by decide +kernel
theorem dX6_isNear_100 : decode cX6_isNear 100 = .ok (.if_icmp .gt 5, 3) := by decide +kernel
theorem dX6_isNear_103 : decode cX6_isNear 103 = .ok (.iconst 1, 1) := by decide +kernel
theorem dX6_isNear_104 : decode cX6_isNear 104 = .ok (.ireturn, 1) := by decide +kernel
theorem dX6_isNear_105 : decode cX6_isNear 105 = .ok (.iinc 7 1, 3) := by decide +kernel
theorem dX6_isNear_108 : decode cX6_isNear 108 = .ok (.goto (-89), 3) := by decide +kernel
theorem dX6_isNear_111 : decode cX6_isNear 111 = .ok (.iconst 0, 1) := by decide +kernel
theorem dX6_isNear_112 : decode cX6_isNear 112 = .ok (.ireturn, 1) := by decide +kernel
theorem dX7_init_0 : decode cX7_init 0 = .ok (.aload_n 0, 1) := by decide +kernel
theorem dX7_init_1 : decode cX7_init 1 = .ok (.invokespecial 3, 3) := by decide +kernel
theorem dX7_init_4 : decode cX7_init 4 = .ok (.aload_n 0, 1) := by decide +kernel
theorem dX7_init_5 : decode cX7_init 5 = .ok (.bipush 40, 2) := by decide +kernel
theorem dX7_init_7 : decode cX7_init 7 = .ok (.newarray .int, 2) := by decide +kernel
theorem dX7_init_9 : decode cX7_init 9 = .ok (.putfield 11, 3) := by decide +kernel
theorem dX7_init_12 : decode cX7_init 12 = .ok (.aload_n 0, 1) := by decide +kernel
theorem dX7_init_13 : decode cX7_init 13 = .ok (.bipush 40, 2) := by decide +kernel
theorem dX7_init_15 : decode cX7_init 15 = .ok (.newarray .int, 2) := by decide +kernel
theorem dX7_init_17 : decode cX7_init 17 = .ok (.putfield 15, 3) := by decide +kernel
theorem dX7_init_20 : decode cX7_init 20 = .ok (.aload_n 0, 1) := by decide +kernel
theorem dX7_init_21 : decode cX7_init 21 = .ok (.bipush 40, 2) := by decide +kernel
theorem dX7_init_23 : decode cX7_init 23 = .ok (.newarray .int, 2) := by decide +kernel
theorem dX7_init_25 : decode cX7_init 25 = .ok (.putfield 18, 3) := by decide +kernel
theorem dX7_init_28 : decode cX7_init 28 = .ok (.aload_n 0, 1) := by decide +kernel
theorem dX7_init_29 : decode cX7_init 29 = .ok (.bipush 40, 2) := by decide +kernel
theorem dX7_init_31 : decode cX7_init 31 = .ok (.newarray .int, 2) := by decide +kernel
theorem dX7_init_33 : decode cX7_init 33 = .ok (.putfield 21, 3) := by decide +kernel
theorem dX7_init_36 : decode cX7_init 36 = .ok (.return_, 1) := by decide +kernel
theorem dX7_has_0 : decode cX7_has 0 = .ok (.iload_n 1, 1) := by decide +kernel
theorem dX7_has_1 : decode cX7_has 1 = .ok (.ifCond .lt 15, 3) := by decide +kernel
theorem dX7_has_4 : decode cX7_has 4 = .ok (.iload_n 1, 1) := by decide +kernel
theorem dX7_has_5 : decode cX7_has 5 = .ok (.aload_n 0, 1) := by decide +kernel
theorem dX7_has_6 : decode cX7_has 6 = .ok (.getfield 24, 3) := by decide +kernel
theorem dX7_has_9 : decode cX7_has 9 = .ok (.if_icmp .ge 7, 3) := by decide +kernel
theorem dX7_has_12 : decode cX7_has 12 = .ok (.iconst 1, 1) := by decide +kernel
theorem dX7_has_13 : decode cX7_has 13 = .ok (.goto 4, 3) := by decide +kernel
theorem dX7_has_16 : decode cX7_has 16 = .ok (.iconst 0, 1) := by decide +kernel
theorem dX7_has_17 : decode cX7_has 17 = .ok (.ireturn, 1) := by decide +kernel
theorem dX7_add_0 : decode cX7_add 0 = .ok (.aload_n 0, 1) := by decide +kernel
theorem dX7_add_1 : decode cX7_add 1 = .ok (.getfield 24, 3) := by decide +kernel
theorem dX7_add_4 : decode cX7_add 4 = .ok (.bipush 40, 2) := by decide +kernel
theorem dX7_add_6 : decode cX7_add 6 = .ok (.if_icmp .lt 5, 3) := by decide +kernel
theorem dX7_add_9 : decode cX7_add 9 = .ok (.iconst (-1), 1) := by decide +kernel
theorem dX7_add_10 : decode cX7_add 10 = .ok (.ireturn, 1) := by decide +kernel
theorem dX7_add_11 : decode cX7_add 11 = .ok (.aload_n 0, 1) := by decide +kernel
theorem dX7_add_12 : decode cX7_add 12 = .ok (.getfield 11, 3) := by decide +kernel
theorem dX7_add_15 : decode cX7_add 15 = .ok (.aload_n 0, 1) := by decide +kernel
theorem dX7_add_16 : decode cX7_add 16 = .ok (.getfield 24, 3) := by decide +kernel
theorem dX7_add_19 : decode cX7_add 19 = .ok (.iload_n 1, 1) := by decide +kernel
theorem dX7_add_20 : decode cX7_add 20 = .ok (.iastore, 1) := by decide +kernel
theorem dX7_add_21 : decode cX7_add 21 = .ok (.aload_n 0, 1) := by decide +kernel
theorem dX7_add_22 : decode cX7_add 22 = .ok (.getfield 15, 3) := by decide +kernel
theorem dX7_add_25 : decode cX7_add 25 = .ok (.aload_n 0, 1) := by decide +kernel
theorem dX7_add_26 : decode cX7_add 26 = .ok (.getfield 24, 3) := by decide +kernel
theorem dX7_add_29 : decode cX7_add 29 = .ok (.iload_n 2, 1) := by decide +kernel
theorem dX7_add_30 : decode cX7_add 30 = .ok (.iastore, 1) := by decide +kernel
theorem dX7_add_31 : decode cX7_add 31 = .ok (.aload_n 0, 1) := by decide +kernel
theorem dX7_add_32 : decode cX7_add 32 = .ok (.getfield 18, 3) := by decide +kernel
theorem dX7_add_35 : decode cX7_add 35 = .ok (.aload_n 0, 1) := by decide +kernel
theorem dX7_add_36 : decode cX7_add 36 = .ok (.getfield 24, 3) := by decide +kernel
theorem dX7_add_39 : decode cX7_add 39 = .ok (.iload_n 3, 1) := by decide +kernel
theorem dX7_add_40 : decode cX7_add 40 = .ok (.iastore, 1) := by decide +kernel
theorem dX7_add_41 : decode cX7_add 41 = .ok (.aload_n 0, 1) := by decide +kernel
theorem dX7_add_42 : decode cX7_add 42 = .ok (.getfield 21, 3) := by decide +kernel
theorem dX7_add_45 : decode cX7_add 45 = .ok (.aload_n 0, 1) := by decide +kernel
theorem dX7_add_46 : decode cX7_add 46 = .ok (.getfield 24, 3) := by decide +kernel
theorem dX7_add_49 : decode cX7_add 49 = .ok (.iload 4, 2) := by decide +kernel
theorem dX7_add_51 : decode cX7_add 51 = .ok (.iastore, 1) := by decide +kernel
theorem dX7_add_52 : decode cX7_add 52 = .ok (.aload_n 0, 1) := by decide +kernel
theorem dX7_add_53 : decode cX7_add 53 = .ok (.dup, 1) := by decide +kernel
theorem dX7_add_54 : decode cX7_add 54 = .ok (.getfield 24, 3) := by decide +kernel
theorem dX7_add_57 : decode cX7_add 57 = .ok (.iconst 1, 1) := by decide +kernel
theorem dX7_add_58 : decode cX7_add 58 = .ok (.iadd, 1) := by decide +kernel
theorem dX7_add_59 : decode cX7_add 59 = .ok (.putfield 24, 3) := by decide +kernel
theorem dX7_add_62 : decode cX7_add 62 = .ok (.aload_n 0, 1) := by decide +kernel
theorem dX7_add_63 : decode cX7_add 63 = .ok (.getfield 24, 3) := by decide +kernel
theorem dX7_add_66 : decode cX7_add 66 = .ok (.iconst 1, 1) := by decide +kernel
theorem dX7_add_67 : decode cX7_add 67 = .ok (.isub, 1) := by decide +kernel
theorem dX7_add_68 : decode cX7_add 68 = .ok (.ireturn, 1) := by decide +kernel
theorem dX8_init_0 : decode cX8_init 0 = .ok (.aload_n 0, 1) := by decide +kernel
theorem dX8_init_1 : decode cX8_init 1 = .ok (.invokespecial 3, 3) := by decide +kernel
theorem dX8_init_4 : decode cX8_init 4 = .ok (.aload_n 0, 1) := by decide +kernel
theorem dX8_init_5 : decode cX8_init 5 = .ok (.iconst 2, 1) := by decide +kernel
theorem dX8_init_6 : decode cX8_init 6 = .ok (.newarray .int, 2) := by decide +kernel
theorem dX8_init_8 : decode cX8_init 8 = .ok (.putfield 9, 3) := by decide +kernel
theorem dX8_init_11 : decode cX8_init 11 = .ok (.aload_n 0, 1) := by decide +kernel
theorem dX8_init_12 : decode cX8_init 12 = .ok (.iconst 2, 1) := by decide +kernel
theorem dX8_init_13 : decode cX8_init 13 = .ok (.newarray .int, 2) := by decide +kernel
theorem dX8_init_15 : decode cX8_init 15 = .ok (.putfield 15, 3) := by decide +kernel
theorem dX8_init_18 : decode cX8_init 18 = .ok (.aload_n 0, 1) := by decide +kernel
theorem dX8_init_19 : decode cX8_init 19 = .ok (.bipush 120, 2) := by decide +kernel
theorem dX8_init_21 : decode cX8_init 21 = .ok (.newarray .int, 2) := by decide +kernel
theorem dX8_init_23 : decode cX8_init 23 = .ok (.putfield 18, 3) := by decide +kernel
theorem dX8_init_26 : decode cX8_init 26 = .ok (.aload_n 0, 1) := by decide +kernel
theorem dX8_init_27 : decode cX8_init 27 = .ok (.bipush 8, 2) := by decide +kernel
theorem dX8_init_29 : decode cX8_init 29 = .ok (.newarray .int, 2) := by decide +kernel
theorem dX8_init_31 : decode cX8_init 31 = .ok (.putfield 21, 3) := by decide +kernel
theorem dX8_init_34 : decode cX8_init 34 = .ok (.aload_n 0, 1) := by decide +kernel
theorem dX8_init_35 : decode cX8_init 35 = .ok (.bipush 8, 2) := by decide +kernel
theorem dX8_init_37 : decode cX8_init 37 = .ok (.newarray .int, 2) := by decide +kernel
theorem dX8_init_39 : decode cX8_init 39 = .ok (.putfield 24, 3) := by decide +kernel
theorem dX8_init_42 : decode cX8_init 42 = .ok (.aload_n 0, 1) := by decide +kernel
theorem dX8_init_43 : decode cX8_init 43 = .ok (.bipush 8, 2) := by decide +kernel
theorem dX8_init_45 : decode cX8_init 45 = .ok (.newarray .int, 2) := by decide +kernel
theorem dX8_init_47 : decode cX8_init 47 = .ok (.putfield 27, 3) := by decide +kernel
theorem dX8_init_50 : decode cX8_init 50 = .ok (.aload_n 0, 1) := by decide +kernel
theorem dX8_init_51 : decode cX8_init 51 = .ok (.bipush 8, 2) := by decide +kernel
theorem dX8_init_53 : decode cX8_init 53 = .ok (.newarray .long, 2) := by decide +kernel
theorem dX8_init_55 : decode cX8_init 55 = .ok (.putfield 30, 3) := by decide +kernel
theorem dX8_init_58 : decode cX8_init 58 = .ok (.aload_n 0, 1) := by decide +kernel
theorem dX8_init_59 : decode cX8_init 59 = .ok (.bipush 8, 2) := by decide +kernel
theorem dX8_init_61 : decode cX8_init 61 = .ok (.newarray .long, 2) := by decide +kernel
theorem dX8_init_63 : decode cX8_init 63 = .ok (.putfield 34, 3) := by decide +kernel
theorem dX8_init_66 : decode cX8_init 66 = .ok (.return_, 1) := by decide +kernel
theorem dX8_isYear_0 : decode cX8_isYear 0 = .ok (.iload_n 0, 1) := by decide +kernel
theorem dX8_isYear_1 : decode cX8_isYear 1 = .ok (.iconst 0, 1) := by decide +kernel
theorem dX8_isYear_2 : decode cX8_isYear 2 = .ok (.bipush 39, 2) := by decide +kernel
theorem dX8_isYear_4 : decode cX8_isYear 4 = .ok (.invokestatic 37, 3) := by decide +kernel
theorem dX8_isYear_7 : decode cX8_isYear 7 = .ok (.ireturn, 1) := by decide +kernel
theorem dX8_changeYear_0 : decode cX8_changeYear 0 = .ok (.iload_n 1, 1) := by decide +kernel
theorem dX8_changeYear_1 : decode cX8_changeYear 1 = .ok (.iconst 0, 1) := by decide +kernel
theorem dX8_changeYear_2 : decode cX8_changeYear 2 = .ok (.iconst 2, 1) := by decide +kernel
theorem dX8_changeYear_3 : decode cX8_changeYear 3 = .ok (.invokestatic 37, 3) := by decide +kernel
theorem dX8_changeYear_6 : decode cX8_changeYear 6 = .ok (.ifCond .eq 10, 3) := by decide +kernel
theorem dX8_changeYear_9 : decode cX8_changeYear 9 = .ok (.iload_n 2, 1) := by decide +kernel
theorem dX8_changeYear_10 : decode cX8_changeYear 10 = .ok (.invokestatic 41, 3) := by decide +kernel
theorem dX8_changeYear_13 : decode cX8_changeYear 13 = .ok (.ifCond .ne 5, 3) := by decide +kernel
theorem dX8_changeYear_16 : decode cX8_changeYear 16 = .ok (.iconst (-1), 1) := by decide +kernel
theorem dX8_changeYear_17 : decode cX8_changeYear 17 = .ok (.ireturn, 1) := by decide +kernel
theorem dX8_changeYear_18 : decode cX8_changeYear 18 = .ok (.aload_n 0, 1) := by decide +kernel
theorem dX8_changeYear_19 : decode cX8_changeYear 19 = .ok (.getfield 18, 3) := by decide +kernel
theorem dX8_changeYear_22 : decode cX8_changeYear 22 = .ok (.iload_n 1, 1) := by decide +kernel
theorem dX8_changeYear_23 : decode cX8_changeYear 23 = .ok (.bipush 40, 2) := by decide +kernel
theorem dX8_changeYear_25 : decode cX8_changeYear 25 = .ok (.imul, 1) := by decide +kernel
theorem dX8_changeYear_26 : decode cX8_changeYear 26 = .ok (.iload_n 2, 1) := by decide +kernel
theorem dX8_changeYear_27 : decode cX8_changeYear 27 = .ok (.iadd, 1) := by decide +kernel
theorem dX8_changeYear_28 : decode cX8_changeYear 28 = .ok (.iaload, 1) := by decide +kernel
theorem dX8_changeYear_29 : decode cX8_changeYear 29 = .ok (.istore 4, 2) := by decide +kernel
theorem dX8_changeYear_31 : decode cX8_changeYear 31 = .ok (.aload_n 0, 1) := by decide +kernel
theorem dX8_changeYear_32 : decode cX8_changeYear 32 = .ok (.getfield 18, 3) := by decide +kernel
theorem dX8_changeYear_35 : decode cX8_changeYear 35 = .ok (.iload_n 1, 1) := by decide +kernel
theorem dX8_changeYear_36 : decode cX8_changeYear 36 = .ok (.bipush 40, 2) := by decide +kernel
theorem dX8_changeYear_38 : decode cX8_changeYear 38 = .ok (.imul, 1) := by decide +kernel
theorem dX8_changeYear_39 : decode cX8_changeYear 39 = .ok (.iload_n 2, 1) := by decide +kernel
theorem dX8_changeYear_40 : decode cX8_changeYear 40 = .ok (.iadd, 1) := by decide +kernel
theorem dX8_changeYear_41 : decode cX8_changeYear 41 = .ok (.iload_n 3, 1) := by decide +kernel
theorem dX8_changeYear_42 : decode cX8_changeYear 42 = .ok (.iastore, 1) := by decide +kernel
theorem dX8_changeYear_43 : decode cX8_changeYear 43 = .ok (.iload 4, 2) := by decide +kernel
theorem dX8_changeYear_45 : decode cX8_changeYear 45 = .ok (.ireturn, 1) := by decide +kernel
theorem dX8_toldOf_0 : decode cX8_toldOf 0 = .ok (.iload_n 1, 1) := by decide +kernel
theorem dX8_toldOf_1 : decode cX8_toldOf 1 = .ok (.iconst 0, 1) := by decide +kernel
theorem dX8_toldOf_2 : decode cX8_toldOf 2 = .ok (.iconst 2, 1) := by decide +kernel
theorem dX8_toldOf_3 : decode cX8_toldOf 3 = .ok (.invokestatic 37, 3) := by decide +kernel
theorem dX8_toldOf_6 : decode cX8_toldOf 6 = .ok (.ifCond .eq 24, 3) := by decide +kernel
theorem dX8_toldOf_9 : decode cX8_toldOf 9 = .ok (.iload_n 2, 1) := by decide +kernel
theorem dX8_toldOf_10 : decode cX8_toldOf 10 = .ok (.invokestatic 41, 3) := by decide +kernel
theorem dX8_toldOf_13 : decode cX8_toldOf 13 = .ok (.ifCond .eq 17, 3) := by decide +kernel
theorem dX8_toldOf_16 : decode cX8_toldOf 16 = .ok (.aload_n 0, 1) := by decide +kernel
theorem dX8_toldOf_17 : decode cX8_toldOf 17 = .ok (.getfield 18, 3) := by decide +kernel
theorem dX8_toldOf_20 : decode cX8_toldOf 20 = .ok (.iload_n 1, 1) := by decide +kernel
theorem dX8_toldOf_21 : decode cX8_toldOf 21 = .ok (.bipush 40, 2) := by decide +kernel
theorem dX8_toldOf_23 : decode cX8_toldOf 23 = .ok (.imul, 1) := by decide +kernel
theorem dX8_toldOf_24 : decode cX8_toldOf 24 = .ok (.iload_n 2, 1) := by decide +kernel
theorem dX8_toldOf_25 : decode cX8_toldOf 25 = .ok (.iadd, 1) := by decide +kernel
theorem dX8_toldOf_26 : decode cX8_toldOf 26 = .ok (.iaload, 1) := by decide +kernel
theorem dX8_toldOf_27 : decode cX8_toldOf 27 = .ok (.goto 4, 3) := by decide +kernel
theorem dX8_toldOf_30 : decode cX8_toldOf 30 = .ok (.iconst 0, 1) := by decide +kernel
theorem dX8_toldOf_31 : decode cX8_toldOf 31 = .ok (.ireturn, 1) := by decide +kernel
theorem dX8_nextStock_0 : decode cX8_nextStock 0 = .ok (.lconst 0, 1) := by decide +kernel
theorem dX8_nextStock_1 : decode cX8_nextStock 1 = .ok (.lload 4, 2) := by decide +kernel
theorem dX8_nextStock_3 : decode cX8_nextStock 3 = .ok (.aload_n 0, 1) := by decide +kernel
theorem dX8_nextStock_4 : decode cX8_nextStock 4 = .ok (.iconst 2, 1) := by decide +kernel
theorem dX8_nextStock_5 : decode cX8_nextStock 5 = .ok (.iload_n 2, 1) := by decide +kernel
theorem dX8_nextStock_6 : decode cX8_nextStock 6 = .ok (.invokevirtual 45, 3) := by decide +kernel
theorem dX8_nextStock_9 : decode cX8_nextStock 9 = .ok (.i2l, 1) := by decide +kernel
theorem dX8_nextStock_10 : decode cX8_nextStock 10 = .ok (.lsub, 1) := by decide +kernel
theorem dX8_nextStock_11 : decode cX8_nextStock 11 = .ok (.invokestatic 49, 3) := by decide +kernel
theorem dX8_nextStock_14 : decode cX8_nextStock 14 = .ok (.lstore 6, 2) := by decide +kernel
theorem dX8_nextStock_16 : decode cX8_nextStock 16 = .ok (.lload 6, 2) := by decide +kernel
theorem dX8_nextStock_18 : decode cX8_nextStock 18 = .ok (.sipush 1000, 3) := by decide +kernel
theorem dX8_nextStock_21 : decode cX8_nextStock 21 = .ok (.iload_n 3, 1) := by decide +kernel
theorem dX8_nextStock_22 : decode cX8_nextStock 22 = .ok (.isub, 1) := by decide +kernel
theorem dX8_nextStock_23 : decode cX8_nextStock 23 = .ok (.i2l, 1) := by decide +kernel
theorem dX8_nextStock_24 : decode cX8_nextStock 24 = .ok (.lmul, 1) := by decide +kernel
theorem dX8_nextStock_25 : decode cX8_nextStock 25 = .ok (.ldc2_w 55, 3) := by decide +kernel
theorem dX8_nextStock_28 : decode cX8_nextStock 28 = .ok (.ldiv, 1) := by decide +kernel
theorem dX8_nextStock_29 : decode cX8_nextStock 29 = .ok (.aload_n 0, 1) := by decide +kernel
theorem dX8_nextStock_30 : decode cX8_nextStock 30 = .ok (.iload_n 1, 1) := by decide +kernel
theorem dX8_nextStock_31 : decode cX8_nextStock 31 = .ok (.iload_n 2, 1) := by decide +kernel
theorem dX8_nextStock_32 : decode cX8_nextStock 32 = .ok (.invokevirtual 45, 3) := by decide +kernel
theorem dX8_nextStock_35 : decode cX8_nextStock 35 = .ok (.i2l, 1) := by decide +kernel
theorem dX8_nextStock_36 : decode cX8_nextStock 36 = .ok (.ladd, 1) := by decide +kernel
theorem dX8_nextStock_37 : decode cX8_nextStock 37 = .ok (.lreturn, 1) := by decide +kernel
theorem dX8_stockWith_0 : decode cX8_stockWith 0 = .ok (.iload_n 1, 1) := by decide +kernel
theorem dX8_stockWith_1 : decode cX8_stockWith 1 = .ok (.iconst 0, 1) := by decide +kernel
theorem dX8_stockWith_2 : decode cX8_stockWith 2 = .ok (.iconst 1, 1) := by decide +kernel
theorem dX8_stockWith_3 : decode cX8_stockWith 3 = .ok (.invokestatic 37, 3) := by decide +kernel
theorem dX8_stockWith_6 : decode cX8_stockWith 6 = .ok (.ifCond .ne 7, 3) := by decide +kernel
theorem dX8_stockWith_9 : decode cX8_stockWith 9 = .ok (.ldc2_w 57, 3) := by decide +kernel
theorem dX8_stockWith_12 : decode cX8_stockWith 12 = .ok (.lreturn, 1) := by decide +kernel
theorem dX8_stockWith_13 : decode cX8_stockWith 13 = .ok (.aload_n 0, 1) := by decide +kernel
theorem dX8_stockWith_14 : decode cX8_stockWith 14 = .ok (.getfield 9, 3) := by decide +kernel
theorem dX8_stockWith_17 : decode cX8_stockWith 17 = .ok (.iload_n 1, 1) := by decide +kernel
theorem dX8_stockWith_18 : decode cX8_stockWith 18 = .ok (.iaload, 1) := by decide +kernel
theorem dX8_stockWith_19 : decode cX8_stockWith 19 = .ok (.i2l, 1) := by decide +kernel
theorem dX8_stockWith_20 : decode cX8_stockWith 20 = .ok (.lstore 4, 2) := by decide +kernel
theorem dX8_stockWith_22 : decode cX8_stockWith 22 = .ok (.iconst 0, 1) := by decide +kernel
theorem dX8_stockWith_23 : decode cX8_stockWith 23 = .ok (.istore 6, 2) := by decide +kernel
theorem dX8_stockWith_25 : decode cX8_stockWith 25 = .ok (.iload 6, 2) := by decide +kernel
theorem dX8_stockWith_27 : decode cX8_stockWith 27 = .ok (.iload_n 2, 1) := by decide +kernel
theorem dX8_stockWith_28 : decode cX8_stockWith 28 = .ok (.if_icmp .ge 21, 3) := by decide +kernel
theorem dX8_stockWith_31 : decode cX8_stockWith 31 = .ok (.aload_n 0, 1) := by decide +kernel
theorem dX8_stockWith_32 : decode cX8_stockWith 32 = .ok (.iload_n 1, 1) := by decide +kernel
theorem dX8_stockWith_33 : decode cX8_stockWith 33 = .ok (.iload 6, 2) := by decide +kernel
theorem dX8_stockWith_35 : decode cX8_stockWith 35 = .ok (.iload_n 3, 1) := by decide +kernel
theorem dX8_stockWith_36 : decode cX8_stockWith 36 = .ok (.lload 4, 2) := by decide +kernel
theorem dX8_stockWith_38 : decode cX8_stockWith 38 = .ok (.invokevirtual 59, 3) := by decide +kernel
theorem dX8_stockWith_41 : decode cX8_stockWith 41 = .ok (.lstore 4, 2) := by decide +kernel
theorem dX8_stockWith_43 : decode cX8_stockWith 43 = .ok (.iinc 6 1, 3) := by decide +kernel
theorem dX8_stockWith_46 : decode cX8_stockWith 46 = .ok (.goto (-21), 3) := by decide +kernel
theorem dX8_stockWith_49 : decode cX8_stockWith 49 = .ok (.lload 4, 2) := by decide +kernel
theorem dX8_stockWith_51 : decode cX8_stockWith 51 = .ok (.lreturn, 1) := by decide +kernel
theorem dX8_failsIn_0 : decode cX8_failsIn 0 = .ok (.iload_n 1, 1) := by decide +kernel
theorem dX8_failsIn_1 : decode cX8_failsIn 1 = .ok (.iconst 0, 1) := by decide +kernel
theorem dX8_failsIn_2 : decode cX8_failsIn 2 = .ok (.iconst 1, 1) := by decide +kernel
theorem dX8_failsIn_3 : decode cX8_failsIn 3 = .ok (.invokestatic 37, 3) := by decide +kernel
theorem dX8_failsIn_6 : decode cX8_failsIn 6 = .ok (.ifCond .ne 5, 3) := by decide +kernel
theorem dX8_failsIn_9 : decode cX8_failsIn 9 = .ok (.iconst (-1), 1) := by decide +kernel
theorem dX8_failsIn_10 : decode cX8_failsIn 10 = .ok (.ireturn, 1) := by decide +kernel
theorem dX8_failsIn_11 : decode cX8_failsIn 11 = .ok (.aload_n 0, 1) := by decide +kernel
theorem dX8_failsIn_12 : decode cX8_failsIn 12 = .ok (.getfield 9, 3) := by decide +kernel
theorem dX8_failsIn_15 : decode cX8_failsIn 15 = .ok (.iload_n 1, 1) := by decide +kernel
theorem dX8_failsIn_16 : decode cX8_failsIn 16 = .ok (.iaload, 1) := by decide +kernel
theorem dX8_failsIn_17 : decode cX8_failsIn 17 = .ok (.i2l, 1) := by decide +kernel
theorem dX8_failsIn_18 : decode cX8_failsIn 18 = .ok (.lstore_n 2, 1) := by decide +kernel
theorem dX8_failsIn_19 : decode cX8_failsIn 19 = .ok (.iconst 0, 1) := by decide +kernel
theorem dX8_failsIn_20 : decode cX8_failsIn 20 = .ok (.istore 4, 2) := by decide +kernel
theorem dX8_failsIn_22 : decode cX8_failsIn 22 = .ok (.iload 4, 2) := by decide +kernel
theorem dX8_failsIn_24 : decode cX8_failsIn 24 = .ok (.bipush 40, 2) := by decide +kernel
theorem dX8_failsIn_26 : decode cX8_failsIn 26 = .ok (.if_icmp .ge 40, 3) := by decide +kernel
theorem dX8_failsIn_29 : decode cX8_failsIn 29 = .ok (.aload_n 0, 1) := by decide +kernel
theorem dX8_failsIn_30 : decode cX8_failsIn 30 = .ok (.iconst 2, 1) := by decide +kernel
theorem dX8_failsIn_31 : decode cX8_failsIn 31 = .ok (.iload 4, 2) := by decide +kernel
theorem dX8_failsIn_33 : decode cX8_failsIn 33 = .ok (.invokevirtual 45, 3) := by decide +kernel
theorem dX8_failsIn_36 : decode cX8_failsIn 36 = .ok (.i2l, 1) := by decide +kernel
theorem dX8_failsIn_37 : decode cX8_failsIn 37 = .ok (.lload_n 2, 1) := by decide +kernel
theorem dX8_failsIn_38 : decode cX8_failsIn 38 = .ok (.lcmp, 1) := by decide +kernel
theorem dX8_failsIn_39 : decode cX8_failsIn 39 = .ok (.ifCond .le 6, 3) := by decide +kernel
theorem dX8_failsIn_42 : decode cX8_failsIn 42 = .ok (.iload 4, 2) := by decide +kernel
theorem dX8_failsIn_44 : decode cX8_failsIn 44 = .ok (.ireturn, 1) := by decide +kernel
theorem dX8_failsIn_45 : decode cX8_failsIn 45 = .ok (.aload_n 0, 1) := by decide +kernel
theorem dX8_failsIn_46 : decode cX8_failsIn 46 = .ok (.iload_n 1, 1) := by decide +kernel
theorem dX8_failsIn_47 : decode cX8_failsIn 47 = .ok (.iload 4, 2) := by decide +kernel
theorem dX8_failsIn_49 : decode cX8_failsIn 49 = .ok (.aload_n 0, 1) := by decide +kernel
theorem dX8_failsIn_50 : decode cX8_failsIn 50 = .ok (.getfield 15, 3) := by decide +kernel
theorem dX8_failsIn_53 : decode cX8_failsIn 53 = .ok (.iload_n 1, 1) := by decide +kernel
theorem dX8_failsIn_54 : decode cX8_failsIn 54 = .ok (.iaload, 1) := by decide +kernel
theorem dX8_failsIn_55 : decode cX8_failsIn 55 = .ok (.lload_n 2, 1) := by decide +kernel
theorem dX8_failsIn_56 : decode cX8_failsIn 56 = .ok (.invokevirtual 59, 3) := by decide +kernel
theorem dX8_failsIn_59 : decode cX8_failsIn 59 = .ok (.lstore_n 2, 1) := by decide +kernel
theorem dX8_failsIn_60 : decode cX8_failsIn 60 = .ok (.iinc 4 1, 3) := by decide +kernel
theorem dX8_failsIn_63 : decode cX8_failsIn 63 = .ok (.goto (-41), 3) := by decide +kernel
theorem dX8_failsIn_66 : decode cX8_failsIn 66 = .ok (.bipush (-2), 2) := by decide +kernel
theorem dX8_failsIn_68 : decode cX8_failsIn 68 = .ok (.ireturn, 1) := by decide +kernel
theorem dX8_nearestLoss_0 : decode cX8_nearestLoss 0 = .ok (.aload_n 0, 1) := by decide +kernel
theorem dX8_nearestLoss_1 : decode cX8_nearestLoss 1 = .ok (.iload_n 1, 1) := by decide +kernel
theorem dX8_nearestLoss_2 : decode cX8_nearestLoss 2 = .ok (.iload_n 2, 1) := by decide +kernel
theorem dX8_nearestLoss_3 : decode cX8_nearestLoss 3 = .ok (.lload_n 3, 1) := by decide +kernel
theorem dX8_nearestLoss_4 : decode cX8_nearestLoss 4 = .ok (.invokevirtual 63, 3) := by decide +kernel
theorem dX8_nearestLoss_7 : decode cX8_nearestLoss 7 = .ok (.istore 5, 2) := by decide +kernel
theorem dX8_nearestLoss_9 : decode cX8_nearestLoss 9 = .ok (.iload 5, 2) := by decide +kernel
theorem dX8_nearestLoss_11 : decode cX8_nearestLoss 11 = .ok (.ifCond .ne 5, 3) := by decide +kernel
theorem dX8_nearestLoss_14 : decode cX8_nearestLoss 14 = .ok (.iconst 0, 1) := by decide +kernel
theorem dX8_nearestLoss_15 : decode cX8_nearestLoss 15 = .ok (.ireturn, 1) := by decide +kernel
theorem dX8_nearestLoss_16 : decode cX8_nearestLoss 16 = .ok (.aload_n 0, 1) := by decide +kernel
theorem dX8_nearestLoss_17 : decode cX8_nearestLoss 17 = .ok (.iload_n 1, 1) := by decide +kernel
theorem dX8_nearestLoss_18 : decode cX8_nearestLoss 18 = .ok (.iload_n 2, 1) := by decide +kernel
theorem dX8_nearestLoss_19 : decode cX8_nearestLoss 19 = .ok (.iload 5, 2) := by decide +kernel
theorem dX8_nearestLoss_21 : decode cX8_nearestLoss 21 = .ok (.iconst 1, 1) := by decide +kernel
theorem dX8_nearestLoss_22 : decode cX8_nearestLoss 22 = .ok (.isub, 1) := by decide +kernel
theorem dX8_nearestLoss_23 : decode cX8_nearestLoss 23 = .ok (.invokevirtual 67, 3) := by decide +kernel
theorem dX8_nearestLoss_26 : decode cX8_nearestLoss 26 = .ok (.lstore 6, 2) := by decide +kernel
theorem dX8_nearestLoss_28 : decode cX8_nearestLoss 28 = .ok (.aload_n 0, 1) := by decide +kernel
theorem dX8_nearestLoss_29 : decode cX8_nearestLoss 29 = .ok (.iload_n 1, 1) := by decide +kernel
theorem dX8_nearestLoss_30 : decode cX8_nearestLoss 30 = .ok (.iload_n 2, 1) := by decide +kernel
theorem dX8_nearestLoss_31 : decode cX8_nearestLoss 31 = .ok (.iload 5, 2) := by decide +kernel
theorem dX8_nearestLoss_33 : decode cX8_nearestLoss 33 = .ok (.sipush 1000, 3) := by decide +kernel
theorem dX8_nearestLoss_36 : decode cX8_nearestLoss 36 = .ok (.invokestatic 71, 3) := by decide +kernel
theorem dX8_nearestLoss_39 : decode cX8_nearestLoss 39 = .ok (.invokevirtual 67, 3) := by decide +kernel
theorem dX8_nearestLoss_42 : decode cX8_nearestLoss 42 = .ok (.lstore 8, 2) := by decide +kernel
theorem dX8_nearestLoss_44 : decode cX8_nearestLoss 44 = .ok (.iload 5, 2) := by decide +kernel
theorem dX8_nearestLoss_46 : decode cX8_nearestLoss 46 = .ok (.sipush 1000, 3) := by decide +kernel
theorem dX8_nearestLoss_49 : decode cX8_nearestLoss 49 = .ok (.if_icmp .gt 18, 3) := by decide +kernel
theorem dX8_nearestLoss_52 : decode cX8_nearestLoss 52 = .ok (.lload_n 3, 1) := by decide +kernel
theorem dX8_nearestLoss_53 : decode cX8_nearestLoss 53 = .ok (.lload 8, 2) := by decide +kernel
theorem dX8_nearestLoss_55 : decode cX8_nearestLoss 55 = .ok (.lsub, 1) := by decide +kernel
theorem dX8_nearestLoss_56 : decode cX8_nearestLoss 56 = .ok (.lload 6, 2) := by decide +kernel
theorem dX8_nearestLoss_58 : decode cX8_nearestLoss 58 = .ok (.lload_n 3, 1) := by decide +kernel
theorem dX8_nearestLoss_59 : decode cX8_nearestLoss 59 = .ok (.lsub, 1) := by decide +kernel
theorem dX8_nearestLoss_60 : decode cX8_nearestLoss 60 = .ok (.lcmp, 1) := by decide +kernel
theorem dX8_nearestLoss_61 : decode cX8_nearestLoss 61 = .ok (.ifCond .ge 6, 3) := by decide +kernel
theorem dX8_nearestLoss_64 : decode cX8_nearestLoss 64 = .ok (.iload 5, 2) := by decide +kernel
theorem dX8_nearestLoss_66 : decode cX8_nearestLoss 66 = .ok (.ireturn, 1) := by decide +kernel
theorem dX8_nearestLoss_67 : decode cX8_nearestLoss 67 = .ok (.aload_n 0, 1) := by decide +kernel
theorem dX8_nearestLoss_68 : decode cX8_nearestLoss 68 = .ok (.iload_n 1, 1) := by decide +kernel
theorem dX8_nearestLoss_69 : decode cX8_nearestLoss 69 = .ok (.iload_n 2, 1) := by decide +kernel
theorem dX8_nearestLoss_70 : decode cX8_nearestLoss 70 = .ok (.lload 6, 2) := by decide +kernel
theorem dX8_nearestLoss_72 : decode cX8_nearestLoss 72 = .ok (.invokevirtual 63, 3) := by decide +kernel
theorem dX8_nearestLoss_75 : decode cX8_nearestLoss 75 = .ok (.ireturn, 1) := by decide +kernel
theorem dX8_leastLoss_0 : decode cX8_leastLoss 0 = .ok (.iconst 0, 1) := by decide +kernel
theorem dX8_leastLoss_1 : decode cX8_leastLoss 1 = .ok (.istore 5, 2) := by decide +kernel
theorem dX8_leastLoss_3 : decode cX8_leastLoss 3 = .ok (.sipush 1001, 3) := by decide +kernel
theorem dX8_leastLoss_6 : decode cX8_leastLoss 6 = .ok (.istore 6, 2) := by decide +kernel
theorem dX8_leastLoss_8 : decode cX8_leastLoss 8 = .ok (.iconst 0, 1) := by decide +kernel
theorem dX8_leastLoss_9 : decode cX8_leastLoss 9 = .ok (.istore 7, 2) := by decide +kernel
theorem dX8_leastLoss_11 : decode cX8_leastLoss 11 = .ok (.iload 7, 2) := by decide +kernel
theorem dX8_leastLoss_13 : decode cX8_leastLoss 13 = .ok (.bipush 12, 2) := by decide +kernel
theorem dX8_leastLoss_15 : decode cX8_leastLoss 15 = .ok (.if_icmp .ge 51, 3) := by decide +kernel
theorem dX8_leastLoss_18 : decode cX8_leastLoss 18 = .ok (.iload 5, 2) := by decide +kernel
theorem dX8_leastLoss_20 : decode cX8_leastLoss 20 = .ok (.iload 6, 2) := by decide +kernel
theorem dX8_leastLoss_22 : decode cX8_leastLoss 22 = .ok (.if_icmp .ge 44, 3) := by decide +kernel
theorem dX8_leastLoss_25 : decode cX8_leastLoss 25 = .ok (.iload 5, 2) := by decide +kernel
theorem dX8_leastLoss_27 : decode cX8_leastLoss 27 = .ok (.iload 6, 2) := by decide +kernel
theorem dX8_leastLoss_29 : decode cX8_leastLoss 29 = .ok (.iadd, 1) := by decide +kernel
theorem dX8_leastLoss_30 : decode cX8_leastLoss 30 = .ok (.iconst 2, 1) := by decide +kernel
theorem dX8_leastLoss_31 : decode cX8_leastLoss 31 = .ok (.idiv, 1) := by decide +kernel
theorem dX8_leastLoss_32 : decode cX8_leastLoss 32 = .ok (.istore 8, 2) := by decide +kernel
theorem dX8_leastLoss_34 : decode cX8_leastLoss 34 = .ok (.aload_n 0, 1) := by decide +kernel
theorem dX8_leastLoss_35 : decode cX8_leastLoss 35 = .ok (.iload_n 1, 1) := by decide +kernel
theorem dX8_leastLoss_36 : decode cX8_leastLoss 36 = .ok (.iload_n 2, 1) := by decide +kernel
theorem dX8_leastLoss_37 : decode cX8_leastLoss 37 = .ok (.iload 8, 2) := by decide +kernel
theorem dX8_leastLoss_39 : decode cX8_leastLoss 39 = .ok (.invokevirtual 67, 3) := by decide +kernel
theorem dX8_leastLoss_42 : decode cX8_leastLoss 42 = .ok (.lload_n 3, 1) := by decide +kernel
theorem dX8_leastLoss_43 : decode cX8_leastLoss 43 = .ok (.lcmp, 1) := by decide +kernel
theorem dX8_leastLoss_44 : decode cX8_leastLoss 44 = .ok (.ifCond .gt 10, 3) := by decide +kernel
theorem dX8_leastLoss_47 : decode cX8_leastLoss 47 = .ok (.iload 8, 2) := by decide +kernel
theorem dX8_leastLoss_49 : decode cX8_leastLoss 49 = .ok (.istore 6, 2) := by decide +kernel
theorem dX8_leastLoss_51 : decode cX8_leastLoss 51 = .ok (.goto 9, 3) := by decide +kernel
theorem dX8_leastLoss_54 : decode cX8_leastLoss 54 = .ok (.iload 8, 2) := by decide +kernel
theorem dX8_leastLoss_56 : decode cX8_leastLoss 56 = .ok (.iconst 1, 1) := by decide +kernel
theorem dX8_leastLoss_57 : decode cX8_leastLoss 57 = .ok (.iadd, 1) := by decide +kernel
theorem dX8_leastLoss_58 : decode cX8_leastLoss 58 = .ok (.istore 5, 2) := by decide +kernel
theorem dX8_leastLoss_60 : decode cX8_leastLoss 60 = .ok (.iinc 7 1, 3) := by decide +kernel
theorem dX8_leastLoss_63 : decode cX8_leastLoss 63 = .ok (.goto (-52), 3) := by decide +kernel
theorem dX8_leastLoss_66 : decode cX8_leastLoss 66 = .ok (.iload 5, 2) := by decide +kernel
theorem dX8_leastLoss_68 : decode cX8_leastLoss 68 = .ok (.ireturn, 1) := by decide +kernel
theorem dX8_beginFish_0 : decode cX8_beginFish 0 = .ok (.iconst 0, 1) := by decide +kernel
theorem dX8_beginFish_1 : decode cX8_beginFish 1 = .ok (.istore_n 2, 1) := by decide +kernel
theorem dX8_beginFish_2 : decode cX8_beginFish 2 = .ok (.iload_n 2, 1) := by decide +kernel
theorem dX8_beginFish_3 : decode cX8_beginFish 3 = .ok (.bipush 8, 2) := by decide +kernel
theorem dX8_beginFish_5 : decode cX8_beginFish 5 = .ok (.if_icmp .ge 25, 3) := by decide +kernel
theorem dX8_beginFish_8 : decode cX8_beginFish 8 = .ok (.iload_n 2, 1) := by decide +kernel
theorem dX8_beginFish_9 : decode cX8_beginFish 9 = .ok (.aload_n 1, 1) := by decide +kernel
theorem dX8_beginFish_10 : decode cX8_beginFish 10 = .ok (.arraylength, 1) := by decide +kernel
theorem dX8_beginFish_11 : decode cX8_beginFish 11 = .ok (.if_icmp .ge 19, 3) := by decide +kernel
theorem dX8_beginFish_14 : decode cX8_beginFish 14 = .ok (.aload_n 1, 1) := by decide +kernel
theorem dX8_beginFish_15 : decode cX8_beginFish 15 = .ok (.iload_n 2, 1) := by decide +kernel
theorem dX8_beginFish_16 : decode cX8_beginFish 16 = .ok (.aload_n 0, 1) := by decide +kernel
theorem dX8_beginFish_17 : decode cX8_beginFish 17 = .ok (.getfield 21, 3) := by decide +kernel
theorem dX8_beginFish_20 : decode cX8_beginFish 20 = .ok (.iload_n 2, 1) := by decide +kernel
theorem dX8_beginFish_21 : decode cX8_beginFish 21 = .ok (.iaload, 1) := by decide +kernel
theorem dX8_beginFish_22 : decode cX8_beginFish 22 = .ok (.i2l, 1) := by decide +kernel
theorem dX8_beginFish_23 : decode cX8_beginFish 23 = .ok (.lastore, 1) := by decide +kernel
theorem dX8_beginFish_24 : decode cX8_beginFish 24 = .ok (.iinc 2 1, 3) := by decide +kernel
theorem dX8_beginFish_27 : decode cX8_beginFish 27 = .ok (.goto (-25), 3) := by decide +kernel
theorem dX8_beginFish_30 : decode cX8_beginFish 30 = .ok (.return_, 1) := by decide +kernel
theorem dX8_landedInYear_0 : decode cX8_landedInYear 0 = .ok (.lconst 0, 1) := by decide +kernel
theorem dX8_landedInYear_1 : decode cX8_landedInYear 1 = .ok (.lstore 6, 2) := by decide +kernel
theorem dX8_landedInYear_3 : decode cX8_landedInYear 3 = .ok (.lconst 0, 1) := by decide +kernel
theorem dX8_landedInYear_4 : decode cX8_landedInYear 4 = .ok (.lstore 8, 2) := by decide +kernel
theorem dX8_landedInYear_6 : decode cX8_landedInYear 6 = .ok (.bipush 7, 2) := by decide +kernel
theorem dX8_landedInYear_8 : decode cX8_landedInYear 8 = .ok (.istore 10, 2) := by decide +kernel
theorem dX8_landedInYear_10 : decode cX8_landedInYear 10 = .ok (.iload 10, 2) := by decide +kernel
theorem dX8_landedInYear_12 : decode cX8_landedInYear 12 = .ok (.ifCond .lt 109, 3) := by decide +kernel
theorem dX8_landedInYear_15 : decode cX8_landedInYear 15 = .ok (.iload 10, 2) := by decide +kernel
theorem dX8_landedInYear_17 : decode cX8_landedInYear 17 = .ok (.aload_n 1, 1) := by decide +kernel
theorem dX8_landedInYear_18 : decode cX8_landedInYear 18 = .ok (.arraylength, 1) := by decide +kernel
theorem dX8_landedInYear_19 : decode cX8_landedInYear 19 = .ok (.if_icmp .ge 102, 3) := by decide +kernel
theorem dX8_landedInYear_22 : decode cX8_landedInYear 22 = .ok (.aload_n 0, 1) := by decide +kernel
theorem dX8_landedInYear_23 : decode cX8_landedInYear 23 = .ok (.getfield 24, 3) := by decide +kernel
theorem dX8_landedInYear_26 : decode cX8_landedInYear 26 = .ok (.iload 10, 2) := by decide +kernel
theorem dX8_landedInYear_28 : decode cX8_landedInYear 28 = .ok (.iaload, 1) := by decide +kernel
theorem dX8_landedInYear_29 : decode cX8_landedInYear 29 = .ok (.iload_n 2, 1) := by decide +kernel
theorem dX8_landedInYear_30 : decode cX8_landedInYear 30 = .ok (.if_icmp .lt 17, 3) := by decide +kernel
theorem dX8_landedInYear_33 : decode cX8_landedInYear 33 = .ok (.aload_n 1, 1) := by decide +kernel
theorem dX8_landedInYear_34 : decode cX8_landedInYear 34 = .ok (.iload 10, 2) := by decide +kernel
theorem dX8_landedInYear_36 : decode cX8_landedInYear 36 = .ok (.laload, 1) := by decide +kernel
theorem dX8_landedInYear_37 : decode cX8_landedInYear 37 = .ok (.iload_n 3, 1) := by decide +kernel
theorem dX8_landedInYear_38 : decode cX8_landedInYear 38 = .ok (.i2l, 1) := by decide +kernel
theorem dX8_landedInYear_39 : decode cX8_landedInYear 39 = .ok (.lmul, 1) := by decide +kernel
theorem dX8_landedInYear_40 : decode cX8_landedInYear 40 = .ok (.ldc2_w 55, 3) := by decide +kernel
theorem dX8_landedInYear_43 : decode cX8_landedInYear 43 = .ok (.ldiv, 1) := by decide +kernel
theorem dX8_landedInYear_44 : decode cX8_landedInYear 44 = .ok (.goto 4, 3) := by decide +kernel
theorem dX8_landedInYear_47 : decode cX8_landedInYear 47 = .ok (.lconst 0, 1) := by decide +kernel
theorem dX8_landedInYear_48 : decode cX8_landedInYear 48 = .ok (.lstore 11, 2) := by decide +kernel
theorem dX8_landedInYear_50 : decode cX8_landedInYear 50 = .ok (.aload_n 1, 1) := by decide +kernel
theorem dX8_landedInYear_51 : decode cX8_landedInYear 51 = .ok (.iload 10, 2) := by decide +kernel
theorem dX8_landedInYear_53 : decode cX8_landedInYear 53 = .ok (.laload, 1) := by decide +kernel
theorem dX8_landedInYear_54 : decode cX8_landedInYear 54 = .ok (.lload 11, 2) := by decide +kernel
theorem dX8_landedInYear_56 : decode cX8_landedInYear 56 = .ok (.lsub, 1) := by decide +kernel
theorem dX8_landedInYear_57 : decode cX8_landedInYear 57 = .ok (.sipush 1000, 3) := by decide +kernel
theorem dX8_landedInYear_60 : decode cX8_landedInYear 60 = .ok (.iload 4, 2) := by decide +kernel
theorem dX8_landedInYear_62 : decode cX8_landedInYear 62 = .ok (.isub, 1) := by decide +kernel
theorem dX8_landedInYear_63 : decode cX8_landedInYear 63 = .ok (.i2l, 1) := by decide +kernel
theorem dX8_landedInYear_64 : decode cX8_landedInYear 64 = .ok (.lmul, 1) := by decide +kernel
theorem dX8_landedInYear_65 : decode cX8_landedInYear 65 = .ok (.ldc2_w 55, 3) := by decide +kernel
theorem dX8_landedInYear_68 : decode cX8_landedInYear 68 = .ok (.ldiv, 1) := by decide +kernel
theorem dX8_landedInYear_69 : decode cX8_landedInYear 69 = .ok (.lstore 13, 2) := by decide +kernel
theorem dX8_landedInYear_71 : decode cX8_landedInYear 71 = .ok (.lload 6, 2) := by decide +kernel
theorem dX8_landedInYear_73 : decode cX8_landedInYear 73 = .ok (.lload 11, 2) := by decide +kernel
theorem dX8_landedInYear_75 : decode cX8_landedInYear 75 = .ok (.aload_n 0, 1) := by decide +kernel
theorem dX8_landedInYear_76 : decode cX8_landedInYear 76 = .ok (.getfield 27, 3) := by decide +kernel
theorem dX8_landedInYear_79 : decode cX8_landedInYear 79 = .ok (.iload 10, 2) := by decide +kernel
theorem dX8_landedInYear_81 : decode cX8_landedInYear 81 = .ok (.iaload, 1) := by decide +kernel
theorem dX8_landedInYear_82 : decode cX8_landedInYear 82 = .ok (.i2l, 1) := by decide +kernel
theorem dX8_landedInYear_83 : decode cX8_landedInYear 83 = .ok (.lmul, 1) := by decide +kernel
theorem dX8_landedInYear_84 : decode cX8_landedInYear 84 = .ok (.ladd, 1) := by decide +kernel
theorem dX8_landedInYear_85 : decode cX8_landedInYear 85 = .ok (.lstore 6, 2) := by decide +kernel
theorem dX8_landedInYear_87 : decode cX8_landedInYear 87 = .ok (.iload 10, 2) := by decide +kernel
theorem dX8_landedInYear_89 : decode cX8_landedInYear 89 = .ok (.bipush 7, 2) := by decide +kernel
theorem dX8_landedInYear_91 : decode cX8_landedInYear 91 = .ok (.if_icmp .ne 10, 3) := by decide +kernel
theorem dX8_landedInYear_94 : decode cX8_landedInYear 94 = .ok (.lload 13, 2) := by decide +kernel
theorem dX8_landedInYear_96 : decode cX8_landedInYear 96 = .ok (.lstore 8, 2) := by decide +kernel
theorem dX8_landedInYear_98 : decode cX8_landedInYear 98 = .ok (.goto 17, 3) := by decide +kernel
theorem dX8_landedInYear_101 : decode cX8_landedInYear 101 = .ok (.aload_n 1, 1) := by decide +kernel
theorem dX8_landedInYear_102 : decode cX8_landedInYear 102 = .ok (.iload 10, 2) := by decide +kernel
theorem dX8_landedInYear_104 : decode cX8_landedInYear 104 = .ok (.iconst 1, 1) := by decide +kernel
theorem dX8_landedInYear_105 : decode cX8_landedInYear 105 = .ok (.iadd, 1) := by decide +kernel
theorem dX8_landedInYear_106 : decode cX8_landedInYear 106 = .ok (.lload 13, 2) := by decide +kernel
theorem dX8_landedInYear_108 : decode cX8_landedInYear 108 = .ok (.lload 8, 2) := by decide +kernel
theorem dX8_landedInYear_110 : decode cX8_landedInYear 110 = .ok (.ladd, 1) := by decide +kernel
theorem dX8_landedInYear_111 : decode cX8_landedInYear 111 = .ok (.lastore, 1) := by decide +kernel
theorem dX8_landedInYear_112 : decode cX8_landedInYear 112 = .ok (.lconst 0, 1) := by decide +kernel
theorem dX8_landedInYear_113 : decode cX8_landedInYear 113 = .ok (.lstore 8, 2) := by decide +kernel
theorem dX8_landedInYear_115 : decode cX8_landedInYear 115 = .ok (.iinc 10 (-1), 3) := by decide +kernel
theorem dX8_landedInYear_118 : decode cX8_landedInYear 118 = .ok (.goto (-108), 3) := by decide +kernel
theorem dX8_landedInYear_121 : decode cX8_landedInYear 121 = .ok (.aload_n 1, 1) := by decide +kernel
theorem dX8_landedInYear_122 : decode cX8_landedInYear 122 = .ok (.arraylength, 1) := by decide +kernel
theorem dX8_landedInYear_123 : decode cX8_landedInYear 123 = .ok (.ifCond .le 9, 3) := by decide +kernel
theorem dX8_landedInYear_126 : decode cX8_landedInYear 126 = .ok (.aload_n 1, 1) := by decide +kernel
theorem dX8_landedInYear_127 : decode cX8_landedInYear 127 = .ok (.iconst 0, 1) := by decide +kernel
theorem dX8_landedInYear_128 : decode cX8_landedInYear 128 = .ok (.iload 5, 2) := by decide +kernel
theorem dX8_landedInYear_130 : decode cX8_landedInYear 130 = .ok (.i2l, 1) := by decide +kernel
theorem dX8_landedInYear_131 : decode cX8_landedInYear 131 = .ok (.lastore, 1) := by decide +kernel
theorem dX8_landedInYear_132 : decode cX8_landedInYear 132 = .ok (.lload 6, 2) := by decide +kernel
theorem dX8_landedInYear_134 : decode cX8_landedInYear 134 = .ok (.lreturn, 1) := by decide +kernel
theorem dX8_landedBy_0 : decode cX8_landedBy 0 = .ok (.aload_n 0, 1) := by decide +kernel
theorem dX8_landedBy_1 : decode cX8_landedBy 1 = .ok (.aload_n 0, 1) := by decide +kernel
theorem dX8_landedBy_2 : decode cX8_landedBy 2 = .ok (.getfield 30, 3) := by decide +kernel
theorem dX8_landedBy_5 : decode cX8_landedBy 5 = .ok (.invokevirtual 74, 3) := by decide +kernel
theorem dX8_landedBy_8 : decode cX8_landedBy 8 = .ok (.lconst 0, 1) := by decide +kernel
theorem dX8_landedBy_9 : decode cX8_landedBy 9 = .ok (.lstore 6, 2) := by decide +kernel
theorem dX8_landedBy_11 : decode cX8_landedBy 11 = .ok (.iconst 0, 1) := by decide +kernel
theorem dX8_landedBy_12 : decode cX8_landedBy 12 = .ok (.istore 8, 2) := by decide +kernel
theorem dX8_landedBy_14 : decode cX8_landedBy 14 = .ok (.iload 8, 2) := by decide +kernel
theorem dX8_landedBy_16 : decode cX8_landedBy 16 = .ok (.iload_n 1, 1) := by decide +kernel
theorem dX8_landedBy_17 : decode cX8_landedBy 17 = .ok (.if_icmp .ge 28, 3) := by decide +kernel
theorem dX8_landedBy_20 : decode cX8_landedBy 20 = .ok (.lload 6, 2) := by decide +kernel
theorem dX8_landedBy_22 : decode cX8_landedBy 22 = .ok (.aload_n 0, 1) := by decide +kernel
theorem dX8_landedBy_23 : decode cX8_landedBy 23 = .ok (.aload_n 0, 1) := by decide +kernel
theorem dX8_landedBy_24 : decode cX8_landedBy 24 = .ok (.getfield 30, 3) := by decide +kernel
theorem dX8_landedBy_27 : decode cX8_landedBy 27 = .ok (.iload_n 2, 1) := by decide +kernel
theorem dX8_landedBy_28 : decode cX8_landedBy 28 = .ok (.iload_n 3, 1) := by decide +kernel
theorem dX8_landedBy_29 : decode cX8_landedBy 29 = .ok (.iload 4, 2) := by decide +kernel
theorem dX8_landedBy_31 : decode cX8_landedBy 31 = .ok (.iload 5, 2) := by decide +kernel
theorem dX8_landedBy_33 : decode cX8_landedBy 33 = .ok (.invokevirtual 78, 3) := by decide +kernel
theorem dX8_landedBy_36 : decode cX8_landedBy 36 = .ok (.ladd, 1) := by decide +kernel
theorem dX8_landedBy_37 : decode cX8_landedBy 37 = .ok (.lstore 6, 2) := by decide +kernel
theorem dX8_landedBy_39 : decode cX8_landedBy 39 = .ok (.iinc 8 1, 3) := by decide +kernel
theorem dX8_landedBy_42 : decode cX8_landedBy 42 = .ok (.goto (-28), 3) := by decide +kernel
theorem dX8_landedBy_45 : decode cX8_landedBy 45 = .ok (.lload 6, 2) := by decide +kernel
theorem dX8_landedBy_47 : decode cX8_landedBy 47 = .ok (.lreturn, 1) := by decide +kernel
theorem dX8_paysFrom_0 : decode cX8_paysFrom 0 = .ok (.aload_n 0, 1) := by decide +kernel
theorem dX8_paysFrom_1 : decode cX8_paysFrom 1 = .ok (.aload_n 0, 1) := by decide +kernel
theorem dX8_paysFrom_2 : decode cX8_paysFrom 2 = .ok (.getfield 30, 3) := by decide +kernel
theorem dX8_paysFrom_5 : decode cX8_paysFrom 5 = .ok (.invokevirtual 74, 3) := by decide +kernel
theorem dX8_paysFrom_8 : decode cX8_paysFrom 8 = .ok (.aload_n 0, 1) := by decide +kernel
theorem dX8_paysFrom_9 : decode cX8_paysFrom 9 = .ok (.aload_n 0, 1) := by decide +kernel
theorem dX8_paysFrom_10 : decode cX8_paysFrom 10 = .ok (.getfield 34, 3) := by decide +kernel
theorem dX8_paysFrom_13 : decode cX8_paysFrom 13 = .ok (.invokevirtual 74, 3) := by decide +kernel
theorem dX8_paysFrom_16 : decode cX8_paysFrom 16 = .ok (.lconst 0, 1) := by decide +kernel
theorem dX8_paysFrom_17 : decode cX8_paysFrom 17 = .ok (.lstore 6, 2) := by decide +kernel
theorem dX8_paysFrom_19 : decode cX8_paysFrom 19 = .ok (.iconst 1, 1) := by decide +kernel
theorem dX8_paysFrom_20 : decode cX8_paysFrom 20 = .ok (.istore 8, 2) := by decide +kernel
theorem dX8_paysFrom_22 : decode cX8_paysFrom 22 = .ok (.iload 8, 2) := by decide +kernel
theorem dX8_paysFrom_24 : decode cX8_paysFrom 24 = .ok (.bipush 30, 2) := by decide +kernel
theorem dX8_paysFrom_26 : decode cX8_paysFrom 26 = .ok (.if_icmp .gt 57, 3) := by decide +kernel
theorem dX8_paysFrom_29 : decode cX8_paysFrom 29 = .ok (.lload 6, 2) := by decide +kernel
theorem dX8_paysFrom_31 : decode cX8_paysFrom 31 = .ok (.aload_n 0, 1) := by decide +kernel
theorem dX8_paysFrom_32 : decode cX8_paysFrom 32 = .ok (.aload_n 0, 1) := by decide +kernel
theorem dX8_paysFrom_33 : decode cX8_paysFrom 33 = .ok (.getfield 34, 3) := by decide +kernel
theorem dX8_paysFrom_36 : decode cX8_paysFrom 36 = .ok (.iload_n 2, 1) := by decide +kernel
theorem dX8_paysFrom_37 : decode cX8_paysFrom 37 = .ok (.iload_n 3, 1) := by decide +kernel
theorem dX8_paysFrom_38 : decode cX8_paysFrom 38 = .ok (.iload 4, 2) := by decide +kernel
theorem dX8_paysFrom_40 : decode cX8_paysFrom 40 = .ok (.iload 5, 2) := by decide +kernel
theorem dX8_paysFrom_42 : decode cX8_paysFrom 42 = .ok (.invokevirtual 78, 3) := by decide +kernel
theorem dX8_paysFrom_45 : decode cX8_paysFrom 45 = .ok (.ladd, 1) := by decide +kernel
theorem dX8_paysFrom_46 : decode cX8_paysFrom 46 = .ok (.lstore 6, 2) := by decide +kernel
theorem dX8_paysFrom_48 : decode cX8_paysFrom 48 = .ok (.lload 6, 2) := by decide +kernel
theorem dX8_paysFrom_50 : decode cX8_paysFrom 50 = .ok (.aload_n 0, 1) := by decide +kernel
theorem dX8_paysFrom_51 : decode cX8_paysFrom 51 = .ok (.aload_n 0, 1) := by decide +kernel
theorem dX8_paysFrom_52 : decode cX8_paysFrom 52 = .ok (.getfield 30, 3) := by decide +kernel
theorem dX8_paysFrom_55 : decode cX8_paysFrom 55 = .ok (.iload_n 1, 1) := by decide +kernel
theorem dX8_paysFrom_56 : decode cX8_paysFrom 56 = .ok (.iload_n 3, 1) := by decide +kernel
theorem dX8_paysFrom_57 : decode cX8_paysFrom 57 = .ok (.iload 4, 2) := by decide +kernel
theorem dX8_paysFrom_59 : decode cX8_paysFrom 59 = .ok (.iload 5, 2) := by decide +kernel
theorem dX8_paysFrom_61 : decode cX8_paysFrom 61 = .ok (.invokevirtual 78, 3) := by decide +kernel
theorem dX8_paysFrom_64 : decode cX8_paysFrom 64 = .ok (.lsub, 1) := by decide +kernel
theorem dX8_paysFrom_65 : decode cX8_paysFrom 65 = .ok (.lstore 6, 2) := by decide +kernel
theorem dX8_paysFrom_67 : decode cX8_paysFrom 67 = .ok (.lload 6, 2) := by decide +kernel
theorem dX8_paysFrom_69 : decode cX8_paysFrom 69 = .ok (.lconst 0, 1) := by decide +kernel
theorem dX8_paysFrom_70 : decode cX8_paysFrom 70 = .ok (.lcmp, 1) := by decide +kernel
theorem dX8_paysFrom_71 : decode cX8_paysFrom 71 = .ok (.ifCond .lt 6, 3) := by decide +kernel
theorem dX8_paysFrom_74 : decode cX8_paysFrom 74 = .ok (.iload 8, 2) := by decide +kernel
theorem dX8_paysFrom_76 : decode cX8_paysFrom 76 = .ok (.ireturn, 1) := by decide +kernel
theorem dX8_paysFrom_77 : decode cX8_paysFrom 77 = .ok (.iinc 8 1, 3) := by decide +kernel
theorem dX8_paysFrom_80 : decode cX8_paysFrom 80 = .ok (.goto (-58), 3) := by decide +kernel
theorem dX8_paysFrom_83 : decode cX8_paysFrom 83 = .ok (.bipush (-2), 2) := by decide +kernel
theorem dX8_paysFrom_85 : decode cX8_paysFrom 85 = .ok (.ireturn, 1) := by decide +kernel
theorem dX9_init_0 : decode cX9_init 0 = .ok (.aload_n 0, 1) := by decide +kernel
theorem dX9_init_1 : decode cX9_init 1 = .ok (.invokespecial 3, 3) := by decide +kernel
theorem dX9_init_4 : decode cX9_init 4 = .ok (.aload_n 0, 1) := by decide +kernel
theorem dX9_init_5 : decode cX9_init 5 = .ok (.bipush 8, 2) := by decide +kernel
theorem dX9_init_7 : decode cX9_init 7 = .ok (.newarray .int, 2) := by decide +kernel
theorem dX9_init_9 : decode cX9_init 9 = .ok (.putfield 11, 3) := by decide +kernel
theorem dX9_init_12 : decode cX9_init 12 = .ok (.aload_n 0, 1) := by decide +kernel
theorem dX9_init_13 : decode cX9_init 13 = .ok (.bipush 8, 2) := by decide +kernel
theorem dX9_init_15 : decode cX9_init 15 = .ok (.newarray .int, 2) := by decide +kernel
theorem dX9_init_17 : decode cX9_init 17 = .ok (.putfield 15, 3) := by decide +kernel
theorem dX9_init_20 : decode cX9_init 20 = .ok (.aload_n 0, 1) := by decide +kernel
theorem dX9_init_21 : decode cX9_init 21 = .ok (.bipush 8, 2) := by decide +kernel
theorem dX9_init_23 : decode cX9_init 23 = .ok (.newarray .int, 2) := by decide +kernel
theorem dX9_init_25 : decode cX9_init 25 = .ok (.putfield 18, 3) := by decide +kernel
theorem dX9_init_28 : decode cX9_init 28 = .ok (.aload_n 0, 1) := by decide +kernel
theorem dX9_init_29 : decode cX9_init 29 = .ok (.bipush 8, 2) := by decide +kernel
theorem dX9_init_31 : decode cX9_init 31 = .ok (.newarray .int, 2) := by decide +kernel
theorem dX9_init_33 : decode cX9_init 33 = .ok (.putfield 21, 3) := by decide +kernel
theorem dX9_init_36 : decode cX9_init 36 = .ok (.aload_n 0, 1) := by decide +kernel
theorem dX9_init_37 : decode cX9_init 37 = .ok (.sipush 800, 3) := by decide +kernel
theorem dX9_init_40 : decode cX9_init 40 = .ok (.newarray .boolean, 2) := by decide +kernel
theorem dX9_init_42 : decode cX9_init 42 = .ok (.putfield 24, 3) := by decide +kernel
theorem dX9_init_45 : decode cX9_init 45 = .ok (.return_, 1) := by decide +kernel
theorem dX9_isWeek_0 : decode cX9_isWeek 0 = .ok (.iload_n 0, 1) := by decide +kernel
theorem dX9_isWeek_1 : decode cX9_isWeek 1 = .ok (.iconst 0, 1) := by decide +kernel
theorem dX9_isWeek_2 : decode cX9_isWeek 2 = .ok (.bipush 99, 2) := by decide +kernel
theorem dX9_isWeek_4 : decode cX9_isWeek 4 = .ok (.invokestatic 28, 3) := by decide +kernel
theorem dX9_isWeek_7 : decode cX9_isWeek 7 = .ok (.ireturn, 1) := by decide +kernel
theorem dX9_has_0 : decode cX9_has 0 = .ok (.iload_n 1, 1) := by decide +kernel
theorem dX9_has_1 : decode cX9_has 1 = .ok (.ifCond .lt 15, 3) := by decide +kernel
theorem dX9_has_4 : decode cX9_has 4 = .ok (.iload_n 1, 1) := by decide +kernel
theorem dX9_has_5 : decode cX9_has 5 = .ok (.aload_n 0, 1) := by decide +kernel
theorem dX9_has_6 : decode cX9_has 6 = .ok (.getfield 32, 3) := by decide +kernel
theorem dX9_has_9 : decode cX9_has 9 = .ok (.if_icmp .ge 7, 3) := by decide +kernel
theorem dX9_has_12 : decode cX9_has 12 = .ok (.iconst 1, 1) := by decide +kernel
theorem dX9_has_13 : decode cX9_has 13 = .ok (.goto 4, 3) := by decide +kernel
theorem dX9_has_16 : decode cX9_has 16 = .ok (.iconst 0, 1) := by decide +kernel
theorem dX9_has_17 : decode cX9_has 17 = .ok (.ireturn, 1) := by decide +kernel
theorem dX9_add_0 : decode cX9_add 0 = .ok (.aload_n 0, 1) := by decide +kernel
theorem dX9_add_1 : decode cX9_add 1 = .ok (.getfield 32, 3) := by decide +kernel
theorem dX9_add_4 : decode cX9_add 4 = .ok (.bipush 8, 2) := by decide +kernel
theorem dX9_add_6 : decode cX9_add 6 = .ok (.if_icmp .lt 5, 3) := by decide +kernel
theorem dX9_add_9 : decode cX9_add 9 = .ok (.iconst (-1), 1) := by decide +kernel
theorem dX9_add_10 : decode cX9_add 10 = .ok (.ireturn, 1) := by decide +kernel
theorem dX9_add_11 : decode cX9_add 11 = .ok (.aload_n 0, 1) := by decide +kernel
theorem dX9_add_12 : decode cX9_add 12 = .ok (.getfield 11, 3) := by decide +kernel
theorem dX9_add_15 : decode cX9_add 15 = .ok (.aload_n 0, 1) := by decide +kernel
theorem dX9_add_16 : decode cX9_add 16 = .ok (.getfield 32, 3) := by decide +kernel
theorem dX9_add_19 : decode cX9_add 19 = .ok (.iload_n 1, 1) := by decide +kernel
theorem dX9_add_20 : decode cX9_add 20 = .ok (.iastore, 1) := by decide +kernel
theorem dX9_add_21 : decode cX9_add 21 = .ok (.aload_n 0, 1) := by decide +kernel
theorem dX9_add_22 : decode cX9_add 22 = .ok (.getfield 15, 3) := by decide +kernel
theorem dX9_add_25 : decode cX9_add 25 = .ok (.aload_n 0, 1) := by decide +kernel
theorem dX9_add_26 : decode cX9_add 26 = .ok (.getfield 32, 3) := by decide +kernel
theorem dX9_add_29 : decode cX9_add 29 = .ok (.iload_n 2, 1) := by decide +kernel
theorem dX9_add_30 : decode cX9_add 30 = .ok (.iastore, 1) := by decide +kernel
theorem dX9_add_31 : decode cX9_add 31 = .ok (.aload_n 0, 1) := by decide +kernel
theorem dX9_add_32 : decode cX9_add 32 = .ok (.getfield 18, 3) := by decide +kernel
theorem dX9_add_35 : decode cX9_add 35 = .ok (.aload_n 0, 1) := by decide +kernel
theorem dX9_add_36 : decode cX9_add 36 = .ok (.getfield 32, 3) := by decide +kernel
theorem dX9_add_39 : decode cX9_add 39 = .ok (.iload_n 3, 1) := by decide +kernel
theorem dX9_add_40 : decode cX9_add 40 = .ok (.iastore, 1) := by decide +kernel
theorem dX9_add_41 : decode cX9_add 41 = .ok (.aload_n 0, 1) := by decide +kernel
theorem dX9_add_42 : decode cX9_add 42 = .ok (.getfield 21, 3) := by decide +kernel
theorem dX9_add_45 : decode cX9_add 45 = .ok (.aload_n 0, 1) := by decide +kernel
theorem dX9_add_46 : decode cX9_add 46 = .ok (.getfield 32, 3) := by decide +kernel
theorem dX9_add_49 : decode cX9_add 49 = .ok (.iload 4, 2) := by decide +kernel
theorem dX9_add_51 : decode cX9_add 51 = .ok (.iastore, 1) := by decide +kernel
theorem dX9_add_52 : decode cX9_add 52 = .ok (.aload_n 0, 1) := by decide +kernel
theorem dX9_add_53 : decode cX9_add 53 = .ok (.dup, 1) := by decide +kernel
theorem dX9_add_54 : decode cX9_add 54 = .ok (.getfield 32, 3) := by decide +kernel
theorem dX9_add_57 : decode cX9_add 57 = .ok (.iconst 1, 1) := by decide +kernel
theorem dX9_add_58 : decode cX9_add 58 = .ok (.iadd, 1) := by decide +kernel
theorem dX9_add_59 : decode cX9_add 59 = .ok (.putfield 32, 3) := by decide +kernel
theorem dX9_add_62 : decode cX9_add 62 = .ok (.aload_n 0, 1) := by decide +kernel
theorem dX9_add_63 : decode cX9_add 63 = .ok (.getfield 32, 3) := by decide +kernel
theorem dX9_add_66 : decode cX9_add 66 = .ok (.iconst 1, 1) := by decide +kernel
theorem dX9_add_67 : decode cX9_add 67 = .ok (.isub, 1) := by decide +kernel
theorem dX9_add_68 : decode cX9_add 68 = .ok (.ireturn, 1) := by decide +kernel
theorem dX9_addBar_0 : decode cX9_addBar 0 = .ok (.aload_n 0, 1) := by decide +kernel
theorem dX9_addBar_1 : decode cX9_addBar 1 = .ok (.getfield 36, 3) := by decide +kernel
theorem dX9_addBar_4 : decode cX9_addBar 4 = .ok (.bipush 20, 2) := by decide +kernel
theorem dX9_addBar_6 : decode cX9_addBar 6 = .ok (.if_icmp .ge 25, 3) := by decide +kernel
theorem dX9_addBar_9 : decode cX9_addBar 9 = .ok (.aload_n 0, 1) := by decide +kernel
theorem dX9_addBar_10 : decode cX9_addBar 10 = .ok (.iload_n 1, 1) := by decide +kernel
theorem dX9_addBar_11 : decode cX9_addBar 11 = .ok (.invokevirtual 39, 3) := by decide +kernel
theorem dX9_addBar_14 : decode cX9_addBar 14 = .ok (.ifCond .eq 17, 3) := by decide +kernel
theorem dX9_addBar_17 : decode cX9_addBar 17 = .ok (.iload_n 2, 1) := by decide +kernel
theorem dX9_addBar_18 : decode cX9_addBar 18 = .ok (.invokestatic 43, 3) := by decide +kernel
theorem dX9_addBar_21 : decode cX9_addBar 21 = .ok (.ifCond .eq 10, 3) := by decide +kernel
theorem dX9_addBar_24 : decode cX9_addBar 24 = .ok (.iload_n 3, 1) := by decide +kernel
theorem dX9_addBar_25 : decode cX9_addBar 25 = .ok (.invokestatic 43, 3) := by decide +kernel
theorem dX9_addBar_28 : decode cX9_addBar 28 = .ok (.ifCond .ne 5, 3) := by decide +kernel
theorem dX9_addBar_31 : decode cX9_addBar 31 = .ok (.iconst (-1), 1) := by decide +kernel
theorem dX9_addBar_32 : decode cX9_addBar 32 = .ok (.ireturn, 1) := by decide +kernel
theorem dX9_addBar_33 : decode cX9_addBar 33 = .ok (.iload_n 2, 1) := by decide +kernel
theorem dX9_addBar_34 : decode cX9_addBar 34 = .ok (.istore 4, 2) := by decide +kernel
theorem dX9_addBar_36 : decode cX9_addBar 36 = .ok (.iload 4, 2) := by decide +kernel
theorem dX9_addBar_38 : decode cX9_addBar 38 = .ok (.iload_n 3, 1) := by decide +kernel
theorem dX9_addBar_39 : decode cX9_addBar 39 = .ok (.if_icmp .gt 22, 3) := by decide +kernel
theorem dX9_addBar_42 : decode cX9_addBar 42 = .ok (.aload_n 0, 1) := by decide +kernel
theorem dX9_addBar_43 : decode cX9_addBar 43 = .ok (.getfield 24, 3) := by decide +kernel
theorem dX9_addBar_46 : decode cX9_addBar 46 = .ok (.iload_n 1, 1) := by decide +kernel
theorem dX9_addBar_47 : decode cX9_addBar 47 = .ok (.bipush 100, 2) := by decide +kernel
theorem dX9_addBar_49 : decode cX9_addBar 49 = .ok (.imul, 1) := by decide +kernel
theorem dX9_addBar_50 : decode cX9_addBar 50 = .ok (.iload 4, 2) := by decide +kernel
theorem dX9_addBar_52 : decode cX9_addBar 52 = .ok (.iadd, 1) := by decide +kernel
theorem dX9_addBar_53 : decode cX9_addBar 53 = .ok (.iconst 1, 1) := by decide +kernel
theorem dX9_addBar_54 : decode cX9_addBar 54 = .ok (.bastore, 1) := by decide +kernel
theorem dX9_addBar_55 : decode cX9_addBar 55 = .ok (.iinc 4 1, 3) := by decide +kernel
theorem dX9_addBar_58 : decode cX9_addBar 58 = .ok (.goto (-22), 3) := by decide +kernel
theorem dX9_addBar_61 : decode cX9_addBar 61 = .ok (.aload_n 0, 1) := by decide +kernel
theorem dX9_addBar_62 : decode cX9_addBar 62 = .ok (.dup, 1) := by decide +kernel
theorem dX9_addBar_63 : decode cX9_addBar 63 = .ok (.getfield 36, 3) := by decide +kernel
theorem dX9_addBar_66 : decode cX9_addBar 66 = .ok (.iconst 1, 1) := by decide +kernel
theorem dX9_addBar_67 : decode cX9_addBar 67 = .ok (.iadd, 1) := by decide +kernel
theorem dX9_addBar_68 : decode cX9_addBar 68 = .ok (.putfield 36, 3) := by decide +kernel
theorem dX9_addBar_71 : decode cX9_addBar 71 = .ok (.aload_n 0, 1) := by decide +kernel
theorem dX9_addBar_72 : decode cX9_addBar 72 = .ok (.getfield 36, 3) := by decide +kernel
theorem dX9_addBar_75 : decode cX9_addBar 75 = .ok (.ireturn, 1) := by decide +kernel
theorem dX9_lostBy_0 : decode cX9_lostBy 0 = .ok (.aload_n 0, 1) := by decide +kernel
theorem dX9_lostBy_1 : decode cX9_lostBy 1 = .ok (.iload_n 1, 1) := by decide +kernel
theorem dX9_lostBy_2 : decode cX9_lostBy 2 = .ok (.invokevirtual 39, 3) := by decide +kernel
theorem dX9_lostBy_5 : decode cX9_lostBy 5 = .ok (.ifCond .ne 5, 3) := by decide +kernel
theorem dX9_lostBy_8 : decode cX9_lostBy 8 = .ok (.iconst (-1), 1) := by decide +kernel
theorem dX9_lostBy_9 : decode cX9_lostBy 9 = .ok (.ireturn, 1) := by decide +kernel
theorem dX9_lostBy_10 : decode cX9_lostBy 10 = .ok (.iconst 0, 1) := by decide +kernel
theorem dX9_lostBy_11 : decode cX9_lostBy 11 = .ok (.istore_n 3, 1) := by decide +kernel
theorem dX9_lostBy_12 : decode cX9_lostBy 12 = .ok (.iconst 0, 1) := by decide +kernel
theorem dX9_lostBy_13 : decode cX9_lostBy 13 = .ok (.istore 4, 2) := by decide +kernel
theorem dX9_lostBy_15 : decode cX9_lostBy 15 = .ok (.iload 4, 2) := by decide +kernel
theorem dX9_lostBy_17 : decode cX9_lostBy 17 = .ok (.iload_n 2, 1) := by decide +kernel
theorem dX9_lostBy_18 : decode cX9_lostBy 18 = .ok (.if_icmp .gt 44, 3) := by decide +kernel
theorem dX9_lostBy_21 : decode cX9_lostBy 21 = .ok (.iload 4, 2) := by decide +kernel
theorem dX9_lostBy_23 : decode cX9_lostBy 23 = .ok (.bipush 100, 2) := by decide +kernel
theorem dX9_lostBy_25 : decode cX9_lostBy 25 = .ok (.if_icmp .ge 37, 3) := by decide +kernel
theorem dX9_lostBy_28 : decode cX9_lostBy 28 = .ok (.iload_n 3, 1) := by decide +kernel
theorem dX9_lostBy_29 : decode cX9_lostBy 29 = .ok (.aload_n 0, 1) := by decide +kernel
theorem dX9_lostBy_30 : decode cX9_lostBy 30 = .ok (.getfield 24, 3) := by decide +kernel
theorem dX9_lostBy_33 : decode cX9_lostBy 33 = .ok (.iload_n 1, 1) := by decide +kernel
theorem dX9_lostBy_34 : decode cX9_lostBy 34 = .ok (.bipush 100, 2) := by decide +kernel
theorem dX9_lostBy_36 : decode cX9_lostBy 36 = .ok (.imul, 1) := by decide +kernel
theorem dX9_lostBy_37 : decode cX9_lostBy 37 = .ok (.iload 4, 2) := by decide +kernel
theorem dX9_lostBy_39 : decode cX9_lostBy 39 = .ok (.iadd, 1) := by decide +kernel
theorem dX9_lostBy_40 : decode cX9_lostBy 40 = .ok (.baload, 1) := by decide +kernel
theorem dX9_lostBy_41 : decode cX9_lostBy 41 = .ok (.ifCond .eq 12, 3) := by decide +kernel
theorem dX9_lostBy_44 : decode cX9_lostBy 44 = .ok (.aload_n 0, 1) := by decide +kernel
theorem dX9_lostBy_45 : decode cX9_lostBy 45 = .ok (.getfield 21, 3) := by decide +kernel
theorem dX9_lostBy_48 : decode cX9_lostBy 48 = .ok (.iload_n 1, 1) := by decide +kernel
theorem dX9_lostBy_49 : decode cX9_lostBy 49 = .ok (.iaload, 1) := by decide +kernel
theorem dX9_lostBy_50 : decode cX9_lostBy 50 = .ok (.goto 4, 3) := by decide +kernel
theorem dX9_lostBy_53 : decode cX9_lostBy 53 = .ok (.iconst 0, 1) := by decide +kernel
theorem dX9_lostBy_54 : decode cX9_lostBy 54 = .ok (.iadd, 1) := by decide +kernel
theorem dX9_lostBy_55 : decode cX9_lostBy 55 = .ok (.istore_n 3, 1) := by decide +kernel
theorem dX9_lostBy_56 : decode cX9_lostBy 56 = .ok (.iinc 4 1, 3) := by decide +kernel
theorem dX9_lostBy_59 : decode cX9_lostBy 59 = .ok (.goto (-44), 3) := by decide +kernel
theorem dX9_lostBy_62 : decode cX9_lostBy 62 = .ok (.iload_n 3, 1) := by decide +kernel
theorem dX9_lostBy_63 : decode cX9_lostBy 63 = .ok (.ireturn, 1) := by decide +kernel
theorem dX9_weekOf_0 : decode cX9_weekOf 0 = .ok (.aload_n 0, 1) := by decide +kernel
theorem dX9_weekOf_1 : decode cX9_weekOf 1 = .ok (.iload_n 1, 1) := by decide +kernel
theorem dX9_weekOf_2 : decode cX9_weekOf 2 = .ok (.invokevirtual 39, 3) := by decide +kernel
theorem dX9_weekOf_5 : decode cX9_weekOf 5 = .ok (.ifCond .ne 5, 3) := by decide +kernel
theorem dX9_weekOf_8 : decode cX9_weekOf 8 = .ok (.iconst (-1), 1) := by decide +kernel
theorem dX9_weekOf_9 : decode cX9_weekOf 9 = .ok (.ireturn, 1) := by decide +kernel
theorem dX9_weekOf_10 : decode cX9_weekOf 10 = .ok (.iconst 0, 1) := by decide +kernel
theorem dX9_weekOf_11 : decode cX9_weekOf 11 = .ok (.istore_n 2, 1) := by decide +kernel
theorem dX9_weekOf_12 : decode cX9_weekOf 12 = .ok (.iconst 0, 1) := by decide +kernel
theorem dX9_weekOf_13 : decode cX9_weekOf 13 = .ok (.istore_n 3, 1) := by decide +kernel
theorem dX9_weekOf_14 : decode cX9_weekOf 14 = .ok (.iload_n 3, 1) := by decide +kernel
theorem dX9_weekOf_15 : decode cX9_weekOf 15 = .ok (.bipush 100, 2) := by decide +kernel
theorem dX9_weekOf_17 : decode cX9_weekOf 17 = .ok (.if_icmp .ge 52, 3) := by decide +kernel
theorem dX9_weekOf_20 : decode cX9_weekOf 20 = .ok (.iload_n 2, 1) := by decide +kernel
theorem dX9_weekOf_21 : decode cX9_weekOf 21 = .ok (.aload_n 0, 1) := by decide +kernel
theorem dX9_weekOf_22 : decode cX9_weekOf 22 = .ok (.getfield 24, 3) := by decide +kernel
theorem dX9_weekOf_25 : decode cX9_weekOf 25 = .ok (.iload_n 1, 1) := by decide +kernel
theorem dX9_weekOf_26 : decode cX9_weekOf 26 = .ok (.bipush 100, 2) := by decide +kernel
theorem dX9_weekOf_28 : decode cX9_weekOf 28 = .ok (.imul, 1) := by decide +kernel
theorem dX9_weekOf_29 : decode cX9_weekOf 29 = .ok (.iload_n 3, 1) := by decide +kernel
theorem dX9_weekOf_30 : decode cX9_weekOf 30 = .ok (.iadd, 1) := by decide +kernel
theorem dX9_weekOf_31 : decode cX9_weekOf 31 = .ok (.baload, 1) := by decide +kernel
theorem dX9_weekOf_32 : decode cX9_weekOf 32 = .ok (.ifCond .eq 12, 3) := by decide +kernel
theorem dX9_weekOf_35 : decode cX9_weekOf 35 = .ok (.aload_n 0, 1) := by decide +kernel
theorem dX9_weekOf_36 : decode cX9_weekOf 36 = .ok (.getfield 21, 3) := by decide +kernel
theorem dX9_weekOf_39 : decode cX9_weekOf 39 = .ok (.iload_n 1, 1) := by decide +kernel
theorem dX9_weekOf_40 : decode cX9_weekOf 40 = .ok (.iaload, 1) := by decide +kernel
theorem dX9_weekOf_41 : decode cX9_weekOf 41 = .ok (.goto 4, 3) := by decide +kernel
theorem dX9_weekOf_44 : decode cX9_weekOf 44 = .ok (.iconst 0, 1) := by decide +kernel
theorem dX9_weekOf_45 : decode cX9_weekOf 45 = .ok (.iadd, 1) := by decide +kernel
theorem dX9_weekOf_46 : decode cX9_weekOf 46 = .ok (.istore_n 2, 1) := by decide +kernel
theorem dX9_weekOf_47 : decode cX9_weekOf 47 = .ok (.iload_n 2, 1) := by decide +kernel
theorem dX9_weekOf_48 : decode cX9_weekOf 48 = .ok (.ifCond .le 15, 3) := by decide +kernel
theorem dX9_weekOf_51 : decode cX9_weekOf 51 = .ok (.iload_n 2, 1) := by decide +kernel
theorem dX9_weekOf_52 : decode cX9_weekOf 52 = .ok (.aload_n 0, 1) := by decide +kernel
theorem dX9_weekOf_53 : decode cX9_weekOf 53 = .ok (.getfield 18, 3) := by decide +kernel
theorem dX9_weekOf_56 : decode cX9_weekOf 56 = .ok (.iload_n 1, 1) := by decide +kernel
theorem dX9_weekOf_57 : decode cX9_weekOf 57 = .ok (.iaload, 1) := by decide +kernel
theorem dX9_weekOf_58 : decode cX9_weekOf 58 = .ok (.if_icmp .lt 5, 3) := by decide +kernel
theorem dX9_weekOf_61 : decode cX9_weekOf 61 = .ok (.iload_n 3, 1) := by decide +kernel
theorem dX9_weekOf_62 : decode cX9_weekOf 62 = .ok (.ireturn, 1) := by decide +kernel
theorem dX9_weekOf_63 : decode cX9_weekOf 63 = .ok (.iinc 3 1, 3) := by decide +kernel
theorem dX9_weekOf_66 : decode cX9_weekOf 66 = .ok (.goto (-52), 3) := by decide +kernel
theorem dX9_weekOf_69 : decode cX9_weekOf 69 = .ok (.bipush (-2), 2) := by decide +kernel
theorem dX9_weekOf_71 : decode cX9_weekOf 71 = .ok (.ireturn, 1) := by decide +kernel
theorem dX9_weekOfSide_0 : decode cX9_weekOfSide 0 = .ok (.bipush (-2), 2) := by decide +kernel
theorem dX9_weekOfSide_2 : decode cX9_weekOfSide 2 = .ok (.istore_n 2, 1) := by decide +kernel
theorem dX9_weekOfSide_3 : decode cX9_weekOfSide 3 = .ok (.iconst 0, 1) := by decide +kernel
theorem dX9_weekOfSide_4 : decode cX9_weekOfSide 4 = .ok (.istore_n 3, 1) := by decide +kernel
theorem dX9_weekOfSide_5 : decode cX9_weekOfSide 5 = .ok (.iload_n 3, 1) := by decide +kernel
theorem dX9_weekOfSide_6 : decode cX9_weekOfSide 6 = .ok (.aload_n 0, 1) := by decide +kernel
theorem dX9_weekOfSide_7 : decode cX9_weekOfSide 7 = .ok (.getfield 32, 3) := by decide +kernel
theorem dX9_weekOfSide_10 : decode cX9_weekOfSide 10 = .ok (.if_icmp .ge 61, 3) := by decide +kernel
theorem dX9_weekOfSide_13 : decode cX9_weekOfSide 13 = .ok (.aload_n 0, 1) := by decide +kernel
theorem dX9_weekOfSide_14 : decode cX9_weekOfSide 14 = .ok (.getfield 11, 3) := by decide +kernel
theorem dX9_weekOfSide_17 : decode cX9_weekOfSide 17 = .ok (.iload_n 3, 1) := by decide +kernel
theorem dX9_weekOfSide_18 : decode cX9_weekOfSide 18 = .ok (.iaload, 1) := by decide +kernel
theorem dX9_weekOfSide_19 : decode cX9_weekOfSide 19 = .ok (.iload_n 1, 1) := by decide +kernel
theorem dX9_weekOfSide_20 : decode cX9_weekOfSide 20 = .ok (.if_icmp .ne 11, 3) := by decide +kernel
theorem dX9_weekOfSide_23 : decode cX9_weekOfSide 23 = .ok (.aload_n 0, 1) := by decide +kernel
theorem dX9_weekOfSide_24 : decode cX9_weekOfSide 24 = .ok (.iload_n 3, 1) := by decide +kernel
theorem dX9_weekOfSide_25 : decode cX9_weekOfSide 25 = .ok (.invokevirtual 46, 3) := by decide +kernel
theorem dX9_weekOfSide_28 : decode cX9_weekOfSide 28 = .ok (.goto 5, 3) := by decide +kernel
theorem dX9_weekOfSide_31 : decode cX9_weekOfSide 31 = .ok (.bipush (-2), 2) := by decide +kernel
theorem dX9_weekOfSide_33 : decode cX9_weekOfSide 33 = .ok (.istore 4, 2) := by decide +kernel
theorem dX9_weekOfSide_35 : decode cX9_weekOfSide 35 = .ok (.iload 4, 2) := by decide +kernel
theorem dX9_weekOfSide_37 : decode cX9_weekOfSide 37 = .ok (.ifCond .lt 28, 3) := by decide +kernel
theorem dX9_weekOfSide_40 : decode cX9_weekOfSide 40 = .ok (.iload_n 2, 1) := by decide +kernel
theorem dX9_weekOfSide_41 : decode cX9_weekOfSide 41 = .ok (.bipush (-2), 2) := by decide +kernel
theorem dX9_weekOfSide_43 : decode cX9_weekOfSide 43 = .ok (.if_icmp .eq 9, 3) := by decide +kernel
theorem dX9_weekOfSide_46 : decode cX9_weekOfSide 46 = .ok (.iload 4, 2) := by decide +kernel
theorem dX9_weekOfSide_48 : decode cX9_weekOfSide 48 = .ok (.iload_n 2, 1) := by decide +kernel
theorem dX9_weekOfSide_49 : decode cX9_weekOfSide 49 = .ok (.if_icmp .ge 16, 3) := by decide +kernel
theorem dX9_weekOfSide_52 : decode cX9_weekOfSide 52 = .ok (.aload_n 0, 1) := by decide +kernel
theorem dX9_weekOfSide_53 : decode cX9_weekOfSide 53 = .ok (.iload_n 1, 1) := by decide +kernel
theorem dX9_weekOfSide_54 : decode cX9_weekOfSide 54 = .ok (.iload 4, 2) := by decide +kernel
theorem dX9_weekOfSide_56 : decode cX9_weekOfSide 56 = .ok (.invokevirtual 50, 3) := by decide +kernel
theorem dX9_weekOfSide_59 : decode cX9_weekOfSide 59 = .ok (.ifCond .eq 6, 3) := by decide +kernel
theorem dX9_weekOfSide_62 : decode cX9_weekOfSide 62 = .ok (.iload 4, 2) := by decide +kernel
theorem dX9_weekOfSide_64 : decode cX9_weekOfSide 64 = .ok (.istore_n 2, 1) := by decide +kernel
theorem dX9_weekOfSide_65 : decode cX9_weekOfSide 65 = .ok (.iinc 3 1, 3) := by decide +kernel
theorem dX9_weekOfSide_68 : decode cX9_weekOfSide 68 = .ok (.goto (-63), 3) := by decide +kernel
theorem dX9_weekOfSide_71 : decode cX9_weekOfSide 71 = .ok (.iload_n 2, 1) := by decide +kernel
theorem dX9_weekOfSide_72 : decode cX9_weekOfSide 72 = .ok (.ireturn, 1) := by decide +kernel
theorem dX9_isEnough_0 : decode cX9_isEnough 0 = .ok (.iconst 0, 1) := by decide +kernel
theorem dX9_isEnough_1 : decode cX9_isEnough 1 = .ok (.istore_n 3, 1) := by decide +kernel
theorem dX9_isEnough_2 : decode cX9_isEnough 2 = .ok (.iconst 0, 1) := by decide +kernel
theorem dX9_isEnough_3 : decode cX9_isEnough 3 = .ok (.istore 4, 2) := by decide +kernel
theorem dX9_isEnough_5 : decode cX9_isEnough 5 = .ok (.iconst 0, 1) := by decide +kernel
theorem dX9_isEnough_6 : decode cX9_isEnough 6 = .ok (.istore 5, 2) := by decide +kernel
theorem dX9_isEnough_8 : decode cX9_isEnough 8 = .ok (.iload 5, 2) := by decide +kernel
theorem dX9_isEnough_10 : decode cX9_isEnough 10 = .ok (.aload_n 0, 1) := by decide +kernel
theorem dX9_isEnough_11 : decode cX9_isEnough 11 = .ok (.getfield 32, 3) := by decide +kernel
theorem dX9_isEnough_14 : decode cX9_isEnough 14 = .ok (.if_icmp .ge 65, 3) := by decide +kernel
theorem dX9_isEnough_17 : decode cX9_isEnough 17 = .ok (.aload_n 0, 1) := by decide +kernel
theorem dX9_isEnough_18 : decode cX9_isEnough 18 = .ok (.getfield 11, 3) := by decide +kernel
theorem dX9_isEnough_21 : decode cX9_isEnough 21 = .ok (.iload 5, 2) := by decide +kernel
theorem dX9_isEnough_23 : decode cX9_isEnough 23 = .ok (.iaload, 1) := by decide +kernel
theorem dX9_isEnough_24 : decode cX9_isEnough 24 = .ok (.iload_n 1, 1) := by decide +kernel
theorem dX9_isEnough_25 : decode cX9_isEnough 25 = .ok (.if_icmp .ne 48, 3) := by decide +kernel
theorem dX9_isEnough_28 : decode cX9_isEnough 28 = .ok (.aload_n 0, 1) := by decide +kernel
theorem dX9_isEnough_29 : decode cX9_isEnough 29 = .ok (.iload 5, 2) := by decide +kernel
theorem dX9_isEnough_31 : decode cX9_isEnough 31 = .ok (.invokevirtual 46, 3) := by decide +kernel
theorem dX9_isEnough_34 : decode cX9_isEnough 34 = .ok (.istore 6, 2) := by decide +kernel
theorem dX9_isEnough_36 : decode cX9_isEnough 36 = .ok (.iload_n 3, 1) := by decide +kernel
theorem dX9_isEnough_37 : decode cX9_isEnough 37 = .ok (.aload_n 0, 1) := by decide +kernel
theorem dX9_isEnough_38 : decode cX9_isEnough 38 = .ok (.getfield 15, 3) := by decide +kernel
theorem dX9_isEnough_41 : decode cX9_isEnough 41 = .ok (.iload 5, 2) := by decide +kernel
theorem dX9_isEnough_43 : decode cX9_isEnough 43 = .ok (.iaload, 1) := by decide +kernel
theorem dX9_isEnough_44 : decode cX9_isEnough 44 = .ok (.iadd, 1) := by decide +kernel
theorem dX9_isEnough_45 : decode cX9_isEnough 45 = .ok (.istore_n 3, 1) := by decide +kernel
theorem dX9_isEnough_46 : decode cX9_isEnough 46 = .ok (.iload 4, 2) := by decide +kernel
theorem dX9_isEnough_48 : decode cX9_isEnough 48 = .ok (.iload 6, 2) := by decide +kernel
theorem dX9_isEnough_50 : decode cX9_isEnough 50 = .ok (.ifCond .lt 19, 3) := by decide +kernel
theorem dX9_isEnough_53 : decode cX9_isEnough 53 = .ok (.iload 6, 2) := by decide +kernel
theorem dX9_isEnough_55 : decode cX9_isEnough 55 = .ok (.iload_n 2, 1) := by decide +kernel
theorem dX9_isEnough_56 : decode cX9_isEnough 56 = .ok (.if_icmp .gt 13, 3) := by decide +kernel
theorem dX9_isEnough_59 : decode cX9_isEnough 59 = .ok (.aload_n 0, 1) := by decide +kernel
theorem dX9_isEnough_60 : decode cX9_isEnough 60 = .ok (.getfield 15, 3) := by decide +kernel
theorem dX9_isEnough_63 : decode cX9_isEnough 63 = .ok (.iload 5, 2) := by decide +kernel
theorem dX9_isEnough_65 : decode cX9_isEnough 65 = .ok (.iaload, 1) := by decide +kernel
theorem dX9_isEnough_66 : decode cX9_isEnough 66 = .ok (.goto 4, 3) := by decide +kernel
theorem dX9_isEnough_69 : decode cX9_isEnough 69 = .ok (.iconst 0, 1) := by decide +kernel
theorem dX9_isEnough_70 : decode cX9_isEnough 70 = .ok (.iadd, 1) := by decide +kernel
theorem dX9_isEnough_71 : decode cX9_isEnough 71 = .ok (.istore 4, 2) := by decide +kernel
theorem dX9_isEnough_73 : decode cX9_isEnough 73 = .ok (.iinc 5 1, 3) := by decide +kernel
theorem dX9_isEnough_76 : decode cX9_isEnough 76 = .ok (.goto (-68), 3) := by decide +kernel
theorem dX9_isEnough_79 : decode cX9_isEnough 79 = .ok (.iconst 2, 1) := by decide +kernel
theorem dX9_isEnough_80 : decode cX9_isEnough 80 = .ok (.iload 4, 2) := by decide +kernel
theorem dX9_isEnough_82 : decode cX9_isEnough 82 = .ok (.imul, 1) := by decide +kernel
theorem dX9_isEnough_83 : decode cX9_isEnough 83 = .ok (.iload_n 3, 1) := by decide +kernel
theorem dX9_isEnough_84 : decode cX9_isEnough 84 = .ok (.if_icmp .le 7, 3) := by decide +kernel
theorem dX9_isEnough_87 : decode cX9_isEnough 87 = .ok (.iconst 1, 1) := by decide +kernel
theorem dX9_isEnough_88 : decode cX9_isEnough 88 = .ok (.goto 4, 3) := by decide +kernel
theorem dX9_isEnough_91 : decode cX9_isEnough 91 = .ok (.iconst 0, 1) := by decide +kernel
theorem dX9_isEnough_92 : decode cX9_isEnough 92 = .ok (.ireturn, 1) := by decide +kernel
theorem dX10_init_0 : decode cX10_init 0 = .ok (.aload_n 0, 1) := by decide +kernel
theorem dX10_init_1 : decode cX10_init 1 = .ok (.invokespecial 1, 3) := by decide +kernel
theorem dX10_init_4 : decode cX10_init 4 = .ok (.aload_n 0, 1) := by decide +kernel
theorem dX10_init_5 : decode cX10_init 5 = .ok (.iconst 0, 1) := by decide +kernel
theorem dX10_init_6 : decode cX10_init 6 = .ok (.putfield 7, 3) := by decide +kernel
theorem dX10_init_9 : decode cX10_init 9 = .ok (.aload_n 0, 1) := by decide +kernel
theorem dX10_init_10 : decode cX10_init 10 = .ok (.new 13, 3) := by decide +kernel
theorem dX10_init_13 : decode cX10_init 13 = .ok (.dup, 1) := by decide +kernel
theorem dX10_init_14 : decode cX10_init 14 = .ok (.invokespecial 15, 3) := by decide +kernel
theorem dX10_init_17 : decode cX10_init 17 = .ok (.putfield 16, 3) := by decide +kernel
theorem dX10_init_20 : decode cX10_init 20 = .ok (.aload_n 0, 1) := by decide +kernel
theorem dX10_init_21 : decode cX10_init 21 = .ok (.new 20, 3) := by decide +kernel
theorem dX10_init_24 : decode cX10_init 24 = .ok (.dup, 1) := by decide +kernel
theorem dX10_init_25 : decode cX10_init 25 = .ok (.invokespecial 22, 3) := by decide +kernel
theorem dX10_init_28 : decode cX10_init 28 = .ok (.putfield 23, 3) := by decide +kernel
theorem dX10_init_31 : decode cX10_init 31 = .ok (.aload_n 0, 1) := by decide +kernel
theorem dX10_init_32 : decode cX10_init 32 = .ok (.new 27, 3) := by decide +kernel
theorem dX10_init_35 : decode cX10_init 35 = .ok (.dup, 1) := by decide +kernel
theorem dX10_init_36 : decode cX10_init 36 = .ok (.invokespecial 29, 3) := by decide +kernel
theorem dX10_init_39 : decode cX10_init 39 = .ok (.putfield 30, 3) := by decide +kernel
theorem dX10_init_42 : decode cX10_init 42 = .ok (.aload_n 0, 1) := by decide +kernel
theorem dX10_init_43 : decode cX10_init 43 = .ok (.new 34, 3) := by decide +kernel
theorem dX10_init_46 : decode cX10_init 46 = .ok (.dup, 1) := by decide +kernel
theorem dX10_init_47 : decode cX10_init 47 = .ok (.invokespecial 36, 3) := by decide +kernel
theorem dX10_init_50 : decode cX10_init 50 = .ok (.putfield 37, 3) := by decide +kernel
theorem dX10_init_53 : decode cX10_init 53 = .ok (.aload_n 0, 1) := by decide +kernel
theorem dX10_init_54 : decode cX10_init 54 = .ok (.new 41, 3) := by decide +kernel
theorem dX10_init_57 : decode cX10_init 57 = .ok (.dup, 1) := by decide +kernel
theorem dX10_init_58 : decode cX10_init 58 = .ok (.aload_n 0, 1) := by decide +kernel
theorem dX10_init_59 : decode cX10_init 59 = .ok (.getfield 37, 3) := by decide +kernel
theorem dX10_init_62 : decode cX10_init 62 = .ok (.invokespecial 43, 3) := by decide +kernel
theorem dX10_init_65 : decode cX10_init 65 = .ok (.putfield 46, 3) := by decide +kernel
theorem dX10_init_68 : decode cX10_init 68 = .ok (.aload_n 0, 1) := by decide +kernel
theorem dX10_init_69 : decode cX10_init 69 = .ok (.bipush 9, 2) := by decide +kernel
theorem dX10_init_71 : decode cX10_init 71 = .ok (.newarray .long, 2) := by decide +kernel
theorem dX10_init_73 : decode cX10_init 73 = .ok (.putfield 50, 3) := by decide +kernel
theorem dX10_init_76 : decode cX10_init 76 = .ok (.aload_n 0, 1) := by decide +kernel
theorem dX10_init_77 : decode cX10_init 77 = .ok (.bipush 9, 2) := by decide +kernel
theorem dX10_init_79 : decode cX10_init 79 = .ok (.newarray .long, 2) := by decide +kernel
theorem dX10_init_81 : decode cX10_init 81 = .ok (.putfield 54, 3) := by decide +kernel
theorem dX10_init_84 : decode cX10_init 84 = .ok (.aload_n 0, 1) := by decide +kernel
theorem dX10_init_85 : decode cX10_init 85 = .ok (.sipush 750, 3) := by decide +kernel
theorem dX10_init_88 : decode cX10_init 88 = .ok (.newarray .int, 2) := by decide +kernel
theorem dX10_init_90 : decode cX10_init 90 = .ok (.putfield 57, 3) := by decide +kernel
theorem dX10_init_93 : decode cX10_init 93 = .ok (.aload_n 0, 1) := by decide +kernel
theorem dX10_init_94 : decode cX10_init 94 = .ok (.iconst 0, 1) := by decide +kernel
theorem dX10_init_95 : decode cX10_init 95 = .ok (.putfield 61, 3) := by decide +kernel
theorem dX10_init_98 : decode cX10_init 98 = .ok (.aload_n 0, 1) := by decide +kernel
theorem dX10_init_99 : decode cX10_init 99 = .ok (.new 64, 3) := by decide +kernel
theorem dX10_init_102 : decode cX10_init 102 = .ok (.dup, 1) := by decide +kernel
theorem dX10_init_103 : decode cX10_init 103 = .ok (.invokespecial 66, 3) := by decide +kernel
theorem dX10_init_106 : decode cX10_init 106 = .ok (.putfield 67, 3) := by decide +kernel
theorem dX10_init_109 : decode cX10_init 109 = .ok (.aload_n 0, 1) := by decide +kernel
theorem dX10_init_110 : decode cX10_init 110 = .ok (.new 71, 3) := by decide +kernel
theorem dX10_init_113 : decode cX10_init 113 = .ok (.dup, 1) := by decide +kernel
theorem dX10_init_114 : decode cX10_init 114 = .ok (.invokespecial 73, 3) := by decide +kernel
theorem dX10_init_117 : decode cX10_init 117 = .ok (.putfield 74, 3) := by decide +kernel
theorem dX10_init_120 : decode cX10_init 120 = .ok (.aload_n 0, 1) := by decide +kernel
theorem dX10_init_121 : decode cX10_init 121 = .ok (.new 78, 3) := by decide +kernel
theorem dX10_init_124 : decode cX10_init 124 = .ok (.dup, 1) := by decide +kernel
theorem dX10_init_125 : decode cX10_init 125 = .ok (.invokespecial 80, 3) := by decide +kernel
theorem dX10_init_128 : decode cX10_init 128 = .ok (.putfield 81, 3) := by decide +kernel
theorem dX10_init_131 : decode cX10_init 131 = .ok (.aload_n 0, 1) := by decide +kernel
theorem dX10_init_132 : decode cX10_init 132 = .ok (.new 85, 3) := by decide +kernel
theorem dX10_init_135 : decode cX10_init 135 = .ok (.dup, 1) := by decide +kernel
theorem dX10_init_136 : decode cX10_init 136 = .ok (.invokespecial 87, 3) := by decide +kernel
theorem dX10_init_139 : decode cX10_init 139 = .ok (.putfield 88, 3) := by decide +kernel
theorem dX10_init_142 : decode cX10_init 142 = .ok (.aload_n 0, 1) := by decide +kernel
theorem dX10_init_143 : decode cX10_init 143 = .ok (.new 92, 3) := by decide +kernel
theorem dX10_init_146 : decode cX10_init 146 = .ok (.dup, 1) := by decide +kernel
theorem dX10_init_147 : decode cX10_init 147 = .ok (.invokespecial 94, 3) := by decide +kernel
theorem dX10_init_150 : decode cX10_init 150 = .ok (.putfield 95, 3) := by decide +kernel
theorem dX10_init_153 : decode cX10_init 153 = .ok (.return_, 1) := by decide +kernel
theorem dX10_lies_0 : decode cX10_lies 0 = .ok (.iload_n 0, 1) := by decide +kernel
theorem dX10_lies_1 : decode cX10_lies 1 = .ok (.iload_n 1, 1) := by decide +kernel
theorem dX10_lies_2 : decode cX10_lies 2 = .ok (.if_icmp .lt 12, 3) := by decide +kernel
theorem dX10_lies_5 : decode cX10_lies 5 = .ok (.iload_n 0, 1) := by decide +kernel
theorem dX10_lies_6 : decode cX10_lies 6 = .ok (.iload_n 2, 1) := by decide +kernel
theorem dX10_lies_7 : decode cX10_lies 7 = .ok (.if_icmp .gt 7, 3) := by decide +kernel
theorem dX10_lies_10 : decode cX10_lies 10 = .ok (.iconst 1, 1) := by decide +kernel
theorem dX10_lies_11 : decode cX10_lies 11 = .ok (.goto 4, 3) := by decide +kernel
theorem dX10_lies_14 : decode cX10_lies 14 = .ok (.iconst 0, 1) := by decide +kernel
theorem dX10_lies_15 : decode cX10_lies 15 = .ok (.ireturn, 1) := by decide +kernel
theorem dX10_isMinute_0 : decode cX10_isMinute 0 = .ok (.iload_n 0, 1) := by decide +kernel
theorem dX10_isMinute_1 : decode cX10_isMinute 1 = .ok (.iconst 0, 1) := by decide +kernel
theorem dX10_isMinute_2 : decode cX10_isMinute 2 = .ok (.sipush 8999, 3) := by decide +kernel
theorem dX10_isMinute_5 : decode cX10_isMinute 5 = .ok (.invokestatic 99, 3) := by decide +kernel
theorem dX10_isMinute_8 : decode cX10_isMinute 8 = .ok (.ireturn, 1) := by decide +kernel
theorem dX10_isSide_0 : decode cX10_isSide 0 = .ok (.iload_n 0, 1) := by decide +kernel
theorem dX10_isSide_1 : decode cX10_isSide 1 = .ok (.iconst 0, 1) := by decide +kernel
theorem dX10_isSide_2 : decode cX10_isSide 2 = .ok (.iconst 1, 1) := by decide +kernel
theorem dX10_isSide_3 : decode cX10_isSide 3 = .ok (.invokestatic 99, 3) := by decide +kernel
theorem dX10_isSide_6 : decode cX10_isSide 6 = .ok (.ireturn, 1) := by decide +kernel
theorem dX10_isAuthor_0 : decode cX10_isAuthor 0 = .ok (.iload_n 0, 1) := by decide +kernel
theorem dX10_isAuthor_1 : decode cX10_isAuthor 1 = .ok (.iconst 0, 1) := by decide +kernel
theorem dX10_isAuthor_2 : decode cX10_isAuthor 2 = .ok (.iconst 2, 1) := by decide +kernel
theorem dX10_isAuthor_3 : decode cX10_isAuthor 3 = .ok (.invokestatic 99, 3) := by decide +kernel
theorem dX10_isAuthor_6 : decode cX10_isAuthor 6 = .ok (.ireturn, 1) := by decide +kernel
theorem dX10_clock_0 : decode cX10_clock 0 = .ok (.iload_n 1, 1) := by decide +kernel
theorem dX10_clock_1 : decode cX10_clock 1 = .ok (.aload_n 0, 1) := by decide +kernel
theorem dX10_clock_2 : decode cX10_clock 2 = .ok (.getfield 7, 3) := by decide +kernel
theorem dX10_clock_5 : decode cX10_clock 5 = .ok (.sipush 8999, 3) := by decide +kernel
theorem dX10_clock_8 : decode cX10_clock 8 = .ok (.invokestatic 99, 3) := by decide +kernel
theorem dX10_clock_11 : decode cX10_clock 11 = .ok (.ifCond .ne 5, 3) := by decide +kernel
theorem dX10_clock_14 : decode cX10_clock 14 = .ok (.iconst 0, 1) := by decide +kernel
theorem dX10_clock_15 : decode cX10_clock 15 = .ok (.ireturn, 1) := by decide +kernel
theorem dX10_clock_16 : decode cX10_clock 16 = .ok (.aload_n 0, 1) := by decide +kernel
theorem dX10_clock_17 : decode cX10_clock 17 = .ok (.iload_n 1, 1) := by decide +kernel
theorem dX10_clock_18 : decode cX10_clock 18 = .ok (.putfield 7, 3) := by decide +kernel
theorem dX10_clock_21 : decode cX10_clock 21 = .ok (.iconst 1, 1) := by decide +kernel
theorem dX10_clock_22 : decode cX10_clock 22 = .ok (.ireturn, 1) := by decide +kernel
theorem dX10_depth_0 : decode cX10_depth 0 = .ok (.iload_n 1, 1) := by decide +kernel
theorem dX10_depth_1 : decode cX10_depth 1 = .ok (.iload_n 2, 1) := by decide +kernel
theorem dX10_depth_2 : decode cX10_depth 2 = .ok (.invokestatic 103, 3) := by decide +kernel
theorem dX10_depth_5 : decode cX10_depth 5 = .ok (.ifCond .eq 14, 3) := by decide +kernel
theorem dX10_depth_8 : decode cX10_depth 8 = .ok (.iload_n 3, 1) := by decide +kernel
theorem dX10_depth_9 : decode cX10_depth 9 = .ok (.iconst 0, 1) := by decide +kernel
theorem dX10_depth_10 : decode cX10_depth 10 = .ok (.sipush 999, 3) := by decide +kernel
theorem dX10_depth_13 : decode cX10_depth 13 = .ok (.invokestatic 99, 3) := by decide +kernel
theorem dX10_depth_16 : decode cX10_depth 16 = .ok (.ifCond .ne 5, 3) := by decide +kernel
theorem dX10_depth_19 : decode cX10_depth 19 = .ok (.iconst (-1), 1) := by decide +kernel
theorem dX10_depth_20 : decode cX10_depth 20 = .ok (.ireturn, 1) := by decide +kernel
theorem dX10_depth_21 : decode cX10_depth 21 = .ok (.aload_n 0, 1) := by decide +kernel
theorem dX10_depth_22 : decode cX10_depth 22 = .ok (.getfield 16, 3) := by decide +kernel
theorem dX10_depth_25 : decode cX10_depth 25 = .ok (.iload_n 1, 1) := by decide +kernel
theorem dX10_depth_26 : decode cX10_depth 26 = .ok (.iload_n 2, 1) := by decide +kernel
theorem dX10_depth_27 : decode cX10_depth 27 = .ok (.iload_n 3, 1) := by decide +kernel
theorem dX10_depth_28 : decode cX10_depth 28 = .ok (.invokevirtual 107, 3) := by decide +kernel
theorem dX10_depth_31 : decode cX10_depth 31 = .ok (.ireturn, 1) := by decide +kernel
theorem dX10_ship_0 : decode cX10_ship 0 = .ok (.iload_n 1, 1) := by decide +kernel
theorem dX10_ship_1 : decode cX10_ship 1 = .ok (.invokestatic 111, 3) := by decide +kernel
theorem dX10_ship_4 : decode cX10_ship 4 = .ok (.ifCond .eq 33, 3) := by decide +kernel
theorem dX10_ship_7 : decode cX10_ship 7 = .ok (.iload_n 2, 1) := by decide +kernel
theorem dX10_ship_8 : decode cX10_ship 8 = .ok (.iconst 0, 1) := by decide +kernel
theorem dX10_ship_9 : decode cX10_ship 9 = .ok (.iconst 2, 1) := by decide +kernel
theorem dX10_ship_10 : decode cX10_ship 10 = .ok (.invokestatic 99, 3) := by decide +kernel
theorem dX10_ship_13 : decode cX10_ship 13 = .ok (.ifCond .eq 24, 3) := by decide +kernel
theorem dX10_ship_16 : decode cX10_ship 16 = .ok (.iload_n 3, 1) := by decide +kernel
theorem dX10_ship_17 : decode cX10_ship 17 = .ok (.iconst 1, 1) := by decide +kernel
theorem dX10_ship_18 : decode cX10_ship 18 = .ok (.iconst 3, 1) := by decide +kernel
theorem dX10_ship_19 : decode cX10_ship 19 = .ok (.invokestatic 99, 3) := by decide +kernel
theorem dX10_ship_22 : decode cX10_ship 22 = .ok (.ifCond .eq 15, 3) := by decide +kernel
theorem dX10_ship_25 : decode cX10_ship 25 = .ok (.iload 4, 2) := by decide +kernel
theorem dX10_ship_27 : decode cX10_ship 27 = .ok (.iconst 0, 1) := by decide +kernel
theorem dX10_ship_28 : decode cX10_ship 28 = .ok (.sipush 199, 3) := by decide +kernel
theorem dX10_ship_31 : decode cX10_ship 31 = .ok (.invokestatic 99, 3) := by decide +kernel
theorem dX10_ship_34 : decode cX10_ship 34 = .ok (.ifCond .ne 5, 3) := by decide +kernel
theorem dX10_ship_37 : decode cX10_ship 37 = .ok (.iconst (-1), 1) := by decide +kernel
theorem dX10_ship_38 : decode cX10_ship 38 = .ok (.ireturn, 1) := by decide +kernel
theorem dX10_ship_39 : decode cX10_ship 39 = .ok (.aload_n 0, 1) := by decide +kernel
theorem dX10_ship_40 : decode cX10_ship 40 = .ok (.getfield 23, 3) := by decide +kernel
theorem dX10_ship_43 : decode cX10_ship 43 = .ok (.iload_n 1, 1) := by decide +kernel
theorem dX10_ship_44 : decode cX10_ship 44 = .ok (.iload_n 2, 1) := by decide +kernel
theorem dX10_ship_45 : decode cX10_ship 45 = .ok (.iload_n 3, 1) := by decide +kernel
theorem dX10_ship_46 : decode cX10_ship 46 = .ok (.iload 4, 2) := by decide +kernel
theorem dX10_ship_48 : decode cX10_ship 48 = .ok (.invokevirtual 115, 3) := by decide +kernel
theorem dX10_ship_51 : decode cX10_ship 51 = .ok (.ireturn, 1) := by decide +kernel
theorem dX10_report_0 : decode cX10_report 0 = .ok (.aload_n 0, 1) := by decide +kernel
theorem dX10_report_1 : decode cX10_report 1 = .ok (.getfield 23, 3) := by decide +kernel
theorem dX10_report_4 : decode cX10_report 4 = .ok (.iload_n 1, 1) := by decide +kernel
theorem dX10_report_5 : decode cX10_report 5 = .ok (.invokevirtual 119, 3) := by decide +kernel
theorem dX10_report_8 : decode cX10_report 8 = .ok (.ifCond .eq 36, 3) := by decide +kernel
theorem dX10_report_11 : decode cX10_report 11 = .ok (.aload_n 0, 1) := by decide +kernel
theorem dX10_report_12 : decode cX10_report 12 = .ok (.getfield 23, 3) := by decide +kernel
theorem dX10_report_15 : decode cX10_report 15 = .ok (.iload_n 2, 1) := by decide +kernel
theorem dX10_report_16 : decode cX10_report 16 = .ok (.invokevirtual 119, 3) := by decide +kernel
theorem dX10_report_19 : decode cX10_report 19 = .ok (.ifCond .eq 25, 3) := by decide +kernel
theorem dX10_report_22 : decode cX10_report 22 = .ok (.iload_n 3, 1) := by decide +kernel
theorem dX10_report_23 : decode cX10_report 23 = .ok (.iconst 0, 1) := by decide +kernel
theorem dX10_report_24 : decode cX10_report 24 = .ok (.aload_n 0, 1) := by decide +kernel
theorem dX10_report_25 : decode cX10_report 25 = .ok (.getfield 7, 3) := by decide +kernel
theorem dX10_report_28 : decode cX10_report 28 = .ok (.invokestatic 99, 3) := by decide +kernel
theorem dX10_report_31 : decode cX10_report 31 = .ok (.ifCond .eq 13, 3) := by decide +kernel
theorem dX10_report_34 : decode cX10_report 34 = .ok (.iload 4, 2) := by decide +kernel
theorem dX10_report_36 : decode cX10_report 36 = .ok (.iload 5, 2) := by decide +kernel
theorem dX10_report_38 : decode cX10_report 38 = .ok (.invokestatic 103, 3) := by decide +kernel
theorem dX10_report_41 : decode cX10_report 41 = .ok (.ifCond .ne 5, 3) := by decide +kernel
theorem dX10_report_44 : decode cX10_report 44 = .ok (.iconst (-1), 1) := by decide +kernel
theorem dX10_report_45 : decode cX10_report 45 = .ok (.ireturn, 1) := by decide +kernel
theorem dX10_report_46 : decode cX10_report 46 = .ok (.aload_n 0, 1) := by decide +kernel
theorem dX10_report_47 : decode cX10_report 47 = .ok (.getfield 30, 3) := by decide +kernel
theorem dX10_report_50 : decode cX10_report 50 = .ok (.iload_n 1, 1) := by decide +kernel
theorem dX10_report_51 : decode cX10_report 51 = .ok (.iload_n 2, 1) := by decide +kernel
theorem dX10_report_52 : decode cX10_report 52 = .ok (.iload_n 3, 1) := by decide +kernel
theorem dX10_report_53 : decode cX10_report 53 = .ok (.iload 4, 2) := by decide +kernel
theorem dX10_report_55 : decode cX10_report 55 = .ok (.iload 5, 2) := by decide +kernel
theorem dX10_report_57 : decode cX10_report 57 = .ok (.aload_n 0, 1) := by decide +kernel
theorem dX10_report_58 : decode cX10_report 58 = .ok (.getfield 7, 3) := by decide +kernel
theorem dX10_report_61 : decode cX10_report 61 = .ok (.invokevirtual 122, 3) := by decide +kernel
theorem dX10_report_64 : decode cX10_report 64 = .ok (.ireturn, 1) := by decide +kernel
theorem dX10_where_0 : decode cX10_where 0 = .ok (.aload_n 0, 1) := by decide +kernel
theorem dX10_where_1 : decode cX10_where 1 = .ok (.getfield 23, 3) := by decide +kernel
theorem dX10_where_4 : decode cX10_where 4 = .ok (.iload_n 1, 1) := by decide +kernel
theorem dX10_where_5 : decode cX10_where 5 = .ok (.invokevirtual 119, 3) := by decide +kernel
theorem dX10_where_8 : decode cX10_where 8 = .ok (.ifCond .eq 17, 3) := by decide +kernel
theorem dX10_where_11 : decode cX10_where 11 = .ok (.iload_n 2, 1) := by decide +kernel
theorem dX10_where_12 : decode cX10_where 12 = .ok (.invokestatic 125, 3) := by decide +kernel
theorem dX10_where_15 : decode cX10_where 15 = .ok (.ifCond .eq 10, 3) := by decide +kernel
theorem dX10_where_18 : decode cX10_where 18 = .ok (.iload_n 3, 1) := by decide +kernel
theorem dX10_where_19 : decode cX10_where 19 = .ok (.invokestatic 125, 3) := by decide +kernel
theorem dX10_where_22 : decode cX10_where 22 = .ok (.ifCond .ne 5, 3) := by decide +kernel
theorem dX10_where_25 : decode cX10_where 25 = .ok (.iconst (-1), 1) := by decide +kernel
theorem dX10_where_26 : decode cX10_where 26 = .ok (.ireturn, 1) := by decide +kernel
