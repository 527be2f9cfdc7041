theorem dX11_clauseOf_44 : decode cX11_clauseOf 44 = .ok (.getfield 83, 3) := by decide +kernel
theorem dX11_clauseOf_47 : decode cX11_clauseOf 47 = .ok (.iload_n 3, 1) := by decide +kernel
theorem dX11_clauseOf_48 : decode cX11_clauseOf 48 = .ok (.iaload, 1) := by decide +kernel
theorem dX11_clauseOf_49 : decode cX11_clauseOf 49 = .ok (.aload_n 0, 1) := by decide +kernel
theorem dX11_clauseOf_50 : decode cX11_clauseOf 50 = .ok (.getfield 86, 3) := by decide +kernel
theorem dX11_clauseOf_53 : decode cX11_clauseOf 53 = .ok (.iload_n 3, 1) := by decide +kernel
theorem dX11_clauseOf_54 : decode cX11_clauseOf 54 = .ok (.iaload, 1) := by decide +kernel
theorem dX11_clauseOf_55 : decode cX11_clauseOf 55 = .ok (.iload_n 1, 1) := by decide +kernel
theorem dX11_clauseOf_56 : decode cX11_clauseOf 56 = .ok (.invokevirtual 300, 3) := by decide +kernel
theorem dX11_clauseOf_59 : decode cX11_clauseOf 59 = .ok (.lconst 1, 1) := by decide +kernel
theorem dX11_clauseOf_60 : decode cX11_clauseOf 60 = .ok (.lcmp, 1) := by decide +kernel
theorem dX11_clauseOf_61 : decode cX11_clauseOf 61 = .ok (.ifCond .ne 7, 3) := by decide +kernel
theorem dX11_clauseOf_64 : decode cX11_clauseOf 64 = .ok (.iconst 1, 1) := by decide +kernel
theorem dX11_clauseOf_65 : decode cX11_clauseOf 65 = .ok (.goto 4, 3) := by decide +kernel
theorem dX11_clauseOf_68 : decode cX11_clauseOf 68 = .ok (.iconst 0, 1) := by decide +kernel
theorem dX11_clauseOf_69 : decode cX11_clauseOf 69 = .ok (.aload_n 0, 1) := by decide +kernel
theorem dX11_clauseOf_70 : decode cX11_clauseOf 70 = .ok (.getfield 89, 3) := by decide +kernel
theorem dX11_clauseOf_73 : decode cX11_clauseOf 73 = .ok (.iload_n 3, 1) := by decide +kernel
theorem dX11_clauseOf_74 : decode cX11_clauseOf 74 = .ok (.iaload, 1) := by decide +kernel
theorem dX11_clauseOf_75 : decode cX11_clauseOf 75 = .ok (.iconst 1, 1) := by decide +kernel
theorem dX11_clauseOf_76 : decode cX11_clauseOf 76 = .ok (.if_icmp .ne 7, 3) := by decide +kernel
theorem dX11_clauseOf_79 : decode cX11_clauseOf 79 = .ok (.iconst 1, 1) := by decide +kernel
theorem dX11_clauseOf_80 : decode cX11_clauseOf 80 = .ok (.goto 4, 3) := by decide +kernel
theorem dX11_clauseOf_83 : decode cX11_clauseOf 83 = .ok (.iconst 0, 1) := by decide +kernel
theorem dX11_clauseOf_84 : decode cX11_clauseOf 84 = .ok (.if_icmp .ne 5, 3) := by decide +kernel
theorem dX11_clauseOf_87 : decode cX11_clauseOf 87 = .ok (.iload_n 3, 1) := by decide +kernel
theorem dX11_clauseOf_88 : decode cX11_clauseOf 88 = .ok (.ireturn, 1) := by decide +kernel
theorem dX11_clauseOf_89 : decode cX11_clauseOf 89 = .ok (.iinc 3 1, 3) := by decide +kernel
theorem dX11_clauseOf_92 : decode cX11_clauseOf 92 = .ok (.goto (-87), 3) := by decide +kernel
theorem dX11_clauseOf_95 : decode cX11_clauseOf 95 = .ok (.iconst (-1), 1) := by decide +kernel
theorem dX11_clauseOf_96 : decode cX11_clauseOf 96 = .ok (.ireturn, 1) := by decide +kernel
theorem dX11_telling_0 : decode cX11_telling 0 = .ok (.iconst (-1), 1) := by decide +kernel
theorem dX11_telling_1 : decode cX11_telling 1 = .ok (.istore 4, 2) := by decide +kernel
theorem dX11_telling_3 : decode cX11_telling 3 = .ok (.iconst (-1), 1) := by decide +kernel
theorem dX11_telling_4 : decode cX11_telling 4 = .ok (.istore 5, 2) := by decide +kernel
theorem dX11_telling_6 : decode cX11_telling 6 = .ok (.iconst 0, 1) := by decide +kernel
theorem dX11_telling_7 : decode cX11_telling 7 = .ok (.istore 6, 2) := by decide +kernel
theorem dX11_telling_9 : decode cX11_telling 9 = .ok (.iload 6, 2) := by decide +kernel
theorem dX11_telling_11 : decode cX11_telling 11 = .ok (.aload_n 0, 1) := by decide +kernel
theorem dX11_telling_12 : decode cX11_telling 12 = .ok (.getfield 350, 3) := by decide +kernel
theorem dX11_telling_15 : decode cX11_telling 15 = .ok (.if_icmp .ge 80, 3) := by decide +kernel
theorem dX11_telling_18 : decode cX11_telling 18 = .ok (.aload_n 0, 1) := by decide +kernel
theorem dX11_telling_19 : decode cX11_telling 19 = .ok (.getfield 65, 3) := by decide +kernel
theorem dX11_telling_22 : decode cX11_telling 22 = .ok (.iload 6, 2) := by decide +kernel
theorem dX11_telling_24 : decode cX11_telling 24 = .ok (.iaload, 1) := by decide +kernel
theorem dX11_telling_25 : decode cX11_telling 25 = .ok (.iload_n 1, 1) := by decide +kernel
theorem dX11_telling_26 : decode cX11_telling 26 = .ok (.if_icmp .ne 63, 3) := by decide +kernel
theorem dX11_telling_29 : decode cX11_telling 29 = .ok (.aload_n 0, 1) := by decide +kernel
theorem dX11_telling_30 : decode cX11_telling 30 = .ok (.iload 6, 2) := by decide +kernel
theorem dX11_telling_32 : decode cX11_telling 32 = .ok (.iload_n 3, 1) := by decide +kernel
theorem dX11_telling_33 : decode cX11_telling 33 = .ok (.invokevirtual 462, 3) := by decide +kernel
theorem dX11_telling_36 : decode cX11_telling 36 = .ok (.ifCond .eq 53, 3) := by decide +kernel
theorem dX11_telling_39 : decode cX11_telling 39 = .ok (.iload 4, 2) := by decide +kernel
theorem dX11_telling_41 : decode cX11_telling 41 = .ok (.ifCond .lt 23, 3) := by decide +kernel
theorem dX11_telling_44 : decode cX11_telling 44 = .ok (.aload_n 0, 1) := by decide +kernel
theorem dX11_telling_45 : decode cX11_telling 45 = .ok (.getfield 68, 3) := by decide +kernel
theorem dX11_telling_48 : decode cX11_telling 48 = .ok (.iload 6, 2) := by decide +kernel
theorem dX11_telling_50 : decode cX11_telling 50 = .ok (.iaload, 1) := by decide +kernel
theorem dX11_telling_51 : decode cX11_telling 51 = .ok (.aload_n 0, 1) := by decide +kernel
theorem dX11_telling_52 : decode cX11_telling 52 = .ok (.getfield 68, 3) := by decide +kernel
theorem dX11_telling_55 : decode cX11_telling 55 = .ok (.iload 4, 2) := by decide +kernel
theorem dX11_telling_57 : decode cX11_telling 57 = .ok (.iaload, 1) := by decide +kernel
theorem dX11_telling_58 : decode cX11_telling 58 = .ok (.if_icmp .ge 6, 3) := by decide +kernel
theorem dX11_telling_61 : decode cX11_telling 61 = .ok (.goto 28, 3) := by decide +kernel
theorem dX11_telling_64 : decode cX11_telling 64 = .ok (.aload_n 0, 1) := by decide +kernel
theorem dX11_telling_65 : decode cX11_telling 65 = .ok (.iload 6, 2) := by decide +kernel
theorem dX11_telling_67 : decode cX11_telling 67 = .ok (.iload_n 2, 1) := by decide +kernel
theorem dX11_telling_68 : decode cX11_telling 68 = .ok (.invokevirtual 465, 3) := by decide +kernel
theorem dX11_telling_71 : decode cX11_telling 71 = .ok (.istore 7, 2) := by decide +kernel
theorem dX11_telling_73 : decode cX11_telling 73 = .ok (.iload 7, 2) := by decide +kernel
theorem dX11_telling_75 : decode cX11_telling 75 = .ok (.ifCond .ge 6, 3) := by decide +kernel
theorem dX11_telling_78 : decode cX11_telling 78 = .ok (.goto 11, 3) := by decide +kernel
theorem dX11_telling_81 : decode cX11_telling 81 = .ok (.iload 6, 2) := by decide +kernel
theorem dX11_telling_83 : decode cX11_telling 83 = .ok (.istore 4, 2) := by decide +kernel
theorem dX11_telling_85 : decode cX11_telling 85 = .ok (.iload 7, 2) := by decide +kernel
theorem dX11_telling_87 : decode cX11_telling 87 = .ok (.istore 5, 2) := by decide +kernel
theorem dX11_telling_89 : decode cX11_telling 89 = .ok (.iinc 6 1, 3) := by decide +kernel
theorem dX11_telling_92 : decode cX11_telling 92 = .ok (.goto (-83), 3) := by decide +kernel
theorem dX11_telling_95 : decode cX11_telling 95 = .ok (.iload 5, 2) := by decide +kernel
theorem dX11_telling_97 : decode cX11_telling 97 = .ok (.ireturn, 1) := by decide +kernel
theorem dX11_inForce_0 : decode cX11_inForce 0 = .ok (.iload_n 1, 1) := by decide +kernel
theorem dX11_inForce_1 : decode cX11_inForce 1 = .ok (.i2l, 1) := by decide +kernel
theorem dX11_inForce_2 : decode cX11_inForce 2 = .ok (.lconst 0, 1) := by decide +kernel
theorem dX11_inForce_3 : decode cX11_inForce 3 = .ok (.aload_n 0, 1) := by decide +kernel
theorem dX11_inForce_4 : decode cX11_inForce 4 = .ok (.getfield 350, 3) := by decide +kernel
theorem dX11_inForce_7 : decode cX11_inForce 7 = .ok (.iconst 1, 1) := by decide +kernel
theorem dX11_inForce_8 : decode cX11_inForce 8 = .ok (.isub, 1) := by decide +kernel
theorem dX11_inForce_9 : decode cX11_inForce 9 = .ok (.i2l, 1) := by decide +kernel
theorem dX11_inForce_10 : decode cX11_inForce 10 = .ok (.invokestatic 233, 3) := by decide +kernel
theorem dX11_inForce_13 : decode cX11_inForce 13 = .ok (.ifCond .eq 10, 3) := by decide +kernel
theorem dX11_inForce_16 : decode cX11_inForce 16 = .ok (.iload_n 2, 1) := by decide +kernel
theorem dX11_inForce_17 : decode cX11_inForce 17 = .ok (.invokestatic 267, 3) := by decide +kernel
theorem dX11_inForce_20 : decode cX11_inForce 20 = .ok (.ifCond .ne 7, 3) := by decide +kernel
theorem dX11_inForce_23 : decode cX11_inForce 23 = .ok (.iconst (-1), 1) := by decide +kernel
theorem dX11_inForce_24 : decode cX11_inForce 24 = .ok (.goto 17, 3) := by decide +kernel
theorem dX11_inForce_27 : decode cX11_inForce 27 = .ok (.aload_n 0, 1) := by decide +kernel
theorem dX11_inForce_28 : decode cX11_inForce 28 = .ok (.iload_n 1, 1) := by decide +kernel
theorem dX11_inForce_29 : decode cX11_inForce 29 = .ok (.iload_n 2, 1) := by decide +kernel
theorem dX11_inForce_30 : decode cX11_inForce 30 = .ok (.invokevirtual 462, 3) := by decide +kernel
theorem dX11_inForce_33 : decode cX11_inForce 33 = .ok (.ifCond .eq 7, 3) := by decide +kernel
theorem dX11_inForce_36 : decode cX11_inForce 36 = .ok (.iconst 1, 1) := by decide +kernel
theorem dX11_inForce_37 : decode cX11_inForce 37 = .ok (.goto 4, 3) := by decide +kernel
theorem dX11_inForce_40 : decode cX11_inForce 40 = .ok (.iconst 0, 1) := by decide +kernel
theorem dX11_inForce_41 : decode cX11_inForce 41 = .ok (.ireturn, 1) := by decide +kernel
theorem dX11_mayBy_0 : decode cX11_mayBy 0 = .ok (.iload_n 1, 1) := by decide +kernel
theorem dX11_mayBy_1 : decode cX11_mayBy 1 = .ok (.iconst 2, 1) := by decide +kernel
theorem dX11_mayBy_2 : decode cX11_mayBy 2 = .ok (.if_icmp .ne 7, 3) := by decide +kernel
theorem dX11_mayBy_5 : decode cX11_mayBy 5 = .ok (.iconst 0, 1) := by decide +kernel
theorem dX11_mayBy_6 : decode cX11_mayBy 6 = .ok (.goto 4, 3) := by decide +kernel
theorem dX11_mayBy_9 : decode cX11_mayBy 9 = .ok (.iload_n 1, 1) := by decide +kernel
theorem dX11_mayBy_10 : decode cX11_mayBy 10 = .ok (.istore 7, 2) := by decide +kernel
theorem dX11_mayBy_12 : decode cX11_mayBy 12 = .ok (.aload_n 0, 1) := by decide +kernel
theorem dX11_mayBy_13 : decode cX11_mayBy 13 = .ok (.iload 7, 2) := by decide +kernel
theorem dX11_mayBy_15 : decode cX11_mayBy 15 = .ok (.iconst 0, 1) := by decide +kernel
theorem dX11_mayBy_16 : decode cX11_mayBy 16 = .ok (.iload 4, 2) := by decide +kernel
theorem dX11_mayBy_18 : decode cX11_mayBy 18 = .ok (.iload 5, 2) := by decide +kernel
theorem dX11_mayBy_20 : decode cX11_mayBy 20 = .ok (.aload_n 0, 1) := by decide +kernel
theorem dX11_mayBy_21 : decode cX11_mayBy 21 = .ok (.iload 7, 2) := by decide +kernel
theorem dX11_mayBy_23 : decode cX11_mayBy 23 = .ok (.iload 6, 2) := by decide +kernel
theorem dX11_mayBy_25 : decode cX11_mayBy 25 = .ok (.invokevirtual 306, 3) := by decide +kernel
theorem dX11_mayBy_28 : decode cX11_mayBy 28 = .ok (.invokevirtual 310, 3) := by decide +kernel
theorem dX11_mayBy_31 : decode cX11_mayBy 31 = .ok (.ifCond .eq 7, 3) := by decide +kernel
theorem dX11_mayBy_34 : decode cX11_mayBy 34 = .ok (.iconst 1, 1) := by decide +kernel
theorem dX11_mayBy_35 : decode cX11_mayBy 35 = .ok (.goto 4, 3) := by decide +kernel
theorem dX11_mayBy_38 : decode cX11_mayBy 38 = .ok (.iconst 0, 1) := by decide +kernel
theorem dX11_mayBy_39 : decode cX11_mayBy 39 = .ok (.istore 8, 2) := by decide +kernel
theorem dX11_mayBy_41 : decode cX11_mayBy 41 = .ok (.aload_n 0, 1) := by decide +kernel
theorem dX11_mayBy_42 : decode cX11_mayBy 42 = .ok (.iload 6, 2) := by decide +kernel
theorem dX11_mayBy_44 : decode cX11_mayBy 44 = .ok (.iload_n 3, 1) := by decide +kernel
theorem dX11_mayBy_45 : decode cX11_mayBy 45 = .ok (.iload 4, 2) := by decide +kernel
theorem dX11_mayBy_47 : decode cX11_mayBy 47 = .ok (.iload 5, 2) := by decide +kernel
theorem dX11_mayBy_49 : decode cX11_mayBy 49 = .ok (.iload 8, 2) := by decide +kernel
theorem dX11_mayBy_51 : decode cX11_mayBy 51 = .ok (.invokevirtual 293, 3) := by decide +kernel
theorem dX11_mayBy_54 : decode cX11_mayBy 54 = .ok (.aload_n 0, 1) := by decide +kernel
theorem dX11_mayBy_55 : decode cX11_mayBy 55 = .ok (.iload_n 1, 1) := by decide +kernel
theorem dX11_mayBy_56 : decode cX11_mayBy 56 = .ok (.iconst 2, 1) := by decide +kernel
theorem dX11_mayBy_57 : decode cX11_mayBy 57 = .ok (.iload_n 2, 1) := by decide +kernel
theorem dX11_mayBy_58 : decode cX11_mayBy 58 = .ok (.iadd, 1) := by decide +kernel
theorem dX11_mayBy_59 : decode cX11_mayBy 59 = .ok (.iload 6, 2) := by decide +kernel
theorem dX11_mayBy_61 : decode cX11_mayBy 61 = .ok (.invokevirtual 297, 3) := by decide +kernel
theorem dX11_mayBy_64 : decode cX11_mayBy 64 = .ok (.ireturn, 1) := by decide +kernel
theorem dX11_mayDo_0 : decode cX11_mayDo 0 = .ok (.aload_n 0, 1) := by decide +kernel
theorem dX11_mayDo_1 : decode cX11_mayDo 1 = .ok (.iload_n 1, 1) := by decide +kernel
theorem dX11_mayDo_2 : decode cX11_mayDo 2 = .ok (.iload_n 2, 1) := by decide +kernel
theorem dX11_mayDo_3 : decode cX11_mayDo 3 = .ok (.iload_n 3, 1) := by decide +kernel
theorem dX11_mayDo_4 : decode cX11_mayDo 4 = .ok (.iload 4, 2) := by decide +kernel
theorem dX11_mayDo_6 : decode cX11_mayDo 6 = .ok (.iload 5, 2) := by decide +kernel
theorem dX11_mayDo_8 : decode cX11_mayDo 8 = .ok (.iload 6, 2) := by decide +kernel
theorem dX11_mayDo_10 : decode cX11_mayDo 10 = .ok (.invokevirtual 468, 3) := by decide +kernel
theorem dX11_mayDo_13 : decode cX11_mayDo 13 = .ok (.istore 7, 2) := by decide +kernel
theorem dX11_mayDo_15 : decode cX11_mayDo 15 = .ok (.iload 7, 2) := by decide +kernel
theorem dX11_mayDo_17 : decode cX11_mayDo 17 = .ok (.ifCond .ge 20, 3) := by decide +kernel
theorem dX11_mayDo_20 : decode cX11_mayDo 20 = .ok (.iload_n 2, 1) := by decide +kernel
theorem dX11_mayDo_21 : decode cX11_mayDo 21 = .ok (.ifCond .eq 8, 3) := by decide +kernel
theorem dX11_mayDo_24 : decode cX11_mayDo 24 = .ok (.iload_n 2, 1) := by decide +kernel
theorem dX11_mayDo_25 : decode cX11_mayDo 25 = .ok (.iconst 4, 1) := by decide +kernel
theorem dX11_mayDo_26 : decode cX11_mayDo 26 = .ok (.if_icmp .ne 7, 3) := by decide +kernel
theorem dX11_mayDo_29 : decode cX11_mayDo 29 = .ok (.iconst 1, 1) := by decide +kernel
theorem dX11_mayDo_30 : decode cX11_mayDo 30 = .ok (.goto 23, 3) := by decide +kernel
theorem dX11_mayDo_33 : decode cX11_mayDo 33 = .ok (.iconst 0, 1) := by decide +kernel
theorem dX11_mayDo_34 : decode cX11_mayDo 34 = .ok (.goto 19, 3) := by decide +kernel
theorem dX11_mayDo_37 : decode cX11_mayDo 37 = .ok (.aload_n 0, 1) := by decide +kernel
theorem dX11_mayDo_38 : decode cX11_mayDo 38 = .ok (.getfield 77, 3) := by decide +kernel
theorem dX11_mayDo_41 : decode cX11_mayDo 41 = .ok (.iload 7, 2) := by decide +kernel
theorem dX11_mayDo_43 : decode cX11_mayDo 43 = .ok (.iaload, 1) := by decide +kernel
theorem dX11_mayDo_44 : decode cX11_mayDo 44 = .ok (.iconst 1, 1) := by decide +kernel
theorem dX11_mayDo_45 : decode cX11_mayDo 45 = .ok (.if_icmp .ne 7, 3) := by decide +kernel
theorem dX11_mayDo_48 : decode cX11_mayDo 48 = .ok (.iconst 1, 1) := by decide +kernel
theorem dX11_mayDo_49 : decode cX11_mayDo 49 = .ok (.goto 4, 3) := by decide +kernel
theorem dX11_mayDo_52 : decode cX11_mayDo 52 = .ok (.iconst 0, 1) := by decide +kernel
theorem dX11_mayDo_53 : decode cX11_mayDo 53 = .ok (.ireturn, 1) := by decide +kernel
theorem dX11_isWhat_0 : decode cX11_isWhat 0 = .ok (.iload_n 0, 1) := by decide +kernel
theorem dX11_isWhat_1 : decode cX11_isWhat 1 = .ok (.i2l, 1) := by decide +kernel
theorem dX11_isWhat_2 : decode cX11_isWhat 2 = .ok (.lconst 0, 1) := by decide +kernel
theorem dX11_isWhat_3 : decode cX11_isWhat 3 = .ok (.ldc2_w 255, 3) := by decide +kernel
theorem dX11_isWhat_6 : decode cX11_isWhat 6 = .ok (.invokestatic 233, 3) := by decide +kernel
theorem dX11_isWhat_9 : decode cX11_isWhat 9 = .ok (.ifCond .eq 19, 3) := by decide +kernel
theorem dX11_isWhat_12 : decode cX11_isWhat 12 = .ok (.iload_n 1, 1) := by decide +kernel
theorem dX11_isWhat_13 : decode cX11_isWhat 13 = .ok (.i2l, 1) := by decide +kernel
theorem dX11_isWhat_14 : decode cX11_isWhat 14 = .ok (.lconst 0, 1) := by decide +kernel
theorem dX11_isWhat_15 : decode cX11_isWhat 15 = .ok (.ldc2_w 472, 3) := by decide +kernel
theorem dX11_isWhat_18 : decode cX11_isWhat 18 = .ok (.invokestatic 233, 3) := by decide +kernel
theorem dX11_isWhat_21 : decode cX11_isWhat 21 = .ok (.ifCond .eq 7, 3) := by decide +kernel
theorem dX11_isWhat_24 : decode cX11_isWhat 24 = .ok (.iconst 1, 1) := by decide +kernel
theorem dX11_isWhat_25 : decode cX11_isWhat 25 = .ok (.goto 4, 3) := by decide +kernel
theorem dX11_isWhat_28 : decode cX11_isWhat 28 = .ok (.iconst 0, 1) := by decide +kernel
theorem dX11_isWhat_29 : decode cX11_isWhat 29 = .ok (.ireturn, 1) := by decide +kernel
theorem dX11_may_0 : decode cX11_may 0 = .ok (.iload_n 1, 1) := by decide +kernel
theorem dX11_may_1 : decode cX11_may 1 = .ok (.iload_n 2, 1) := by decide +kernel
theorem dX11_may_2 : decode cX11_may 2 = .ok (.invokestatic 474, 3) := by decide +kernel
theorem dX11_may_5 : decode cX11_may 5 = .ok (.ifCond .eq 29, 3) := by decide +kernel
theorem dX11_may_8 : decode cX11_may 8 = .ok (.aload_n 0, 1) := by decide +kernel
theorem dX11_may_9 : decode cX11_may 9 = .ok (.iload_n 3, 1) := by decide +kernel
theorem dX11_may_10 : decode cX11_may 10 = .ok (.invokevirtual 264, 3) := by decide +kernel
theorem dX11_may_13 : decode cX11_may 13 = .ok (.ifCond .eq 21, 3) := by decide +kernel
theorem dX11_may_16 : decode cX11_may 16 = .ok (.iload 4, 2) := by decide +kernel
theorem dX11_may_18 : decode cX11_may 18 = .ok (.iload 5, 2) := by decide +kernel
theorem dX11_may_20 : decode cX11_may 20 = .ok (.invokestatic 242, 3) := by decide +kernel
theorem dX11_may_23 : decode cX11_may 23 = .ok (.ifCond .eq 11, 3) := by decide +kernel
theorem dX11_may_26 : decode cX11_may 26 = .ok (.iload 6, 2) := by decide +kernel
theorem dX11_may_28 : decode cX11_may 28 = .ok (.invokestatic 267, 3) := by decide +kernel
theorem dX11_may_31 : decode cX11_may 31 = .ok (.ifCond .ne 5, 3) := by decide +kernel
theorem dX11_may_34 : decode cX11_may 34 = .ok (.iconst (-1), 1) := by decide +kernel
theorem dX11_may_35 : decode cX11_may 35 = .ok (.ireturn, 1) := by decide +kernel
theorem dX11_may_36 : decode cX11_may 36 = .ok (.aload_n 0, 1) := by decide +kernel
theorem dX11_may_37 : decode cX11_may 37 = .ok (.iload_n 1, 1) := by decide +kernel
theorem dX11_may_38 : decode cX11_may 38 = .ok (.iload_n 2, 1) := by decide +kernel
theorem dX11_may_39 : decode cX11_may 39 = .ok (.iload_n 3, 1) := by decide +kernel
theorem dX11_may_40 : decode cX11_may 40 = .ok (.iload 4, 2) := by decide +kernel
theorem dX11_may_42 : decode cX11_may 42 = .ok (.iload 5, 2) := by decide +kernel
theorem dX11_may_44 : decode cX11_may 44 = .ok (.iload 6, 2) := by decide +kernel
theorem dX11_may_46 : decode cX11_may 46 = .ok (.invokevirtual 477, 3) := by decide +kernel
theorem dX11_may_49 : decode cX11_may 49 = .ok (.ifCond .eq 7, 3) := by decide +kernel
theorem dX11_may_52 : decode cX11_may 52 = .ok (.iconst 1, 1) := by decide +kernel
theorem dX11_may_53 : decode cX11_may 53 = .ok (.goto 4, 3) := by decide +kernel
theorem dX11_may_56 : decode cX11_may 56 = .ok (.iconst 0, 1) := by decide +kernel
theorem dX11_may_57 : decode cX11_may 57 = .ok (.ireturn, 1) := by decide +kernel
theorem dX11_meshOf_0 : decode cX11_meshOf 0 = .ok (.aload_n 0, 1) := by decide +kernel
theorem dX11_meshOf_1 : decode cX11_meshOf 1 = .ok (.iload 5, 2) := by decide +kernel
theorem dX11_meshOf_3 : decode cX11_meshOf 3 = .ok (.iload_n 2, 1) := by decide +kernel
theorem dX11_meshOf_4 : decode cX11_meshOf 4 = .ok (.iload_n 3, 1) := by decide +kernel
theorem dX11_meshOf_5 : decode cX11_meshOf 5 = .ok (.iload 4, 2) := by decide +kernel
theorem dX11_meshOf_7 : decode cX11_meshOf 7 = .ok (.iconst 0, 1) := by decide +kernel
theorem dX11_meshOf_8 : decode cX11_meshOf 8 = .ok (.invokevirtual 293, 3) := by decide +kernel
theorem dX11_meshOf_11 : decode cX11_meshOf 11 = .ok (.aload_n 0, 1) := by decide +kernel
theorem dX11_meshOf_12 : decode cX11_meshOf 12 = .ok (.iload_n 1, 1) := by decide +kernel
theorem dX11_meshOf_13 : decode cX11_meshOf 13 = .ok (.iconst 1, 1) := by decide +kernel
theorem dX11_meshOf_14 : decode cX11_meshOf 14 = .ok (.iload 5, 2) := by decide +kernel
theorem dX11_meshOf_16 : decode cX11_meshOf 16 = .ok (.invokevirtual 297, 3) := by decide +kernel
theorem dX11_meshOf_19 : decode cX11_meshOf 19 = .ok (.istore 6, 2) := by decide +kernel
theorem dX11_meshOf_21 : decode cX11_meshOf 21 = .ok (.iload 6, 2) := by decide +kernel
theorem dX11_meshOf_23 : decode cX11_meshOf 23 = .ok (.ifCond .ge 7, 3) := by decide +kernel
theorem dX11_meshOf_26 : decode cX11_meshOf 26 = .ok (.lconst 0, 1) := by decide +kernel
theorem dX11_meshOf_27 : decode cX11_meshOf 27 = .ok (.goto 26, 3) := by decide +kernel
theorem dX11_meshOf_30 : decode cX11_meshOf 30 = .ok (.aload_n 0, 1) := by decide +kernel
theorem dX11_meshOf_31 : decode cX11_meshOf 31 = .ok (.aload_n 0, 1) := by decide +kernel
theorem dX11_meshOf_32 : decode cX11_meshOf 32 = .ok (.getfield 80, 3) := by decide +kernel
theorem dX11_meshOf_35 : decode cX11_meshOf 35 = .ok (.iload 6, 2) := by decide +kernel
theorem dX11_meshOf_37 : decode cX11_meshOf 37 = .ok (.iaload, 1) := by decide +kernel
theorem dX11_meshOf_38 : decode cX11_meshOf 38 = .ok (.aload_n 0, 1) := by decide +kernel
theorem dX11_meshOf_39 : decode cX11_meshOf 39 = .ok (.getfield 83, 3) := by decide +kernel
theorem dX11_meshOf_42 : decode cX11_meshOf 42 = .ok (.iload 6, 2) := by decide +kernel
theorem dX11_meshOf_44 : decode cX11_meshOf 44 = .ok (.iaload, 1) := by decide +kernel
theorem dX11_meshOf_45 : decode cX11_meshOf 45 = .ok (.iload 6, 2) := by decide +kernel
theorem dX11_meshOf_47 : decode cX11_meshOf 47 = .ok (.bipush 12, 2) := by decide +kernel
theorem dX11_meshOf_49 : decode cX11_meshOf 49 = .ok (.idiv, 1) := by decide +kernel
theorem dX11_meshOf_50 : decode cX11_meshOf 50 = .ok (.invokevirtual 300, 3) := by decide +kernel
theorem dX11_meshOf_53 : decode cX11_meshOf 53 = .ok (.lreturn, 1) := by decide +kernel
theorem dX11_mesh_0 : decode cX11_mesh 0 = .ok (.iload_n 1, 1) := by decide +kernel
theorem dX11_mesh_1 : decode cX11_mesh 1 = .ok (.iconst 0, 1) := by decide +kernel
theorem dX11_mesh_2 : decode cX11_mesh 2 = .ok (.invokestatic 474, 3) := by decide +kernel
theorem dX11_mesh_5 : decode cX11_mesh 5 = .ok (.ifCond .eq 42, 3) := by decide +kernel
theorem dX11_mesh_8 : decode cX11_mesh 8 = .ok (.aload_n 0, 1) := by decide +kernel
theorem dX11_mesh_9 : decode cX11_mesh 9 = .ok (.iload_n 2, 1) := by decide +kernel
theorem dX11_mesh_10 : decode cX11_mesh 10 = .ok (.invokevirtual 264, 3) := by decide +kernel
theorem dX11_mesh_13 : decode cX11_mesh 13 = .ok (.ifCond .eq 34, 3) := by decide +kernel
theorem dX11_mesh_16 : decode cX11_mesh 16 = .ok (.iload_n 3, 1) := by decide +kernel
theorem dX11_mesh_17 : decode cX11_mesh 17 = .ok (.iload 4, 2) := by decide +kernel
theorem dX11_mesh_19 : decode cX11_mesh 19 = .ok (.invokestatic 242, 3) := by decide +kernel
theorem dX11_mesh_22 : decode cX11_mesh 22 = .ok (.ifCond .eq 25, 3) := by decide +kernel
theorem dX11_mesh_25 : decode cX11_mesh 25 = .ok (.iload 5, 2) := by decide +kernel
theorem dX11_mesh_27 : decode cX11_mesh 27 = .ok (.invokestatic 267, 3) := by decide +kernel
theorem dX11_mesh_30 : decode cX11_mesh 30 = .ok (.ifCond .eq 17, 3) := by decide +kernel
theorem dX11_mesh_33 : decode cX11_mesh 33 = .ok (.aload_n 0, 1) := by decide +kernel
theorem dX11_mesh_34 : decode cX11_mesh 34 = .ok (.iload_n 1, 1) := by decide +kernel
theorem dX11_mesh_35 : decode cX11_mesh 35 = .ok (.iload_n 2, 1) := by decide +kernel
theorem dX11_mesh_36 : decode cX11_mesh 36 = .ok (.iload_n 3, 1) := by decide +kernel
theorem dX11_mesh_37 : decode cX11_mesh 37 = .ok (.iload 4, 2) := by decide +kernel
theorem dX11_mesh_39 : decode cX11_mesh 39 = .ok (.iload 5, 2) := by decide +kernel
theorem dX11_mesh_41 : decode cX11_mesh 41 = .ok (.invokevirtual 481, 3) := by decide +kernel
theorem dX11_mesh_44 : decode cX11_mesh 44 = .ok (.goto 4, 3) := by decide +kernel
theorem dX11_mesh_47 : decode cX11_mesh 47 = .ok (.lconst 0, 1) := by decide +kernel
theorem dX11_mesh_48 : decode cX11_mesh 48 = .ok (.lreturn, 1) := by decide +kernel
theorem dX11_by_0 : decode cX11_by 0 = .ok (.iload_n 1, 1) := by decide +kernel
theorem dX11_by_1 : decode cX11_by 1 = .ok (.iload_n 2, 1) := by decide +kernel
theorem dX11_by_2 : decode cX11_by 2 = .ok (.invokestatic 474, 3) := by decide +kernel
theorem dX11_by_5 : decode cX11_by 5 = .ok (.ifCond .eq 29, 3) := by decide +kernel
theorem dX11_by_8 : decode cX11_by 8 = .ok (.aload_n 0, 1) := by decide +kernel
theorem dX11_by_9 : decode cX11_by 9 = .ok (.iload_n 3, 1) := by decide +kernel
theorem dX11_by_10 : decode cX11_by 10 = .ok (.invokevirtual 264, 3) := by decide +kernel
theorem dX11_by_13 : decode cX11_by 13 = .ok (.ifCond .eq 21, 3) := by decide +kernel
theorem dX11_by_16 : decode cX11_by 16 = .ok (.iload 4, 2) := by decide +kernel
theorem dX11_by_18 : decode cX11_by 18 = .ok (.iload 5, 2) := by decide +kernel
theorem dX11_by_20 : decode cX11_by 20 = .ok (.invokestatic 242, 3) := by decide +kernel
theorem dX11_by_23 : decode cX11_by 23 = .ok (.ifCond .eq 11, 3) := by decide +kernel
theorem dX11_by_26 : decode cX11_by 26 = .ok (.iload 6, 2) := by decide +kernel
theorem dX11_by_28 : decode cX11_by 28 = .ok (.invokestatic 267, 3) := by decide +kernel
theorem dX11_by_31 : decode cX11_by 31 = .ok (.ifCond .ne 5, 3) := by decide +kernel
theorem dX11_by_34 : decode cX11_by 34 = .ok (.iconst (-1), 1) := by decide +kernel
theorem dX11_by_35 : decode cX11_by 35 = .ok (.ireturn, 1) := by decide +kernel
theorem dX11_by_36 : decode cX11_by 36 = .ok (.aload_n 0, 1) := by decide +kernel
theorem dX11_by_37 : decode cX11_by 37 = .ok (.iload_n 1, 1) := by decide +kernel
theorem dX11_by_38 : decode cX11_by 38 = .ok (.iload_n 2, 1) := by decide +kernel
theorem dX11_by_39 : decode cX11_by 39 = .ok (.iload_n 3, 1) := by decide +kernel
theorem dX11_by_40 : decode cX11_by 40 = .ok (.iload 4, 2) := by decide +kernel
theorem dX11_by_42 : decode cX11_by 42 = .ok (.iload 5, 2) := by decide +kernel
theorem dX11_by_44 : decode cX11_by 44 = .ok (.iload 6, 2) := by decide +kernel
theorem dX11_by_46 : decode cX11_by 46 = .ok (.invokevirtual 468, 3) := by decide +kernel
theorem dX11_by_49 : decode cX11_by 49 = .ok (.istore 7, 2) := by decide +kernel
theorem dX11_by_51 : decode cX11_by 51 = .ok (.iload 7, 2) := by decide +kernel
theorem dX11_by_53 : decode cX11_by 53 = .ok (.ifCond .ge 7, 3) := by decide +kernel
theorem dX11_by_56 : decode cX11_by 56 = .ok (.iconst (-1), 1) := by decide +kernel
theorem dX11_by_57 : decode cX11_by 57 = .ok (.goto 17, 3) := by decide +kernel
theorem dX11_by_60 : decode cX11_by 60 = .ok (.bipush 16, 2) := by decide +kernel
theorem dX11_by_62 : decode cX11_by 62 = .ok (.iload 7, 2) := by decide +kernel
theorem dX11_by_64 : decode cX11_by 64 = .ok (.bipush 12, 2) := by decide +kernel
theorem dX11_by_66 : decode cX11_by 66 = .ok (.idiv, 1) := by decide +kernel
theorem dX11_by_67 : decode cX11_by 67 = .ok (.imul, 1) := by decide +kernel
theorem dX11_by_68 : decode cX11_by 68 = .ok (.iload 7, 2) := by decide +kernel
theorem dX11_by_70 : decode cX11_by 70 = .ok (.bipush 12, 2) := by decide +kernel
theorem dX11_by_72 : decode cX11_by 72 = .ok (.irem, 1) := by decide +kernel
theorem dX11_by_73 : decode cX11_by 73 = .ok (.iadd, 1) := by decide +kernel
theorem dX11_by_74 : decode cX11_by 74 = .ok (.ireturn, 1) := by decide +kernel
theorem dX11_act_0 : decode cX11_act 0 = .ok (.aload_n 0, 1) := by decide +kernel
theorem dX11_act_1 : decode cX11_act 1 = .ok (.getfield 485, 3) := by decide +kernel
theorem dX11_act_4 : decode cX11_act 4 = .ok (.sipush 150, 3) := by decide +kernel
theorem dX11_act_7 : decode cX11_act 7 = .ok (.if_icmp .eq 47, 3) := by decide +kernel
theorem dX11_act_10 : decode cX11_act 10 = .ok (.aload_n 0, 1) := by decide +kernel
theorem dX11_act_11 : decode cX11_act 11 = .ok (.iload_n 1, 1) := by decide +kernel
theorem dX11_act_12 : decode cX11_act 12 = .ok (.invokevirtual 264, 3) := by decide +kernel
theorem dX11_act_15 : decode cX11_act 15 = .ok (.ifCond .eq 39, 3) := by decide +kernel
theorem dX11_act_18 : decode cX11_act 18 = .ok (.iload_n 2, 1) := by decide +kernel
theorem dX11_act_19 : decode cX11_act 19 = .ok (.i2l, 1) := by decide +kernel
theorem dX11_act_20 : decode cX11_act 20 = .ok (.lconst 0, 1) := by decide +kernel
theorem dX11_act_21 : decode cX11_act 21 = .ok (.ldc2_w 472, 3) := by decide +kernel
theorem dX11_act_24 : decode cX11_act 24 = .ok (.invokestatic 233, 3) := by decide +kernel
theorem dX11_act_27 : decode cX11_act 27 = .ok (.ifCond .eq 27, 3) := by decide +kernel
theorem dX11_act_30 : decode cX11_act 30 = .ok (.iload_n 3, 1) := by decide +kernel
theorem dX11_act_31 : decode cX11_act 31 = .ok (.iload 4, 2) := by decide +kernel
theorem dX11_act_33 : decode cX11_act 33 = .ok (.invokestatic 242, 3) := by decide +kernel
theorem dX11_act_36 : decode cX11_act 36 = .ok (.ifCond .eq 18, 3) := by decide +kernel
theorem dX11_act_39 : decode cX11_act 39 = .ok (.iload 5, 2) := by decide +kernel
theorem dX11_act_41 : decode cX11_act 41 = .ok (.i2l, 1) := by decide +kernel
theorem dX11_act_42 : decode cX11_act 42 = .ok (.lconst 0, 1) := by decide +kernel
theorem dX11_act_43 : decode cX11_act 43 = .ok (.aload_n 0, 1) := by decide +kernel
theorem dX11_act_44 : decode cX11_act 44 = .ok (.getfield 237, 3) := by decide +kernel
theorem dX11_act_47 : decode cX11_act 47 = .ok (.i2l, 1) := by decide +kernel
theorem dX11_act_48 : decode cX11_act 48 = .ok (.invokestatic 233, 3) := by decide +kernel
theorem dX11_act_51 : decode cX11_act 51 = .ok (.ifCond .ne 5, 3) := by decide +kernel
theorem dX11_act_54 : decode cX11_act 54 = .ok (.iconst (-1), 1) := by decide +kernel
theorem dX11_act_55 : decode cX11_act 55 = .ok (.ireturn, 1) := by decide +kernel
theorem dX11_act_56 : decode cX11_act 56 = .ok (.aload_n 0, 1) := by decide +kernel
theorem dX11_act_57 : decode cX11_act 57 = .ok (.getfield 139, 3) := by decide +kernel
theorem dX11_act_60 : decode cX11_act 60 = .ok (.aload_n 0, 1) := by decide +kernel
theorem dX11_act_61 : decode cX11_act 61 = .ok (.getfield 485, 3) := by decide +kernel
theorem dX11_act_64 : decode cX11_act 64 = .ok (.iload_n 1, 1) := by decide +kernel
theorem dX11_act_65 : decode cX11_act 65 = .ok (.iastore, 1) := by decide +kernel
theorem dX11_act_66 : decode cX11_act 66 = .ok (.aload_n 0, 1) := by decide +kernel
theorem dX11_act_67 : decode cX11_act 67 = .ok (.getfield 142, 3) := by decide +kernel
theorem dX11_act_70 : decode cX11_act 70 = .ok (.aload_n 0, 1) := by decide +kernel
theorem dX11_act_71 : decode cX11_act 71 = .ok (.getfield 485, 3) := by decide +kernel
theorem dX11_act_74 : decode cX11_act 74 = .ok (.iload_n 2, 1) := by decide +kernel
theorem dX11_act_75 : decode cX11_act 75 = .ok (.iastore, 1) := by decide +kernel
theorem dX11_act_76 : decode cX11_act 76 = .ok (.aload_n 0, 1) := by decide +kernel
theorem dX11_act_77 : decode cX11_act 77 = .ok (.getfield 145, 3) := by decide +kernel
theorem dX11_act_80 : decode cX11_act 80 = .ok (.aload_n 0, 1) := by decide +kernel
theorem dX11_act_81 : decode cX11_act 81 = .ok (.getfield 485, 3) := by decide +kernel
theorem dX11_act_84 : decode cX11_act 84 = .ok (.iload_n 3, 1) := by decide +kernel
theorem dX11_act_85 : decode cX11_act 85 = .ok (.iastore, 1) := by decide +kernel
theorem dX11_act_86 : decode cX11_act 86 = .ok (.aload_n 0, 1) := by decide +kernel
theorem dX11_act_87 : decode cX11_act 87 = .ok (.getfield 148, 3) := by decide +kernel
theorem dX11_act_90 : decode cX11_act 90 = .ok (.aload_n 0, 1) := by decide +kernel
theorem dX11_act_91 : decode cX11_act 91 = .ok (.getfield 485, 3) := by decide +kernel
theorem dX11_act_94 : decode cX11_act 94 = .ok (.iload 4, 2) := by decide +kernel
theorem dX11_act_96 : decode cX11_act 96 = .ok (.iastore, 1) := by decide +kernel
theorem dX11_act_97 : decode cX11_act 97 = .ok (.aload_n 0, 1) := by decide +kernel
theorem dX11_act_98 : decode cX11_act 98 = .ok (.getfield 151, 3) := by decide +kernel
theorem dX11_act_101 : decode cX11_act 101 = .ok (.aload_n 0, 1) := by decide +kernel
theorem dX11_act_102 : decode cX11_act 102 = .ok (.getfield 485, 3) := by decide +kernel
theorem dX11_act_105 : decode cX11_act 105 = .ok (.iload 5, 2) := by decide +kernel
theorem dX11_act_107 : decode cX11_act 107 = .ok (.iastore, 1) := by decide +kernel
theorem dX11_act_108 : decode cX11_act 108 = .ok (.aload_n 0, 1) := by decide +kernel
theorem dX11_act_109 : decode cX11_act 109 = .ok (.dup, 1) := by decide +kernel
theorem dX11_act_110 : decode cX11_act 110 = .ok (.getfield 485, 3) := by decide +kernel
theorem dX11_act_113 : decode cX11_act 113 = .ok (.iconst 1, 1) := by decide +kernel
theorem dX11_act_114 : decode cX11_act 114 = .ok (.iadd, 1) := by decide +kernel
theorem dX11_act_115 : decode cX11_act 115 = .ok (.putfield 485, 3) := by decide +kernel
theorem dX11_act_118 : decode cX11_act 118 = .ok (.aload_n 0, 1) := by decide +kernel
theorem dX11_act_119 : decode cX11_act 119 = .ok (.getfield 485, 3) := by decide +kernel
theorem dX11_act_122 : decode cX11_act 122 = .ok (.iconst 1, 1) := by decide +kernel
theorem dX11_act_123 : decode cX11_act 123 = .ok (.isub, 1) := by decide +kernel
theorem dX11_act_124 : decode cX11_act 124 = .ok (.ireturn, 1) := by decide +kernel
theorem dX11_isKept_0 : decode cX11_isKept 0 = .ok (.aload_n 0, 1) := by decide +kernel
theorem dX11_isKept_1 : decode cX11_isKept 1 = .ok (.iload_n 2, 1) := by decide +kernel
theorem dX11_isKept_2 : decode cX11_isKept 2 = .ok (.aload_n 0, 1) := by decide +kernel
theorem dX11_isKept_3 : decode cX11_isKept 3 = .ok (.getfield 142, 3) := by decide +kernel
theorem dX11_isKept_6 : decode cX11_isKept 6 = .ok (.iload_n 1, 1) := by decide +kernel
theorem dX11_isKept_7 : decode cX11_isKept 7 = .ok (.iaload, 1) := by decide +kernel
theorem dX11_isKept_8 : decode cX11_isKept 8 = .ok (.aload_n 0, 1) := by decide +kernel
theorem dX11_isKept_9 : decode cX11_isKept 9 = .ok (.getfield 139, 3) := by decide +kernel
theorem dX11_isKept_12 : decode cX11_isKept 12 = .ok (.iload_n 1, 1) := by decide +kernel
theorem dX11_isKept_13 : decode cX11_isKept 13 = .ok (.iaload, 1) := by decide +kernel
theorem dX11_isKept_14 : decode cX11_isKept 14 = .ok (.aload_n 0, 1) := by decide +kernel
theorem dX11_isKept_15 : decode cX11_isKept 15 = .ok (.getfield 145, 3) := by decide +kernel
theorem dX11_isKept_18 : decode cX11_isKept 18 = .ok (.iload_n 1, 1) := by decide +kernel
theorem dX11_isKept_19 : decode cX11_isKept 19 = .ok (.iaload, 1) := by decide +kernel
theorem dX11_isKept_20 : decode cX11_isKept 20 = .ok (.aload_n 0, 1) := by decide +kernel
theorem dX11_isKept_21 : decode cX11_isKept 21 = .ok (.getfield 148, 3) := by decide +kernel
theorem dX11_isKept_24 : decode cX11_isKept 24 = .ok (.iload_n 1, 1) := by decide +kernel
theorem dX11_isKept_25 : decode cX11_isKept 25 = .ok (.iaload, 1) := by decide +kernel
theorem dX11_isKept_26 : decode cX11_isKept 26 = .ok (.aload_n 0, 1) := by decide +kernel
theorem dX11_isKept_27 : decode cX11_isKept 27 = .ok (.getfield 151, 3) := by decide +kernel
theorem dX11_isKept_30 : decode cX11_isKept 30 = .ok (.iload_n 1, 1) := by decide +kernel
theorem dX11_isKept_31 : decode cX11_isKept 31 = .ok (.iaload, 1) := by decide +kernel
theorem dX11_isKept_32 : decode cX11_isKept 32 = .ok (.invokevirtual 477, 3) := by decide +kernel
theorem dX11_isKept_35 : decode cX11_isKept 35 = .ok (.ifCond .ne 5, 3) := by decide +kernel
theorem dX11_isKept_38 : decode cX11_isKept 38 = .ok (.iconst 0, 1) := by decide +kernel
theorem dX11_isKept_39 : decode cX11_isKept 39 = .ok (.ireturn, 1) := by decide +kernel
theorem dX11_isKept_40 : decode cX11_isKept 40 = .ok (.aload_n 0, 1) := by decide +kernel
theorem dX11_isKept_41 : decode cX11_isKept 41 = .ok (.getfield 142, 3) := by decide +kernel
theorem dX11_isKept_44 : decode cX11_isKept 44 = .ok (.iload_n 1, 1) := by decide +kernel
theorem dX11_isKept_45 : decode cX11_isKept 45 = .ok (.iaload, 1) := by decide +kernel
theorem dX11_isKept_46 : decode cX11_isKept 46 = .ok (.ifCond .ne 48, 3) := by decide +kernel
theorem dX11_isKept_49 : decode cX11_isKept 49 = .ok (.aload_n 0, 1) := by decide +kernel
theorem dX11_isKept_50 : decode cX11_isKept 50 = .ok (.getfield 22, 3) := by decide +kernel
theorem dX11_isKept_53 : decode cX11_isKept 53 = .ok (.aload_n 0, 1) := by decide +kernel
theorem dX11_isKept_54 : decode cX11_isKept 54 = .ok (.getfield 139, 3) := by decide +kernel
theorem dX11_isKept_57 : decode cX11_isKept 57 = .ok (.iload_n 1, 1) := by decide +kernel
theorem dX11_isKept_58 : decode cX11_isKept 58 = .ok (.iaload, 1) := by decide +kernel
theorem dX11_isKept_59 : decode cX11_isKept 59 = .ok (.iaload, 1) := by decide +kernel
theorem dX11_isKept_60 : decode cX11_isKept 60 = .ok (.i2l, 1) := by decide +kernel
theorem dX11_isKept_61 : decode cX11_isKept 61 = .ok (.aload_n 0, 1) := by decide +kernel
theorem dX11_isKept_62 : decode cX11_isKept 62 = .ok (.iload_n 2, 1) := by decide +kernel
theorem dX11_isKept_63 : decode cX11_isKept 63 = .ok (.aload_n 0, 1) := by decide +kernel
theorem dX11_isKept_64 : decode cX11_isKept 64 = .ok (.getfield 139, 3) := by decide +kernel
theorem dX11_isKept_67 : decode cX11_isKept 67 = .ok (.iload_n 1, 1) := by decide +kernel
theorem dX11_isKept_68 : decode cX11_isKept 68 = .ok (.iaload, 1) := by decide +kernel
theorem dX11_isKept_69 : decode cX11_isKept 69 = .ok (.aload_n 0, 1) := by decide +kernel
theorem dX11_isKept_70 : decode cX11_isKept 70 = .ok (.getfield 145, 3) := by decide +kernel
theorem dX11_isKept_73 : decode cX11_isKept 73 = .ok (.iload_n 1, 1) := by decide +kernel
theorem dX11_isKept_74 : decode cX11_isKept 74 = .ok (.iaload, 1) := by decide +kernel
theorem dX11_isKept_75 : decode cX11_isKept 75 = .ok (.aload_n 0, 1) := by decide +kernel
theorem dX11_isKept_76 : decode cX11_isKept 76 = .ok (.getfield 148, 3) := by decide +kernel
theorem dX11_isKept_79 : decode cX11_isKept 79 = .ok (.iload_n 1, 1) := by decide +kernel
theorem dX11_isKept_80 : decode cX11_isKept 80 = .ok (.iaload, 1) := by decide +kernel
theorem dX11_isKept_81 : decode cX11_isKept 81 = .ok (.aload_n 0, 1) := by decide +kernel
theorem dX11_isKept_82 : decode cX11_isKept 82 = .ok (.getfield 151, 3) := by decide +kernel
theorem dX11_isKept_85 : decode cX11_isKept 85 = .ok (.iload_n 1, 1) := by decide +kernel
theorem dX11_isKept_86 : decode cX11_isKept 86 = .ok (.iaload, 1) := by decide +kernel
theorem dX11_isKept_87 : decode cX11_isKept 87 = .ok (.invokevirtual 481, 3) := by decide +kernel
theorem dX11_isKept_90 : decode cX11_isKept 90 = .ok (.lcmp, 1) := by decide +kernel
theorem dX11_isKept_91 : decode cX11_isKept 91 = .ok (.ifCond .lt 7, 3) := by decide +kernel
theorem dX11_isKept_94 : decode cX11_isKept 94 = .ok (.iconst 1, 1) := by decide +kernel
theorem dX11_isKept_95 : decode cX11_isKept 95 = .ok (.goto 4, 3) := by decide +kernel
theorem dX11_isKept_98 : decode cX11_isKept 98 = .ok (.iconst 0, 1) := by decide +kernel
theorem dX11_isKept_99 : decode cX11_isKept 99 = .ok (.ireturn, 1) := by decide +kernel
theorem dX11_kept_0 : decode cX11_kept 0 = .ok (.iload_n 1, 1) := by decide +kernel
theorem dX11_kept_1 : decode cX11_kept 1 = .ok (.i2l, 1) := by decide +kernel
theorem dX11_kept_2 : decode cX11_kept 2 = .ok (.lconst 0, 1) := by decide +kernel
theorem dX11_kept_3 : decode cX11_kept 3 = .ok (.aload_n 0, 1) := by decide +kernel
theorem dX11_kept_4 : decode cX11_kept 4 = .ok (.getfield 485, 3) := by decide +kernel
theorem dX11_kept_7 : decode cX11_kept 7 = .ok (.iconst 1, 1) := by decide +kernel
theorem dX11_kept_8 : decode cX11_kept 8 = .ok (.isub, 1) := by decide +kernel
theorem dX11_kept_9 : decode cX11_kept 9 = .ok (.i2l, 1) := by decide +kernel
theorem dX11_kept_10 : decode cX11_kept 10 = .ok (.invokestatic 233, 3) := by decide +kernel
theorem dX11_kept_13 : decode cX11_kept 13 = .ok (.ifCond .eq 15, 3) := by decide +kernel
theorem dX11_kept_16 : decode cX11_kept 16 = .ok (.iload_n 2, 1) := by decide +kernel
theorem dX11_kept_17 : decode cX11_kept 17 = .ok (.i2l, 1) := by decide +kernel
theorem dX11_kept_18 : decode cX11_kept 18 = .ok (.lconst 0, 1) := by decide +kernel
theorem dX11_kept_19 : decode cX11_kept 19 = .ok (.ldc2_w 255, 3) := by decide +kernel
theorem dX11_kept_22 : decode cX11_kept 22 = .ok (.invokestatic 233, 3) := by decide +kernel
theorem dX11_kept_25 : decode cX11_kept 25 = .ok (.ifCond .ne 7, 3) := by decide +kernel
theorem dX11_kept_28 : decode cX11_kept 28 = .ok (.iconst (-1), 1) := by decide +kernel
theorem dX11_kept_29 : decode cX11_kept 29 = .ok (.goto 17, 3) := by decide +kernel
theorem dX11_kept_32 : decode cX11_kept 32 = .ok (.aload_n 0, 1) := by decide +kernel
theorem dX11_kept_33 : decode cX11_kept 33 = .ok (.iload_n 1, 1) := by decide +kernel
theorem dX11_kept_34 : decode cX11_kept 34 = .ok (.iload_n 2, 1) := by decide +kernel
theorem dX11_kept_35 : decode cX11_kept 35 = .ok (.invokevirtual 488, 3) := by decide +kernel
theorem dX11_kept_38 : decode cX11_kept 38 = .ok (.ifCond .eq 7, 3) := by decide +kernel
theorem dX11_kept_41 : decode cX11_kept 41 = .ok (.iconst 1, 1) := by decide +kernel
theorem dX11_kept_42 : decode cX11_kept 42 = .ok (.goto 4, 3) := by decide +kernel
theorem dX11_kept_45 : decode cX11_kept 45 = .ok (.iconst 0, 1) := by decide +kernel
theorem dX11_kept_46 : decode cX11_kept 46 = .ok (.ireturn, 1) := by decide +kernel
theorem dX11_broken_0 : decode cX11_broken 0 = .ok (.iload_n 1, 1) := by decide +kernel
theorem dX11_broken_1 : decode cX11_broken 1 = .ok (.invokestatic 251, 3) := by decide +kernel
theorem dX11_broken_4 : decode cX11_broken 4 = .ok (.ifCond .eq 15, 3) := by decide +kernel
theorem dX11_broken_7 : decode cX11_broken 7 = .ok (.iload_n 2, 1) := by decide +kernel
theorem dX11_broken_8 : decode cX11_broken 8 = .ok (.i2l, 1) := by decide +kernel
theorem dX11_broken_9 : decode cX11_broken 9 = .ok (.lconst 0, 1) := by decide +kernel
theorem dX11_broken_10 : decode cX11_broken 10 = .ok (.ldc2_w 255, 3) := by decide +kernel
theorem dX11_broken_13 : decode cX11_broken 13 = .ok (.invokestatic 233, 3) := by decide +kernel
theorem dX11_broken_16 : decode cX11_broken 16 = .ok (.ifCond .ne 5, 3) := by decide +kernel
theorem dX11_broken_19 : decode cX11_broken 19 = .ok (.iconst (-1), 1) := by decide +kernel
theorem dX11_broken_20 : decode cX11_broken 20 = .ok (.ireturn, 1) := by decide +kernel
theorem dX11_broken_21 : decode cX11_broken 21 = .ok (.iconst 0, 1) := by decide +kernel
theorem dX11_broken_22 : decode cX11_broken 22 = .ok (.istore_n 3, 1) := by decide +kernel
theorem dX11_broken_23 : decode cX11_broken 23 = .ok (.iconst 0, 1) := by decide +kernel
theorem dX11_broken_24 : decode cX11_broken 24 = .ok (.istore 4, 2) := by decide +kernel
theorem dX11_broken_26 : decode cX11_broken 26 = .ok (.iload 4, 2) := by decide +kernel
theorem dX11_broken_28 : decode cX11_broken 28 = .ok (.aload_n 0, 1) := by decide +kernel
theorem dX11_broken_29 : decode cX11_broken 29 = .ok (.getfield 485, 3) := by decide +kernel
theorem dX11_broken_32 : decode cX11_broken 32 = .ok (.if_icmp .ge 38, 3) := by decide +kernel
theorem dX11_broken_35 : decode cX11_broken 35 = .ok (.aload_n 0, 1) := by decide +kernel
theorem dX11_broken_36 : decode cX11_broken 36 = .ok (.getfield 13, 3) := by decide +kernel
theorem dX11_broken_39 : decode cX11_broken 39 = .ok (.aload_n 0, 1) := by decide +kernel
theorem dX11_broken_40 : decode cX11_broken 40 = .ok (.getfield 139, 3) := by decide +kernel
theorem dX11_broken_43 : decode cX11_broken 43 = .ok (.iload 4, 2) := by decide +kernel
theorem dX11_broken_45 : decode cX11_broken 45 = .ok (.iaload, 1) := by decide +kernel
theorem dX11_broken_46 : decode cX11_broken 46 = .ok (.iaload, 1) := by decide +kernel
theorem dX11_broken_47 : decode cX11_broken 47 = .ok (.iload_n 1, 1) := by decide +kernel
theorem dX11_broken_48 : decode cX11_broken 48 = .ok (.if_icmp .ne 16, 3) := by decide +kernel
theorem dX11_broken_51 : decode cX11_broken 51 = .ok (.aload_n 0, 1) := by decide +kernel
theorem dX11_broken_52 : decode cX11_broken 52 = .ok (.iload 4, 2) := by decide +kernel
theorem dX11_broken_54 : decode cX11_broken 54 = .ok (.iload_n 2, 1) := by decide +kernel
theorem dX11_broken_55 : decode cX11_broken 55 = .ok (.invokevirtual 488, 3) := by decide +kernel
theorem dX11_broken_58 : decode cX11_broken 58 = .ok (.ifCond .ne 6, 3) := by decide +kernel
theorem dX11_broken_61 : decode cX11_broken 61 = .ok (.iinc 3 1, 3) := by decide +kernel
theorem dX11_broken_64 : decode cX11_broken 64 = .ok (.iinc 4 1, 3) := by decide +kernel
theorem dX11_broken_67 : decode cX11_broken 67 = .ok (.goto (-41), 3) := by decide +kernel
theorem dX11_broken_70 : decode cX11_broken 70 = .ok (.iload_n 3, 1) := by decide +kernel
theorem dX11_broken_71 : decode cX11_broken 71 = .ok (.ireturn, 1) := by decide +kernel
theorem dX11_stepTo_0 : decode cX11_stepTo 0 = .ok (.iload_n 1, 1) := by decide +kernel
theorem dX11_stepTo_1 : decode cX11_stepTo 1 = .ok (.aload_n 0, 1) := by decide +kernel
theorem dX11_stepTo_2 : decode cX11_stepTo 2 = .ok (.getfield 491, 3) := by decide +kernel
theorem dX11_stepTo_5 : decode cX11_stepTo 5 = .ok (.irem, 1) := by decide +kernel
theorem dX11_stepTo_6 : decode cX11_stepTo 6 = .ok (.iload_n 2, 1) := by decide +kernel
theorem dX11_stepTo_7 : decode cX11_stepTo 7 = .ok (.iconst 1, 1) := by decide +kernel
theorem dX11_stepTo_8 : decode cX11_stepTo 8 = .ok (.if_icmp .ne 7, 3) := by decide +kernel
theorem dX11_stepTo_11 : decode cX11_stepTo 11 = .ok (.iconst 1, 1) := by decide +kernel
theorem dX11_stepTo_12 : decode cX11_stepTo 12 = .ok (.goto 13, 3) := by decide +kernel
theorem dX11_stepTo_15 : decode cX11_stepTo 15 = .ok (.iload_n 2, 1) := by decide +kernel
theorem dX11_stepTo_16 : decode cX11_stepTo 16 = .ok (.iconst 2, 1) := by decide +kernel
theorem dX11_stepTo_17 : decode cX11_stepTo 17 = .ok (.if_icmp .ne 7, 3) := by decide +kernel
theorem dX11_stepTo_20 : decode cX11_stepTo 20 = .ok (.iconst (-1), 1) := by decide +kernel
theorem dX11_stepTo_21 : decode cX11_stepTo 21 = .ok (.goto 4, 3) := by decide +kernel
theorem dX11_stepTo_24 : decode cX11_stepTo 24 = .ok (.iconst 0, 1) := by decide +kernel
theorem dX11_stepTo_25 : decode cX11_stepTo 25 = .ok (.iadd, 1) := by decide +kernel
theorem dX11_stepTo_26 : decode cX11_stepTo 26 = .ok (.istore_n 3, 1) := by decide +kernel
theorem dX11_stepTo_27 : decode cX11_stepTo 27 = .ok (.iload_n 1, 1) := by decide +kernel
theorem dX11_stepTo_28 : decode cX11_stepTo 28 = .ok (.aload_n 0, 1) := by decide +kernel
theorem dX11_stepTo_29 : decode cX11_stepTo 29 = .ok (.getfield 491, 3) := by decide +kernel
theorem dX11_stepTo_32 : decode cX11_stepTo 32 = .ok (.idiv, 1) := by decide +kernel
theorem dX11_stepTo_33 : decode cX11_stepTo 33 = .ok (.iload_n 2, 1) := by decide +kernel
theorem dX11_stepTo_34 : decode cX11_stepTo 34 = .ok (.iconst 3, 1) := by decide +kernel
theorem dX11_stepTo_35 : decode cX11_stepTo 35 = .ok (.if_icmp .ne 7, 3) := by decide +kernel
theorem dX11_stepTo_38 : decode cX11_stepTo 38 = .ok (.iconst 1, 1) := by decide +kernel
theorem dX11_stepTo_39 : decode cX11_stepTo 39 = .ok (.goto 13, 3) := by decide +kernel
theorem dX11_stepTo_42 : decode cX11_stepTo 42 = .ok (.iload_n 2, 1) := by decide +kernel
theorem dX11_stepTo_43 : decode cX11_stepTo 43 = .ok (.iconst 4, 1) := by decide +kernel
theorem dX11_stepTo_44 : decode cX11_stepTo 44 = .ok (.if_icmp .ne 7, 3) := by decide +kernel
theorem dX11_stepTo_47 : decode cX11_stepTo 47 = .ok (.iconst (-1), 1) := by decide +kernel
theorem dX11_stepTo_48 : decode cX11_stepTo 48 = .ok (.goto 4, 3) := by decide +kernel
theorem dX11_stepTo_51 : decode cX11_stepTo 51 = .ok (.iconst 0, 1) := by decide +kernel
theorem dX11_stepTo_52 : decode cX11_stepTo 52 = .ok (.iadd, 1) := by decide +kernel
theorem dX11_stepTo_53 : decode cX11_stepTo 53 = .ok (.istore 4, 2) := by decide +kernel
theorem dX11_stepTo_55 : decode cX11_stepTo 55 = .ok (.iload_n 3, 1) := by decide +kernel
theorem dX11_stepTo_56 : decode cX11_stepTo 56 = .ok (.i2l, 1) := by decide +kernel
theorem dX11_stepTo_57 : decode cX11_stepTo 57 = .ok (.lconst 0, 1) := by decide +kernel
theorem dX11_stepTo_58 : decode cX11_stepTo 58 = .ok (.aload_n 0, 1) := by decide +kernel
theorem dX11_stepTo_59 : decode cX11_stepTo 59 = .ok (.getfield 491, 3) := by decide +kernel
theorem dX11_stepTo_62 : decode cX11_stepTo 62 = .ok (.iconst 1, 1) := by decide +kernel
theorem dX11_stepTo_63 : decode cX11_stepTo 63 = .ok (.isub, 1) := by decide +kernel
theorem dX11_stepTo_64 : decode cX11_stepTo 64 = .ok (.i2l, 1) := by decide +kernel
theorem dX11_stepTo_65 : decode cX11_stepTo 65 = .ok (.invokestatic 233, 3) := by decide +kernel
theorem dX11_stepTo_68 : decode cX11_stepTo 68 = .ok (.ifCond .eq 32, 3) := by decide +kernel
theorem dX11_stepTo_71 : decode cX11_stepTo 71 = .ok (.iload 4, 2) := by decide +kernel
theorem dX11_stepTo_73 : decode cX11_stepTo 73 = .ok (.i2l, 1) := by decide +kernel
theorem dX11_stepTo_74 : decode cX11_stepTo 74 = .ok (.lconst 0, 1) := by decide +kernel
theorem dX11_stepTo_75 : decode cX11_stepTo 75 = .ok (.aload_n 0, 1) := by decide +kernel
theorem dX11_stepTo_76 : decode cX11_stepTo 76 = .ok (.getfield 494, 3) := by decide +kernel
theorem dX11_stepTo_79 : decode cX11_stepTo 79 = .ok (.iconst 1, 1) := by decide +kernel
theorem dX11_stepTo_80 : decode cX11_stepTo 80 = .ok (.isub, 1) := by decide +kernel
theorem dX11_stepTo_81 : decode cX11_stepTo 81 = .ok (.i2l, 1) := by decide +kernel
theorem dX11_stepTo_82 : decode cX11_stepTo 82 = .ok (.invokestatic 233, 3) := by decide +kernel
theorem dX11_stepTo_85 : decode cX11_stepTo 85 = .ok (.ifCond .eq 15, 3) := by decide +kernel
theorem dX11_stepTo_88 : decode cX11_stepTo 88 = .ok (.aload_n 0, 1) := by decide +kernel
theorem dX11_stepTo_89 : decode cX11_stepTo 89 = .ok (.getfield 491, 3) := by decide +kernel
theorem dX11_stepTo_92 : decode cX11_stepTo 92 = .ok (.iload 4, 2) := by decide +kernel
theorem dX11_stepTo_94 : decode cX11_stepTo 94 = .ok (.imul, 1) := by decide +kernel
theorem dX11_stepTo_95 : decode cX11_stepTo 95 = .ok (.iload_n 3, 1) := by decide +kernel
theorem dX11_stepTo_96 : decode cX11_stepTo 96 = .ok (.iadd, 1) := by decide +kernel
theorem dX11_stepTo_97 : decode cX11_stepTo 97 = .ok (.goto 4, 3) := by decide +kernel
theorem dX11_stepTo_100 : decode cX11_stepTo 100 = .ok (.iconst (-1), 1) := by decide +kernel
theorem dX11_stepTo_101 : decode cX11_stepTo 101 = .ok (.ireturn, 1) := by decide +kernel
theorem dX11_state_0 : decode cX11_state 0 = .ok (.bipush 25, 2) := by decide +kernel
theorem dX11_state_2 : decode cX11_state 2 = .ok (.bipush 26, 2) := by decide +kernel
theorem dX11_state_4 : decode cX11_state 4 = .ok (.iload_n 1, 1) := by decide +kernel
theorem dX11_state_5 : decode cX11_state 5 = .ok (.imul, 1) := by decide +kernel
theorem dX11_state_6 : decode cX11_state 6 = .ok (.iload_n 2, 1) := by decide +kernel
theorem dX11_state_7 : decode cX11_state 7 = .ok (.ifCond .ge 8, 3) := by decide +kernel
theorem dX11_state_10 : decode cX11_state 10 = .ok (.bipush 25, 2) := by decide +kernel
theorem dX11_state_12 : decode cX11_state 12 = .ok (.goto 4, 3) := by decide +kernel
theorem dX11_state_15 : decode cX11_state 15 = .ok (.iload_n 2, 1) := by decide +kernel
theorem dX11_state_16 : decode cX11_state 16 = .ok (.iadd, 1) := by decide +kernel
theorem dX11_state_17 : decode cX11_state 17 = .ok (.imul, 1) := by decide +kernel
theorem dX11_state_18 : decode cX11_state 18 = .ok (.iload_n 0, 1) := by decide +kernel
theorem dX11_state_19 : decode cX11_state 19 = .ok (.iadd, 1) := by decide +kernel
theorem dX11_state_20 : decode cX11_state 20 = .ok (.ireturn, 1) := by decide +kernel
theorem dX11_isLost_0 : decode cX11_isLost 0 = .ok (.iconst 0, 1) := by decide +kernel
theorem dX11_isLost_1 : decode cX11_isLost 1 = .ok (.istore 4, 2) := by decide +kernel
theorem dX11_isLost_3 : decode cX11_isLost 3 = .ok (.iload 4, 2) := by decide +kernel
theorem dX11_isLost_5 : decode cX11_isLost 5 = .ok (.iconst 5, 1) := by decide +kernel
theorem dX11_isLost_6 : decode cX11_isLost 6 = .ok (.if_icmp .ge 46, 3) := by decide +kernel
theorem dX11_isLost_9 : decode cX11_isLost 9 = .ok (.aload_n 0, 1) := by decide +kernel
theorem dX11_isLost_10 : decode cX11_isLost 10 = .ok (.iload_n 1, 1) := by decide +kernel
theorem dX11_isLost_11 : decode cX11_isLost 11 = .ok (.iload 4, 2) := by decide +kernel
theorem dX11_isLost_13 : decode cX11_isLost 13 = .ok (.invokevirtual 497, 3) := by decide +kernel
theorem dX11_isLost_16 : decode cX11_isLost 16 = .ok (.istore 5, 2) := by decide +kernel
theorem dX11_isLost_18 : decode cX11_isLost 18 = .ok (.iload 5, 2) := by decide +kernel
theorem dX11_isLost_20 : decode cX11_isLost 20 = .ok (.ifCond .lt 26, 3) := by decide +kernel
theorem dX11_isLost_23 : decode cX11_isLost 23 = .ok (.iload 5, 2) := by decide +kernel
theorem dX11_isLost_25 : decode cX11_isLost 25 = .ok (.iload_n 2, 1) := by decide +kernel
theorem dX11_isLost_26 : decode cX11_isLost 26 = .ok (.if_icmp .eq 20, 3) := by decide +kernel
theorem dX11_isLost_29 : decode cX11_isLost 29 = .ok (.aload_n 0, 1) := by decide +kernel
theorem dX11_isLost_30 : decode cX11_isLost 30 = .ok (.getfield 154, 3) := by decide +kernel
theorem dX11_isLost_33 : decode cX11_isLost 33 = .ok (.iload 5, 2) := by decide +kernel
theorem dX11_isLost_35 : decode cX11_isLost 35 = .ok (.iload_n 2, 1) := by decide +kernel
theorem dX11_isLost_36 : decode cX11_isLost 36 = .ok (.iload_n 3, 1) := by decide +kernel
theorem dX11_isLost_37 : decode cX11_isLost 37 = .ok (.invokestatic 500, 3) := by decide +kernel
theorem dX11_isLost_40 : decode cX11_isLost 40 = .ok (.baload, 1) := by decide +kernel
theorem dX11_isLost_41 : decode cX11_isLost 41 = .ok (.ifCond .ne 5, 3) := by decide +kernel
theorem dX11_isLost_44 : decode cX11_isLost 44 = .ok (.iconst 0, 1) := by decide +kernel
theorem dX11_isLost_45 : decode cX11_isLost 45 = .ok (.ireturn, 1) := by decide +kernel
theorem dX11_isLost_46 : decode cX11_isLost 46 = .ok (.iinc 4 1, 3) := by decide +kernel
theorem dX11_isLost_49 : decode cX11_isLost 49 = .ok (.goto (-46), 3) := by decide +kernel
theorem dX11_isLost_52 : decode cX11_isLost 52 = .ok (.iconst 1, 1) := by decide +kernel
theorem dX11_isLost_53 : decode cX11_isLost 53 = .ok (.ireturn, 1) := by decide +kernel
theorem dX11_isHooked_0 : decode cX11_isHooked 0 = .ok (.iload_n 2, 1) := by decide +kernel
theorem dX11_isHooked_1 : decode cX11_isHooked 1 = .ok (.iload_n 1, 1) := by decide +kernel
theorem dX11_isHooked_2 : decode cX11_isHooked 2 = .ok (.if_icmp .ne 5, 3) := by decide +kernel
theorem dX11_isHooked_5 : decode cX11_isHooked 5 = .ok (.iconst 1, 1) := by decide +kernel
theorem dX11_isHooked_6 : decode cX11_isHooked 6 = .ok (.ireturn, 1) := by decide +kernel
theorem dX11_isHooked_7 : decode cX11_isHooked 7 = .ok (.iload_n 3, 1) := by decide +kernel
theorem dX11_isHooked_8 : decode cX11_isHooked 8 = .ok (.ifCond .ge 11, 3) := by decide +kernel
theorem dX11_isHooked_11 : decode cX11_isHooked 11 = .ok (.aload_n 0, 1) := by decide +kernel
theorem dX11_isHooked_12 : decode cX11_isHooked 12 = .ok (.iload_n 1, 1) := by decide +kernel
theorem dX11_isHooked_13 : decode cX11_isHooked 13 = .ok (.iload_n 2, 1) := by decide +kernel
theorem dX11_isHooked_14 : decode cX11_isHooked 14 = .ok (.iconst (-1), 1) := by decide +kernel
theorem dX11_isHooked_15 : decode cX11_isHooked 15 = .ok (.invokevirtual 503, 3) := by decide +kernel
theorem dX11_isHooked_18 : decode cX11_isHooked 18 = .ok (.ireturn, 1) := by decide +kernel
theorem dX11_isHooked_19 : decode cX11_isHooked 19 = .ok (.iconst 0, 1) := by decide +kernel
theorem dX11_isHooked_20 : decode cX11_isHooked 20 = .ok (.istore 4, 2) := by decide +kernel
theorem dX11_isHooked_22 : decode cX11_isHooked 22 = .ok (.iload 4, 2) := by decide +kernel
theorem dX11_isHooked_24 : decode cX11_isHooked 24 = .ok (.iconst 5, 1) := by decide +kernel
theorem dX11_isHooked_25 : decode cX11_isHooked 25 = .ok (.if_icmp .ge 42, 3) := by decide +kernel
theorem dX11_isHooked_28 : decode cX11_isHooked 28 = .ok (.aload_n 0, 1) := by decide +kernel
theorem dX11_isHooked_29 : decode cX11_isHooked 29 = .ok (.iload_n 3, 1) := by decide +kernel
theorem dX11_isHooked_30 : decode cX11_isHooked 30 = .ok (.iload 4, 2) := by decide +kernel
theorem dX11_isHooked_32 : decode cX11_isHooked 32 = .ok (.invokevirtual 497, 3) := by decide +kernel
theorem dX11_isHooked_35 : decode cX11_isHooked 35 = .ok (.istore 5, 2) := by decide +kernel
theorem dX11_isHooked_37 : decode cX11_isHooked 37 = .ok (.iload 5, 2) := by decide +kernel
theorem dX11_isHooked_39 : decode cX11_isHooked 39 = .ok (.ifCond .lt 22, 3) := by decide +kernel
theorem dX11_isHooked_42 : decode cX11_isHooked 42 = .ok (.iload 5, 2) := by decide +kernel
theorem dX11_isHooked_44 : decode cX11_isHooked 44 = .ok (.iload_n 2, 1) := by decide +kernel
theorem dX11_isHooked_45 : decode cX11_isHooked 45 = .ok (.if_icmp .eq 16, 3) := by decide +kernel
theorem dX11_isHooked_48 : decode cX11_isHooked 48 = .ok (.aload_n 0, 1) := by decide +kernel
theorem dX11_isHooked_49 : decode cX11_isHooked 49 = .ok (.iload_n 1, 1) := by decide +kernel
theorem dX11_isHooked_50 : decode cX11_isHooked 50 = .ok (.iload_n 2, 1) := by decide +kernel
theorem dX11_isHooked_51 : decode cX11_isHooked 51 = .ok (.iload 5, 2) := by decide +kernel
theorem dX11_isHooked_53 : decode cX11_isHooked 53 = .ok (.invokevirtual 503, 3) := by decide +kernel
theorem dX11_isHooked_56 : decode cX11_isHooked 56 = .ok (.ifCond .ne 5, 3) := by decide +kernel
theorem dX11_isHooked_59 : decode cX11_isHooked 59 = .ok (.iconst 0, 1) := by decide +kernel
theorem dX11_isHooked_60 : decode cX11_isHooked 60 = .ok (.ireturn, 1) := by decide +kernel
theorem dX11_isHooked_61 : decode cX11_isHooked 61 = .ok (.iinc 4 1, 3) := by decide +kernel
theorem dX11_isHooked_64 : decode cX11_isHooked 64 = .ok (.goto (-42), 3) := by decide +kernel
theorem dX11_isHooked_67 : decode cX11_isHooked 67 = .ok (.iconst 1, 1) := by decide +kernel
theorem dX11_isHooked_68 : decode cX11_isHooked 68 = .ok (.ireturn, 1) := by decide +kernel
theorem dX11_firstHook_0 : decode cX11_firstHook 0 = .ok (.iconst (-1), 1) := by decide +kernel
theorem dX11_firstHook_1 : decode cX11_firstHook 1 = .ok (.istore 4, 2) := by decide +kernel
theorem dX11_firstHook_3 : decode cX11_firstHook 3 = .ok (.iconst 0, 1) := by decide +kernel
theorem dX11_firstHook_4 : decode cX11_firstHook 4 = .ok (.istore 5, 2) := by decide +kernel
theorem dX11_firstHook_6 : decode cX11_firstHook 6 = .ok (.iload 5, 2) := by decide +kernel
theorem dX11_firstHook_8 : decode cX11_firstHook 8 = .ok (.iconst 5, 1) := by decide +kernel
theorem dX11_firstHook_9 : decode cX11_firstHook 9 = .ok (.if_icmp .ge 59, 3) := by decide +kernel
theorem dX11_firstHook_12 : decode cX11_firstHook 12 = .ok (.aload_n 0, 1) := by decide +kernel
theorem dX11_firstHook_13 : decode cX11_firstHook 13 = .ok (.iload_n 2, 1) := by decide +kernel
theorem dX11_firstHook_14 : decode cX11_firstHook 14 = .ok (.iload 5, 2) := by decide +kernel
theorem dX11_firstHook_16 : decode cX11_firstHook 16 = .ok (.invokevirtual 497, 3) := by decide +kernel
theorem dX11_firstHook_19 : decode cX11_firstHook 19 = .ok (.istore 6, 2) := by decide +kernel
theorem dX11_firstHook_21 : decode cX11_firstHook 21 = .ok (.iload 6, 2) := by decide +kernel
theorem dX11_firstHook_23 : decode cX11_firstHook 23 = .ok (.ifCond .lt 39, 3) := by decide +kernel
theorem dX11_firstHook_26 : decode cX11_firstHook 26 = .ok (.iload 6, 2) := by decide +kernel
theorem dX11_firstHook_28 : decode cX11_firstHook 28 = .ok (.iload_n 3, 1) := by decide +kernel
theorem dX11_firstHook_29 : decode cX11_firstHook 29 = .ok (.if_icmp .eq 33, 3) := by decide +kernel
theorem dX11_firstHook_32 : decode cX11_firstHook 32 = .ok (.iload 4, 2) := by decide +kernel
theorem dX11_firstHook_34 : decode cX11_firstHook 34 = .ok (.ifCond .lt 13, 3) := by decide +kernel
theorem dX11_firstHook_37 : decode cX11_firstHook 37 = .ok (.iload 6, 2) := by decide +kernel
theorem dX11_firstHook_39 : decode cX11_firstHook 39 = .ok (.iload 4, 2) := by decide +kernel
theorem dX11_firstHook_41 : decode cX11_firstHook 41 = .ok (.if_icmp .le 6, 3) := by decide +kernel
theorem dX11_firstHook_44 : decode cX11_firstHook 44 = .ok (.goto 18, 3) := by decide +kernel
theorem dX11_firstHook_47 : decode cX11_firstHook 47 = .ok (.aload_n 0, 1) := by decide +kernel
theorem dX11_firstHook_48 : decode cX11_firstHook 48 = .ok (.iload_n 1, 1) := by decide +kernel
theorem dX11_firstHook_49 : decode cX11_firstHook 49 = .ok (.iload 6, 2) := by decide +kernel
theorem dX11_firstHook_51 : decode cX11_firstHook 51 = .ok (.iload_n 3, 1) := by decide +kernel
theorem dX11_firstHook_52 : decode cX11_firstHook 52 = .ok (.invokevirtual 506, 3) := by decide +kernel
theorem dX11_firstHook_55 : decode cX11_firstHook 55 = .ok (.ifCond .eq 7, 3) := by decide +kernel
theorem dX11_firstHook_58 : decode cX11_firstHook 58 = .ok (.iload 6, 2) := by decide +kernel
theorem dX11_firstHook_60 : decode cX11_firstHook 60 = .ok (.istore 4, 2) := by decide +kernel
theorem dX11_firstHook_62 : decode cX11_firstHook 62 = .ok (.iinc 5 1, 3) := by decide +kernel
theorem dX11_firstHook_65 : decode cX11_firstHook 65 = .ok (.goto (-59), 3) := by decide +kernel
theorem dX11_firstHook_68 : decode cX11_firstHook 68 = .ok (.iload 4, 2) := by decide +kernel
theorem dX11_firstHook_70 : decode cX11_firstHook 70 = .ok (.ireturn, 1) := by decide +kernel
theorem dX11_levels_0 : decode cX11_levels 0 = .ok (.aload_n 0, 1) := by decide +kernel
theorem dX11_levels_1 : decode cX11_levels 1 = .ok (.getfield 491, 3) := by decide +kernel
theorem dX11_levels_4 : decode cX11_levels 4 = .ok (.aload_n 0, 1) := by decide +kernel
theorem dX11_levels_5 : decode cX11_levels 5 = .ok (.getfield 494, 3) := by decide +kernel
theorem dX11_levels_8 : decode cX11_levels 8 = .ok (.imul, 1) := by decide +kernel
theorem dX11_levels_9 : decode cX11_levels 9 = .ok (.istore_n 1, 1) := by decide +kernel
theorem dX11_levels_10 : decode cX11_levels 10 = .ok (.iconst 0, 1) := by decide +kernel
theorem dX11_levels_11 : decode cX11_levels 11 = .ok (.istore_n 2, 1) := by decide +kernel
theorem dX11_levels_12 : decode cX11_levels 12 = .ok (.iload_n 2, 1) := by decide +kernel
theorem dX11_levels_13 : decode cX11_levels 13 = .ok (.iload_n 1, 1) := by decide +kernel
theorem dX11_levels_14 : decode cX11_levels 14 = .ok (.if_icmp .ge 88, 3) := by decide +kernel
theorem dX11_levels_17 : decode cX11_levels 17 = .ok (.iconst (-1), 1) := by decide +kernel
theorem dX11_levels_18 : decode cX11_levels 18 = .ok (.istore_n 3, 1) := by decide +kernel
theorem dX11_levels_19 : decode cX11_levels 19 = .ok (.iload_n 3, 1) := by decide +kernel
theorem dX11_levels_20 : decode cX11_levels 20 = .ok (.iload_n 1, 1) := by decide +kernel
theorem dX11_levels_21 : decode cX11_levels 21 = .ok (.if_icmp .ge 75, 3) := by decide +kernel
theorem dX11_levels_24 : decode cX11_levels 24 = .ok (.iload_n 3, 1) := by decide +kernel
theorem dX11_levels_25 : decode cX11_levels 25 = .ok (.iload_n 2, 1) := by decide +kernel
theorem dX11_levels_26 : decode cX11_levels 26 = .ok (.if_icmp .ne 6, 3) := by decide +kernel
theorem dX11_levels_29 : decode cX11_levels 29 = .ok (.goto 61, 3) := by decide +kernel
theorem dX11_levels_32 : decode cX11_levels 32 = .ok (.iconst 0, 1) := by decide +kernel
theorem dX11_levels_33 : decode cX11_levels 33 = .ok (.istore 4, 2) := by decide +kernel
theorem dX11_levels_35 : decode cX11_levels 35 = .ok (.iload 4, 2) := by decide +kernel
theorem dX11_levels_37 : decode cX11_levels 37 = .ok (.iload_n 1, 1) := by decide +kernel
theorem dX11_levels_38 : decode cX11_levels 38 = .ok (.if_icmp .ge 52, 3) := by decide +kernel
theorem dX11_levels_41 : decode cX11_levels 41 = .ok (.aload_n 0, 1) := by decide +kernel
theorem dX11_levels_42 : decode cX11_levels 42 = .ok (.getfield 158, 3) := by decide +kernel
theorem dX11_levels_45 : decode cX11_levels 45 = .ok (.iload 4, 2) := by decide +kernel
theorem dX11_levels_47 : decode cX11_levels 47 = .ok (.iload_n 2, 1) := by decide +kernel
theorem dX11_levels_48 : decode cX11_levels 48 = .ok (.iload_n 3, 1) := by decide +kernel
theorem dX11_levels_49 : decode cX11_levels 49 = .ok (.invokestatic 500, 3) := by decide +kernel
theorem dX11_levels_52 : decode cX11_levels 52 = .ok (.aload_n 0, 1) := by decide +kernel
theorem dX11_levels_53 : decode cX11_levels 53 = .ok (.getfield 154, 3) := by decide +kernel
theorem dX11_levels_56 : decode cX11_levels 56 = .ok (.iload 4, 2) := by decide +kernel
theorem dX11_levels_58 : decode cX11_levels 58 = .ok (.iload_n 2, 1) := by decide +kernel
theorem dX11_levels_59 : decode cX11_levels 59 = .ok (.iload_n 3, 1) := by decide +kernel
theorem dX11_levels_60 : decode cX11_levels 60 = .ok (.invokestatic 500, 3) := by decide +kernel
theorem dX11_levels_63 : decode cX11_levels 63 = .ok (.baload, 1) := by decide +kernel
theorem dX11_levels_64 : decode cX11_levels 64 = .ok (.ifCond .ne 14, 3) := by decide +kernel
theorem dX11_levels_67 : decode cX11_levels 67 = .ok (.aload_n 0, 1) := by decide +kernel
theorem dX11_levels_68 : decode cX11_levels 68 = .ok (.iload 4, 2) := by decide +kernel
theorem dX11_levels_70 : decode cX11_levels 70 = .ok (.iload_n 2, 1) := by decide +kernel
theorem dX11_levels_71 : decode cX11_levels 71 = .ok (.iload_n 3, 1) := by decide +kernel
theorem dX11_levels_72 : decode cX11_levels 72 = .ok (.invokevirtual 509, 3) := by decide +kernel
theorem dX11_levels_75 : decode cX11_levels 75 = .ok (.ifCond .lt 7, 3) := by decide +kernel
theorem dX11_levels_78 : decode cX11_levels 78 = .ok (.iconst 1, 1) := by decide +kernel
theorem dX11_levels_79 : decode cX11_levels 79 = .ok (.goto 4, 3) := by decide +kernel
theorem dX11_levels_82 : decode cX11_levels 82 = .ok (.iconst 0, 1) := by decide +kernel
theorem dX11_levels_83 : decode cX11_levels 83 = .ok (.bastore, 1) := by decide +kernel
theorem dX11_levels_84 : decode cX11_levels 84 = .ok (.iinc 4 1, 3) := by decide +kernel
theorem dX11_levels_87 : decode cX11_levels 87 = .ok (.goto (-52), 3) := by decide +kernel
theorem dX11_levels_90 : decode cX11_levels 90 = .ok (.iinc 3 1, 3) := by decide +kernel
theorem dX11_levels_93 : decode cX11_levels 93 = .ok (.goto (-74), 3) := by decide +kernel
theorem dX11_levels_96 : decode cX11_levels 96 = .ok (.iinc 2 1, 3) := by decide +kernel
theorem dX11_levels_99 : decode cX11_levels 99 = .ok (.goto (-87), 3) := by decide +kernel
theorem dX11_levels_102 : decode cX11_levels 102 = .ok (.iconst 0, 1) := by decide +kernel
theorem dX11_levels_103 : decode cX11_levels 103 = .ok (.istore_n 2, 1) := by decide +kernel
theorem dX11_levels_104 : decode cX11_levels 104 = .ok (.iload_n 2, 1) := by decide +kernel
theorem dX11_levels_105 : decode cX11_levels 105 = .ok (.sipush 16250, 3) := by decide +kernel
theorem dX11_levels_108 : decode cX11_levels 108 = .ok (.if_icmp .ge 21, 3) := by decide +kernel
theorem dX11_levels_111 : decode cX11_levels 111 = .ok (.aload_n 0, 1) := by decide +kernel
theorem dX11_levels_112 : decode cX11_levels 112 = .ok (.getfield 154, 3) := by decide +kernel
theorem dX11_levels_115 : decode cX11_levels 115 = .ok (.iload_n 2, 1) := by decide +kernel
theorem dX11_levels_116 : decode cX11_levels 116 = .ok (.aload_n 0, 1) := by decide +kernel
theorem dX11_levels_117 : decode cX11_levels 117 = .ok (.getfield 158, 3) := by decide +kernel
theorem dX11_levels_120 : decode cX11_levels 120 = .ok (.iload_n 2, 1) := by decide +kernel
theorem dX11_levels_121 : decode cX11_levels 121 = .ok (.baload, 1) := by decide +kernel
theorem dX11_levels_122 : decode cX11_levels 122 = .ok (.bastore, 1) := by decide +kernel
theorem dX11_levels_123 : decode cX11_levels 123 = .ok (.iinc 2 1, 3) := by decide +kernel
theorem dX11_levels_126 : decode cX11_levels 126 = .ok (.goto (-22), 3) := by decide +kernel
theorem dX11_levels_129 : decode cX11_levels 129 = .ok (.return_, 1) := by decide +kernel
theorem dX11_hook_0 : decode cX11_hook 0 = .ok (.iload_n 1, 1) := by decide +kernel
theorem dX11_hook_1 : decode cX11_hook 1 = .ok (.i2l, 1) := by decide +kernel
theorem dX11_hook_2 : decode cX11_hook 2 = .ok (.lconst 1, 1) := by decide +kernel
theorem dX11_hook_3 : decode cX11_hook 3 = .ok (.ldc2_w 512, 3) := by decide +kernel
theorem dX11_hook_6 : decode cX11_hook 6 = .ok (.invokestatic 233, 3) := by decide +kernel
theorem dX11_hook_9 : decode cX11_hook 9 = .ok (.ifCond .eq 28, 3) := by decide +kernel
theorem dX11_hook_12 : decode cX11_hook 12 = .ok (.iload_n 2, 1) := by decide +kernel
theorem dX11_hook_13 : decode cX11_hook 13 = .ok (.i2l, 1) := by decide +kernel
theorem dX11_hook_14 : decode cX11_hook 14 = .ok (.lconst 1, 1) := by decide +kernel
theorem dX11_hook_15 : decode cX11_hook 15 = .ok (.ldc2_w 512, 3) := by decide +kernel
theorem dX11_hook_18 : decode cX11_hook 18 = .ok (.invokestatic 233, 3) := by decide +kernel
theorem dX11_hook_21 : decode cX11_hook 21 = .ok (.ifCond .eq 16, 3) := by decide +kernel
theorem dX11_hook_24 : decode cX11_hook 24 = .ok (.iload 6, 2) := by decide +kernel
theorem dX11_hook_26 : decode cX11_hook 26 = .ok (.i2l, 1) := by decide +kernel
theorem dX11_hook_27 : decode cX11_hook 27 = .ok (.lconst 0, 1) := by decide +kernel
theorem dX11_hook_28 : decode cX11_hook 28 = .ok (.ldc2_w 514, 3) := by decide +kernel
theorem dX11_hook_31 : decode cX11_hook 31 = .ok (.invokestatic 233, 3) := by decide +kernel
theorem dX11_hook_34 : decode cX11_hook 34 = .ok (.ifCond .ne 5, 3) := by decide +kernel
theorem dX11_hook_37 : decode cX11_hook 37 = .ok (.iconst (-1), 1) := by decide +kernel
theorem dX11_hook_38 : decode cX11_hook 38 = .ok (.ireturn, 1) := by decide +kernel
theorem dX11_hook_39 : decode cX11_hook 39 = .ok (.iload_n 1, 1) := by decide +kernel
theorem dX11_hook_40 : decode cX11_hook 40 = .ok (.iload_n 2, 1) := by decide +kernel
theorem dX11_hook_41 : decode cX11_hook 41 = .ok (.imul, 1) := by decide +kernel
theorem dX11_hook_42 : decode cX11_hook 42 = .ok (.istore 7, 2) := by decide +kernel
theorem dX11_hook_44 : decode cX11_hook 44 = .ok (.iload_n 3, 1) := by decide +kernel
theorem dX11_hook_45 : decode cX11_hook 45 = .ok (.i2l, 1) := by decide +kernel
theorem dX11_hook_46 : decode cX11_hook 46 = .ok (.lconst 0, 1) := by decide +kernel
theorem dX11_hook_47 : decode cX11_hook 47 = .ok (.iload 7, 2) := by decide +kernel
theorem dX11_hook_49 : decode cX11_hook 49 = .ok (.iconst 1, 1) := by decide +kernel
theorem dX11_hook_50 : decode cX11_hook 50 = .ok (.isub, 1) := by decide +kernel
theorem dX11_hook_51 : decode cX11_hook 51 = .ok (.i2l, 1) := by decide +kernel
theorem dX11_hook_52 : decode cX11_hook 52 = .ok (.invokestatic 233, 3) := by decide +kernel
theorem dX11_hook_55 : decode cX11_hook 55 = .ok (.ifCond .eq 42, 3) := by decide +kernel
theorem dX11_hook_58 : decode cX11_hook 58 = .ok (.iload 4, 2) := by decide +kernel
theorem dX11_hook_60 : decode cX11_hook 60 = .ok (.i2l, 1) := by decide +kernel
theorem dX11_hook_61 : decode cX11_hook 61 = .ok (.lconst 0, 1) := by decide +kernel
theorem dX11_hook_62 : decode cX11_hook 62 = .ok (.iload 7, 2) := by decide +kernel
theorem dX11_hook_64 : decode cX11_hook 64 = .ok (.iconst 1, 1) := by decide +kernel
theorem dX11_hook_65 : decode cX11_hook 65 = .ok (.isub, 1) := by decide +kernel
theorem dX11_hook_66 : decode cX11_hook 66 = .ok (.i2l, 1) := by decide +kernel
theorem dX11_hook_67 : decode cX11_hook 67 = .ok (.invokestatic 233, 3) := by decide +kernel
theorem dX11_hook_70 : decode cX11_hook 70 = .ok (.ifCond .eq 27, 3) := by decide +kernel
theorem dX11_hook_73 : decode cX11_hook 73 = .ok (.iload 5, 2) := by decide +kernel
theorem dX11_hook_75 : decode cX11_hook 75 = .ok (.i2l, 1) := by decide +kernel
theorem dX11_hook_76 : decode cX11_hook 76 = .ok (.ldc2_w 314, 3) := by decide +kernel
theorem dX11_hook_79 : decode cX11_hook 79 = .ok (.iload 7, 2) := by decide +kernel
theorem dX11_hook_81 : decode cX11_hook 81 = .ok (.iconst 1, 1) := by decide +kernel
theorem dX11_hook_82 : decode cX11_hook 82 = .ok (.isub, 1) := by decide +kernel
theorem dX11_hook_83 : decode cX11_hook 83 = .ok (.i2l, 1) := by decide +kernel
theorem dX11_hook_84 : decode cX11_hook 84 = .ok (.invokestatic 233, 3) := by decide +kernel
theorem dX11_hook_87 : decode cX11_hook 87 = .ok (.ifCond .eq 10, 3) := by decide +kernel
theorem dX11_hook_90 : decode cX11_hook 90 = .ok (.iload 4, 2) := by decide +kernel
theorem dX11_hook_92 : decode cX11_hook 92 = .ok (.iload 5, 2) := by decide +kernel
theorem dX11_hook_94 : decode cX11_hook 94 = .ok (.if_icmp .ne 5, 3) := by decide +kernel
theorem dX11_hook_97 : decode cX11_hook 97 = .ok (.iconst (-1), 1) := by decide +kernel
theorem dX11_hook_98 : decode cX11_hook 98 = .ok (.ireturn, 1) := by decide +kernel
theorem dX11_hook_99 : decode cX11_hook 99 = .ok (.iload_n 3, 1) := by decide +kernel
theorem dX11_hook_100 : decode cX11_hook 100 = .ok (.iload 4, 2) := by decide +kernel
theorem dX11_hook_102 : decode cX11_hook 102 = .ok (.if_icmp .ne 5, 3) := by decide +kernel
theorem dX11_hook_105 : decode cX11_hook 105 = .ok (.iconst 0, 1) := by decide +kernel
theorem dX11_hook_106 : decode cX11_hook 106 = .ok (.ireturn, 1) := by decide +kernel
theorem dX11_hook_107 : decode cX11_hook 107 = .ok (.aload_n 0, 1) := by decide +kernel
theorem dX11_hook_108 : decode cX11_hook 108 = .ok (.iload_n 1, 1) := by decide +kernel
theorem dX11_hook_109 : decode cX11_hook 109 = .ok (.putfield 491, 3) := by decide +kernel
theorem dX11_hook_112 : decode cX11_hook 112 = .ok (.aload_n 0, 1) := by decide +kernel
theorem dX11_hook_113 : decode cX11_hook 113 = .ok (.iload_n 2, 1) := by decide +kernel
theorem dX11_hook_114 : decode cX11_hook 114 = .ok (.putfield 494, 3) := by decide +kernel
theorem dX11_hook_117 : decode cX11_hook 117 = .ok (.iconst 0, 1) := by decide +kernel
theorem dX11_hook_118 : decode cX11_hook 118 = .ok (.istore 8, 2) := by decide +kernel
theorem dX11_hook_120 : decode cX11_hook 120 = .ok (.iload 8, 2) := by decide +kernel
theorem dX11_hook_122 : decode cX11_hook 122 = .ok (.sipush 16250, 3) := by decide +kernel
theorem dX11_hook_125 : decode cX11_hook 125 = .ok (.if_icmp .ge 45, 3) := by decide +kernel
theorem dX11_hook_128 : decode cX11_hook 128 = .ok (.aload_n 0, 1) := by decide +kernel
theorem dX11_hook_129 : decode cX11_hook 129 = .ok (.getfield 154, 3) := by decide +kernel
theorem dX11_hook_132 : decode cX11_hook 132 = .ok (.iload 8, 2) := by decide +kernel
theorem dX11_hook_134 : decode cX11_hook 134 = .ok (.iload 8, 2) := by decide +kernel
theorem dX11_hook_136 : decode cX11_hook 136 = .ok (.bipush 25, 2) := by decide +kernel
theorem dX11_hook_138 : decode cX11_hook 138 = .ok (.idiv, 1) := by decide +kernel
theorem dX11_hook_139 : decode cX11_hook 139 = .ok (.bipush 26, 2) := by decide +kernel
theorem dX11_hook_141 : decode cX11_hook 141 = .ok (.idiv, 1) := by decide +kernel
theorem dX11_hook_142 : decode cX11_hook 142 = .ok (.iload 8, 2) := by decide +kernel
theorem dX11_hook_144 : decode cX11_hook 144 = .ok (.bipush 25, 2) := by decide +kernel
theorem dX11_hook_146 : decode cX11_hook 146 = .ok (.irem, 1) := by decide +kernel
theorem dX11_hook_147 : decode cX11_hook 147 = .ok (.if_icmp .ne 7, 3) := by decide +kernel
theorem dX11_hook_150 : decode cX11_hook 150 = .ok (.iconst 1, 1) := by decide +kernel
theorem dX11_hook_151 : decode cX11_hook 151 = .ok (.goto 4, 3) := by decide +kernel
theorem dX11_hook_154 : decode cX11_hook 154 = .ok (.iconst 0, 1) := by decide +kernel
theorem dX11_hook_155 : decode cX11_hook 155 = .ok (.bastore, 1) := by decide +kernel
theorem dX11_hook_156 : decode cX11_hook 156 = .ok (.aload_n 0, 1) := by decide +kernel
theorem dX11_hook_157 : decode cX11_hook 157 = .ok (.getfield 158, 3) := by decide +kernel
theorem dX11_hook_160 : decode cX11_hook 160 = .ok (.iload 8, 2) := by decide +kernel
theorem dX11_hook_162 : decode cX11_hook 162 = .ok (.iconst 0, 1) := by decide +kernel
theorem dX11_hook_163 : decode cX11_hook 163 = .ok (.bastore, 1) := by decide +kernel
theorem dX11_hook_164 : decode cX11_hook 164 = .ok (.iinc 8 1, 3) := by decide +kernel
theorem dX11_hook_167 : decode cX11_hook 167 = .ok (.goto (-47), 3) := by decide +kernel
theorem dX11_hook_170 : decode cX11_hook 170 = .ok (.iconst 1, 1) := by decide +kernel
theorem dX11_hook_171 : decode cX11_hook 171 = .ok (.istore 8, 2) := by decide +kernel
theorem dX11_hook_173 : decode cX11_hook 173 = .ok (.iload 8, 2) := by decide +kernel
theorem dX11_hook_175 : decode cX11_hook 175 = .ok (.iload 6, 2) := by decide +kernel
theorem dX11_hook_177 : decode cX11_hook 177 = .ok (.if_icmp .gt 38, 3) := by decide +kernel
theorem dX11_hook_180 : decode cX11_hook 180 = .ok (.aload_n 0, 1) := by decide +kernel
theorem dX11_hook_181 : decode cX11_hook 181 = .ok (.iload_n 3, 1) := by decide +kernel
theorem dX11_hook_182 : decode cX11_hook 182 = .ok (.iload 4, 2) := by decide +kernel
theorem dX11_hook_184 : decode cX11_hook 184 = .ok (.iload 5, 2) := by decide +kernel
theorem dX11_hook_186 : decode cX11_hook 186 = .ok (.invokevirtual 509, 3) := by decide +kernel
theorem dX11_hook_189 : decode cX11_hook 189 = .ok (.istore 9, 2) := by decide +kernel
theorem dX11_hook_191 : decode cX11_hook 191 = .ok (.iload 9, 2) := by decide +kernel
theorem dX11_hook_193 : decode cX11_hook 193 = .ok (.ifCond .lt 12, 3) := by decide +kernel
theorem dX11_hook_196 : decode cX11_hook 196 = .ok (.aload_n 0, 1) := by decide +kernel
theorem dX11_hook_197 : decode cX11_hook 197 = .ok (.iload 9, 2) := by decide +kernel
theorem dX11_hook_199 : decode cX11_hook 199 = .ok (.putfield 161, 3) := by decide +kernel
theorem dX11_hook_202 : decode cX11_hook 202 = .ok (.iload 8, 2) := by decide +kernel
theorem dX11_hook_204 : decode cX11_hook 204 = .ok (.ireturn, 1) := by decide +kernel
theorem dX11_hook_205 : decode cX11_hook 205 = .ok (.aload_n 0, 1) := by decide +kernel
theorem dX11_hook_206 : decode cX11_hook 206 = .ok (.invokevirtual 516, 3) := by decide +kernel
theorem dX11_hook_209 : decode cX11_hook 209 = .ok (.iinc 8 1, 3) := by decide +kernel
theorem dX11_hook_212 : decode cX11_hook 212 = .ok (.goto (-39), 3) := by decide +kernel
theorem dX11_hook_215 : decode cX11_hook 215 = .ok (.bipush (-2), 2) := by decide +kernel
theorem dX11_hook_217 : decode cX11_hook 217 = .ok (.ireturn, 1) := by decide +kernel
theorem dX11_hooks_0 : decode cX11_hooks 0 = .ok (.aload_n 0, 1) := by decide +kernel
theorem dX11_hooks_1 : decode cX11_hooks 1 = .ok (.getfield 161, 3) := by decide +kernel
theorem dX11_hooks_4 : decode cX11_hooks 4 = .ok (.ireturn, 1) := by decide +kernel
theorem dX11_xOf_0 : decode cX11_xOf 0 = .ok (.iload_n 1, 1) := by decide +kernel
theorem dX11_xOf_1 : decode cX11_xOf 1 = .ok (.bipush 24, 2) := by decide +kernel
theorem dX11_xOf_3 : decode cX11_xOf 3 = .ok (.irem, 1) := by decide +kernel
theorem dX11_xOf_4 : decode cX11_xOf 4 = .ok (.ireturn, 1) := by decide +kernel
theorem dX11_yOf_0 : decode cX11_yOf 0 = .ok (.iload_n 1, 1) := by decide +kernel
theorem dX11_yOf_1 : decode cX11_yOf 1 = .ok (.bipush 24, 2) := by decide +kernel
theorem dX11_yOf_3 : decode cX11_yOf 3 = .ok (.idiv, 1) := by decide +kernel
theorem dX11_yOf_4 : decode cX11_yOf 4 = .ok (.ireturn, 1) := by decide +kernel
theorem dX11_goes_0 : decode cX11_goes 0 = .ok (.iload_n 1, 1) := by decide +kernel
theorem dX11_goes_1 : decode cX11_goes 1 = .ok (.iload_n 2, 1) := by decide +kernel
theorem dX11_goes_2 : decode cX11_goes 2 = .ok (.if_icmp .eq 7, 3) := by decide +kernel
theorem dX11_goes_5 : decode cX11_goes 5 = .ok (.iconst 1, 1) := by decide +kernel
theorem dX11_goes_6 : decode cX11_goes 6 = .ok (.goto 4, 3) := by decide +kernel
theorem dX11_goes_9 : decode cX11_goes 9 = .ok (.iconst 0, 1) := by decide +kernel
theorem dX11_goes_10 : decode cX11_goes 10 = .ok (.ireturn, 1) := by decide +kernel
theorem dX11_overtakes_0 : decode cX11_overtakes 0 = .ok (.aload_n 0, 1) := by decide +kernel
theorem dX11_overtakes_1 : decode cX11_overtakes 1 = .ok (.iload_n 2, 1) := by decide +kernel
theorem dX11_overtakes_2 : decode cX11_overtakes 2 = .ok (.invokevirtual 519, 3) := by decide +kernel
theorem dX11_overtakes_5 : decode cX11_overtakes 5 = .ok (.aload_n 0, 1) := by decide +kernel
theorem dX11_overtakes_6 : decode cX11_overtakes 6 = .ok (.iload_n 1, 1) := by decide +kernel
theorem dX11_overtakes_7 : decode cX11_overtakes 7 = .ok (.invokevirtual 519, 3) := by decide +kernel
theorem dX11_overtakes_10 : decode cX11_overtakes 10 = .ok (.isub, 1) := by decide +kernel
theorem dX11_overtakes_11 : decode cX11_overtakes 11 = .ok (.istore 5, 2) := by decide +kernel
theorem dX11_overtakes_13 : decode cX11_overtakes 13 = .ok (.aload_n 0, 1) := by decide +kernel
theorem dX11_overtakes_14 : decode cX11_overtakes 14 = .ok (.iload_n 2, 1) := by decide +kernel
theorem dX11_overtakes_15 : decode cX11_overtakes 15 = .ok (.invokevirtual 522, 3) := by decide +kernel
theorem dX11_overtakes_18 : decode cX11_overtakes 18 = .ok (.aload_n 0, 1) := by decide +kernel
theorem dX11_overtakes_19 : decode cX11_overtakes 19 = .ok (.iload_n 1, 1) := by decide +kernel
theorem dX11_overtakes_20 : decode cX11_overtakes 20 = .ok (.invokevirtual 522, 3) := by decide +kernel
theorem dX11_overtakes_23 : decode cX11_overtakes 23 = .ok (.isub, 1) := by decide +kernel
theorem dX11_overtakes_24 : decode cX11_overtakes 24 = .ok (.istore 6, 2) := by decide +kernel
theorem dX11_overtakes_26 : decode cX11_overtakes 26 = .ok (.aload_n 0, 1) := by decide +kernel
theorem dX11_overtakes_27 : decode cX11_overtakes 27 = .ok (.iload 4, 2) := by decide +kernel
theorem dX11_overtakes_29 : decode cX11_overtakes 29 = .ok (.invokevirtual 519, 3) := by decide +kernel
theorem dX11_overtakes_32 : decode cX11_overtakes 32 = .ok (.aload_n 0, 1) := by decide +kernel
theorem dX11_overtakes_33 : decode cX11_overtakes 33 = .ok (.iload_n 3, 1) := by decide +kernel
theorem dX11_overtakes_34 : decode cX11_overtakes 34 = .ok (.invokevirtual 519, 3) := by decide +kernel
theorem dX11_overtakes_37 : decode cX11_overtakes 37 = .ok (.isub, 1) := by decide +kernel
theorem dX11_overtakes_38 : decode cX11_overtakes 38 = .ok (.istore 7, 2) := by decide +kernel
theorem dX11_overtakes_40 : decode cX11_overtakes 40 = .ok (.aload_n 0, 1) := by decide +kernel
theorem dX11_overtakes_41 : decode cX11_overtakes 41 = .ok (.iload 4, 2) := by decide +kernel
theorem dX11_overtakes_43 : decode cX11_overtakes 43 = .ok (.invokevirtual 522, 3) := by decide +kernel
theorem dX11_overtakes_46 : decode cX11_overtakes 46 = .ok (.aload_n 0, 1) := by decide +kernel
theorem dX11_overtakes_47 : decode cX11_overtakes 47 = .ok (.iload_n 3, 1) := by decide +kernel
theorem dX11_overtakes_48 : decode cX11_overtakes 48 = .ok (.invokevirtual 522, 3) := by decide +kernel
theorem dX11_overtakes_51 : decode cX11_overtakes 51 = .ok (.isub, 1) := by decide +kernel
theorem dX11_overtakes_52 : decode cX11_overtakes 52 = .ok (.istore 8, 2) := by decide +kernel
theorem dX11_overtakes_54 : decode cX11_overtakes 54 = .ok (.iload 5, 2) := by decide +kernel
theorem dX11_overtakes_56 : decode cX11_overtakes 56 = .ok (.iload 7, 2) := by decide +kernel
theorem dX11_overtakes_58 : decode cX11_overtakes 58 = .ok (.imul, 1) := by decide +kernel
theorem dX11_overtakes_59 : decode cX11_overtakes 59 = .ok (.iload 6, 2) := by decide +kernel
theorem dX11_overtakes_61 : decode cX11_overtakes 61 = .ok (.iload 8, 2) := by decide +kernel
theorem dX11_overtakes_63 : decode cX11_overtakes 63 = .ok (.imul, 1) := by decide +kernel
theorem dX11_overtakes_64 : decode cX11_overtakes 64 = .ok (.iadd, 1) := by decide +kernel
theorem dX11_overtakes_65 : decode cX11_overtakes 65 = .ok (.ifCond .le 39, 3) := by decide +kernel
theorem dX11_overtakes_68 : decode cX11_overtakes 68 = .ok (.aload_n 0, 1) := by decide +kernel
theorem dX11_overtakes_69 : decode cX11_overtakes 69 = .ok (.iload_n 1, 1) := by decide +kernel
theorem dX11_overtakes_70 : decode cX11_overtakes 70 = .ok (.invokevirtual 519, 3) := by decide +kernel
theorem dX11_overtakes_73 : decode cX11_overtakes 73 = .ok (.aload_n 0, 1) := by decide +kernel
theorem dX11_overtakes_74 : decode cX11_overtakes 74 = .ok (.iload_n 3, 1) := by decide +kernel
theorem dX11_overtakes_75 : decode cX11_overtakes 75 = .ok (.invokevirtual 519, 3) := by decide +kernel
theorem dX11_overtakes_78 : decode cX11_overtakes 78 = .ok (.isub, 1) := by decide +kernel
theorem dX11_overtakes_79 : decode cX11_overtakes 79 = .ok (.iload 7, 2) := by decide +kernel
theorem dX11_overtakes_81 : decode cX11_overtakes 81 = .ok (.imul, 1) := by decide +kernel
theorem dX11_overtakes_82 : decode cX11_overtakes 82 = .ok (.aload_n 0, 1) := by decide +kernel
theorem dX11_overtakes_83 : decode cX11_overtakes 83 = .ok (.iload_n 1, 1) := by decide +kernel
theorem dX11_overtakes_84 : decode cX11_overtakes 84 = .ok (.invokevirtual 522, 3) := by decide +kernel
theorem dX11_overtakes_87 : decode cX11_overtakes 87 = .ok (.aload_n 0, 1) := by decide +kernel
theorem dX11_overtakes_88 : decode cX11_overtakes 88 = .ok (.iload_n 3, 1) := by decide +kernel
theorem dX11_overtakes_89 : decode cX11_overtakes 89 = .ok (.invokevirtual 522, 3) := by decide +kernel
theorem dX11_overtakes_92 : decode cX11_overtakes 92 = .ok (.isub, 1) := by decide +kernel
theorem dX11_overtakes_93 : decode cX11_overtakes 93 = .ok (.iload 8, 2) := by decide +kernel
theorem dX11_overtakes_95 : decode cX11_overtakes 95 = .ok (.imul, 1) := by decide +kernel
theorem dX11_overtakes_96 : decode cX11_overtakes 96 = .ok (.iadd, 1) := by decide +kernel
theorem dX11_overtakes_97 : decode cX11_overtakes 97 = .ok (.ifCond .ge 7, 3) := by decide +kernel
theorem dX11_overtakes_100 : decode cX11_overtakes 100 = .ok (.iconst 1, 1) := by decide +kernel
theorem dX11_overtakes_101 : decode cX11_overtakes 101 = .ok (.goto 4, 3) := by decide +kernel
theorem dX11_overtakes_104 : decode cX11_overtakes 104 = .ok (.iconst 0, 1) := by decide +kernel
theorem dX11_overtakes_105 : decode cX11_overtakes 105 = .ok (.ireturn, 1) := by decide +kernel
theorem dX11_isRight_0 : decode cX11_isRight 0 = .ok (.aload_n 0, 1) := by decide +kernel
theorem dX11_isRight_1 : decode cX11_isRight 1 = .ok (.iload_n 2, 1) := by decide +kernel
theorem dX11_isRight_2 : decode cX11_isRight 2 = .ok (.invokevirtual 519, 3) := by decide +kernel
theorem dX11_isRight_5 : decode cX11_isRight 5 = .ok (.aload_n 0, 1) := by decide +kernel
theorem dX11_isRight_6 : decode cX11_isRight 6 = .ok (.iload_n 1, 1) := by decide +kernel
theorem dX11_isRight_7 : decode cX11_isRight 7 = .ok (.invokevirtual 519, 3) := by decide +kernel
theorem dX11_isRight_10 : decode cX11_isRight 10 = .ok (.isub, 1) := by decide +kernel
theorem dX11_isRight_11 : decode cX11_isRight 11 = .ok (.istore 4, 2) := by decide +kernel
theorem dX11_isRight_13 : decode cX11_isRight 13 = .ok (.aload_n 0, 1) := by decide +kernel
theorem dX11_isRight_14 : decode cX11_isRight 14 = .ok (.iload_n 2, 1) := by decide +kernel
theorem dX11_isRight_15 : decode cX11_isRight 15 = .ok (.invokevirtual 522, 3) := by decide +kernel
theorem dX11_isRight_18 : decode cX11_isRight 18 = .ok (.aload_n 0, 1) := by decide +kernel
theorem dX11_isRight_19 : decode cX11_isRight 19 = .ok (.iload_n 1, 1) := by decide +kernel
theorem dX11_isRight_20 : decode cX11_isRight 20 = .ok (.invokevirtual 522, 3) := by decide +kernel
theorem dX11_isRight_23 : decode cX11_isRight 23 = .ok (.isub, 1) := by decide +kernel
theorem dX11_isRight_24 : decode cX11_isRight 24 = .ok (.istore 5, 2) := by decide +kernel
theorem dX11_isRight_26 : decode cX11_isRight 26 = .ok (.iload 4, 2) := by decide +kernel
theorem dX11_isRight_28 : decode cX11_isRight 28 = .ok (.aload_n 0, 1) := by decide +kernel
theorem dX11_isRight_29 : decode cX11_isRight 29 = .ok (.iload_n 3, 1) := by decide +kernel
theorem dX11_isRight_30 : decode cX11_isRight 30 = .ok (.invokevirtual 522, 3) := by decide +kernel
theorem dX11_isRight_33 : decode cX11_isRight 33 = .ok (.aload_n 0, 1) := by decide +kernel
theorem dX11_isRight_34 : decode cX11_isRight 34 = .ok (.iload_n 1, 1) := by decide +kernel
theorem dX11_isRight_35 : decode cX11_isRight 35 = .ok (.invokevirtual 522, 3) := by decide +kernel
theorem dX11_isRight_38 : decode cX11_isRight 38 = .ok (.isub, 1) := by decide +kernel
theorem dX11_isRight_39 : decode cX11_isRight 39 = .ok (.imul, 1) := by decide +kernel
theorem dX11_isRight_40 : decode cX11_isRight 40 = .ok (.iload 5, 2) := by decide +kernel
theorem dX11_isRight_42 : decode cX11_isRight 42 = .ok (.aload_n 0, 1) := by decide +kernel
theorem dX11_isRight_43 : decode cX11_isRight 43 = .ok (.iload_n 3, 1) := by decide +kernel
theorem dX11_isRight_44 : decode cX11_isRight 44 = .ok (.invokevirtual 519, 3) := by decide +kernel
theorem dX11_isRight_47 : decode cX11_isRight 47 = .ok (.aload_n 0, 1) := by decide +kernel
theorem dX11_isRight_48 : decode cX11_isRight 48 = .ok (.iload_n 1, 1) := by decide +kernel
theorem dX11_isRight_49 : decode cX11_isRight 49 = .ok (.invokevirtual 519, 3) := by decide +kernel
theorem dX11_isRight_52 : decode cX11_isRight 52 = .ok (.isub, 1) := by decide +kernel
theorem dX11_isRight_53 : decode cX11_isRight 53 = .ok (.imul, 1) := by decide +kernel
theorem dX11_isRight_54 : decode cX11_isRight 54 = .ok (.isub, 1) := by decide +kernel
theorem dX11_isRight_55 : decode cX11_isRight 55 = .ok (.ifCond .le 7, 3) := by decide +kernel
theorem dX11_isRight_58 : decode cX11_isRight 58 = .ok (.iconst 1, 1) := by decide +kernel
theorem dX11_isRight_59 : decode cX11_isRight 59 = .ok (.goto 4, 3) := by decide +kernel
theorem dX11_isRight_62 : decode cX11_isRight 62 = .ok (.iconst 0, 1) := by decide +kernel
theorem dX11_isRight_63 : decode cX11_isRight 63 = .ok (.ireturn, 1) := by decide +kernel
theorem dX11_hasTo_0 : decode cX11_hasTo 0 = .ok (.aload_n 0, 1) := by decide +kernel
theorem dX11_hasTo_1 : decode cX11_hasTo 1 = .ok (.iload_n 1, 1) := by decide +kernel
theorem dX11_hasTo_2 : decode cX11_hasTo 2 = .ok (.iload_n 2, 1) := by decide +kernel
theorem dX11_hasTo_3 : decode cX11_hasTo 3 = .ok (.invokevirtual 525, 3) := by decide +kernel
theorem dX11_hasTo_6 : decode cX11_hasTo 6 = .ok (.ifCond .eq 15, 3) := by decide +kernel
theorem dX11_hasTo_9 : decode cX11_hasTo 9 = .ok (.aload_n 0, 1) := by decide +kernel
theorem dX11_hasTo_10 : decode cX11_hasTo 10 = .ok (.iload_n 3, 1) := by decide +kernel
theorem dX11_hasTo_11 : decode cX11_hasTo 11 = .ok (.iload 4, 2) := by decide +kernel
theorem dX11_hasTo_13 : decode cX11_hasTo 13 = .ok (.iload_n 1, 1) := by decide +kernel
theorem dX11_hasTo_14 : decode cX11_hasTo 14 = .ok (.iload_n 2, 1) := by decide +kernel
theorem dX11_hasTo_15 : decode cX11_hasTo 15 = .ok (.invokevirtual 528, 3) := by decide +kernel
theorem dX11_hasTo_18 : decode cX11_hasTo 18 = .ok (.ifCond .eq 5, 3) := by decide +kernel
theorem dX11_hasTo_21 : decode cX11_hasTo 21 = .ok (.iconst 0, 1) := by decide +kernel
theorem dX11_hasTo_22 : decode cX11_hasTo 22 = .ok (.ireturn, 1) := by decide +kernel
theorem dX11_hasTo_23 : decode cX11_hasTo 23 = .ok (.aload_n 0, 1) := by decide +kernel
theorem dX11_hasTo_24 : decode cX11_hasTo 24 = .ok (.iload_n 1, 1) := by decide +kernel
theorem dX11_hasTo_25 : decode cX11_hasTo 25 = .ok (.iload_n 2, 1) := by decide +kernel
theorem dX11_hasTo_26 : decode cX11_hasTo 26 = .ok (.iload_n 3, 1) := by decide +kernel
theorem dX11_hasTo_27 : decode cX11_hasTo 27 = .ok (.iload 4, 2) := by decide +kernel
theorem dX11_hasTo_29 : decode cX11_hasTo 29 = .ok (.invokevirtual 528, 3) := by decide +kernel
theorem dX11_hasTo_32 : decode cX11_hasTo 32 = .ok (.ifCond .ne 13, 3) := by decide +kernel
theorem dX11_hasTo_35 : decode cX11_hasTo 35 = .ok (.aload_n 0, 1) := by decide +kernel
theorem dX11_hasTo_36 : decode cX11_hasTo 36 = .ok (.iload_n 1, 1) := by decide +kernel
theorem dX11_hasTo_37 : decode cX11_hasTo 37 = .ok (.iload_n 2, 1) := by decide +kernel
theorem dX11_hasTo_38 : decode cX11_hasTo 38 = .ok (.iload_n 3, 1) := by decide +kernel
theorem dX11_hasTo_39 : decode cX11_hasTo 39 = .ok (.invokevirtual 532, 3) := by decide +kernel
theorem dX11_hasTo_42 : decode cX11_hasTo 42 = .ok (.ifCond .eq 7, 3) := by decide +kernel
theorem dX11_hasTo_45 : decode cX11_hasTo 45 = .ok (.iconst 1, 1) := by decide +kernel
theorem dX11_hasTo_46 : decode cX11_hasTo 46 = .ok (.goto 4, 3) := by decide +kernel
theorem dX11_hasTo_49 : decode cX11_hasTo 49 = .ok (.iconst 0, 1) := by decide +kernel
theorem dX11_hasTo_50 : decode cX11_hasTo 50 = .ok (.ireturn, 1) := by decide +kernel
theorem dX11_way_0 : decode cX11_way 0 = .ok (.aload_n 0, 1) := by decide +kernel
theorem dX11_way_1 : decode cX11_way 1 = .ok (.iload_n 1, 1) := by decide +kernel
theorem dX11_way_2 : decode cX11_way 2 = .ok (.invokevirtual 264, 3) := by decide +kernel
theorem dX11_way_5 : decode cX11_way 5 = .ok (.ifCond .eq 36, 3) := by decide +kernel
theorem dX11_way_8 : decode cX11_way 8 = .ok (.aload_n 0, 1) := by decide +kernel
theorem dX11_way_9 : decode cX11_way 9 = .ok (.iload_n 2, 1) := by decide +kernel
theorem dX11_way_10 : decode cX11_way 10 = .ok (.invokevirtual 264, 3) := by decide +kernel
theorem dX11_way_13 : decode cX11_way 13 = .ok (.ifCond .eq 28, 3) := by decide +kernel
theorem dX11_way_16 : decode cX11_way 16 = .ok (.iload_n 1, 1) := by decide +kernel
theorem dX11_way_17 : decode cX11_way 17 = .ok (.iload_n 2, 1) := by decide +kernel
theorem dX11_way_18 : decode cX11_way 18 = .ok (.if_icmp .eq 23, 3) := by decide +kernel
theorem dX11_way_21 : decode cX11_way 21 = .ok (.iload_n 3, 1) := by decide +kernel
theorem dX11_way_22 : decode cX11_way 22 = .ok (.i2l, 1) := by decide +kernel
theorem dX11_way_23 : decode cX11_way 23 = .ok (.lconst 1, 1) := by decide +kernel
theorem dX11_way_24 : decode cX11_way 24 = .ok (.ldc2_w 240, 3) := by decide +kernel
theorem dX11_way_27 : decode cX11_way 27 = .ok (.invokestatic 233, 3) := by decide +kernel
theorem dX11_way_30 : decode cX11_way 30 = .ok (.ifCond .eq 11, 3) := by decide +kernel
theorem dX11_way_33 : decode cX11_way 33 = .ok (.iload 4, 2) := by decide +kernel
theorem dX11_way_35 : decode cX11_way 35 = .ok (.invokestatic 267, 3) := by decide +kernel
theorem dX11_way_38 : decode cX11_way 38 = .ok (.ifCond .ne 5, 3) := by decide +kernel
theorem dX11_way_41 : decode cX11_way 41 = .ok (.iconst (-1), 1) := by decide +kernel
theorem dX11_way_42 : decode cX11_way 42 = .ok (.ireturn, 1) := by decide +kernel
theorem dX11_way_43 : decode cX11_way 43 = .ok (.aload_n 0, 1) := by decide +kernel
theorem dX11_way_44 : decode cX11_way 44 = .ok (.iload_n 1, 1) := by decide +kernel
theorem dX11_way_45 : decode cX11_way 45 = .ok (.iload_n 3, 1) := by decide +kernel
theorem dX11_way_46 : decode cX11_way 46 = .ok (.iconst 1, 1) := by decide +kernel
theorem dX11_way_47 : decode cX11_way 47 = .ok (.isub, 1) := by decide +kernel
theorem dX11_way_48 : decode cX11_way 48 = .ok (.iload 4, 2) := by decide +kernel
theorem dX11_way_50 : decode cX11_way 50 = .ok (.invokevirtual 270, 3) := by decide +kernel
theorem dX11_way_53 : decode cX11_way 53 = .ok (.istore 5, 2) := by decide +kernel
theorem dX11_way_55 : decode cX11_way 55 = .ok (.aload_n 0, 1) := by decide +kernel
theorem dX11_way_56 : decode cX11_way 56 = .ok (.iload_n 1, 1) := by decide +kernel
theorem dX11_way_57 : decode cX11_way 57 = .ok (.iload_n 3, 1) := by decide +kernel
theorem dX11_way_58 : decode cX11_way 58 = .ok (.iload 4, 2) := by decide +kernel
theorem dX11_way_60 : decode cX11_way 60 = .ok (.invokevirtual 270, 3) := by decide +kernel
theorem dX11_way_63 : decode cX11_way 63 = .ok (.istore 6, 2) := by decide +kernel
theorem dX11_way_65 : decode cX11_way 65 = .ok (.aload_n 0, 1) := by decide +kernel
theorem dX11_way_66 : decode cX11_way 66 = .ok (.iload_n 2, 1) := by decide +kernel
theorem dX11_way_67 : decode cX11_way 67 = .ok (.iload_n 3, 1) := by decide +kernel
theorem dX11_way_68 : decode cX11_way 68 = .ok (.iconst 1, 1) := by decide +kernel
theorem dX11_way_69 : decode cX11_way 69 = .ok (.isub, 1) := by decide +kernel
theorem dX11_way_70 : decode cX11_way 70 = .ok (.iload 4, 2) := by decide +kernel
theorem dX11_way_72 : decode cX11_way 72 = .ok (.invokevirtual 270, 3) := by decide +kernel
theorem dX11_way_75 : decode cX11_way 75 = .ok (.istore 7, 2) := by decide +kernel
theorem dX11_way_77 : decode cX11_way 77 = .ok (.aload_n 0, 1) := by decide +kernel
theorem dX11_way_78 : decode cX11_way 78 = .ok (.iload_n 2, 1) := by decide +kernel
theorem dX11_way_79 : decode cX11_way 79 = .ok (.iload_n 3, 1) := by decide +kernel
theorem dX11_way_80 : decode cX11_way 80 = .ok (.iload 4, 2) := by decide +kernel
theorem dX11_way_82 : decode cX11_way 82 = .ok (.invokevirtual 270, 3) := by decide +kernel
theorem dX11_way_85 : decode cX11_way 85 = .ok (.istore 8, 2) := by decide +kernel
theorem dX11_way_87 : decode cX11_way 87 = .ok (.iload 5, 2) := by decide +kernel
theorem dX11_way_89 : decode cX11_way 89 = .ok (.ifCond .lt 18, 3) := by decide +kernel
theorem dX11_way_92 : decode cX11_way 92 = .ok (.iload 6, 2) := by decide +kernel
theorem dX11_way_94 : decode cX11_way 94 = .ok (.ifCond .lt 13, 3) := by decide +kernel
theorem dX11_way_97 : decode cX11_way 97 = .ok (.iload 7, 2) := by decide +kernel
theorem dX11_way_99 : decode cX11_way 99 = .ok (.ifCond .lt 8, 3) := by decide +kernel
theorem dX11_way_102 : decode cX11_way 102 = .ok (.iload 8, 2) := by decide +kernel
theorem dX11_way_104 : decode cX11_way 104 = .ok (.ifCond .ge 6, 3) := by decide +kernel
theorem dX11_way_107 : decode cX11_way 107 = .ok (.bipush (-2), 2) := by decide +kernel
theorem dX11_way_109 : decode cX11_way 109 = .ok (.ireturn, 1) := by decide +kernel
theorem dX11_way_110 : decode cX11_way 110 = .ok (.aload_n 0, 1) := by decide +kernel
theorem dX11_way_111 : decode cX11_way 111 = .ok (.iload 5, 2) := by decide +kernel
theorem dX11_way_113 : decode cX11_way 113 = .ok (.iload 6, 2) := by decide +kernel
theorem dX11_way_115 : decode cX11_way 115 = .ok (.iload 7, 2) := by decide +kernel
theorem dX11_way_117 : decode cX11_way 117 = .ok (.iload 8, 2) := by decide +kernel
theorem dX11_way_119 : decode cX11_way 119 = .ok (.invokevirtual 535, 3) := by decide +kernel
theorem dX11_way_122 : decode cX11_way 122 = .ok (.ifCond .eq 7, 3) := by decide +kernel
theorem dX11_way_125 : decode cX11_way 125 = .ok (.iconst 1, 1) := by decide +kernel
theorem dX11_way_126 : decode cX11_way 126 = .ok (.goto 4, 3) := by decide +kernel
theorem dX11_way_129 : decode cX11_way 129 = .ok (.iconst 0, 1) := by decide +kernel
theorem dX11_way_130 : decode cX11_way 130 = .ok (.aload_n 0, 1) := by decide +kernel
theorem dX11_way_131 : decode cX11_way 131 = .ok (.iload 7, 2) := by decide +kernel
theorem dX11_way_133 : decode cX11_way 133 = .ok (.iload 8, 2) := by decide +kernel
theorem dX11_way_135 : decode cX11_way 135 = .ok (.iload 5, 2) := by decide +kernel
theorem dX11_way_137 : decode cX11_way 137 = .ok (.iload 6, 2) := by decide +kernel
theorem dX11_way_139 : decode cX11_way 139 = .ok (.invokevirtual 535, 3) := by decide +kernel
theorem dX11_way_142 : decode cX11_way 142 = .ok (.ifCond .eq 7, 3) := by decide +kernel
theorem dX11_way_145 : decode cX11_way 145 = .ok (.iconst 2, 1) := by decide +kernel
theorem dX11_way_146 : decode cX11_way 146 = .ok (.goto 4, 3) := by decide +kernel
theorem dX11_way_149 : decode cX11_way 149 = .ok (.iconst 0, 1) := by decide +kernel
theorem dX11_way_150 : decode cX11_way 150 = .ok (.iadd, 1) := by decide +kernel
theorem dX11_way_151 : decode cX11_way 151 = .ok (.ireturn, 1) := by decide +kernel
theorem dX11_office_0 : decode cX11_office 0 = .ok (.iload_n 1, 1) := by decide +kernel
theorem dX11_office_1 : decode cX11_office 1 = .ok (.invokestatic 251, 3) := by decide +kernel
theorem dX11_office_4 : decode cX11_office 4 = .ok (.ifCond .eq 27, 3) := by decide +kernel
theorem dX11_office_7 : decode cX11_office 7 = .ok (.iload_n 2, 1) := by decide +kernel
theorem dX11_office_8 : decode cX11_office 8 = .ok (.i2l, 1) := by decide +kernel
theorem dX11_office_9 : decode cX11_office 9 = .ok (.lconst 0, 1) := by decide +kernel
theorem dX11_office_10 : decode cX11_office 10 = .ok (.ldc2_w 538, 3) := by decide +kernel
theorem dX11_office_13 : decode cX11_office 13 = .ok (.invokestatic 233, 3) := by decide +kernel
theorem dX11_office_16 : decode cX11_office 16 = .ok (.ifCond .eq 15, 3) := by decide +kernel
theorem dX11_office_19 : decode cX11_office 19 = .ok (.iload_n 3, 1) := by decide +kernel
theorem dX11_office_20 : decode cX11_office 20 = .ok (.i2l, 1) := by decide +kernel
theorem dX11_office_21 : decode cX11_office 21 = .ok (.lconst 0, 1) := by decide +kernel
theorem dX11_office_22 : decode cX11_office 22 = .ok (.ldc2_w 540, 3) := by decide +kernel
theorem dX11_office_25 : decode cX11_office 25 = .ok (.invokestatic 233, 3) := by decide +kernel
theorem dX11_office_28 : decode cX11_office 28 = .ok (.ifCond .ne 5, 3) := by decide +kernel
theorem dX11_office_31 : decode cX11_office 31 = .ok (.iconst 0, 1) := by decide +kernel
theorem dX11_office_32 : decode cX11_office 32 = .ok (.ireturn, 1) := by decide +kernel
theorem dX11_office_33 : decode cX11_office 33 = .ok (.aload_n 0, 1) := by decide +kernel
theorem dX11_office_34 : decode cX11_office 34 = .ok (.getfield 165, 3) := by decide +kernel
theorem dX11_office_37 : decode cX11_office 37 = .ok (.iload_n 1, 1) := by decide +kernel
theorem dX11_office_38 : decode cX11_office 38 = .ok (.iload_n 2, 1) := by decide +kernel
theorem dX11_office_39 : decode cX11_office 39 = .ok (.iastore, 1) := by decide +kernel
theorem dX11_office_40 : decode cX11_office 40 = .ok (.aload_n 0, 1) := by decide +kernel
theorem dX11_office_41 : decode cX11_office 41 = .ok (.getfield 168, 3) := by decide +kernel
theorem dX11_office_44 : decode cX11_office 44 = .ok (.iload_n 1, 1) := by decide +kernel
theorem dX11_office_45 : decode cX11_office 45 = .ok (.iload_n 3, 1) := by decide +kernel
theorem dX11_office_46 : decode cX11_office 46 = .ok (.iastore, 1) := by decide +kernel
theorem dX11_office_47 : decode cX11_office 47 = .ok (.iconst 1, 1) := by decide +kernel
theorem dX11_office_48 : decode cX11_office 48 = .ok (.ireturn, 1) := by decide +kernel
theorem dX11_year_0 : decode cX11_year 0 = .ok (.iload_n 1, 1) := by decide +kernel
theorem dX11_year_1 : decode cX11_year 1 = .ok (.i2l, 1) := by decide +kernel
theorem dX11_year_2 : decode cX11_year 2 = .ok (.lconst 0, 1) := by decide +kernel
theorem dX11_year_3 : decode cX11_year 3 = .ok (.ldc2_w 255, 3) := by decide +kernel
theorem dX11_year_6 : decode cX11_year 6 = .ok (.invokestatic 233, 3) := by decide +kernel
theorem dX11_year_9 : decode cX11_year 9 = .ok (.ifCond .eq 27, 3) := by decide +kernel
theorem dX11_year_12 : decode cX11_year 12 = .ok (.iload_n 2, 1) := by decide +kernel
theorem dX11_year_13 : decode cX11_year 13 = .ok (.i2l, 1) := by decide +kernel
theorem dX11_year_14 : decode cX11_year 14 = .ok (.lconst 0, 1) := by decide +kernel
theorem dX11_year_15 : decode cX11_year 15 = .ok (.ldc2_w 542, 3) := by decide +kernel
theorem dX11_year_18 : decode cX11_year 18 = .ok (.invokestatic 233, 3) := by decide +kernel
theorem dX11_year_21 : decode cX11_year 21 = .ok (.ifCond .eq 15, 3) := by decide +kernel
theorem dX11_year_24 : decode cX11_year 24 = .ok (.iload_n 3, 1) := by decide +kernel
theorem dX11_year_25 : decode cX11_year 25 = .ok (.i2l, 1) := by decide +kernel
theorem dX11_year_26 : decode cX11_year 26 = .ok (.lconst 0, 1) := by decide +kernel
theorem dX11_year_27 : decode cX11_year 27 = .ok (.ldc2_w 544, 3) := by decide +kernel
theorem dX11_year_30 : decode cX11_year 30 = .ok (.invokestatic 233, 3) := by decide +kernel
theorem dX11_year_33 : decode cX11_year 33 = .ok (.ifCond .ne 5, 3) := by decide +kernel
theorem dX11_year_36 : decode cX11_year 36 = .ok (.iconst (-1), 1) := by decide +kernel
theorem dX11_year_37 : decode cX11_year 37 = .ok (.ireturn, 1) := by decide +kernel
theorem dX11_year_38 : decode cX11_year 38 = .ok (.aload_n 0, 1) := by decide +kernel
theorem dX11_year_39 : decode cX11_year 39 = .ok (.getfield 171, 3) := by decide +kernel
theorem dX11_year_42 : decode cX11_year 42 = .ok (.bipush 40, 2) := by decide +kernel
theorem dX11_year_44 : decode cX11_year 44 = .ok (.iload_n 1, 1) := by decide +kernel
theorem dX11_year_45 : decode cX11_year 45 = .ok (.imul, 1) := by decide +kernel
theorem dX11_year_46 : decode cX11_year 46 = .ok (.iload_n 2, 1) := by decide +kernel
theorem dX11_year_47 : decode cX11_year 47 = .ok (.iadd, 1) := by decide +kernel
theorem dX11_year_48 : decode cX11_year 48 = .ok (.iaload, 1) := by decide +kernel
theorem dX11_year_49 : decode cX11_year 49 = .ok (.istore 4, 2) := by decide +kernel
theorem dX11_year_51 : decode cX11_year 51 = .ok (.aload_n 0, 1) := by decide +kernel
theorem dX11_year_52 : decode cX11_year 52 = .ok (.getfield 171, 3) := by decide +kernel
theorem dX11_year_55 : decode cX11_year 55 = .ok (.bipush 40, 2) := by decide +kernel
theorem dX11_year_57 : decode cX11_year 57 = .ok (.iload_n 1, 1) := by decide +kernel
theorem dX11_year_58 : decode cX11_year 58 = .ok (.imul, 1) := by decide +kernel
theorem dX11_year_59 : decode cX11_year 59 = .ok (.iload_n 2, 1) := by decide +kernel
theorem dX11_year_60 : decode cX11_year 60 = .ok (.iadd, 1) := by decide +kernel
theorem dX11_year_61 : decode cX11_year 61 = .ok (.iload_n 3, 1) := by decide +kernel
theorem dX11_year_62 : decode cX11_year 62 = .ok (.iastore, 1) := by decide +kernel
theorem dX11_year_63 : decode cX11_year 63 = .ok (.iload 4, 2) := by decide +kernel
theorem dX11_year_65 : decode cX11_year 65 = .ok (.ireturn, 1) := by decide +kernel
theorem dX11_stockOf_0 : decode cX11_stockOf 0 = .ok (.aload_n 0, 1) := by decide +kernel
theorem dX11_stockOf_1 : decode cX11_stockOf 1 = .ok (.getfield 165, 3) := by decide +kernel
theorem dX11_stockOf_4 : decode cX11_stockOf 4 = .ok (.iload_n 1, 1) := by decide +kernel
theorem dX11_stockOf_5 : decode cX11_stockOf 5 = .ok (.iaload, 1) := by decide +kernel
theorem dX11_stockOf_6 : decode cX11_stockOf 6 = .ok (.i2l, 1) := by decide +kernel
theorem dX11_stockOf_7 : decode cX11_stockOf 7 = .ok (.lstore 4, 2) := by decide +kernel
theorem dX11_stockOf_9 : decode cX11_stockOf 9 = .ok (.iconst 0, 1) := by decide +kernel
theorem dX11_stockOf_10 : decode cX11_stockOf 10 = .ok (.istore 6, 2) := by decide +kernel
theorem dX11_stockOf_12 : decode cX11_stockOf 12 = .ok (.iload 6, 2) := by decide +kernel
theorem dX11_stockOf_14 : decode cX11_stockOf 14 = .ok (.iload_n 2, 1) := by decide +kernel
theorem dX11_stockOf_15 : decode cX11_stockOf 15 = .ok (.if_icmp .ge 65, 3) := by decide +kernel
theorem dX11_stockOf_18 : decode cX11_stockOf 18 = .ok (.lload 4, 2) := by decide +kernel
theorem dX11_stockOf_20 : decode cX11_stockOf 20 = .ok (.aload_n 0, 1) := by decide +kernel
theorem dX11_stockOf_21 : decode cX11_stockOf 21 = .ok (.getfield 171, 3) := by decide +kernel
theorem dX11_stockOf_24 : decode cX11_stockOf 24 = .ok (.bipush 80, 2) := by decide +kernel
theorem dX11_stockOf_26 : decode cX11_stockOf 26 = .ok (.iload 6, 2) := by decide +kernel
theorem dX11_stockOf_28 : decode cX11_stockOf 28 = .ok (.iadd, 1) := by decide +kernel
theorem dX11_stockOf_29 : decode cX11_stockOf 29 = .ok (.iaload, 1) := by decide +kernel
theorem dX11_stockOf_30 : decode cX11_stockOf 30 = .ok (.i2l, 1) := by decide +kernel
theorem dX11_stockOf_31 : decode cX11_stockOf 31 = .ok (.lsub, 1) := by decide +kernel
theorem dX11_stockOf_32 : decode cX11_stockOf 32 = .ok (.lstore 7, 2) := by decide +kernel
theorem dX11_stockOf_34 : decode cX11_stockOf 34 = .ok (.lload 7, 2) := by decide +kernel
theorem dX11_stockOf_36 : decode cX11_stockOf 36 = .ok (.lconst 0, 1) := by decide +kernel
theorem dX11_stockOf_37 : decode cX11_stockOf 37 = .ok (.lcmp, 1) := by decide +kernel
theorem dX11_stockOf_38 : decode cX11_stockOf 38 = .ok (.ifCond .ge 7, 3) := by decide +kernel
theorem dX11_stockOf_41 : decode cX11_stockOf 41 = .ok (.lconst 0, 1) := by decide +kernel
theorem dX11_stockOf_42 : decode cX11_stockOf 42 = .ok (.goto 5, 3) := by decide +kernel
theorem dX11_stockOf_45 : decode cX11_stockOf 45 = .ok (.lload 7, 2) := by decide +kernel
theorem dX11_stockOf_47 : decode cX11_stockOf 47 = .ok (.sipush 1000, 3) := by decide +kernel
theorem dX11_stockOf_50 : decode cX11_stockOf 50 = .ok (.iload_n 3, 1) := by decide +kernel
theorem dX11_stockOf_51 : decode cX11_stockOf 51 = .ok (.isub, 1) := by decide +kernel
theorem dX11_stockOf_52 : decode cX11_stockOf 52 = .ok (.i2l, 1) := by decide +kernel
theorem dX11_stockOf_53 : decode cX11_stockOf 53 = .ok (.lmul, 1) := by decide +kernel
theorem dX11_stockOf_54 : decode cX11_stockOf 54 = .ok (.ldc2_w 540, 3) := by decide +kernel
theorem dX11_stockOf_57 : decode cX11_stockOf 57 = .ok (.ldiv, 1) := by decide +kernel
theorem dX11_stockOf_58 : decode cX11_stockOf 58 = .ok (.aload_n 0, 1) := by decide +kernel
theorem dX11_stockOf_59 : decode cX11_stockOf 59 = .ok (.getfield 171, 3) := by decide +kernel
theorem dX11_stockOf_62 : decode cX11_stockOf 62 = .ok (.bipush 40, 2) := by decide +kernel
theorem dX11_stockOf_64 : decode cX11_stockOf 64 = .ok (.iload_n 1, 1) := by decide +kernel
theorem dX11_stockOf_65 : decode cX11_stockOf 65 = .ok (.imul, 1) := by decide +kernel
theorem dX11_stockOf_66 : decode cX11_stockOf 66 = .ok (.iload 6, 2) := by decide +kernel
theorem dX11_stockOf_68 : decode cX11_stockOf 68 = .ok (.iadd, 1) := by decide +kernel
theorem dX11_stockOf_69 : decode cX11_stockOf 69 = .ok (.iaload, 1) := by decide +kernel
theorem dX11_stockOf_70 : decode cX11_stockOf 70 = .ok (.i2l, 1) := by decide +kernel
theorem dX11_stockOf_71 : decode cX11_stockOf 71 = .ok (.ladd, 1) := by decide +kernel
theorem dX11_stockOf_72 : decode cX11_stockOf 72 = .ok (.lstore 4, 2) := by decide +kernel
theorem dX11_stockOf_74 : decode cX11_stockOf 74 = .ok (.iinc 6 1, 3) := by decide +kernel
theorem dX11_stockOf_77 : decode cX11_stockOf 77 = .ok (.goto (-65), 3) := by decide +kernel
theorem dX11_stockOf_80 : decode cX11_stockOf 80 = .ok (.lload 4, 2) := by decide +kernel
theorem dX11_stockOf_82 : decode cX11_stockOf 82 = .ok (.lreturn, 1) := by decide +kernel
theorem dX11_isYear_0 : decode cX11_isYear 0 = .ok (.iload_n 0, 1) := by decide +kernel
theorem dX11_isYear_1 : decode cX11_isYear 1 = .ok (.ifCond .lt 13, 3) := by decide +kernel
theorem dX11_isYear_4 : decode cX11_isYear 4 = .ok (.iload_n 0, 1) := by decide +kernel
theorem dX11_isYear_5 : decode cX11_isYear 5 = .ok (.bipush 40, 2) := by decide +kernel
theorem dX11_isYear_7 : decode cX11_isYear 7 = .ok (.if_icmp .ge 7, 3) := by decide +kernel
theorem dX11_isYear_10 : decode cX11_isYear 10 = .ok (.iconst 1, 1) := by decide +kernel
theorem dX11_isYear_11 : decode cX11_isYear 11 = .ok (.goto 4, 3) := by decide +kernel
theorem dX11_isYear_14 : decode cX11_isYear 14 = .ok (.iconst 0, 1) := by decide +kernel
theorem dX11_isYear_15 : decode cX11_isYear 15 = .ok (.ireturn, 1) := by decide +kernel
theorem dX11_stock_0 : decode cX11_stock 0 = .ok (.iload_n 1, 1) := by decide +kernel
theorem dX11_stock_1 : decode cX11_stock 1 = .ok (.invokestatic 251, 3) := by decide +kernel
theorem dX11_stock_4 : decode cX11_stock 4 = .ok (.ifCond .eq 25, 3) := by decide +kernel
theorem dX11_stock_7 : decode cX11_stock 7 = .ok (.iload_n 2, 1) := by decide +kernel
theorem dX11_stock_8 : decode cX11_stock 8 = .ok (.invokestatic 546, 3) := by decide +kernel
theorem dX11_stock_11 : decode cX11_stock 11 = .ok (.ifCond .eq 18, 3) := by decide +kernel
theorem dX11_stock_14 : decode cX11_stock 14 = .ok (.aload_n 0, 1) := by decide +kernel
theorem dX11_stock_15 : decode cX11_stock 15 = .ok (.iload_n 1, 1) := by decide +kernel
theorem dX11_stock_16 : decode cX11_stock 16 = .ok (.iload_n 2, 1) := by decide +kernel
theorem dX11_stock_17 : decode cX11_stock 17 = .ok (.aload_n 0, 1) := by decide +kernel
theorem dX11_stock_18 : decode cX11_stock 18 = .ok (.getfield 168, 3) := by decide +kernel
theorem dX11_stock_21 : decode cX11_stock 21 = .ok (.iload_n 1, 1) := by decide +kernel
theorem dX11_stock_22 : decode cX11_stock 22 = .ok (.iaload, 1) := by decide +kernel
theorem dX11_stock_23 : decode cX11_stock 23 = .ok (.invokevirtual 549, 3) := by decide +kernel
theorem dX11_stock_26 : decode cX11_stock 26 = .ok (.goto 6, 3) := by decide +kernel
theorem dX11_stock_29 : decode cX11_stock 29 = .ok (.ldc2_w 314, 3) := by decide +kernel
theorem dX11_stock_32 : decode cX11_stock 32 = .ok (.lreturn, 1) := by decide +kernel
theorem dX11_fails__0 : decode cX11_fails_ 0 = .ok (.iload_n 1, 1) := by decide +kernel
theorem dX11_fails__1 : decode cX11_fails_ 1 = .ok (.invokestatic 251, 3) := by decide +kernel
theorem dX11_fails__4 : decode cX11_fails_ 4 = .ok (.ifCond .ne 5, 3) := by decide +kernel
theorem dX11_fails__7 : decode cX11_fails_ 7 = .ok (.iconst (-1), 1) := by decide +kernel
theorem dX11_fails__8 : decode cX11_fails_ 8 = .ok (.ireturn, 1) := by decide +kernel
theorem dX11_fails__9 : decode cX11_fails_ 9 = .ok (.iconst 0, 1) := by decide +kernel
theorem dX11_fails__10 : decode cX11_fails_ 10 = .ok (.istore_n 2, 1) := by decide +kernel
theorem dX11_fails__11 : decode cX11_fails_ 11 = .ok (.iload_n 2, 1) := by decide +kernel
theorem dX11_fails__12 : decode cX11_fails_ 12 = .ok (.bipush 40, 2) := by decide +kernel
theorem dX11_fails__14 : decode cX11_fails_ 14 = .ok (.if_icmp .ge 37, 3) := by decide +kernel
theorem dX11_fails__17 : decode cX11_fails_ 17 = .ok (.aload_n 0, 1) := by decide +kernel
theorem dX11_fails__18 : decode cX11_fails_ 18 = .ok (.getfield 171, 3) := by decide +kernel
theorem dX11_fails__21 : decode cX11_fails_ 21 = .ok (.bipush 80, 2) := by decide +kernel
theorem dX11_fails__23 : decode cX11_fails_ 23 = .ok (.iload_n 2, 1) := by decide +kernel
theorem dX11_fails__24 : decode cX11_fails_ 24 = .ok (.iadd, 1) := by decide +kernel
theorem dX11_fails__25 : decode cX11_fails_ 25 = .ok (.iaload, 1) := by decide +kernel
theorem dX11_fails__26 : decode cX11_fails_ 26 = .ok (.i2l, 1) := by decide +kernel
theorem dX11_fails__27 : decode cX11_fails_ 27 = .ok (.aload_n 0, 1) := by decide +kernel
theorem dX11_fails__28 : decode cX11_fails_ 28 = .ok (.iload_n 1, 1) := by decide +kernel
theorem dX11_fails__29 : decode cX11_fails_ 29 = .ok (.iload_n 2, 1) := by decide +kernel
theorem dX11_fails__30 : decode cX11_fails_ 30 = .ok (.aload_n 0, 1) := by decide +kernel
theorem dX11_fails__31 : decode cX11_fails_ 31 = .ok (.getfield 168, 3) := by decide +kernel
theorem dX11_fails__34 : decode cX11_fails_ 34 = .ok (.iload_n 1, 1) := by decide +kernel
theorem dX11_fails__35 : decode cX11_fails_ 35 = .ok (.iaload, 1) := by decide +kernel
theorem dX11_fails__36 : decode cX11_fails_ 36 = .ok (.invokevirtual 549, 3) := by decide +kernel
theorem dX11_fails__39 : decode cX11_fails_ 39 = .ok (.lcmp, 1) := by decide +kernel
theorem dX11_fails__40 : decode cX11_fails_ 40 = .ok (.ifCond .le 5, 3) := by decide +kernel
theorem dX11_fails__43 : decode cX11_fails_ 43 = .ok (.iload_n 2, 1) := by decide +kernel
theorem dX11_fails__44 : decode cX11_fails_ 44 = .ok (.ireturn, 1) := by decide +kernel
theorem dX11_fails__45 : decode cX11_fails_ 45 = .ok (.iinc 2 1, 3) := by decide +kernel
theorem dX11_fails__48 : decode cX11_fails_ 48 = .ok (.goto (-37), 3) := by decide +kernel
theorem dX11_fails__51 : decode cX11_fails_ 51 = .ok (.bipush (-2), 2) := by decide +kernel
theorem dX11_fails__53 : decode cX11_fails_ 53 = .ok (.ireturn, 1) := by decide +kernel
theorem dX11_agree_0 : decode cX11_agree 0 = .ok (.iload_n 1, 1) := by decide +kernel
theorem dX11_agree_1 : decode cX11_agree 1 = .ok (.invokestatic 251, 3) := by decide +kernel
theorem dX11_agree_4 : decode cX11_agree 4 = .ok (.ifCond .eq 10, 3) := by decide +kernel
theorem dX11_agree_7 : decode cX11_agree 7 = .ok (.iload_n 2, 1) := by decide +kernel
theorem dX11_agree_8 : decode cX11_agree 8 = .ok (.invokestatic 546, 3) := by decide +kernel
theorem dX11_agree_11 : decode cX11_agree 11 = .ok (.ifCond .ne 5, 3) := by decide +kernel
theorem dX11_agree_14 : decode cX11_agree 14 = .ok (.iconst (-1), 1) := by decide +kernel
theorem dX11_agree_15 : decode cX11_agree 15 = .ok (.ireturn, 1) := by decide +kernel
theorem dX11_agree_16 : decode cX11_agree 16 = .ok (.aload_n 0, 1) := by decide +kernel
theorem dX11_agree_17 : decode cX11_agree 17 = .ok (.iconst 1, 1) := by decide +kernel
theorem dX11_agree_18 : decode cX11_agree 18 = .ok (.iload_n 1, 1) := by decide +kernel
theorem dX11_agree_19 : decode cX11_agree 19 = .ok (.isub, 1) := by decide +kernel
theorem dX11_agree_20 : decode cX11_agree 20 = .ok (.iload_n 2, 1) := by decide +kernel
theorem dX11_agree_21 : decode cX11_agree 21 = .ok (.aload_n 0, 1) := by decide +kernel
theorem dX11_agree_22 : decode cX11_agree 22 = .ok (.getfield 168, 3) := by decide +kernel
theorem dX11_agree_25 : decode cX11_agree 25 = .ok (.iconst 1, 1) := by decide +kernel
theorem dX11_agree_26 : decode cX11_agree 26 = .ok (.iload_n 1, 1) := by decide +kernel
theorem dX11_agree_27 : decode cX11_agree 27 = .ok (.isub, 1) := by decide +kernel
theorem dX11_agree_28 : decode cX11_agree 28 = .ok (.iaload, 1) := by decide +kernel
theorem dX11_agree_29 : decode cX11_agree 29 = .ok (.invokevirtual 549, 3) := by decide +kernel
theorem dX11_agree_32 : decode cX11_agree 32 = .ok (.lstore_n 3, 1) := by decide +kernel
theorem dX11_agree_33 : decode cX11_agree 33 = .ok (.iconst 0, 1) := by decide +kernel
theorem dX11_agree_34 : decode cX11_agree 34 = .ok (.istore 5, 2) := by decide +kernel
theorem dX11_agree_36 : decode cX11_agree 36 = .ok (.ldc2_w 314, 3) := by decide +kernel
theorem dX11_agree_39 : decode cX11_agree 39 = .ok (.lstore 6, 2) := by decide +kernel
theorem dX11_agree_41 : decode cX11_agree 41 = .ok (.iconst 0, 1) := by decide +kernel
theorem dX11_agree_42 : decode cX11_agree 42 = .ok (.istore 8, 2) := by decide +kernel
theorem dX11_agree_44 : decode cX11_agree 44 = .ok (.iload 8, 2) := by decide +kernel
theorem dX11_agree_46 : decode cX11_agree 46 = .ok (.sipush 1000, 3) := by decide +kernel
theorem dX11_agree_49 : decode cX11_agree 49 = .ok (.if_icmp .gt 64, 3) := by decide +kernel
theorem dX11_agree_52 : decode cX11_agree 52 = .ok (.aload_n 0, 1) := by decide +kernel
theorem dX11_agree_53 : decode cX11_agree 53 = .ok (.iload_n 1, 1) := by decide +kernel
theorem dX11_agree_54 : decode cX11_agree 54 = .ok (.iload_n 2, 1) := by decide +kernel
theorem dX11_agree_55 : decode cX11_agree 55 = .ok (.iload 8, 2) := by decide +kernel
theorem dX11_agree_57 : decode cX11_agree 57 = .ok (.invokevirtual 549, 3) := by decide +kernel
theorem dX11_agree_60 : decode cX11_agree 60 = .ok (.lload_n 3, 1) := by decide +kernel
theorem dX11_agree_61 : decode cX11_agree 61 = .ok (.lsub, 1) := by decide +kernel
theorem dX11_agree_62 : decode cX11_agree 62 = .ok (.lstore 9, 2) := by decide +kernel
theorem dX11_agree_64 : decode cX11_agree 64 = .ok (.lload 9, 2) := by decide +kernel
theorem dX11_agree_66 : decode cX11_agree 66 = .ok (.lconst 0, 1) := by decide +kernel
theorem dX11_agree_67 : decode cX11_agree 67 = .ok (.lcmp, 1) := by decide +kernel
theorem dX11_agree_68 : decode cX11_agree 68 = .ok (.ifCond .ge 9, 3) := by decide +kernel
theorem dX11_agree_71 : decode cX11_agree 71 = .ok (.lload 9, 2) := by decide +kernel
theorem dX11_agree_73 : decode cX11_agree 73 = .ok (.lneg, 1) := by decide +kernel
theorem dX11_agree_74 : decode cX11_agree 74 = .ok (.goto 5, 3) := by decide +kernel
theorem dX11_agree_77 : decode cX11_agree 77 = .ok (.lload 9, 2) := by decide +kernel
theorem dX11_agree_79 : decode cX11_agree 79 = .ok (.lstore 9, 2) := by decide +kernel
theorem dX11_agree_81 : decode cX11_agree 81 = .ok (.lload 6, 2) := by decide +kernel
theorem dX11_agree_83 : decode cX11_agree 83 = .ok (.lconst 0, 1) := by decide +kernel
theorem dX11_agree_84 : decode cX11_agree 84 = .ok (.lcmp, 1) := by decide +kernel
theorem dX11_agree_85 : decode cX11_agree 85 = .ok (.ifCond .lt 14, 3) := by decide +kernel
theorem dX11_agree_88 : decode cX11_agree 88 = .ok (.lload 9, 2) := by decide +kernel
theorem dX11_agree_90 : decode cX11_agree 90 = .ok (.lload 6, 2) := by decide +kernel
theorem dX11_agree_92 : decode cX11_agree 92 = .ok (.lcmp, 1) := by decide +kernel
theorem dX11_agree_93 : decode cX11_agree 93 = .ok (.ifCond .lt 6, 3) := by decide +kernel
theorem dX11_agree_96 : decode cX11_agree 96 = .ok (.goto 11, 3) := by decide +kernel
theorem dX11_agree_99 : decode cX11_agree 99 = .ok (.lload 9, 2) := by decide +kernel
theorem dX11_agree_101 : decode cX11_agree 101 = .ok (.lstore 6, 2) := by decide +kernel
theorem dX11_agree_103 : decode cX11_agree 103 = .ok (.iload 8, 2) := by decide +kernel
theorem dX11_agree_105 : decode cX11_agree 105 = .ok (.istore 5, 2) := by decide +kernel
theorem dX11_agree_107 : decode cX11_agree 107 = .ok (.iinc 8 1, 3) := by decide +kernel
theorem dX11_agree_110 : decode cX11_agree 110 = .ok (.goto (-66), 3) := by decide +kernel
theorem dX11_agree_113 : decode cX11_agree 113 = .ok (.iload 5, 2) := by decide +kernel
theorem dX11_agree_115 : decode cX11_agree 115 = .ok (.ireturn, 1) := by decide +kernel
theorem dX11_age_0 : decode cX11_age 0 = .ok (.iload_n 1, 1) := by decide +kernel
theorem dX11_age_1 : decode cX11_age 1 = .ok (.i2l, 1) := by decide +kernel
theorem dX11_age_2 : decode cX11_age 2 = .ok (.lconst 0, 1) := by decide +kernel
theorem dX11_age_3 : decode cX11_age 3 = .ok (.ldc2_w 552, 3) := by decide +kernel
theorem dX11_age_6 : decode cX11_age 6 = .ok (.invokestatic 233, 3) := by decide +kernel
theorem dX11_age_9 : decode cX11_age 9 = .ok (.ifCond .eq 40, 3) := by decide +kernel
theorem dX11_age_12 : decode cX11_age 12 = .ok (.iload_n 2, 1) := by decide +kernel
theorem dX11_age_13 : decode cX11_age 13 = .ok (.i2l, 1) := by decide +kernel
theorem dX11_age_14 : decode cX11_age 14 = .ok (.lconst 0, 1) := by decide +kernel
theorem dX11_age_15 : decode cX11_age 15 = .ok (.ldc2_w 554, 3) := by decide +kernel
theorem dX11_age_18 : decode cX11_age 18 = .ok (.invokestatic 233, 3) := by decide +kernel
theorem dX11_age_21 : decode cX11_age 21 = .ok (.ifCond .eq 28, 3) := by decide +kernel
theorem dX11_age_24 : decode cX11_age 24 = .ok (.iload_n 3, 1) := by decide +kernel
theorem dX11_age_25 : decode cX11_age 25 = .ok (.i2l, 1) := by decide +kernel
theorem dX11_age_26 : decode cX11_age 26 = .ok (.lconst 0, 1) := by decide +kernel
theorem dX11_age_27 : decode cX11_age 27 = .ok (.ldc2_w 259, 3) := by decide +kernel
theorem dX11_age_30 : decode cX11_age 30 = .ok (.invokestatic 233, 3) := by decide +kernel
theorem dX11_age_33 : decode cX11_age 33 = .ok (.ifCond .eq 16, 3) := by decide +kernel
theorem dX11_age_36 : decode cX11_age 36 = .ok (.iload 4, 2) := by decide +kernel
theorem dX11_age_38 : decode cX11_age 38 = .ok (.i2l, 1) := by decide +kernel
theorem dX11_age_39 : decode cX11_age 39 = .ok (.lconst 0, 1) := by decide +kernel
theorem dX11_age_40 : decode cX11_age 40 = .ok (.ldc2_w 246, 3) := by decide +kernel
theorem dX11_age_43 : decode cX11_age 43 = .ok (.invokestatic 233, 3) := by decide +kernel
theorem dX11_age_46 : decode cX11_age 46 = .ok (.ifCond .ne 5, 3) := by decide +kernel
theorem dX11_age_49 : decode cX11_age 49 = .ok (.iconst 0, 1) := by decide +kernel
theorem dX11_age_50 : decode cX11_age 50 = .ok (.ireturn, 1) := by decide +kernel
theorem dX11_age_51 : decode cX11_age 51 = .ok (.aload_n 0, 1) := by decide +kernel
theorem dX11_age_52 : decode cX11_age 52 = .ok (.getfield 174, 3) := by decide +kernel
theorem dX11_age_55 : decode cX11_age 55 = .ok (.iload_n 1, 1) := by decide +kernel
theorem dX11_age_56 : decode cX11_age 56 = .ok (.iload_n 2, 1) := by decide +kernel
theorem dX11_age_57 : decode cX11_age 57 = .ok (.iastore, 1) := by decide +kernel
theorem dX11_age_58 : decode cX11_age 58 = .ok (.aload_n 0, 1) := by decide +kernel
theorem dX11_age_59 : decode cX11_age 59 = .ok (.getfield 177, 3) := by decide +kernel
theorem dX11_age_62 : decode cX11_age 62 = .ok (.iload_n 1, 1) := by decide +kernel
theorem dX11_age_63 : decode cX11_age 63 = .ok (.iload_n 3, 1) := by decide +kernel
theorem dX11_age_64 : decode cX11_age 64 = .ok (.iastore, 1) := by decide +kernel
theorem dX11_age_65 : decode cX11_age 65 = .ok (.aload_n 0, 1) := by decide +kernel
theorem dX11_age_66 : decode cX11_age 66 = .ok (.getfield 180, 3) := by decide +kernel
theorem dX11_age_69 : decode cX11_age 69 = .ok (.iload_n 1, 1) := by decide +kernel
theorem dX11_age_70 : decode cX11_age 70 = .ok (.iload 4, 2) := by decide +kernel
theorem dX11_age_72 : decode cX11_age 72 = .ok (.iastore, 1) := by decide +kernel
theorem dX11_age_73 : decode cX11_age 73 = .ok (.iconst 1, 1) := by decide +kernel
theorem dX11_age_74 : decode cX11_age 74 = .ok (.ireturn, 1) := by decide +kernel
theorem dX11_asToday_0 : decode cX11_asToday 0 = .ok (.iconst 0, 1) := by decide +kernel
theorem dX11_asToday_1 : decode cX11_asToday 1 = .ok (.istore_n 2, 1) := by decide +kernel
theorem dX11_asToday_2 : decode cX11_asToday 2 = .ok (.iload_n 2, 1) := by decide +kernel
theorem dX11_asToday_3 : decode cX11_asToday 3 = .ok (.bipush 8, 2) := by decide +kernel
theorem dX11_asToday_5 : decode cX11_asToday 5 = .ok (.if_icmp .ge 24, 3) := by decide +kernel
theorem dX11_asToday_8 : decode cX11_asToday 8 = .ok (.aload_n 0, 1) := by decide +kernel
theorem dX11_asToday_9 : decode cX11_asToday 9 = .ok (.getfield 183, 3) := by decide +kernel
theorem dX11_asToday_12 : decode cX11_asToday 12 = .ok (.iload_n 1, 1) := by decide +kernel
theorem dX11_asToday_13 : decode cX11_asToday 13 = .ok (.iload_n 2, 1) := by decide +kernel
theorem dX11_asToday_14 : decode cX11_asToday 14 = .ok (.iadd, 1) := by decide +kernel
theorem dX11_asToday_15 : decode cX11_asToday 15 = .ok (.aload_n 0, 1) := by decide +kernel
theorem dX11_asToday_16 : decode cX11_asToday 16 = .ok (.getfield 174, 3) := by decide +kernel
theorem dX11_asToday_19 : decode cX11_asToday 19 = .ok (.iload_n 2, 1) := by decide +kernel
theorem dX11_asToday_20 : decode cX11_asToday 20 = .ok (.iaload, 1) := by decide +kernel
theorem dX11_asToday_21 : decode cX11_asToday 21 = .ok (.i2l, 1) := by decide +kernel
theorem dX11_asToday_22 : decode cX11_asToday 22 = .ok (.lastore, 1) := by decide +kernel
theorem dX11_asToday_23 : decode cX11_asToday 23 = .ok (.iinc 2 1, 3) := by decide +kernel
theorem dX11_asToday_26 : decode cX11_asToday 26 = .ok (.goto (-24), 3) := by decide +kernel
theorem dX11_asToday_29 : decode cX11_asToday 29 = .ok (.return_, 1) := by decide +kernel
theorem dX11_fishes_0 : decode cX11_fishes 0 = .ok (.lconst 0, 1) := by decide +kernel
theorem dX11_fishes_1 : decode cX11_fishes 1 = .ok (.lstore 6, 2) := by decide +kernel
theorem dX11_fishes_3 : decode cX11_fishes 3 = .ok (.bipush 7, 2) := by decide +kernel
theorem dX11_fishes_5 : decode cX11_fishes 5 = .ok (.istore 8, 2) := by decide +kernel
theorem dX11_fishes_7 : decode cX11_fishes 7 = .ok (.iload 8, 2) := by decide +kernel
theorem dX11_fishes_9 : decode cX11_fishes 9 = .ok (.ifCond .lt 141, 3) := by decide +kernel
theorem dX11_fishes_12 : decode cX11_fishes 12 = .ok (.aload_n 0, 1) := by decide +kernel
theorem dX11_fishes_13 : decode cX11_fishes 13 = .ok (.getfield 183, 3) := by decide +kernel
theorem dX11_fishes_16 : decode cX11_fishes 16 = .ok (.iload_n 1, 1) := by decide +kernel
theorem dX11_fishes_17 : decode cX11_fishes 17 = .ok (.iload 8, 2) := by decide +kernel
theorem dX11_fishes_19 : decode cX11_fishes 19 = .ok (.iadd, 1) := by decide +kernel
theorem dX11_fishes_20 : decode cX11_fishes 20 = .ok (.laload, 1) := by decide +kernel
theorem dX11_fishes_21 : decode cX11_fishes 21 = .ok (.lstore 9, 2) := by decide +kernel
theorem dX11_fishes_23 : decode cX11_fishes 23 = .ok (.aload_n 0, 1) := by decide +kernel
theorem dX11_fishes_24 : decode cX11_fishes 24 = .ok (.getfield 177, 3) := by decide +kernel
theorem dX11_fishes_27 : decode cX11_fishes 27 = .ok (.iload 8, 2) := by decide +kernel
theorem dX11_fishes_29 : decode cX11_fishes 29 = .ok (.iaload, 1) := by decide +kernel
theorem dX11_fishes_30 : decode cX11_fishes 30 = .ok (.iload_n 2, 1) := by decide +kernel
theorem dX11_fishes_31 : decode cX11_fishes 31 = .ok (.if_icmp .ge 7, 3) := by decide +kernel
theorem dX11_fishes_34 : decode cX11_fishes 34 = .ok (.lconst 0, 1) := by decide +kernel
theorem dX11_fishes_35 : decode cX11_fishes 35 = .ok (.goto 12, 3) := by decide +kernel
theorem dX11_fishes_38 : decode cX11_fishes 38 = .ok (.lload 9, 2) := by decide +kernel
theorem dX11_fishes_40 : decode cX11_fishes 40 = .ok (.iload_n 3, 1) := by decide +kernel
theorem dX11_fishes_41 : decode cX11_fishes 41 = .ok (.i2l, 1) := by decide +kernel
theorem dX11_fishes_42 : decode cX11_fishes 42 = .ok (.lmul, 1) := by decide +kernel
theorem dX11_fishes_43 : decode cX11_fishes 43 = .ok (.ldc2_w 540, 3) := by decide +kernel
theorem dX11_fishes_46 : decode cX11_fishes 46 = .ok (.ldiv, 1) := by decide +kernel
theorem dX11_fishes_47 : decode cX11_fishes 47 = .ok (.lstore 11, 2) := by decide +kernel
theorem dX11_fishes_49 : decode cX11_fishes 49 = .ok (.lload 6, 2) := by decide +kernel
theorem dX11_fishes_51 : decode cX11_fishes 51 = .ok (.lload 11, 2) := by decide +kernel
theorem dX11_fishes_53 : decode cX11_fishes 53 = .ok (.aload_n 0, 1) := by decide +kernel
theorem dX11_fishes_54 : decode cX11_fishes 54 = .ok (.getfield 180, 3) := by decide +kernel
theorem dX11_fishes_57 : decode cX11_fishes 57 = .ok (.iload 8, 2) := by decide +kernel
theorem dX11_fishes_59 : decode cX11_fishes 59 = .ok (.iaload, 1) := by decide +kernel
theorem dX11_fishes_60 : decode cX11_fishes 60 = .ok (.i2l, 1) := by decide +kernel
theorem dX11_fishes_61 : decode cX11_fishes 61 = .ok (.lmul, 1) := by decide +kernel
theorem dX11_fishes_62 : decode cX11_fishes 62 = .ok (.ladd, 1) := by decide +kernel
theorem dX11_fishes_63 : decode cX11_fishes 63 = .ok (.lstore 6, 2) := by decide +kernel
theorem dX11_fishes_65 : decode cX11_fishes 65 = .ok (.lload 9, 2) := by decide +kernel
theorem dX11_fishes_67 : decode cX11_fishes 67 = .ok (.lload 11, 2) := by decide +kernel
theorem dX11_fishes_69 : decode cX11_fishes 69 = .ok (.lsub, 1) := by decide +kernel
theorem dX11_fishes_70 : decode cX11_fishes 70 = .ok (.sipush 1000, 3) := by decide +kernel
theorem dX11_fishes_73 : decode cX11_fishes 73 = .ok (.iload 4, 2) := by decide +kernel
theorem dX11_fishes_75 : decode cX11_fishes 75 = .ok (.isub, 1) := by decide +kernel
theorem dX11_fishes_76 : decode cX11_fishes 76 = .ok (.i2l, 1) := by decide +kernel
theorem dX11_fishes_77 : decode cX11_fishes 77 = .ok (.lmul, 1) := by decide +kernel
theorem dX11_fishes_78 : decode cX11_fishes 78 = .ok (.ldc2_w 540, 3) := by decide +kernel
theorem dX11_fishes_81 : decode cX11_fishes 81 = .ok (.ldiv, 1) := by decide +kernel
theorem dX11_fishes_82 : decode cX11_fishes 82 = .ok (.lstore 13, 2) := by decide +kernel
theorem dX11_fishes_84 : decode cX11_fishes 84 = .ok (.iload 8, 2) := by decide +kernel
theorem dX11_fishes_86 : decode cX11_fishes 86 = .ok (.bipush 7, 2) := by decide +kernel
theorem dX11_fishes_88 : decode cX11_fishes 88 = .ok (.if_icmp .ne 17, 3) := by decide +kernel
theorem dX11_fishes_91 : decode cX11_fishes 91 = .ok (.aload_n 0, 1) := by decide +kernel
theorem dX11_fishes_92 : decode cX11_fishes 92 = .ok (.getfield 183, 3) := by decide +kernel
theorem dX11_fishes_95 : decode cX11_fishes 95 = .ok (.iload_n 1, 1) := by decide +kernel
theorem dX11_fishes_96 : decode cX11_fishes 96 = .ok (.iload 8, 2) := by decide +kernel
theorem dX11_fishes_98 : decode cX11_fishes 98 = .ok (.iadd, 1) := by decide +kernel
theorem dX11_fishes_99 : decode cX11_fishes 99 = .ok (.lload 13, 2) := by decide +kernel
theorem dX11_fishes_101 : decode cX11_fishes 101 = .ok (.lastore, 1) := by decide +kernel
theorem dX11_fishes_102 : decode cX11_fishes 102 = .ok (.goto 42, 3) := by decide +kernel
theorem dX11_fishes_105 : decode cX11_fishes 105 = .ok (.iload 8, 2) := by decide +kernel
theorem dX11_fishes_107 : decode cX11_fishes 107 = .ok (.bipush 6, 2) := by decide +kernel
theorem dX11_fishes_109 : decode cX11_fishes 109 = .ok (.if_icmp .ne 22, 3) := by decide +kernel
theorem dX11_fishes_112 : decode cX11_fishes 112 = .ok (.aload_n 0, 1) := by decide +kernel
theorem dX11_fishes_113 : decode cX11_fishes 113 = .ok (.getfield 183, 3) := by decide +kernel
theorem dX11_fishes_116 : decode cX11_fishes 116 = .ok (.iload_n 1, 1) := by decide +kernel
theorem dX11_fishes_117 : decode cX11_fishes 117 = .ok (.iload 8, 2) := by decide +kernel
theorem dX11_fishes_119 : decode cX11_fishes 119 = .ok (.iadd, 1) := by decide +kernel
theorem dX11_fishes_120 : decode cX11_fishes 120 = .ok (.iconst 1, 1) := by decide +kernel
theorem dX11_fishes_121 : decode cX11_fishes 121 = .ok (.iadd, 1) := by decide +kernel
theorem dX11_fishes_122 : decode cX11_fishes 122 = .ok (.dup2, 1) := by decide +kernel
theorem dX11_fishes_123 : decode cX11_fishes 123 = .ok (.laload, 1) := by decide +kernel
theorem dX11_fishes_124 : decode cX11_fishes 124 = .ok (.lload 13, 2) := by decide +kernel
theorem dX11_fishes_126 : decode cX11_fishes 126 = .ok (.ladd, 1) := by decide +kernel
theorem dX11_fishes_127 : decode cX11_fishes 127 = .ok (.lastore, 1) := by decide +kernel
theorem dX11_fishes_128 : decode cX11_fishes 128 = .ok (.goto 16, 3) := by decide +kernel
theorem dX11_fishes_131 : decode cX11_fishes 131 = .ok (.aload_n 0, 1) := by decide +kernel
theorem dX11_fishes_132 : decode cX11_fishes 132 = .ok (.getfield 183, 3) := by decide +kernel
theorem dX11_fishes_135 : decode cX11_fishes 135 = .ok (.iload_n 1, 1) := by decide +kernel
theorem dX11_fishes_136 : decode cX11_fishes 136 = .ok (.iload 8, 2) := by decide +kernel
theorem dX11_fishes_138 : decode cX11_fishes 138 = .ok (.iadd, 1) := by decide +kernel
theorem dX11_fishes_139 : decode cX11_fishes 139 = .ok (.iconst 1, 1) := by decide +kernel
theorem dX11_fishes_140 : decode cX11_fishes 140 = .ok (.iadd, 1) := by decide +kernel
theorem dX11_fishes_141 : decode cX11_fishes 141 = .ok (.lload 13, 2) := by decide +kernel
theorem dX11_fishes_143 : decode cX11_fishes 143 = .ok (.lastore, 1) := by decide +kernel
theorem dX11_fishes_144 : decode cX11_fishes 144 = .ok (.iinc 8 (-1), 3) := by decide +kernel
theorem dX11_fishes_147 : decode cX11_fishes 147 = .ok (.goto (-140), 3) := by decide +kernel
theorem dX11_fishes_150 : decode cX11_fishes 150 = .ok (.aload_n 0, 1) := by decide +kernel
theorem dX11_fishes_151 : decode cX11_fishes 151 = .ok (.getfield 183, 3) := by decide +kernel
theorem dX11_fishes_154 : decode cX11_fishes 154 = .ok (.iload_n 1, 1) := by decide +kernel
theorem dX11_fishes_155 : decode cX11_fishes 155 = .ok (.iload 5, 2) := by decide +kernel
theorem dX11_fishes_157 : decode cX11_fishes 157 = .ok (.i2l, 1) := by decide +kernel
theorem dX11_fishes_158 : decode cX11_fishes 158 = .ok (.lastore, 1) := by decide +kernel
theorem dX11_fishes_159 : decode cX11_fishes 159 = .ok (.lload 6, 2) := by decide +kernel
theorem dX11_fishes_161 : decode cX11_fishes 161 = .ok (.lreturn, 1) := by decide +kernel
theorem dX11_isFishing_0 : decode cX11_isFishing 0 = .ok (.iload_n 0, 1) := by decide +kernel
theorem dX11_isFishing_1 : decode cX11_isFishing 1 = .ok (.i2l, 1) := by decide +kernel
theorem dX11_isFishing_2 : decode cX11_isFishing 2 = .ok (.lconst 0, 1) := by decide +kernel
theorem dX11_isFishing_3 : decode cX11_isFishing 3 = .ok (.ldc2_w 259, 3) := by decide +kernel
theorem dX11_isFishing_6 : decode cX11_isFishing 6 = .ok (.invokestatic 233, 3) := by decide +kernel
theorem dX11_isFishing_9 : decode cX11_isFishing 9 = .ok (.ifCond .eq 43, 3) := by decide +kernel
theorem dX11_isFishing_12 : decode cX11_isFishing 12 = .ok (.iload_n 1, 1) := by decide +kernel
theorem dX11_isFishing_13 : decode cX11_isFishing 13 = .ok (.i2l, 1) := by decide +kernel
theorem dX11_isFishing_14 : decode cX11_isFishing 14 = .ok (.lconst 0, 1) := by decide +kernel
theorem dX11_isFishing_15 : decode cX11_isFishing 15 = .ok (.ldc2_w 540, 3) := by decide +kernel
theorem dX11_isFishing_18 : decode cX11_isFishing 18 = .ok (.invokestatic 233, 3) := by decide +kernel
theorem dX11_isFishing_21 : decode cX11_isFishing 21 = .ok (.ifCond .eq 31, 3) := by decide +kernel
theorem dX11_isFishing_24 : decode cX11_isFishing 24 = .ok (.iload_n 2, 1) := by decide +kernel
theorem dX11_isFishing_25 : decode cX11_isFishing 25 = .ok (.i2l, 1) := by decide +kernel
theorem dX11_isFishing_26 : decode cX11_isFishing 26 = .ok (.lconst 0, 1) := by decide +kernel
theorem dX11_isFishing_27 : decode cX11_isFishing 27 = .ok (.ldc2_w 540, 3) := by decide +kernel
theorem dX11_isFishing_30 : decode cX11_isFishing 30 = .ok (.invokestatic 233, 3) := by decide +kernel
theorem dX11_isFishing_33 : decode cX11_isFishing 33 = .ok (.ifCond .eq 19, 3) := by decide +kernel
theorem dX11_isFishing_36 : decode cX11_isFishing 36 = .ok (.iload_n 3, 1) := by decide +kernel
theorem dX11_isFishing_37 : decode cX11_isFishing 37 = .ok (.i2l, 1) := by decide +kernel
theorem dX11_isFishing_38 : decode cX11_isFishing 38 = .ok (.lconst 0, 1) := by decide +kernel
theorem dX11_isFishing_39 : decode cX11_isFishing 39 = .ok (.ldc2_w 554, 3) := by decide +kernel
theorem dX11_isFishing_42 : decode cX11_isFishing 42 = .ok (.invokestatic 233, 3) := by decide +kernel
theorem dX11_isFishing_45 : decode cX11_isFishing 45 = .ok (.ifCond .eq 7, 3) := by decide +kernel
theorem dX11_isFishing_48 : decode cX11_isFishing 48 = .ok (.iconst 1, 1) := by decide +kernel
theorem dX11_isFishing_49 : decode cX11_isFishing 49 = .ok (.goto 4, 3) := by decide +kernel
theorem dX11_isFishing_52 : decode cX11_isFishing 52 = .ok (.iconst 0, 1) := by decide +kernel
theorem dX11_isFishing_53 : decode cX11_isFishing 53 = .ok (.ireturn, 1) := by decide +kernel
theorem dX11_landed_0 : decode cX11_landed 0 = .ok (.iload_n 1, 1) := by decide +kernel
theorem dX11_landed_1 : decode cX11_landed 1 = .ok (.i2l, 1) := by decide +kernel
theorem dX11_landed_2 : decode cX11_landed 2 = .ok (.lconst 1, 1) := by decide +kernel
theorem dX11_landed_3 : decode cX11_landed 3 = .ok (.ldc2_w 556, 3) := by decide +kernel
theorem dX11_landed_6 : decode cX11_landed 6 = .ok (.invokestatic 233, 3) := by decide +kernel
theorem dX11_landed_9 : decode cX11_landed 9 = .ok (.ifCond .eq 15, 3) := by decide +kernel
theorem dX11_landed_12 : decode cX11_landed 12 = .ok (.iload_n 2, 1) := by decide +kernel
theorem dX11_landed_13 : decode cX11_landed 13 = .ok (.iload_n 3, 1) := by decide +kernel
theorem dX11_landed_14 : decode cX11_landed 14 = .ok (.iload 4, 2) := by decide +kernel
theorem dX11_landed_16 : decode cX11_landed 16 = .ok (.iload 5, 2) := by decide +kernel
theorem dX11_landed_18 : decode cX11_landed 18 = .ok (.invokestatic 558, 3) := by decide +kernel
theorem dX11_landed_21 : decode cX11_landed 21 = .ok (.ifCond .ne 7, 3) := by decide +kernel
theorem dX11_landed_24 : decode cX11_landed 24 = .ok (.ldc2_w 314, 3) := by decide +kernel
theorem dX11_landed_27 : decode cX11_landed 27 = .ok (.lreturn, 1) := by decide +kernel
theorem dX11_landed_28 : decode cX11_landed 28 = .ok (.aload_n 0, 1) := by decide +kernel
theorem dX11_landed_29 : decode cX11_landed 29 = .ok (.iconst 0, 1) := by decide +kernel
theorem dX11_landed_30 : decode cX11_landed 30 = .ok (.invokevirtual 561, 3) := by decide +kernel
theorem dX11_landed_33 : decode cX11_landed 33 = .ok (.lconst 0, 1) := by decide +kernel
theorem dX11_landed_34 : decode cX11_landed 34 = .ok (.lstore 6, 2) := by decide +kernel
theorem dX11_landed_36 : decode cX11_landed 36 = .ok (.iconst 0, 1) := by decide +kernel
theorem dX11_landed_37 : decode cX11_landed 37 = .ok (.istore 8, 2) := by decide +kernel
theorem dX11_landed_39 : decode cX11_landed 39 = .ok (.iload 8, 2) := by decide +kernel
theorem dX11_landed_41 : decode cX11_landed 41 = .ok (.iload_n 1, 1) := by decide +kernel
theorem dX11_landed_42 : decode cX11_landed 42 = .ok (.if_icmp .ge 25, 3) := by decide +kernel
theorem dX11_landed_45 : decode cX11_landed 45 = .ok (.lload 6, 2) := by decide +kernel
theorem dX11_landed_47 : decode cX11_landed 47 = .ok (.aload_n 0, 1) := by decide +kernel
theorem dX11_landed_48 : decode cX11_landed 48 = .ok (.iconst 0, 1) := by decide +kernel
theorem dX11_landed_49 : decode cX11_landed 49 = .ok (.iload_n 2, 1) := by decide +kernel
theorem dX11_landed_50 : decode cX11_landed 50 = .ok (.iload_n 3, 1) := by decide +kernel
theorem dX11_landed_51 : decode cX11_landed 51 = .ok (.iload 4, 2) := by decide +kernel
theorem dX11_landed_53 : decode cX11_landed 53 = .ok (.iload 5, 2) := by decide +kernel
theorem dX11_landed_55 : decode cX11_landed 55 = .ok (.invokevirtual 564, 3) := by decide +kernel
theorem dX11_landed_58 : decode cX11_landed 58 = .ok (.ladd, 1) := by decide +kernel
theorem dX11_landed_59 : decode cX11_landed 59 = .ok (.lstore 6, 2) := by decide +kernel
theorem dX11_landed_61 : decode cX11_landed 61 = .ok (.iinc 8 1, 3) := by decide +kernel
theorem dX11_landed_64 : decode cX11_landed 64 = .ok (.goto (-25), 3) := by decide +kernel
theorem dX11_landed_67 : decode cX11_landed 67 = .ok (.lload 6, 2) := by decide +kernel
theorem dX11_landed_69 : decode cX11_landed 69 = .ok (.lreturn, 1) := by decide +kernel
theorem dX11_pays_0 : decode cX11_pays 0 = .ok (.iload_n 1, 1) := by decide +kernel
theorem dX11_pays_1 : decode cX11_pays 1 = .ok (.iload_n 3, 1) := by decide +kernel
theorem dX11_pays_2 : decode cX11_pays 2 = .ok (.iload 4, 2) := by decide +kernel
theorem dX11_pays_4 : decode cX11_pays 4 = .ok (.iload 5, 2) := by decide +kernel
theorem dX11_pays_6 : decode cX11_pays 6 = .ok (.invokestatic 558, 3) := by decide +kernel
theorem dX11_pays_9 : decode cX11_pays 9 = .ok (.ifCond .eq 15, 3) := by decide +kernel
theorem dX11_pays_12 : decode cX11_pays 12 = .ok (.iload_n 2, 1) := by decide +kernel
theorem dX11_pays_13 : decode cX11_pays 13 = .ok (.i2l, 1) := by decide +kernel
theorem dX11_pays_14 : decode cX11_pays 14 = .ok (.lconst 0, 1) := by decide +kernel
theorem dX11_pays_15 : decode cX11_pays 15 = .ok (.ldc2_w 259, 3) := by decide +kernel
theorem dX11_pays_18 : decode cX11_pays 18 = .ok (.invokestatic 233, 3) := by decide +kernel
theorem dX11_pays_21 : decode cX11_pays 21 = .ok (.ifCond .ne 5, 3) := by decide +kernel
theorem dX11_pays_24 : decode cX11_pays 24 = .ok (.iconst (-1), 1) := by decide +kernel
theorem dX11_pays_25 : decode cX11_pays 25 = .ok (.ireturn, 1) := by decide +kernel
theorem dX11_pays_26 : decode cX11_pays 26 = .ok (.aload_n 0, 1) := by decide +kernel
theorem dX11_pays_27 : decode cX11_pays 27 = .ok (.iconst 0, 1) := by decide +kernel
theorem dX11_pays_28 : decode cX11_pays 28 = .ok (.invokevirtual 561, 3) := by decide +kernel
theorem dX11_pays_31 : decode cX11_pays 31 = .ok (.aload_n 0, 1) := by decide +kernel
theorem dX11_pays_32 : decode cX11_pays 32 = .ok (.bipush 8, 2) := by decide +kernel
theorem dX11_pays_34 : decode cX11_pays 34 = .ok (.invokevirtual 561, 3) := by decide +kernel
theorem dX11_pays_37 : decode cX11_pays 37 = .ok (.lconst 0, 1) := by decide +kernel
theorem dX11_pays_38 : decode cX11_pays 38 = .ok (.lstore 6, 2) := by decide +kernel
theorem dX11_pays_40 : decode cX11_pays 40 = .ok (.lconst 0, 1) := by decide +kernel
theorem dX11_pays_41 : decode cX11_pays 41 = .ok (.lstore 8, 2) := by decide +kernel
theorem dX11_pays_43 : decode cX11_pays 43 = .ok (.iconst 1, 1) := by decide +kernel
theorem dX11_pays_44 : decode cX11_pays 44 = .ok (.istore 10, 2) := by decide +kernel
theorem dX11_pays_46 : decode cX11_pays 46 = .ok (.iload 10, 2) := by decide +kernel
theorem dX11_pays_48 : decode cX11_pays 48 = .ok (.bipush 30, 2) := by decide +kernel
theorem dX11_pays_50 : decode cX11_pays 50 = .ok (.if_icmp .gt 53, 3) := by decide +kernel
theorem dX11_pays_53 : decode cX11_pays 53 = .ok (.lload 6, 2) := by decide +kernel
theorem dX11_pays_55 : decode cX11_pays 55 = .ok (.aload_n 0, 1) := by decide +kernel
theorem dX11_pays_56 : decode cX11_pays 56 = .ok (.iconst 0, 1) := by decide +kernel
theorem dX11_pays_57 : decode cX11_pays 57 = .ok (.iload_n 1, 1) := by decide +kernel
theorem dX11_pays_58 : decode cX11_pays 58 = .ok (.iload_n 3, 1) := by decide +kernel
theorem dX11_pays_59 : decode cX11_pays 59 = .ok (.iload 4, 2) := by decide +kernel
theorem dX11_pays_61 : decode cX11_pays 61 = .ok (.iload 5, 2) := by decide +kernel
theorem dX11_pays_63 : decode cX11_pays 63 = .ok (.invokevirtual 564, 3) := by decide +kernel
theorem dX11_pays_66 : decode cX11_pays 66 = .ok (.ladd, 1) := by decide +kernel
theorem dX11_pays_67 : decode cX11_pays 67 = .ok (.lstore 6, 2) := by decide +kernel
theorem dX11_pays_69 : decode cX11_pays 69 = .ok (.lload 8, 2) := by decide +kernel
theorem dX11_pays_71 : decode cX11_pays 71 = .ok (.aload_n 0, 1) := by decide +kernel
theorem dX11_pays_72 : decode cX11_pays 72 = .ok (.bipush 8, 2) := by decide +kernel
theorem dX11_pays_74 : decode cX11_pays 74 = .ok (.iload_n 2, 1) := by decide +kernel
theorem dX11_pays_75 : decode cX11_pays 75 = .ok (.iload_n 3, 1) := by decide +kernel
theorem dX11_pays_76 : decode cX11_pays 76 = .ok (.iload 4, 2) := by decide +kernel
theorem dX11_pays_78 : decode cX11_pays 78 = .ok (.iload 5, 2) := by decide +kernel
theorem dX11_pays_80 : decode cX11_pays 80 = .ok (.invokevirtual 564, 3) := by decide +kernel
theorem dX11_pays_83 : decode cX11_pays 83 = .ok (.ladd, 1) := by decide +kernel
theorem dX11_pays_84 : decode cX11_pays 84 = .ok (.lstore 8, 2) := by decide +kernel
theorem dX11_pays_86 : decode cX11_pays 86 = .ok (.lload 8, 2) := by decide +kernel
theorem dX11_pays_88 : decode cX11_pays 88 = .ok (.lload 6, 2) := by decide +kernel
theorem dX11_pays_90 : decode cX11_pays 90 = .ok (.lcmp, 1) := by decide +kernel
theorem dX11_pays_91 : decode cX11_pays 91 = .ok (.ifCond .lt 6, 3) := by decide +kernel
theorem dX11_pays_94 : decode cX11_pays 94 = .ok (.iload 10, 2) := by decide +kernel
theorem dX11_pays_96 : decode cX11_pays 96 = .ok (.ireturn, 1) := by decide +kernel
theorem dX11_pays_97 : decode cX11_pays 97 = .ok (.iinc 10 1, 3) := by decide +kernel
theorem dX11_pays_100 : decode cX11_pays 100 = .ok (.goto (-54), 3) := by decide +kernel
theorem dX11_pays_103 : decode cX11_pays 103 = .ok (.bipush (-2), 2) := by decide +kernel
theorem dX11_pays_105 : decode cX11_pays 105 = .ok (.ireturn, 1) := by decide +kernel
theorem dX11_town_0 : decode cX11_town 0 = .ok (.aload_n 0, 1) := by decide +kernel
theorem dX11_town_1 : decode cX11_town 1 = .ok (.getfield 567, 3) := by decide +kernel
theorem dX11_town_4 : decode cX11_town 4 = .ok (.bipush 8, 2) := by decide +kernel
theorem dX11_town_6 : decode cX11_town 6 = .ok (.if_icmp .eq 47, 3) := by decide +kernel
theorem dX11_town_9 : decode cX11_town 9 = .ok (.iload_n 1, 1) := by decide +kernel
theorem dX11_town_10 : decode cX11_town 10 = .ok (.invokestatic 251, 3) := by decide +kernel
theorem dX11_town_13 : decode cX11_town 13 = .ok (.ifCond .eq 40, 3) := by decide +kernel
theorem dX11_town_16 : decode cX11_town 16 = .ok (.iload_n 2, 1) := by decide +kernel
theorem dX11_town_17 : decode cX11_town 17 = .ok (.i2l, 1) := by decide +kernel
theorem dX11_town_18 : decode cX11_town 18 = .ok (.lconst 0, 1) := by decide +kernel
theorem dX11_town_19 : decode cX11_town 19 = .ok (.ldc2_w 570, 3) := by decide +kernel
theorem dX11_town_22 : decode cX11_town 22 = .ok (.invokestatic 233, 3) := by decide +kernel
theorem dX11_town_25 : decode cX11_town 25 = .ok (.ifCond .eq 28, 3) := by decide +kernel
theorem dX11_town_28 : decode cX11_town 28 = .ok (.iload_n 3, 1) := by decide +kernel
theorem dX11_town_29 : decode cX11_town 29 = .ok (.i2l, 1) := by decide +kernel
theorem dX11_town_30 : decode cX11_town 30 = .ok (.lconst 0, 1) := by decide +kernel
theorem dX11_town_31 : decode cX11_town 31 = .ok (.ldc2_w 544, 3) := by decide +kernel
theorem dX11_town_34 : decode cX11_town 34 = .ok (.invokestatic 233, 3) := by decide +kernel
theorem dX11_town_37 : decode cX11_town 37 = .ok (.ifCond .eq 16, 3) := by decide +kernel
theorem dX11_town_40 : decode cX11_town 40 = .ok (.iload 4, 2) := by decide +kernel
theorem dX11_town_42 : decode cX11_town 42 = .ok (.i2l, 1) := by decide +kernel
theorem dX11_town_43 : decode cX11_town 43 = .ok (.lconst 0, 1) := by decide +kernel
theorem dX11_town_44 : decode cX11_town 44 = .ok (.ldc2_w 572, 3) := by decide +kernel
theorem dX11_town_47 : decode cX11_town 47 = .ok (.invokestatic 233, 3) := by decide +kernel
theorem dX11_town_50 : decode cX11_town 50 = .ok (.ifCond .ne 5, 3) := by decide +kernel
theorem dX11_town_53 : decode cX11_town 53 = .ok (.iconst (-1), 1) := by decide +kernel
theorem dX11_town_54 : decode cX11_town 54 = .ok (.ireturn, 1) := by decide +kernel
theorem dX11_town_55 : decode cX11_town 55 = .ok (.aload_n 0, 1) := by decide +kernel
theorem dX11_town_56 : decode cX11_town 56 = .ok (.getfield 186, 3) := by decide +kernel
theorem dX11_town_59 : decode cX11_town 59 = .ok (.aload_n 0, 1) := by decide +kernel
theorem dX11_town_60 : decode cX11_town 60 = .ok (.getfield 567, 3) := by decide +kernel
theorem dX11_town_63 : decode cX11_town 63 = .ok (.iload_n 1, 1) := by decide +kernel
theorem dX11_town_64 : decode cX11_town 64 = .ok (.iastore, 1) := by decide +kernel
theorem dX11_town_65 : decode cX11_town 65 = .ok (.aload_n 0, 1) := by decide +kernel
theorem dX11_town_66 : decode cX11_town 66 = .ok (.getfield 189, 3) := by decide +kernel
theorem dX11_town_69 : decode cX11_town 69 = .ok (.aload_n 0, 1) := by decide +kernel
theorem dX11_town_70 : decode cX11_town 70 = .ok (.getfield 567, 3) := by decide +kernel
theorem dX11_town_73 : decode cX11_town 73 = .ok (.iload_n 2, 1) := by decide +kernel
theorem dX11_town_74 : decode cX11_town 74 = .ok (.iastore, 1) := by decide +kernel
theorem dX11_town_75 : decode cX11_town 75 = .ok (.aload_n 0, 1) := by decide +kernel
theorem dX11_town_76 : decode cX11_town 76 = .ok (.getfield 192, 3) := by decide +kernel
theorem dX11_town_79 : decode cX11_town 79 = .ok (.aload_n 0, 1) := by decide +kernel
theorem dX11_town_80 : decode cX11_town 80 = .ok (.getfield 567, 3) := by decide +kernel
theorem dX11_town_83 : decode cX11_town 83 = .ok (.iload_n 3, 1) := by decide +kernel
theorem dX11_town_84 : decode cX11_town 84 = .ok (.iastore, 1) := by decide +kernel
theorem dX11_town_85 : decode cX11_town 85 = .ok (.aload_n 0, 1) := by decide +kernel
theorem dX11_town_86 : decode cX11_town 86 = .ok (.getfield 195, 3) := by decide +kernel
theorem dX11_town_89 : decode cX11_town 89 = .ok (.aload_n 0, 1) := by decide +kernel
theorem dX11_town_90 : decode cX11_town 90 = .ok (.getfield 567, 3) := by decide +kernel
theorem dX11_town_93 : decode cX11_town 93 = .ok (.iload 4, 2) := by decide +kernel
theorem dX11_town_95 : decode cX11_town 95 = .ok (.iastore, 1) := by decide +kernel
theorem dX11_town_96 : decode cX11_town 96 = .ok (.aload_n 0, 1) := by decide +kernel
theorem dX11_town_97 : decode cX11_town 97 = .ok (.dup, 1) := by decide +kernel
theorem dX11_town_98 : decode cX11_town 98 = .ok (.getfield 567, 3) := by decide +kernel
theorem dX11_town_101 : decode cX11_town 101 = .ok (.iconst 1, 1) := by decide +kernel
theorem dX11_town_102 : decode cX11_town 102 = .ok (.iadd, 1) := by decide +kernel
theorem dX11_town_103 : decode cX11_town 103 = .ok (.putfield 567, 3) := by decide +kernel
theorem dX11_town_106 : decode cX11_town 106 = .ok (.aload_n 0, 1) := by decide +kernel
theorem dX11_town_107 : decode cX11_town 107 = .ok (.getfield 567, 3) := by decide +kernel
theorem dX11_town_110 : decode cX11_town 110 = .ok (.iconst 1, 1) := by decide +kernel
theorem dX11_town_111 : decode cX11_town 111 = .ok (.isub, 1) := by decide +kernel
theorem dX11_town_112 : decode cX11_town 112 = .ok (.ireturn, 1) := by decide +kernel
theorem dX11_isTown_0 : decode cX11_isTown 0 = .ok (.iload_n 1, 1) := by decide +kernel
theorem dX11_isTown_1 : decode cX11_isTown 1 = .ok (.ifCond .lt 15, 3) := by decide +kernel
theorem dX11_isTown_4 : decode cX11_isTown 4 = .ok (.iload_n 1, 1) := by decide +kernel
theorem dX11_isTown_5 : decode cX11_isTown 5 = .ok (.aload_n 0, 1) := by decide +kernel
theorem dX11_isTown_6 : decode cX11_isTown 6 = .ok (.getfield 567, 3) := by decide +kernel
theorem dX11_isTown_9 : decode cX11_isTown 9 = .ok (.if_icmp .ge 7, 3) := by decide +kernel
theorem dX11_isTown_12 : decode cX11_isTown 12 = .ok (.iconst 1, 1) := by decide +kernel
theorem dX11_isTown_13 : decode cX11_isTown 13 = .ok (.goto 4, 3) := by decide +kernel
theorem dX11_isTown_16 : decode cX11_isTown 16 = .ok (.iconst 0, 1) := by decide +kernel
theorem dX11_isTown_17 : decode cX11_isTown 17 = .ok (.ireturn, 1) := by decide +kernel
theorem dX11_isWeek_0 : decode cX11_isWeek 0 = .ok (.iload_n 0, 1) := by decide +kernel
theorem dX11_isWeek_1 : decode cX11_isWeek 1 = .ok (.ifCond .lt 13, 3) := by decide +kernel
theorem dX11_isWeek_4 : decode cX11_isWeek 4 = .ok (.iload_n 0, 1) := by decide +kernel
theorem dX11_isWeek_5 : decode cX11_isWeek 5 = .ok (.bipush 100, 2) := by decide +kernel
theorem dX11_isWeek_7 : decode cX11_isWeek 7 = .ok (.if_icmp .ge 7, 3) := by decide +kernel
theorem dX11_isWeek_10 : decode cX11_isWeek 10 = .ok (.iconst 1, 1) := by decide +kernel
theorem dX11_isWeek_11 : decode cX11_isWeek 11 = .ok (.goto 4, 3) := by decide +kernel
theorem dX11_isWeek_14 : decode cX11_isWeek 14 = .ok (.iconst 0, 1) := by decide +kernel
theorem dX11_isWeek_15 : decode cX11_isWeek 15 = .ok (.ireturn, 1) := by decide +kernel
theorem dX11_bar_0 : decode cX11_bar 0 = .ok (.aload_n 0, 1) := by decide +kernel
theorem dX11_bar_1 : decode cX11_bar 1 = .ok (.getfield 574, 3) := by decide +kernel
theorem dX11_bar_4 : decode cX11_bar 4 = .ok (.bipush 20, 2) := by decide +kernel
theorem dX11_bar_6 : decode cX11_bar 6 = .ok (.if_icmp .eq 29, 3) := by decide +kernel
theorem dX11_bar_9 : decode cX11_bar 9 = .ok (.aload_n 0, 1) := by decide +kernel
theorem dX11_bar_10 : decode cX11_bar 10 = .ok (.iload_n 1, 1) := by decide +kernel
theorem dX11_bar_11 : decode cX11_bar 11 = .ok (.invokevirtual 577, 3) := by decide +kernel
theorem dX11_bar_14 : decode cX11_bar 14 = .ok (.ifCond .eq 21, 3) := by decide +kernel
theorem dX11_bar_17 : decode cX11_bar 17 = .ok (.iload_n 3, 1) := by decide +kernel
theorem dX11_bar_18 : decode cX11_bar 18 = .ok (.invokestatic 580, 3) := by decide +kernel
theorem dX11_bar_21 : decode cX11_bar 21 = .ok (.ifCond .eq 14, 3) := by decide +kernel
theorem dX11_bar_24 : decode cX11_bar 24 = .ok (.iload_n 2, 1) := by decide +kernel
theorem dX11_bar_25 : decode cX11_bar 25 = .ok (.i2l, 1) := by decide +kernel
theorem dX11_bar_26 : decode cX11_bar 26 = .ok (.lconst 0, 1) := by decide +kernel
theorem dX11_bar_27 : decode cX11_bar 27 = .ok (.iload_n 3, 1) := by decide +kernel
theorem dX11_bar_28 : decode cX11_bar 28 = .ok (.i2l, 1) := by decide +kernel
theorem dX11_bar_29 : decode cX11_bar 29 = .ok (.invokestatic 233, 3) := by decide +kernel
theorem dX11_bar_32 : decode cX11_bar 32 = .ok (.ifCond .ne 5, 3) := by decide +kernel
theorem dX11_bar_35 : decode cX11_bar 35 = .ok (.iconst (-1), 1) := by decide +kernel
theorem dX11_bar_36 : decode cX11_bar 36 = .ok (.ireturn, 1) := by decide +kernel
theorem dX11_bar_37 : decode cX11_bar 37 = .ok (.aload_n 0, 1) := by decide +kernel
theorem dX11_bar_38 : decode cX11_bar 38 = .ok (.getfield 198, 3) := by decide +kernel
theorem dX11_bar_41 : decode cX11_bar 41 = .ok (.aload_n 0, 1) := by decide +kernel
theorem dX11_bar_42 : decode cX11_bar 42 = .ok (.getfield 574, 3) := by decide +kernel
theorem dX11_bar_45 : decode cX11_bar 45 = .ok (.iload_n 1, 1) := by decide +kernel
theorem dX11_bar_46 : decode cX11_bar 46 = .ok (.iastore, 1) := by decide +kernel
theorem dX11_bar_47 : decode cX11_bar 47 = .ok (.aload_n 0, 1) := by decide +kernel
theorem dX11_bar_48 : decode cX11_bar 48 = .ok (.getfield 201, 3) := by decide +kernel
theorem dX11_bar_51 : decode cX11_bar 51 = .ok (.aload_n 0, 1) := by decide +kernel
theorem dX11_bar_52 : decode cX11_bar 52 = .ok (.getfield 574, 3) := by decide +kernel
theorem dX11_bar_55 : decode cX11_bar 55 = .ok (.iload_n 2, 1) := by decide +kernel
theorem dX11_bar_56 : decode cX11_bar 56 = .ok (.iastore, 1) := by decide +kernel
theorem dX11_bar_57 : decode cX11_bar 57 = .ok (.aload_n 0, 1) := by decide +kernel
theorem dX11_bar_58 : decode cX11_bar 58 = .ok (.getfield 204, 3) := by decide +kernel
theorem dX11_bar_61 : decode cX11_bar 61 = .ok (.aload_n 0, 1) := by decide +kernel
theorem dX11_bar_62 : decode cX11_bar 62 = .ok (.getfield 574, 3) := by decide +kernel
theorem dX11_bar_65 : decode cX11_bar 65 = .ok (.iload_n 3, 1) := by decide +kernel
theorem dX11_bar_66 : decode cX11_bar 66 = .ok (.iastore, 1) := by decide +kernel
theorem dX11_bar_67 : decode cX11_bar 67 = .ok (.aload_n 0, 1) := by decide +kernel
theorem dX11_bar_68 : decode cX11_bar 68 = .ok (.dup, 1) := by decide +kernel
theorem dX11_bar_69 : decode cX11_bar 69 = .ok (.getfield 574, 3) := by decide +kernel
theorem dX11_bar_72 : decode cX11_bar 72 = .ok (.iconst 1, 1) := by decide +kernel
theorem dX11_bar_73 : decode cX11_bar 73 = .ok (.iadd, 1) := by decide +kernel
theorem dX11_bar_74 : decode cX11_bar 74 = .ok (.putfield 574, 3) := by decide +kernel
theorem dX11_bar_77 : decode cX11_bar 77 = .ok (.aload_n 0, 1) := by decide +kernel
theorem dX11_bar_78 : decode cX11_bar 78 = .ok (.getfield 574, 3) := by decide +kernel
theorem dX11_bar_81 : decode cX11_bar 81 = .ok (.ireturn, 1) := by decide +kernel
theorem dX11_lostBy_0 : decode cX11_lostBy 0 = .ok (.iconst 0, 1) := by decide +kernel
theorem dX11_lostBy_1 : decode cX11_lostBy 1 = .ok (.istore_n 3, 1) := by decide +kernel
theorem dX11_lostBy_2 : decode cX11_lostBy 2 = .ok (.iconst 0, 1) := by decide +kernel
theorem dX11_lostBy_3 : decode cX11_lostBy 3 = .ok (.istore 4, 2) := by decide +kernel
theorem dX11_lostBy_5 : decode cX11_lostBy 5 = .ok (.iload 4, 2) := by decide +kernel
theorem dX11_lostBy_7 : decode cX11_lostBy 7 = .ok (.iload_n 2, 1) := by decide +kernel
theorem dX11_lostBy_8 : decode cX11_lostBy 8 = .ok (.if_icmp .gt 96, 3) := by decide +kernel
theorem dX11_lostBy_11 : decode cX11_lostBy 11 = .ok (.iconst 0, 1) := by decide +kernel
theorem dX11_lostBy_12 : decode cX11_lostBy 12 = .ok (.istore 5, 2) := by decide +kernel
theorem dX11_lostBy_14 : decode cX11_lostBy 14 = .ok (.iconst 0, 1) := by decide +kernel
theorem dX11_lostBy_15 : decode cX11_lostBy 15 = .ok (.istore 6, 2) := by decide +kernel
theorem dX11_lostBy_17 : decode cX11_lostBy 17 = .ok (.iload 6, 2) := by decide +kernel
theorem dX11_lostBy_19 : decode cX11_lostBy 19 = .ok (.aload_n 0, 1) := by decide +kernel
theorem dX11_lostBy_20 : decode cX11_lostBy 20 = .ok (.getfield 574, 3) := by decide +kernel
theorem dX11_lostBy_23 : decode cX11_lostBy 23 = .ok (.if_icmp .ge 57, 3) := by decide +kernel
theorem dX11_lostBy_26 : decode cX11_lostBy 26 = .ok (.iload 5, 2) := by decide +kernel
theorem dX11_lostBy_28 : decode cX11_lostBy 28 = .ok (.ifCond .ne 39, 3) := by decide +kernel
theorem dX11_lostBy_31 : decode cX11_lostBy 31 = .ok (.aload_n 0, 1) := by decide +kernel
theorem dX11_lostBy_32 : decode cX11_lostBy 32 = .ok (.getfield 198, 3) := by decide +kernel
theorem dX11_lostBy_35 : decode cX11_lostBy 35 = .ok (.iload 6, 2) := by decide +kernel
theorem dX11_lostBy_37 : decode cX11_lostBy 37 = .ok (.iaload, 1) := by decide +kernel
theorem dX11_lostBy_38 : decode cX11_lostBy 38 = .ok (.iload_n 1, 1) := by decide +kernel
theorem dX11_lostBy_39 : decode cX11_lostBy 39 = .ok (.if_icmp .ne 32, 3) := by decide +kernel
theorem dX11_lostBy_42 : decode cX11_lostBy 42 = .ok (.iload 4, 2) := by decide +kernel
theorem dX11_lostBy_44 : decode cX11_lostBy 44 = .ok (.i2l, 1) := by decide +kernel
theorem dX11_lostBy_45 : decode cX11_lostBy 45 = .ok (.aload_n 0, 1) := by decide +kernel
theorem dX11_lostBy_46 : decode cX11_lostBy 46 = .ok (.getfield 201, 3) := by decide +kernel
theorem dX11_lostBy_49 : decode cX11_lostBy 49 = .ok (.iload 6, 2) := by decide +kernel
theorem dX11_lostBy_51 : decode cX11_lostBy 51 = .ok (.iaload, 1) := by decide +kernel
theorem dX11_lostBy_52 : decode cX11_lostBy 52 = .ok (.i2l, 1) := by decide +kernel
theorem dX11_lostBy_53 : decode cX11_lostBy 53 = .ok (.aload_n 0, 1) := by decide +kernel
theorem dX11_lostBy_54 : decode cX11_lostBy 54 = .ok (.getfield 204, 3) := by decide +kernel
theorem dX11_lostBy_57 : decode cX11_lostBy 57 = .ok (.iload 6, 2) := by decide +kernel
theorem dX11_lostBy_59 : decode cX11_lostBy 59 = .ok (.iaload, 1) := by decide +kernel
theorem dX11_lostBy_60 : decode cX11_lostBy 60 = .ok (.i2l, 1) := by decide +kernel
theorem dX11_lostBy_61 : decode cX11_lostBy 61 = .ok (.invokestatic 233, 3) := by decide +kernel
theorem dX11_lostBy_64 : decode cX11_lostBy 64 = .ok (.ifCond .eq 7, 3) := by decide +kernel
theorem dX11_lostBy_67 : decode cX11_lostBy 67 = .ok (.iconst 1, 1) := by decide +kernel
theorem dX11_lostBy_68 : decode cX11_lostBy 68 = .ok (.goto 4, 3) := by decide +kernel
theorem dX11_lostBy_71 : decode cX11_lostBy 71 = .ok (.iconst 0, 1) := by decide +kernel
theorem dX11_lostBy_72 : decode cX11_lostBy 72 = .ok (.istore 5, 2) := by decide +kernel
theorem dX11_lostBy_74 : decode cX11_lostBy 74 = .ok (.iinc 6 1, 3) := by decide +kernel
theorem dX11_lostBy_77 : decode cX11_lostBy 77 = .ok (.goto (-60), 3) := by decide +kernel
theorem dX11_lostBy_80 : decode cX11_lostBy 80 = .ok (.iload_n 3, 1) := by decide +kernel
theorem dX11_lostBy_81 : decode cX11_lostBy 81 = .ok (.iload 5, 2) := by decide +kernel
theorem dX11_lostBy_83 : decode cX11_lostBy 83 = .ok (.ifCond .eq 12, 3) := by decide +kernel
theorem dX11_lostBy_86 : decode cX11_lostBy 86 = .ok (.aload_n 0, 1) := by decide +kernel
theorem dX11_lostBy_87 : decode cX11_lostBy 87 = .ok (.getfield 195, 3) := by decide +kernel
theorem dX11_lostBy_90 : decode cX11_lostBy 90 = .ok (.iload_n 1, 1) := by decide +kernel
theorem dX11_lostBy_91 : decode cX11_lostBy 91 = .ok (.iaload, 1) := by decide +kernel
theorem dX11_lostBy_92 : decode cX11_lostBy 92 = .ok (.goto 4, 3) := by decide +kernel
theorem dX11_lostBy_95 : decode cX11_lostBy 95 = .ok (.iconst 0, 1) := by decide +kernel
theorem dX11_lostBy_96 : decode cX11_lostBy 96 = .ok (.iadd, 1) := by decide +kernel
theorem dX11_lostBy_97 : decode cX11_lostBy 97 = .ok (.istore_n 3, 1) := by decide +kernel
theorem dX11_lostBy_98 : decode cX11_lostBy 98 = .ok (.iinc 4 1, 3) := by decide +kernel
theorem dX11_lostBy_101 : decode cX11_lostBy 101 = .ok (.goto (-96), 3) := by decide +kernel
theorem dX11_lostBy_104 : decode cX11_lostBy 104 = .ok (.iload_n 3, 1) := by decide +kernel
theorem dX11_lostBy_105 : decode cX11_lostBy 105 = .ok (.ireturn, 1) := by decide +kernel
theorem dX11_lost_0 : decode cX11_lost 0 = .ok (.aload_n 0, 1) := by decide +kernel
theorem dX11_lost_1 : decode cX11_lost 1 = .ok (.iload_n 1, 1) := by decide +kernel
theorem dX11_lost_2 : decode cX11_lost 2 = .ok (.invokevirtual 577, 3) := by decide +kernel
theorem dX11_lost_5 : decode cX11_lost 5 = .ok (.ifCond .eq 19, 3) := by decide +kernel
theorem dX11_lost_8 : decode cX11_lost 8 = .ok (.iload_n 2, 1) := by decide +kernel
theorem dX11_lost_9 : decode cX11_lost 9 = .ok (.invokestatic 580, 3) := by decide +kernel
theorem dX11_lost_12 : decode cX11_lost 12 = .ok (.ifCond .eq 12, 3) := by decide +kernel
theorem dX11_lost_15 : decode cX11_lost 15 = .ok (.aload_n 0, 1) := by decide +kernel
theorem dX11_lost_16 : decode cX11_lost 16 = .ok (.iload_n 1, 1) := by decide +kernel
theorem dX11_lost_17 : decode cX11_lost 17 = .ok (.iload_n 2, 1) := by decide +kernel
theorem dX11_lost_18 : decode cX11_lost 18 = .ok (.invokevirtual 583, 3) := by decide +kernel
theorem dX11_lost_21 : decode cX11_lost 21 = .ok (.goto 4, 3) := by decide +kernel
theorem dX11_lost_24 : decode cX11_lost 24 = .ok (.iconst (-1), 1) := by decide +kernel
theorem dX11_lost_25 : decode cX11_lost 25 = .ok (.ireturn, 1) := by decide +kernel
theorem dX11_gaveWay_0 : decode cX11_gaveWay 0 = .ok (.aload_n 0, 1) := by decide +kernel
theorem dX11_gaveWay_1 : decode cX11_gaveWay 1 = .ok (.iload_n 1, 1) := by decide +kernel
theorem dX11_gaveWay_2 : decode cX11_gaveWay 2 = .ok (.iload_n 2, 1) := by decide +kernel
theorem dX11_gaveWay_3 : decode cX11_gaveWay 3 = .ok (.invokevirtual 583, 3) := by decide +kernel
theorem dX11_gaveWay_6 : decode cX11_gaveWay 6 = .ok (.istore_n 3, 1) := by decide +kernel
theorem dX11_gaveWay_7 : decode cX11_gaveWay 7 = .ok (.iload_n 3, 1) := by decide +kernel
theorem dX11_gaveWay_8 : decode cX11_gaveWay 8 = .ok (.ifCond .le 17, 3) := by decide +kernel
theorem dX11_gaveWay_11 : decode cX11_gaveWay 11 = .ok (.iload_n 3, 1) := by decide +kernel
theorem dX11_gaveWay_12 : decode cX11_gaveWay 12 = .ok (.aload_n 0, 1) := by decide +kernel
theorem dX11_gaveWay_13 : decode cX11_gaveWay 13 = .ok (.getfield 192, 3) := by decide +kernel
theorem dX11_gaveWay_16 : decode cX11_gaveWay 16 = .ok (.iload_n 1, 1) := by decide +kernel
theorem dX11_gaveWay_17 : decode cX11_gaveWay 17 = .ok (.iaload, 1) := by decide +kernel
theorem dX11_gaveWay_18 : decode cX11_gaveWay 18 = .ok (.if_icmp .lt 7, 3) := by decide +kernel
theorem dX11_gaveWay_21 : decode cX11_gaveWay 21 = .ok (.iconst 1, 1) := by decide +kernel
theorem dX11_gaveWay_22 : decode cX11_gaveWay 22 = .ok (.goto 4, 3) := by decide +kernel
theorem dX11_gaveWay_25 : decode cX11_gaveWay 25 = .ok (.iconst 0, 1) := by decide +kernel
theorem dX11_gaveWay_26 : decode cX11_gaveWay 26 = .ok (.ireturn, 1) := by decide +kernel
theorem dX11_yields_0 : decode cX11_yields 0 = .ok (.aload_n 0, 1) := by decide +kernel
theorem dX11_yields_1 : decode cX11_yields 1 = .ok (.iload_n 1, 1) := by decide +kernel
theorem dX11_yields_2 : decode cX11_yields 2 = .ok (.invokevirtual 577, 3) := by decide +kernel
theorem dX11_yields_5 : decode cX11_yields 5 = .ok (.ifCond .ne 5, 3) := by decide +kernel
theorem dX11_yields_8 : decode cX11_yields 8 = .ok (.iconst (-1), 1) := by decide +kernel
theorem dX11_yields_9 : decode cX11_yields 9 = .ok (.ireturn, 1) := by decide +kernel
theorem dX11_yields_10 : decode cX11_yields 10 = .ok (.iconst 0, 1) := by decide +kernel
theorem dX11_yields_11 : decode cX11_yields 11 = .ok (.istore_n 2, 1) := by decide +kernel
theorem dX11_yields_12 : decode cX11_yields 12 = .ok (.iload_n 2, 1) := by decide +kernel
theorem dX11_yields_13 : decode cX11_yields 13 = .ok (.bipush 100, 2) := by decide +kernel
theorem dX11_yields_15 : decode cX11_yields 15 = .ok (.if_icmp .ge 20, 3) := by decide +kernel
theorem dX11_yields_18 : decode cX11_yields 18 = .ok (.aload_n 0, 1) := by decide +kernel
theorem dX11_yields_19 : decode cX11_yields 19 = .ok (.iload_n 1, 1) := by decide +kernel
theorem dX11_yields_20 : decode cX11_yields 20 = .ok (.iload_n 2, 1) := by decide +kernel
theorem dX11_yields_21 : decode cX11_yields 21 = .ok (.invokevirtual 586, 3) := by decide +kernel
theorem dX11_yields_24 : decode cX11_yields 24 = .ok (.ifCond .eq 5, 3) := by decide +kernel
theorem dX11_yields_27 : decode cX11_yields 27 = .ok (.iload_n 2, 1) := by decide +kernel
theorem dX11_yields_28 : decode cX11_yields 28 = .ok (.ireturn, 1) := by decide +kernel
theorem dX11_yields_29 : decode cX11_yields 29 = .ok (.iinc 2 1, 3) := by decide +kernel
theorem dX11_yields_32 : decode cX11_yields 32 = .ok (.goto (-20), 3) := by decide +kernel
theorem dX11_yields_35 : decode cX11_yields 35 = .ok (.bipush (-2), 2) := by decide +kernel
theorem dX11_yields_37 : decode cX11_yields 37 = .ok (.ireturn, 1) := by decide +kernel
theorem dX11_sideYields_0 : decode cX11_sideYields 0 = .ok (.iload_n 1, 1) := by decide +kernel
theorem dX11_sideYields_1 : decode cX11_sideYields 1 = .ok (.invokestatic 251, 3) := by decide +kernel
theorem dX11_sideYields_4 : decode cX11_sideYields 4 = .ok (.ifCond .ne 5, 3) := by decide +kernel
theorem dX11_sideYields_7 : decode cX11_sideYields 7 = .ok (.iconst (-1), 1) := by decide +kernel
theorem dX11_sideYields_8 : decode cX11_sideYields 8 = .ok (.ireturn, 1) := by decide +kernel
theorem dX11_sideYields_9 : decode cX11_sideYields 9 = .ok (.iconst 0, 1) := by decide +kernel
theorem dX11_sideYields_10 : decode cX11_sideYields 10 = .ok (.istore_n 2, 1) := by decide +kernel
theorem dX11_sideYields_11 : decode cX11_sideYields 11 = .ok (.iload_n 2, 1) := by decide +kernel
theorem dX11_sideYields_12 : decode cX11_sideYields 12 = .ok (.bipush 100, 2) := by decide +kernel
theorem dX11_sideYields_14 : decode cX11_sideYields 14 = .ok (.if_icmp .ge 92, 3) := by decide +kernel
theorem dX11_sideYields_17 : decode cX11_sideYields 17 = .ok (.iconst 0, 1) := by decide +kernel
theorem dX11_sideYields_18 : decode cX11_sideYields 18 = .ok (.istore_n 3, 1) := by decide +kernel
theorem dX11_sideYields_19 : decode cX11_sideYields 19 = .ok (.iconst 0, 1) := by decide +kernel
theorem dX11_sideYields_20 : decode cX11_sideYields 20 = .ok (.istore 4, 2) := by decide +kernel
theorem dX11_sideYields_22 : decode cX11_sideYields 22 = .ok (.iconst 0, 1) := by decide +kernel
theorem dX11_sideYields_23 : decode cX11_sideYields 23 = .ok (.istore 5, 2) := by decide +kernel
theorem dX11_sideYields_25 : decode cX11_sideYields 25 = .ok (.iload 5, 2) := by decide +kernel
theorem dX11_sideYields_27 : decode cX11_sideYields 27 = .ok (.aload_n 0, 1) := by decide +kernel
theorem dX11_sideYields_28 : decode cX11_sideYields 28 = .ok (.getfield 567, 3) := by decide +kernel
theorem dX11_sideYields_31 : decode cX11_sideYields 31 = .ok (.if_icmp .ge 59, 3) := by decide +kernel
theorem dX11_sideYields_34 : decode cX11_sideYields 34 = .ok (.aload_n 0, 1) := by decide +kernel
theorem dX11_sideYields_35 : decode cX11_sideYields 35 = .ok (.getfield 186, 3) := by decide +kernel
theorem dX11_sideYields_38 : decode cX11_sideYields 38 = .ok (.iload 5, 2) := by decide +kernel
theorem dX11_sideYields_40 : decode cX11_sideYields 40 = .ok (.iaload, 1) := by decide +kernel
theorem dX11_sideYields_41 : decode cX11_sideYields 41 = .ok (.iload_n 1, 1) := by decide +kernel
theorem dX11_sideYields_42 : decode cX11_sideYields 42 = .ok (.if_icmp .eq 6, 3) := by decide +kernel
theorem dX11_sideYields_45 : decode cX11_sideYields 45 = .ok (.goto 39, 3) := by decide +kernel
theorem dX11_sideYields_48 : decode cX11_sideYields 48 = .ok (.iload_n 3, 1) := by decide +kernel
theorem dX11_sideYields_49 : decode cX11_sideYields 49 = .ok (.aload_n 0, 1) := by decide +kernel
theorem dX11_sideYields_50 : decode cX11_sideYields 50 = .ok (.getfield 189, 3) := by decide +kernel
theorem dX11_sideYields_53 : decode cX11_sideYields 53 = .ok (.iload 5, 2) := by decide +kernel
theorem dX11_sideYields_55 : decode cX11_sideYields 55 = .ok (.iaload, 1) := by decide +kernel
theorem dX11_sideYields_56 : decode cX11_sideYields 56 = .ok (.iadd, 1) := by decide +kernel
theorem dX11_sideYields_57 : decode cX11_sideYields 57 = .ok (.istore_n 3, 1) := by decide +kernel
theorem dX11_sideYields_58 : decode cX11_sideYields 58 = .ok (.iload 4, 2) := by decide +kernel
theorem dX11_sideYields_60 : decode cX11_sideYields 60 = .ok (.aload_n 0, 1) := by decide +kernel
theorem dX11_sideYields_61 : decode cX11_sideYields 61 = .ok (.iload 5, 2) := by decide +kernel
theorem dX11_sideYields_63 : decode cX11_sideYields 63 = .ok (.iload_n 2, 1) := by decide +kernel
theorem dX11_sideYields_64 : decode cX11_sideYields 64 = .ok (.invokevirtual 586, 3) := by decide +kernel
theorem dX11_sideYields_67 : decode cX11_sideYields 67 = .ok (.ifCond .eq 13, 3) := by decide +kernel
theorem dX11_sideYields_70 : decode cX11_sideYields 70 = .ok (.aload_n 0, 1) := by decide +kernel
theorem dX11_sideYields_71 : decode cX11_sideYields 71 = .ok (.getfield 189, 3) := by decide +kernel
theorem dX11_sideYields_74 : decode cX11_sideYields 74 = .ok (.iload 5, 2) := by decide +kernel
theorem dX11_sideYields_76 : decode cX11_sideYields 76 = .ok (.iaload, 1) := by decide +kernel
theorem dX11_sideYields_77 : decode cX11_sideYields 77 = .ok (.goto 4, 3) := by decide +kernel
theorem dX11_sideYields_80 : decode cX11_sideYields 80 = .ok (.iconst 0, 1) := by decide +kernel
theorem dX11_sideYields_81 : decode cX11_sideYields 81 = .ok (.iadd, 1) := by decide +kernel
theorem dX11_sideYields_82 : decode cX11_sideYields 82 = .ok (.istore 4, 2) := by decide +kernel
theorem dX11_sideYields_84 : decode cX11_sideYields 84 = .ok (.iinc 5 1, 3) := by decide +kernel
theorem dX11_sideYields_87 : decode cX11_sideYields 87 = .ok (.goto (-62), 3) := by decide +kernel
theorem dX11_sideYields_90 : decode cX11_sideYields 90 = .ok (.iconst 2, 1) := by decide +kernel
theorem dX11_sideYields_91 : decode cX11_sideYields 91 = .ok (.iload 4, 2) := by decide +kernel
theorem dX11_sideYields_93 : decode cX11_sideYields 93 = .ok (.imul, 1) := by decide +kernel
theorem dX11_sideYields_94 : decode cX11_sideYields 94 = .ok (.iload_n 3, 1) := by decide +kernel
theorem dX11_sideYields_95 : decode cX11_sideYields 95 = .ok (.if_icmp .le 5, 3) := by decide +kernel
theorem dX11_sideYields_98 : decode cX11_sideYields 98 = .ok (.iload_n 2, 1) := by decide +kernel
theorem dX11_sideYields_99 : decode cX11_sideYields 99 = .ok (.ireturn, 1) := by decide +kernel
theorem dX11_sideYields_100 : decode cX11_sideYields 100 = .ok (.iinc 2 1, 3) := by decide +kernel
theorem dX11_sideYields_103 : decode cX11_sideYields 103 = .ok (.goto (-92), 3) := by decide +kernel
theorem dX11_sideYields_106 : decode cX11_sideYields 106 = .ok (.bipush (-2), 2) := by decide +kernel
theorem dX11_sideYields_108 : decode cX11_sideYields 108 = .ok (.ireturn, 1) := by decide +kernel
theorem dX11_term_0 : decode cX11_term 0 = .ok (.aload_n 0, 1) := by decide +kernel
theorem dX11_term_1 : decode cX11_term 1 = .ok (.getfield 589, 3) := by decide +kernel
theorem dX11_term_4 : decode cX11_term 4 = .ok (.bipush 9, 2) := by decide +kernel
theorem dX11_term_6 : decode cX11_term 6 = .ok (.if_icmp .eq 31, 3) := by decide +kernel
theorem dX11_term_9 : decode cX11_term 9 = .ok (.iload_n 1, 1) := by decide +kernel
theorem dX11_term_10 : decode cX11_term 10 = .ok (.i2l, 1) := by decide +kernel
theorem dX11_term_11 : decode cX11_term 11 = .ok (.ldc2_w 592, 3) := by decide +kernel
theorem dX11_term_14 : decode cX11_term 14 = .ok (.ldc2_w 570, 3) := by decide +kernel
theorem dX11_term_17 : decode cX11_term 17 = .ok (.invokestatic 233, 3) := by decide +kernel
theorem dX11_term_20 : decode cX11_term 20 = .ok (.ifCond .eq 17, 3) := by decide +kernel
theorem dX11_term_23 : decode cX11_term 23 = .ok (.iload_n 2, 1) := by decide +kernel
theorem dX11_term_24 : decode cX11_term 24 = .ok (.i2l, 1) := by decide +kernel
theorem dX11_term_25 : decode cX11_term 25 = .ok (.ldc2_w 592, 3) := by decide +kernel
theorem dX11_term_28 : decode cX11_term 28 = .ok (.ldc2_w 570, 3) := by decide +kernel
theorem dX11_term_31 : decode cX11_term 31 = .ok (.invokestatic 233, 3) := by decide +kernel
theorem dX11_term_34 : decode cX11_term 34 = .ok (.ifCond .ne 5, 3) := by decide +kernel
theorem dX11_term_37 : decode cX11_term 37 = .ok (.iconst (-1), 1) := by decide +kernel
theorem dX11_term_38 : decode cX11_term 38 = .ok (.ireturn, 1) := by decide +kernel
theorem dX11_term_39 : decode cX11_term 39 = .ok (.aload_n 0, 1) := by decide +kernel
theorem dX11_term_40 : decode cX11_term 40 = .ok (.getfield 207, 3) := by decide +kernel
theorem dX11_term_43 : decode cX11_term 43 = .ok (.aload_n 0, 1) := by decide +kernel
theorem dX11_term_44 : decode cX11_term 44 = .ok (.getfield 589, 3) := by decide +kernel
theorem dX11_term_47 : decode cX11_term 47 = .ok (.iload_n 1, 1) := by decide +kernel
theorem dX11_term_48 : decode cX11_term 48 = .ok (.iastore, 1) := by decide +kernel
theorem dX11_term_49 : decode cX11_term 49 = .ok (.aload_n 0, 1) := by decide +kernel
theorem dX11_term_50 : decode cX11_term 50 = .ok (.getfield 210, 3) := by decide +kernel
theorem dX11_term_53 : decode cX11_term 53 = .ok (.aload_n 0, 1) := by decide +kernel
theorem dX11_term_54 : decode cX11_term 54 = .ok (.getfield 589, 3) := by decide +kernel
theorem dX11_term_57 : decode cX11_term 57 = .ok (.iload_n 2, 1) := by decide +kernel
theorem dX11_term_58 : decode cX11_term 58 = .ok (.iastore, 1) := by decide +kernel
theorem dX11_term_59 : decode cX11_term 59 = .ok (.aload_n 0, 1) := by decide +kernel
theorem dX11_term_60 : decode cX11_term 60 = .ok (.dup, 1) := by decide +kernel
theorem dX11_term_61 : decode cX11_term 61 = .ok (.getfield 589, 3) := by decide +kernel
theorem dX11_term_64 : decode cX11_term 64 = .ok (.iconst 1, 1) := by decide +kernel
theorem dX11_term_65 : decode cX11_term 65 = .ok (.iadd, 1) := by decide +kernel
theorem dX11_term_66 : decode cX11_term 66 = .ok (.putfield 589, 3) := by decide +kernel
theorem dX11_term_69 : decode cX11_term 69 = .ok (.aload_n 0, 1) := by decide +kernel
theorem dX11_term_70 : decode cX11_term 70 = .ok (.getfield 589, 3) := by decide +kernel
theorem dX11_term_73 : decode cX11_term 73 = .ok (.iconst 1, 1) := by decide +kernel
theorem dX11_term_74 : decode cX11_term 74 = .ok (.isub, 1) := by decide +kernel
theorem dX11_term_75 : decode cX11_term 75 = .ok (.ireturn, 1) := by decide +kernel
theorem dX11_sign_0 : decode cX11_sign 0 = .ok (.iload_n 1, 1) := by decide +kernel
theorem dX11_sign_1 : decode cX11_sign 1 = .ok (.i2l, 1) := by decide +kernel
theorem dX11_sign_2 : decode cX11_sign 2 = .ok (.ldc2_w 594, 3) := by decide +kernel
theorem dX11_sign_5 : decode cX11_sign 5 = .ok (.ldc2_w 572, 3) := by decide +kernel
theorem dX11_sign_8 : decode cX11_sign 8 = .ok (.invokestatic 233, 3) := by decide +kernel
theorem dX11_sign_11 : decode cX11_sign 11 = .ok (.ifCond .eq 17, 3) := by decide +kernel
theorem dX11_sign_14 : decode cX11_sign 14 = .ok (.iload_n 2, 1) := by decide +kernel
theorem dX11_sign_15 : decode cX11_sign 15 = .ok (.i2l, 1) := by decide +kernel
theorem dX11_sign_16 : decode cX11_sign 16 = .ok (.ldc2_w 594, 3) := by decide +kernel
theorem dX11_sign_19 : decode cX11_sign 19 = .ok (.ldc2_w 572, 3) := by decide +kernel
theorem dX11_sign_22 : decode cX11_sign 22 = .ok (.invokestatic 233, 3) := by decide +kernel
theorem dX11_sign_25 : decode cX11_sign 25 = .ok (.ifCond .ne 5, 3) := by decide +kernel
theorem dX11_sign_28 : decode cX11_sign 28 = .ok (.iconst (-1), 1) := by decide +kernel
theorem dX11_sign_29 : decode cX11_sign 29 = .ok (.ireturn, 1) := by decide +kernel
theorem dX11_sign_30 : decode cX11_sign 30 = .ok (.bipush (-2), 2) := by decide +kernel
theorem dX11_sign_32 : decode cX11_sign 32 = .ok (.istore_n 3, 1) := by decide +kernel
theorem dX11_sign_33 : decode cX11_sign 33 = .ok (.iconst 0, 1) := by decide +kernel
theorem dX11_sign_34 : decode cX11_sign 34 = .ok (.istore 4, 2) := by decide +kernel
theorem dX11_sign_36 : decode cX11_sign 36 = .ok (.iconst 0, 1) := by decide +kernel
theorem dX11_sign_37 : decode cX11_sign 37 = .ok (.istore 5, 2) := by decide +kernel
theorem dX11_sign_39 : decode cX11_sign 39 = .ok (.iconst 0, 1) := by decide +kernel
theorem dX11_sign_40 : decode cX11_sign 40 = .ok (.istore 6, 2) := by decide +kernel
theorem dX11_sign_42 : decode cX11_sign 42 = .ok (.iload 6, 2) := by decide +kernel
theorem dX11_sign_44 : decode cX11_sign 44 = .ok (.iconst 1, 1) := by decide +kernel
theorem dX11_sign_45 : decode cX11_sign 45 = .ok (.aload_n 0, 1) := by decide +kernel
theorem dX11_sign_46 : decode cX11_sign 46 = .ok (.getfield 589, 3) := by decide +kernel
theorem dX11_sign_49 : decode cX11_sign 49 = .ok (.ishl, 1) := by decide +kernel
theorem dX11_sign_50 : decode cX11_sign 50 = .ok (.if_icmp .ge 137, 3) := by decide +kernel
theorem dX11_sign_53 : decode cX11_sign 53 = .ok (.iconst 0, 1) := by decide +kernel
theorem dX11_sign_54 : decode cX11_sign 54 = .ok (.istore 7, 2) := by decide +kernel
theorem dX11_sign_56 : decode cX11_sign 56 = .ok (.iconst 0, 1) := by decide +kernel
theorem dX11_sign_57 : decode cX11_sign 57 = .ok (.istore 8, 2) := by decide +kernel
theorem dX11_sign_59 : decode cX11_sign 59 = .ok (.iconst 0, 1) := by decide +kernel
theorem dX11_sign_60 : decode cX11_sign 60 = .ok (.istore 9, 2) := by decide +kernel
theorem dX11_sign_62 : decode cX11_sign 62 = .ok (.iconst 0, 1) := by decide +kernel
theorem dX11_sign_63 : decode cX11_sign 63 = .ok (.istore 10, 2) := by decide +kernel
theorem dX11_sign_65 : decode cX11_sign 65 = .ok (.iload 10, 2) := by decide +kernel
theorem dX11_sign_67 : decode cX11_sign 67 = .ok (.aload_n 0, 1) := by decide +kernel
theorem dX11_sign_68 : decode cX11_sign 68 = .ok (.getfield 589, 3) := by decide +kernel
theorem dX11_sign_71 : decode cX11_sign 71 = .ok (.if_icmp .ge 49, 3) := by decide +kernel
theorem dX11_sign_74 : decode cX11_sign 74 = .ok (.iload 6, 2) := by decide +kernel
theorem dX11_sign_76 : decode cX11_sign 76 = .ok (.iload 10, 2) := by decide +kernel
theorem dX11_sign_78 : decode cX11_sign 78 = .ok (.ishr, 1) := by decide +kernel
theorem dX11_sign_79 : decode cX11_sign 79 = .ok (.iconst 1, 1) := by decide +kernel
theorem dX11_sign_80 : decode cX11_sign 80 = .ok (.iand, 1) := by decide +kernel
theorem dX11_sign_81 : decode cX11_sign 81 = .ok (.ifCond .ne 6, 3) := by decide +kernel
theorem dX11_sign_84 : decode cX11_sign 84 = .ok (.goto 30, 3) := by decide +kernel
theorem dX11_sign_87 : decode cX11_sign 87 = .ok (.iinc 7 1, 3) := by decide +kernel
theorem dX11_sign_90 : decode cX11_sign 90 = .ok (.iload 8, 2) := by decide +kernel
theorem dX11_sign_92 : decode cX11_sign 92 = .ok (.aload_n 0, 1) := by decide +kernel
theorem dX11_sign_93 : decode cX11_sign 93 = .ok (.getfield 207, 3) := by decide +kernel
theorem dX11_sign_96 : decode cX11_sign 96 = .ok (.iload 10, 2) := by decide +kernel
theorem dX11_sign_98 : decode cX11_sign 98 = .ok (.iaload, 1) := by decide +kernel
theorem dX11_sign_99 : decode cX11_sign 99 = .ok (.iadd, 1) := by decide +kernel
theorem dX11_sign_100 : decode cX11_sign 100 = .ok (.istore 8, 2) := by decide +kernel
theorem dX11_sign_102 : decode cX11_sign 102 = .ok (.iload 9, 2) := by decide +kernel
theorem dX11_sign_104 : decode cX11_sign 104 = .ok (.aload_n 0, 1) := by decide +kernel
theorem dX11_sign_105 : decode cX11_sign 105 = .ok (.getfield 210, 3) := by decide +kernel
theorem dX11_sign_108 : decode cX11_sign 108 = .ok (.iload 10, 2) := by decide +kernel
theorem dX11_sign_110 : decode cX11_sign 110 = .ok (.iaload, 1) := by decide +kernel
theorem dX11_sign_111 : decode cX11_sign 111 = .ok (.iadd, 1) := by decide +kernel
theorem dX11_sign_112 : decode cX11_sign 112 = .ok (.istore 9, 2) := by decide +kernel
theorem dX11_sign_114 : decode cX11_sign 114 = .ok (.iinc 10 1, 3) := by decide +kernel
theorem dX11_sign_117 : decode cX11_sign 117 = .ok (.goto (-52), 3) := by decide +kernel
theorem dX11_sign_120 : decode cX11_sign 120 = .ok (.iload 8, 2) := by decide +kernel
theorem dX11_sign_122 : decode cX11_sign 122 = .ok (.iload 9, 2) := by decide +kernel
theorem dX11_sign_124 : decode cX11_sign 124 = .ok (.isub, 1) := by decide +kernel
theorem dX11_sign_125 : decode cX11_sign 125 = .ok (.invokestatic 274, 3) := by decide +kernel
theorem dX11_sign_128 : decode cX11_sign 128 = .ok (.istore 10, 2) := by decide +kernel
theorem dX11_sign_130 : decode cX11_sign 130 = .ok (.iload 8, 2) := by decide +kernel
theorem dX11_sign_132 : decode cX11_sign 132 = .ok (.iload_n 1, 1) := by decide +kernel
theorem dX11_sign_133 : decode cX11_sign 133 = .ok (.if_icmp .lt 48, 3) := by decide +kernel
theorem dX11_sign_136 : decode cX11_sign 136 = .ok (.iload 9, 2) := by decide +kernel
theorem dX11_sign_138 : decode cX11_sign 138 = .ok (.iload_n 2, 1) := by decide +kernel
theorem dX11_sign_139 : decode cX11_sign 139 = .ok (.if_icmp .lt 42, 3) := by decide +kernel
theorem dX11_sign_142 : decode cX11_sign 142 = .ok (.iload_n 3, 1) := by decide +kernel
theorem dX11_sign_143 : decode cX11_sign 143 = .ok (.ifCond .lt 27, 3) := by decide +kernel
theorem dX11_sign_146 : decode cX11_sign 146 = .ok (.iload 7, 2) := by decide +kernel
theorem dX11_sign_148 : decode cX11_sign 148 = .ok (.iload 4, 2) := by decide +kernel
theorem dX11_sign_150 : decode cX11_sign 150 = .ok (.if_icmp .gt 31, 3) := by decide +kernel
theorem dX11_sign_153 : decode cX11_sign 153 = .ok (.iload 7, 2) := by decide +kernel
theorem dX11_sign_155 : decode cX11_sign 155 = .ok (.iload 4, 2) := by decide +kernel
theorem dX11_sign_157 : decode cX11_sign 157 = .ok (.if_icmp .ne 13, 3) := by decide +kernel
theorem dX11_sign_160 : decode cX11_sign 160 = .ok (.iload 10, 2) := by decide +kernel
theorem dX11_sign_162 : decode cX11_sign 162 = .ok (.iload 5, 2) := by decide +kernel
theorem dX11_sign_164 : decode cX11_sign 164 = .ok (.if_icmp .lt 6, 3) := by decide +kernel
theorem dX11_sign_167 : decode cX11_sign 167 = .ok (.goto 14, 3) := by decide +kernel
theorem dX11_sign_170 : decode cX11_sign 170 = .ok (.iload 6, 2) := by decide +kernel
theorem dX11_sign_172 : decode cX11_sign 172 = .ok (.istore_n 3, 1) := by decide +kernel
theorem dX11_sign_173 : decode cX11_sign 173 = .ok (.iload 7, 2) := by decide +kernel
theorem dX11_sign_175 : decode cX11_sign 175 = .ok (.istore 4, 2) := by decide +kernel
theorem dX11_sign_177 : decode cX11_sign 177 = .ok (.iload 10, 2) := by decide +kernel
theorem dX11_sign_179 : decode cX11_sign 179 = .ok (.istore 5, 2) := by decide +kernel
theorem dX11_sign_181 : decode cX11_sign 181 = .ok (.iinc 6 1, 3) := by decide +kernel
theorem dX11_sign_184 : decode cX11_sign 184 = .ok (.goto (-142), 3) := by decide +kernel
theorem dX11_sign_187 : decode cX11_sign 187 = .ok (.iload_n 3, 1) := by decide +kernel
theorem dX11_sign_188 : decode cX11_sign 188 = .ok (.ireturn, 1) := by decide +kernel
theorem dX11_box_0 : decode cX11_box 0 = .ok (.aload_n 0, 1) := by decide +kernel
theorem dX11_box_1 : decode cX11_box 1 = .ok (.getfield 596, 3) := by decide +kernel
theorem dX11_box_4 : decode cX11_box 4 = .ok (.bipush 6, 2) := by decide +kernel
theorem dX11_box_6 : decode cX11_box 6 = .ok (.if_icmp .eq 39, 3) := by decide +kernel
theorem dX11_box_9 : decode cX11_box 9 = .ok (.iload_n 1, 1) := by decide +kernel
theorem dX11_box_10 : decode cX11_box 10 = .ok (.i2l, 1) := by decide +kernel
theorem dX11_box_11 : decode cX11_box 11 = .ok (.lconst 0, 1) := by decide +kernel
theorem dX11_box_12 : decode cX11_box 12 = .ok (.ldc2_w 570, 3) := by decide +kernel
theorem dX11_box_15 : decode cX11_box 15 = .ok (.invokestatic 233, 3) := by decide +kernel
theorem dX11_box_18 : decode cX11_box 18 = .ok (.ifCond .eq 27, 3) := by decide +kernel
theorem dX11_box_21 : decode cX11_box 21 = .ok (.iload_n 2, 1) := by decide +kernel
theorem dX11_box_22 : decode cX11_box 22 = .ok (.i2l, 1) := by decide +kernel
theorem dX11_box_23 : decode cX11_box 23 = .ok (.lconst 0, 1) := by decide +kernel
theorem dX11_box_24 : decode cX11_box 24 = .ok (.ldc2_w 246, 3) := by decide +kernel
theorem dX11_box_27 : decode cX11_box 27 = .ok (.invokestatic 233, 3) := by decide +kernel
theorem dX11_box_30 : decode cX11_box 30 = .ok (.ifCond .eq 15, 3) := by decide +kernel
theorem dX11_box_33 : decode cX11_box 33 = .ok (.iload_n 3, 1) := by decide +kernel
theorem dX11_box_34 : decode cX11_box 34 = .ok (.i2l, 1) := by decide +kernel
theorem dX11_box_35 : decode cX11_box 35 = .ok (.lconst 0, 1) := by decide +kernel
theorem dX11_box_36 : decode cX11_box 36 = .ok (.ldc2_w 599, 3) := by decide +kernel
theorem dX11_box_39 : decode cX11_box 39 = .ok (.invokestatic 233, 3) := by decide +kernel
theorem dX11_box_42 : decode cX11_box 42 = .ok (.ifCond .ne 5, 3) := by decide +kernel
theorem dX11_box_45 : decode cX11_box 45 = .ok (.iconst (-1), 1) := by decide +kernel
theorem dX11_box_46 : decode cX11_box 46 = .ok (.ireturn, 1) := by decide +kernel
theorem dX11_box_47 : decode cX11_box 47 = .ok (.aload_n 0, 1) := by decide +kernel
theorem dX11_box_48 : decode cX11_box 48 = .ok (.getfield 213, 3) := by decide +kernel
theorem dX11_box_51 : decode cX11_box 51 = .ok (.aload_n 0, 1) := by decide +kernel
theorem dX11_box_52 : decode cX11_box 52 = .ok (.getfield 596, 3) := by decide +kernel
theorem dX11_box_55 : decode cX11_box 55 = .ok (.iload_n 1, 1) := by decide +kernel
theorem dX11_box_56 : decode cX11_box 56 = .ok (.iastore, 1) := by decide +kernel
theorem dX11_box_57 : decode cX11_box 57 = .ok (.aload_n 0, 1) := by decide +kernel
theorem dX11_box_58 : decode cX11_box 58 = .ok (.getfield 216, 3) := by decide +kernel
theorem dX11_box_61 : decode cX11_box 61 = .ok (.aload_n 0, 1) := by decide +kernel
theorem dX11_box_62 : decode cX11_box 62 = .ok (.getfield 596, 3) := by decide +kernel
theorem dX11_box_65 : decode cX11_box 65 = .ok (.iload_n 2, 1) := by decide +kernel
theorem dX11_box_66 : decode cX11_box 66 = .ok (.iastore, 1) := by decide +kernel
theorem dX11_box_67 : decode cX11_box 67 = .ok (.aload_n 0, 1) := by decide +kernel
theorem dX11_box_68 : decode cX11_box 68 = .ok (.getfield 219, 3) := by decide +kernel
theorem dX11_box_71 : decode cX11_box 71 = .ok (.aload_n 0, 1) := by decide +kernel
theorem dX11_box_72 : decode cX11_box 72 = .ok (.getfield 596, 3) := by decide +kernel
theorem dX11_box_75 : decode cX11_box 75 = .ok (.iload_n 3, 1) := by decide +kernel
theorem dX11_box_76 : decode cX11_box 76 = .ok (.iastore, 1) := by decide +kernel
theorem dX11_box_77 : decode cX11_box 77 = .ok (.aload_n 0, 1) := by decide +kernel
theorem dX11_box_78 : decode cX11_box 78 = .ok (.dup, 1) := by decide +kernel
theorem dX11_box_79 : decode cX11_box 79 = .ok (.getfield 596, 3) := by decide +kernel
theorem dX11_box_82 : decode cX11_box 82 = .ok (.iconst 1, 1) := by decide +kernel
theorem dX11_box_83 : decode cX11_box 83 = .ok (.iadd, 1) := by decide +kernel
theorem dX11_box_84 : decode cX11_box 84 = .ok (.putfield 596, 3) := by decide +kernel
theorem dX11_box_87 : decode cX11_box 87 = .ok (.aload_n 0, 1) := by decide +kernel
theorem dX11_box_88 : decode cX11_box 88 = .ok (.getfield 596, 3) := by decide +kernel
theorem dX11_box_91 : decode cX11_box 91 = .ok (.iconst 1, 1) := by decide +kernel
theorem dX11_box_92 : decode cX11_box 92 = .ok (.isub, 1) := by decide +kernel
theorem dX11_box_93 : decode cX11_box 93 = .ok (.ireturn, 1) := by decide +kernel
theorem dX11_cut_0 : decode cX11_cut 0 = .ok (.iload_n 2, 1) := by decide +kernel
theorem dX11_cut_1 : decode cX11_cut 1 = .ok (.aload_n 0, 1) := by decide +kernel
theorem dX11_cut_2 : decode cX11_cut 2 = .ok (.getfield 219, 3) := by decide +kernel
theorem dX11_cut_5 : decode cX11_cut 5 = .ok (.iload_n 1, 1) := by decide +kernel
theorem dX11_cut_6 : decode cX11_cut 6 = .ok (.iaload, 1) := by decide +kernel
theorem dX11_cut_7 : decode cX11_cut 7 = .ok (.imul, 1) := by decide +kernel
theorem dX11_cut_8 : decode cX11_cut 8 = .ok (.bipush 10, 2) := by decide +kernel
theorem dX11_cut_10 : decode cX11_cut 10 = .ok (.iload_n 3, 1) := by decide +kernel
theorem dX11_cut_11 : decode cX11_cut 11 = .ok (.imul, 1) := by decide +kernel
theorem dX11_cut_12 : decode cX11_cut 12 = .ok (.isub, 1) := by decide +kernel
theorem dX11_cut_13 : decode cX11_cut 13 = .ok (.istore 4, 2) := by decide +kernel
theorem dX11_cut_15 : decode cX11_cut 15 = .ok (.iload 4, 2) := by decide +kernel
theorem dX11_cut_17 : decode cX11_cut 17 = .ok (.ifCond .ge 7, 3) := by decide +kernel
theorem dX11_cut_20 : decode cX11_cut 20 = .ok (.iconst 0, 1) := by decide +kernel
theorem dX11_cut_21 : decode cX11_cut 21 = .ok (.goto 5, 3) := by decide +kernel
theorem dX11_cut_24 : decode cX11_cut 24 = .ok (.iload 4, 2) := by decide +kernel
theorem dX11_cut_26 : decode cX11_cut 26 = .ok (.ireturn, 1) := by decide +kernel
theorem dX11_caughtIn_0 : decode cX11_caughtIn 0 = .ok (.iload_n 2, 1) := by decide +kernel
theorem dX11_caughtIn_1 : decode cX11_caughtIn 1 = .ok (.aload_n 0, 1) := by decide +kernel
theorem dX11_caughtIn_2 : decode cX11_caughtIn 2 = .ok (.getfield 213, 3) := by decide +kernel
theorem dX11_caughtIn_5 : decode cX11_caughtIn 5 = .ok (.iload_n 1, 1) := by decide +kernel
theorem dX11_caughtIn_6 : decode cX11_caughtIn 6 = .ok (.iaload, 1) := by decide +kernel
theorem dX11_caughtIn_7 : decode cX11_caughtIn 7 = .ok (.imul, 1) := by decide +kernel
theorem dX11_caughtIn_8 : decode cX11_caughtIn 8 = .ok (.iload_n 2, 1) := by decide +kernel
theorem dX11_caughtIn_9 : decode cX11_caughtIn 9 = .ok (.iload_n 2, 1) := by decide +kernel
theorem dX11_caughtIn_10 : decode cX11_caughtIn 10 = .ok (.iconst 1, 1) := by decide +kernel
theorem dX11_caughtIn_11 : decode cX11_caughtIn 11 = .ok (.isub, 1) := by decide +kernel
theorem dX11_caughtIn_12 : decode cX11_caughtIn 12 = .ok (.imul, 1) := by decide +kernel
theorem dX11_caughtIn_13 : decode cX11_caughtIn 13 = .ok (.aload_n 0, 1) := by decide +kernel
theorem dX11_caughtIn_14 : decode cX11_caughtIn 14 = .ok (.getfield 216, 3) := by decide +kernel
theorem dX11_caughtIn_17 : decode cX11_caughtIn 17 = .ok (.iload_n 1, 1) := by decide +kernel
theorem dX11_caughtIn_18 : decode cX11_caughtIn 18 = .ok (.iaload, 1) := by decide +kernel
theorem dX11_caughtIn_19 : decode cX11_caughtIn 19 = .ok (.imul, 1) := by decide +kernel
theorem dX11_caughtIn_20 : decode cX11_caughtIn 20 = .ok (.isub, 1) := by decide +kernel
theorem dX11_caughtIn_21 : decode cX11_caughtIn 21 = .ok (.ireturn, 1) := by decide +kernel
theorem dX11_place_0 : decode cX11_place 0 = .ok (.bipush 91, 2) := by decide +kernel
theorem dX11_place_2 : decode cX11_place 2 = .ok (.iload_n 0, 1) := by decide +kernel
theorem dX11_place_3 : decode cX11_place 3 = .ok (.imul, 1) := by decide +kernel
theorem dX11_place_4 : decode cX11_place 4 = .ok (.bipush 7, 2) := by decide +kernel
theorem dX11_place_6 : decode cX11_place 6 = .ok (.iload_n 1, 1) := by decide +kernel
theorem dX11_place_7 : decode cX11_place 7 = .ok (.imul, 1) := by decide +kernel
theorem dX11_place_8 : decode cX11_place 8 = .ok (.iadd, 1) := by decide +kernel
theorem dX11_place_9 : decode cX11_place 9 = .ok (.iload_n 2, 1) := by decide +kernel
theorem dX11_place_10 : decode cX11_place 10 = .ok (.iadd, 1) := by decide +kernel
theorem dX11_place_11 : decode cX11_place 11 = .ok (.ireturn, 1) := by decide +kernel
theorem dX11_worth_0 : decode cX11_worth 0 = .ok (.ldc2_w 601, 3) := by decide +kernel
theorem dX11_worth_3 : decode cX11_worth 3 = .ok (.aload_n 0, 1) := by decide +kernel
theorem dX11_worth_4 : decode cX11_worth 4 = .ok (.iload_n 1, 1) := by decide +kernel
theorem dX11_worth_5 : decode cX11_worth 5 = .ok (.iload_n 2, 1) := by decide +kernel
theorem dX11_worth_6 : decode cX11_worth 6 = .ok (.iload_n 3, 1) := by decide +kernel
theorem dX11_worth_7 : decode cX11_worth 7 = .ok (.invokevirtual 603, 3) := by decide +kernel
theorem dX11_worth_10 : decode cX11_worth 10 = .ok (.i2l, 1) := by decide +kernel
theorem dX11_worth_11 : decode cX11_worth 11 = .ok (.lmul, 1) := by decide +kernel
theorem dX11_worth_12 : decode cX11_worth 12 = .ok (.aload_n 0, 1) := by decide +kernel
theorem dX11_worth_13 : decode cX11_worth 13 = .ok (.iload_n 1, 1) := by decide +kernel
theorem dX11_worth_14 : decode cX11_worth 14 = .ok (.iload_n 2, 1) := by decide +kernel
theorem dX11_worth_15 : decode cX11_worth 15 = .ok (.invokevirtual 606, 3) := by decide +kernel
theorem dX11_worth_18 : decode cX11_worth 18 = .ok (.i2l, 1) := by decide +kernel
theorem dX11_worth_19 : decode cX11_worth 19 = .ok (.lsub, 1) := by decide +kernel
theorem dX11_worth_20 : decode cX11_worth 20 = .ok (.lreturn, 1) := by decide +kernel
theorem dX11_bestFrom_0 : decode cX11_bestFrom 0 = .ok (.ldc2_w 609, 3) := by decide +kernel
theorem dX11_bestFrom_3 : decode cX11_bestFrom 3 = .ok (.lstore 4, 2) := by decide +kernel
theorem dX11_bestFrom_5 : decode cX11_bestFrom 5 = .ok (.iconst 0, 1) := by decide +kernel
theorem dX11_bestFrom_6 : decode cX11_bestFrom 6 = .ok (.istore 6, 2) := by decide +kernel
theorem dX11_bestFrom_8 : decode cX11_bestFrom 8 = .ok (.iload 6, 2) := by decide +kernel
theorem dX11_bestFrom_10 : decode cX11_bestFrom 10 = .ok (.iload_n 2, 1) := by decide +kernel
theorem dX11_bestFrom_11 : decode cX11_bestFrom 11 = .ok (.if_icmp .gt 86, 3) := by decide +kernel
theorem dX11_bestFrom_14 : decode cX11_bestFrom 14 = .ok (.iconst 0, 1) := by decide +kernel
theorem dX11_bestFrom_15 : decode cX11_bestFrom 15 = .ok (.istore 7, 2) := by decide +kernel
theorem dX11_bestFrom_17 : decode cX11_bestFrom 17 = .ok (.iload 7, 2) := by decide +kernel
theorem dX11_bestFrom_19 : decode cX11_bestFrom 19 = .ok (.iload_n 3, 1) := by decide +kernel
theorem dX11_bestFrom_20 : decode cX11_bestFrom 20 = .ok (.if_icmp .gt 71, 3) := by decide +kernel
theorem dX11_bestFrom_23 : decode cX11_bestFrom 23 = .ok (.aload_n 0, 1) := by decide +kernel
theorem dX11_bestFrom_24 : decode cX11_bestFrom 24 = .ok (.getfield 222, 3) := by decide +kernel
theorem dX11_bestFrom_27 : decode cX11_bestFrom 27 = .ok (.iload_n 1, 1) := by decide +kernel
theorem dX11_bestFrom_28 : decode cX11_bestFrom 28 = .ok (.iconst 1, 1) := by decide +kernel
theorem dX11_bestFrom_29 : decode cX11_bestFrom 29 = .ok (.iadd, 1) := by decide +kernel
theorem dX11_bestFrom_30 : decode cX11_bestFrom 30 = .ok (.iload_n 2, 1) := by decide +kernel
theorem dX11_bestFrom_31 : decode cX11_bestFrom 31 = .ok (.iload 6, 2) := by decide +kernel
theorem dX11_bestFrom_33 : decode cX11_bestFrom 33 = .ok (.isub, 1) := by decide +kernel
theorem dX11_bestFrom_34 : decode cX11_bestFrom 34 = .ok (.iload_n 3, 1) := by decide +kernel
theorem dX11_bestFrom_35 : decode cX11_bestFrom 35 = .ok (.iload 7, 2) := by decide +kernel
theorem dX11_bestFrom_37 : decode cX11_bestFrom 37 = .ok (.isub, 1) := by decide +kernel
theorem dX11_bestFrom_38 : decode cX11_bestFrom 38 = .ok (.invokestatic 611, 3) := by decide +kernel
theorem dX11_bestFrom_41 : decode cX11_bestFrom 41 = .ok (.laload, 1) := by decide +kernel
theorem dX11_bestFrom_42 : decode cX11_bestFrom 42 = .ok (.lstore 8, 2) := by decide +kernel
theorem dX11_bestFrom_44 : decode cX11_bestFrom 44 = .ok (.lload 8, 2) := by decide +kernel
theorem dX11_bestFrom_46 : decode cX11_bestFrom 46 = .ok (.ldc2_w 609, 3) := by decide +kernel
theorem dX11_bestFrom_49 : decode cX11_bestFrom 49 = .ok (.lcmp, 1) := by decide +kernel
theorem dX11_bestFrom_50 : decode cX11_bestFrom 50 = .ok (.ifCond .ge 35, 3) := by decide +kernel
theorem dX11_bestFrom_53 : decode cX11_bestFrom 53 = .ok (.aload_n 0, 1) := by decide +kernel
theorem dX11_bestFrom_54 : decode cX11_bestFrom 54 = .ok (.iload_n 1, 1) := by decide +kernel
theorem dX11_bestFrom_55 : decode cX11_bestFrom 55 = .ok (.iload 6, 2) := by decide +kernel
theorem dX11_bestFrom_57 : decode cX11_bestFrom 57 = .ok (.iload 7, 2) := by decide +kernel
theorem dX11_bestFrom_59 : decode cX11_bestFrom 59 = .ok (.invokevirtual 614, 3) := by decide +kernel
theorem dX11_bestFrom_62 : decode cX11_bestFrom 62 = .ok (.lload 8, 2) := by decide +kernel
theorem dX11_bestFrom_64 : decode cX11_bestFrom 64 = .ok (.ladd, 1) := by decide +kernel
theorem dX11_bestFrom_65 : decode cX11_bestFrom 65 = .ok (.lload 4, 2) := by decide +kernel
theorem dX11_bestFrom_67 : decode cX11_bestFrom 67 = .ok (.lcmp, 1) := by decide +kernel
theorem dX11_bestFrom_68 : decode cX11_bestFrom 68 = .ok (.ifCond .ge 17, 3) := by decide +kernel
theorem dX11_bestFrom_71 : decode cX11_bestFrom 71 = .ok (.aload_n 0, 1) := by decide +kernel
theorem dX11_bestFrom_72 : decode cX11_bestFrom 72 = .ok (.iload_n 1, 1) := by decide +kernel
theorem dX11_bestFrom_73 : decode cX11_bestFrom 73 = .ok (.iload 6, 2) := by decide +kernel
theorem dX11_bestFrom_75 : decode cX11_bestFrom 75 = .ok (.iload 7, 2) := by decide +kernel
theorem dX11_bestFrom_77 : decode cX11_bestFrom 77 = .ok (.invokevirtual 614, 3) := by decide +kernel
theorem dX11_bestFrom_80 : decode cX11_bestFrom 80 = .ok (.lload 8, 2) := by decide +kernel
theorem dX11_bestFrom_82 : decode cX11_bestFrom 82 = .ok (.ladd, 1) := by decide +kernel
theorem dX11_bestFrom_83 : decode cX11_bestFrom 83 = .ok (.lstore 4, 2) := by decide +kernel
theorem dX11_bestFrom_85 : decode cX11_bestFrom 85 = .ok (.iinc 7 1, 3) := by decide +kernel
theorem dX11_bestFrom_88 : decode cX11_bestFrom 88 = .ok (.goto (-71), 3) := by decide +kernel
theorem dX11_bestFrom_91 : decode cX11_bestFrom 91 = .ok (.iinc 6 1, 3) := by decide +kernel
theorem dX11_bestFrom_94 : decode cX11_bestFrom 94 = .ok (.goto (-86), 3) := by decide +kernel
theorem dX11_bestFrom_97 : decode cX11_bestFrom 97 = .ok (.lload 4, 2) := by decide +kernel
theorem dX11_bestFrom_99 : decode cX11_bestFrom 99 = .ok (.lreturn, 1) := by decide +kernel
theorem dX11_gives_0 : decode cX11_gives 0 = .ok (.iconst 0, 1) := by decide +kernel
theorem dX11_gives_1 : decode cX11_gives 1 = .ok (.istore 4, 2) := by decide +kernel
theorem dX11_gives_3 : decode cX11_gives 3 = .ok (.iload 4, 2) := by decide +kernel
theorem dX11_gives_5 : decode cX11_gives 5 = .ok (.iload_n 2, 1) := by decide +kernel
theorem dX11_gives_6 : decode cX11_gives 6 = .ok (.if_icmp .gt 101, 3) := by decide +kernel
theorem dX11_gives_9 : decode cX11_gives 9 = .ok (.iconst 0, 1) := by decide +kernel
theorem dX11_gives_10 : decode cX11_gives 10 = .ok (.istore 5, 2) := by decide +kernel
theorem dX11_gives_12 : decode cX11_gives 12 = .ok (.iload 5, 2) := by decide +kernel
theorem dX11_gives_14 : decode cX11_gives 14 = .ok (.iload_n 3, 1) := by decide +kernel
theorem dX11_gives_15 : decode cX11_gives 15 = .ok (.if_icmp .gt 86, 3) := by decide +kernel
theorem dX11_gives_18 : decode cX11_gives 18 = .ok (.aload_n 0, 1) := by decide +kernel
theorem dX11_gives_19 : decode cX11_gives 19 = .ok (.getfield 222, 3) := by decide +kernel
theorem dX11_gives_22 : decode cX11_gives 22 = .ok (.iload_n 1, 1) := by decide +kernel
theorem dX11_gives_23 : decode cX11_gives 23 = .ok (.iconst 1, 1) := by decide +kernel
theorem dX11_gives_24 : decode cX11_gives 24 = .ok (.iadd, 1) := by decide +kernel
theorem dX11_gives_25 : decode cX11_gives 25 = .ok (.iload_n 2, 1) := by decide +kernel
theorem dX11_gives_26 : decode cX11_gives 26 = .ok (.iload 4, 2) := by decide +kernel
theorem dX11_gives_28 : decode cX11_gives 28 = .ok (.isub, 1) := by decide +kernel
theorem dX11_gives_29 : decode cX11_gives 29 = .ok (.iload_n 3, 1) := by decide +kernel
theorem dX11_gives_30 : decode cX11_gives 30 = .ok (.iload 5, 2) := by decide +kernel
theorem dX11_gives_32 : decode cX11_gives 32 = .ok (.isub, 1) := by decide +kernel
theorem dX11_gives_33 : decode cX11_gives 33 = .ok (.invokestatic 611, 3) := by decide +kernel
theorem dX11_gives_36 : decode cX11_gives 36 = .ok (.laload, 1) := by decide +kernel
theorem dX11_gives_37 : decode cX11_gives 37 = .ok (.lstore 6, 2) := by decide +kernel
theorem dX11_gives_39 : decode cX11_gives 39 = .ok (.lload 6, 2) := by decide +kernel
theorem dX11_gives_41 : decode cX11_gives 41 = .ok (.ldc2_w 609, 3) := by decide +kernel
theorem dX11_gives_44 : decode cX11_gives 44 = .ok (.lcmp, 1) := by decide +kernel
theorem dX11_gives_45 : decode cX11_gives 45 = .ok (.ifCond .ge 50, 3) := by decide +kernel
theorem dX11_gives_48 : decode cX11_gives 48 = .ok (.aload_n 0, 1) := by decide +kernel
theorem dX11_gives_49 : decode cX11_gives 49 = .ok (.iload_n 1, 1) := by decide +kernel
theorem dX11_gives_50 : decode cX11_gives 50 = .ok (.iload 4, 2) := by decide +kernel
theorem dX11_gives_52 : decode cX11_gives 52 = .ok (.iload 5, 2) := by decide +kernel
theorem dX11_gives_54 : decode cX11_gives 54 = .ok (.invokevirtual 614, 3) := by decide +kernel
theorem dX11_gives_57 : decode cX11_gives 57 = .ok (.lload 6, 2) := by decide +kernel
theorem dX11_gives_59 : decode cX11_gives 59 = .ok (.ladd, 1) := by decide +kernel
theorem dX11_gives_60 : decode cX11_gives 60 = .ok (.aload_n 0, 1) := by decide +kernel
theorem dX11_gives_61 : decode cX11_gives 61 = .ok (.getfield 222, 3) := by decide +kernel
theorem dX11_gives_64 : decode cX11_gives 64 = .ok (.iload_n 1, 1) := by decide +kernel
theorem dX11_gives_65 : decode cX11_gives 65 = .ok (.iload_n 2, 1) := by decide +kernel
theorem dX11_gives_66 : decode cX11_gives 66 = .ok (.iload_n 3, 1) := by decide +kernel
theorem dX11_gives_67 : decode cX11_gives 67 = .ok (.invokestatic 611, 3) := by decide +kernel
theorem dX11_gives_70 : decode cX11_gives 70 = .ok (.laload, 1) := by decide +kernel
theorem dX11_gives_71 : decode cX11_gives 71 = .ok (.lcmp, 1) := by decide +kernel
theorem dX11_gives_72 : decode cX11_gives 72 = .ok (.ifCond .eq 6, 3) := by decide +kernel
theorem dX11_gives_75 : decode cX11_gives 75 = .ok (.goto 20, 3) := by decide +kernel
theorem dX11_gives_78 : decode cX11_gives 78 = .ok (.aload_n 0, 1) := by decide +kernel
theorem dX11_gives_79 : decode cX11_gives 79 = .ok (.getfield 225, 3) := by decide +kernel
theorem dX11_gives_82 : decode cX11_gives 82 = .ok (.iload_n 1, 1) := by decide +kernel
theorem dX11_gives_83 : decode cX11_gives 83 = .ok (.iload 4, 2) := by decide +kernel
theorem dX11_gives_85 : decode cX11_gives 85 = .ok (.iastore, 1) := by decide +kernel
theorem dX11_gives_86 : decode cX11_gives 86 = .ok (.aload_n 0, 1) := by decide +kernel
theorem dX11_gives_87 : decode cX11_gives 87 = .ok (.getfield 228, 3) := by decide +kernel
theorem dX11_gives_90 : decode cX11_gives 90 = .ok (.iload_n 1, 1) := by decide +kernel
theorem dX11_gives_91 : decode cX11_gives 91 = .ok (.iload 5, 2) := by decide +kernel
theorem dX11_gives_93 : decode cX11_gives 93 = .ok (.iastore, 1) := by decide +kernel
theorem dX11_gives_94 : decode cX11_gives 94 = .ok (.return_, 1) := by decide +kernel
theorem dX11_gives_95 : decode cX11_gives 95 = .ok (.iinc 5 1, 3) := by decide +kernel
theorem dX11_gives_98 : decode cX11_gives 98 = .ok (.goto (-86), 3) := by decide +kernel
theorem dX11_gives_101 : decode cX11_gives 101 = .ok (.iinc 4 1, 3) := by decide +kernel
theorem dX11_gives_104 : decode cX11_gives 104 = .ok (.goto (-101), 3) := by decide +kernel
theorem dX11_gives_107 : decode cX11_gives 107 = .ok (.return_, 1) := by decide +kernel
theorem dX11_escort_0 : decode cX11_escort 0 = .ok (.iload_n 1, 1) := by decide +kernel
theorem dX11_escort_1 : decode cX11_escort 1 = .ok (.i2l, 1) := by decide +kernel
theorem dX11_escort_2 : decode cX11_escort 2 = .ok (.lconst 0, 1) := by decide +kernel
theorem dX11_escort_3 : decode cX11_escort 3 = .ok (.ldc2_w 617, 3) := by decide +kernel
theorem dX11_escort_6 : decode cX11_escort 6 = .ok (.invokestatic 233, 3) := by decide +kernel
theorem dX11_escort_9 : decode cX11_escort 9 = .ok (.ifCond .eq 15, 3) := by decide +kernel
theorem dX11_escort_12 : decode cX11_escort 12 = .ok (.iload_n 2, 1) := by decide +kernel
theorem dX11_escort_13 : decode cX11_escort 13 = .ok (.i2l, 1) := by decide +kernel
theorem dX11_escort_14 : decode cX11_escort 14 = .ok (.lconst 0, 1) := by decide +kernel
theorem dX11_escort_15 : decode cX11_escort 15 = .ok (.ldc2_w 619, 3) := by decide +kernel
theorem dX11_escort_18 : decode cX11_escort 18 = .ok (.invokestatic 233, 3) := by decide +kernel
theorem dX11_escort_21 : decode cX11_escort 21 = .ok (.ifCond .ne 5, 3) := by decide +kernel
theorem dX11_escort_24 : decode cX11_escort 24 = .ok (.iconst (-1), 1) := by decide +kernel
theorem dX11_escort_25 : decode cX11_escort 25 = .ok (.ireturn, 1) := by decide +kernel
theorem dX11_escort_26 : decode cX11_escort 26 = .ok (.iconst 0, 1) := by decide +kernel
theorem dX11_escort_27 : decode cX11_escort 27 = .ok (.istore_n 3, 1) := by decide +kernel
theorem dX11_escort_28 : decode cX11_escort 28 = .ok (.iload_n 3, 1) := by decide +kernel
theorem dX11_escort_29 : decode cX11_escort 29 = .ok (.bipush 12, 2) := by decide +kernel
theorem dX11_escort_31 : decode cX11_escort 31 = .ok (.if_icmp .gt 56, 3) := by decide +kernel
theorem dX11_escort_34 : decode cX11_escort 34 = .ok (.iconst 0, 1) := by decide +kernel
theorem dX11_escort_35 : decode cX11_escort 35 = .ok (.istore 4, 2) := by decide +kernel
theorem dX11_escort_37 : decode cX11_escort 37 = .ok (.iload 4, 2) := by decide +kernel
theorem dX11_escort_39 : decode cX11_escort 39 = .ok (.bipush 6, 2) := by decide +kernel
theorem dX11_escort_41 : decode cX11_escort 41 = .ok (.if_icmp .gt 40, 3) := by decide +kernel
theorem dX11_escort_44 : decode cX11_escort 44 = .ok (.aload_n 0, 1) := by decide +kernel
theorem dX11_escort_45 : decode cX11_escort 45 = .ok (.getfield 222, 3) := by decide +kernel
theorem dX11_escort_48 : decode cX11_escort 48 = .ok (.aload_n 0, 1) := by decide +kernel
theorem dX11_escort_49 : decode cX11_escort 49 = .ok (.getfield 596, 3) := by decide +kernel
theorem dX11_escort_52 : decode cX11_escort 52 = .ok (.iload_n 3, 1) := by decide +kernel
theorem dX11_escort_53 : decode cX11_escort 53 = .ok (.iload 4, 2) := by decide +kernel
theorem dX11_escort_55 : decode cX11_escort 55 = .ok (.invokestatic 611, 3) := by decide +kernel
theorem dX11_escort_58 : decode cX11_escort 58 = .ok (.iload_n 3, 1) := by decide +kernel
theorem dX11_escort_59 : decode cX11_escort 59 = .ok (.ifCond .ne 12, 3) := by decide +kernel
theorem dX11_escort_62 : decode cX11_escort 62 = .ok (.iload 4, 2) := by decide +kernel
theorem dX11_escort_64 : decode cX11_escort 64 = .ok (.ifCond .ne 7, 3) := by decide +kernel
theorem dX11_escort_67 : decode cX11_escort 67 = .ok (.lconst 0, 1) := by decide +kernel
theorem dX11_escort_68 : decode cX11_escort 68 = .ok (.goto 6, 3) := by decide +kernel
theorem dX11_escort_71 : decode cX11_escort 71 = .ok (.ldc2_w 609, 3) := by decide +kernel
theorem dX11_escort_74 : decode cX11_escort 74 = .ok (.lastore, 1) := by decide +kernel
theorem dX11_escort_75 : decode cX11_escort 75 = .ok (.iinc 4 1, 3) := by decide +kernel
theorem dX11_escort_78 : decode cX11_escort 78 = .ok (.goto (-41), 3) := by decide +kernel
theorem dX11_escort_81 : decode cX11_escort 81 = .ok (.iinc 3 1, 3) := by decide +kernel
theorem dX11_escort_84 : decode cX11_escort 84 = .ok (.goto (-56), 3) := by decide +kernel
theorem dX11_escort_87 : decode cX11_escort 87 = .ok (.aload_n 0, 1) := by decide +kernel
theorem dX11_escort_88 : decode cX11_escort 88 = .ok (.getfield 596, 3) := by decide +kernel
theorem dX11_escort_91 : decode cX11_escort 91 = .ok (.iconst 1, 1) := by decide +kernel
theorem dX11_escort_92 : decode cX11_escort 92 = .ok (.isub, 1) := by decide +kernel
theorem dX11_escort_93 : decode cX11_escort 93 = .ok (.istore_n 3, 1) := by decide +kernel
theorem dX11_escort_94 : decode cX11_escort 94 = .ok (.iload_n 3, 1) := by decide +kernel
theorem dX11_escort_95 : decode cX11_escort 95 = .ok (.ifCond .lt 61, 3) := by decide +kernel
theorem dX11_escort_98 : decode cX11_escort 98 = .ok (.iconst 0, 1) := by decide +kernel
theorem dX11_escort_99 : decode cX11_escort 99 = .ok (.istore 4, 2) := by decide +kernel
theorem dX11_escort_101 : decode cX11_escort 101 = .ok (.iload 4, 2) := by decide +kernel
theorem dX11_escort_103 : decode cX11_escort 103 = .ok (.iload_n 1, 1) := by decide +kernel
theorem dX11_escort_104 : decode cX11_escort 104 = .ok (.if_icmp .gt 46, 3) := by decide +kernel
theorem dX11_escort_107 : decode cX11_escort 107 = .ok (.iconst 0, 1) := by decide +kernel
theorem dX11_escort_108 : decode cX11_escort 108 = .ok (.istore 5, 2) := by decide +kernel
theorem dX11_escort_110 : decode cX11_escort 110 = .ok (.iload 5, 2) := by decide +kernel
theorem dX11_escort_112 : decode cX11_escort 112 = .ok (.iload_n 2, 1) := by decide +kernel
theorem dX11_escort_113 : decode cX11_escort 113 = .ok (.if_icmp .gt 31, 3) := by decide +kernel
theorem dX11_escort_116 : decode cX11_escort 116 = .ok (.aload_n 0, 1) := by decide +kernel
theorem dX11_escort_117 : decode cX11_escort 117 = .ok (.getfield 222, 3) := by decide +kernel
theorem dX11_escort_120 : decode cX11_escort 120 = .ok (.iload_n 3, 1) := by decide +kernel
theorem dX11_escort_121 : decode cX11_escort 121 = .ok (.iload 4, 2) := by decide +kernel
theorem dX11_escort_123 : decode cX11_escort 123 = .ok (.iload 5, 2) := by decide +kernel
theorem dX11_escort_125 : decode cX11_escort 125 = .ok (.invokestatic 611, 3) := by decide +kernel
theorem dX11_escort_128 : decode cX11_escort 128 = .ok (.aload_n 0, 1) := by decide +kernel
theorem dX11_escort_129 : decode cX11_escort 129 = .ok (.iload_n 3, 1) := by decide +kernel
theorem dX11_escort_130 : decode cX11_escort 130 = .ok (.iload 4, 2) := by decide +kernel
theorem dX11_escort_132 : decode cX11_escort 132 = .ok (.iload 5, 2) := by decide +kernel
theorem dX11_escort_134 : decode cX11_escort 134 = .ok (.invokevirtual 621, 3) := by decide +kernel
theorem dX11_escort_137 : decode cX11_escort 137 = .ok (.lastore, 1) := by decide +kernel
theorem dX11_escort_138 : decode cX11_escort 138 = .ok (.iinc 5 1, 3) := by decide +kernel
theorem dX11_escort_141 : decode cX11_escort 141 = .ok (.goto (-31), 3) := by decide +kernel
theorem dX11_escort_144 : decode cX11_escort 144 = .ok (.iinc 4 1, 3) := by decide +kernel
theorem dX11_escort_147 : decode cX11_escort 147 = .ok (.goto (-46), 3) := by decide +kernel
theorem dX11_escort_150 : decode cX11_escort 150 = .ok (.iinc 3 (-1), 3) := by decide +kernel
theorem dX11_escort_153 : decode cX11_escort 153 = .ok (.goto (-59), 3) := by decide +kernel
theorem dX11_escort_156 : decode cX11_escort 156 = .ok (.aload_n 0, 1) := by decide +kernel
theorem dX11_escort_157 : decode cX11_escort 157 = .ok (.getfield 222, 3) := by decide +kernel
theorem dX11_escort_160 : decode cX11_escort 160 = .ok (.iconst 0, 1) := by decide +kernel
theorem dX11_escort_161 : decode cX11_escort 161 = .ok (.iload_n 1, 1) := by decide +kernel
theorem dX11_escort_162 : decode cX11_escort 162 = .ok (.iload_n 2, 1) := by decide +kernel
theorem dX11_escort_163 : decode cX11_escort 163 = .ok (.invokestatic 611, 3) := by decide +kernel
theorem dX11_escort_166 : decode cX11_escort 166 = .ok (.laload, 1) := by decide +kernel
theorem dX11_escort_167 : decode cX11_escort 167 = .ok (.ldc2_w 609, 3) := by decide +kernel
theorem dX11_escort_170 : decode cX11_escort 170 = .ok (.lcmp, 1) := by decide +kernel
theorem dX11_escort_171 : decode cX11_escort 171 = .ok (.ifCond .lt 6, 3) := by decide +kernel
theorem dX11_escort_174 : decode cX11_escort 174 = .ok (.bipush (-2), 2) := by decide +kernel
theorem dX11_escort_176 : decode cX11_escort 176 = .ok (.ireturn, 1) := by decide +kernel
theorem dX11_escort_177 : decode cX11_escort 177 = .ok (.iload_n 1, 1) := by decide +kernel
theorem dX11_escort_178 : decode cX11_escort 178 = .ok (.istore_n 3, 1) := by decide +kernel
theorem dX11_escort_179 : decode cX11_escort 179 = .ok (.iload_n 2, 1) := by decide +kernel
theorem dX11_escort_180 : decode cX11_escort 180 = .ok (.istore 4, 2) := by decide +kernel
theorem dX11_escort_182 : decode cX11_escort 182 = .ok (.iconst 0, 1) := by decide +kernel
theorem dX11_escort_183 : decode cX11_escort 183 = .ok (.istore 5, 2) := by decide +kernel
theorem dX11_escort_185 : decode cX11_escort 185 = .ok (.aload_n 0, 1) := by decide +kernel
theorem dX11_escort_186 : decode cX11_escort 186 = .ok (.iconst 0, 1) := by decide +kernel
theorem dX11_escort_187 : decode cX11_escort 187 = .ok (.putfield 624, 3) := by decide +kernel
theorem dX11_escort_190 : decode cX11_escort 190 = .ok (.iconst 0, 1) := by decide +kernel
theorem dX11_escort_191 : decode cX11_escort 191 = .ok (.istore 6, 2) := by decide +kernel
theorem dX11_escort_193 : decode cX11_escort 193 = .ok (.iload 6, 2) := by decide +kernel
theorem dX11_escort_195 : decode cX11_escort 195 = .ok (.aload_n 0, 1) := by decide +kernel
theorem dX11_escort_196 : decode cX11_escort 196 = .ok (.getfield 596, 3) := by decide +kernel
theorem dX11_escort_199 : decode cX11_escort 199 = .ok (.if_icmp .ge 87, 3) := by decide +kernel
theorem dX11_escort_202 : decode cX11_escort 202 = .ok (.aload_n 0, 1) := by decide +kernel
theorem dX11_escort_203 : decode cX11_escort 203 = .ok (.iload 6, 2) := by decide +kernel
theorem dX11_escort_205 : decode cX11_escort 205 = .ok (.iload_n 3, 1) := by decide +kernel
theorem dX11_escort_206 : decode cX11_escort 206 = .ok (.iload 4, 2) := by decide +kernel
theorem dX11_escort_208 : decode cX11_escort 208 = .ok (.invokevirtual 627, 3) := by decide +kernel
theorem dX11_escort_211 : decode cX11_escort 211 = .ok (.iload_n 3, 1) := by decide +kernel
theorem dX11_escort_212 : decode cX11_escort 212 = .ok (.aload_n 0, 1) := by decide +kernel
theorem dX11_escort_213 : decode cX11_escort 213 = .ok (.getfield 225, 3) := by decide +kernel
theorem dX11_escort_216 : decode cX11_escort 216 = .ok (.iload 6, 2) := by decide +kernel
theorem dX11_escort_218 : decode cX11_escort 218 = .ok (.iaload, 1) := by decide +kernel
theorem dX11_escort_219 : decode cX11_escort 219 = .ok (.isub, 1) := by decide +kernel
theorem dX11_escort_220 : decode cX11_escort 220 = .ok (.istore_n 3, 1) := by decide +kernel
theorem dX11_escort_221 : decode cX11_escort 221 = .ok (.iload 4, 2) := by decide +kernel
theorem dX11_escort_223 : decode cX11_escort 223 = .ok (.aload_n 0, 1) := by decide +kernel
theorem dX11_escort_224 : decode cX11_escort 224 = .ok (.getfield 228, 3) := by decide +kernel
theorem dX11_escort_227 : decode cX11_escort 227 = .ok (.iload 6, 2) := by decide +kernel
theorem dX11_escort_229 : decode cX11_escort 229 = .ok (.iaload, 1) := by decide +kernel
theorem dX11_escort_230 : decode cX11_escort 230 = .ok (.isub, 1) := by decide +kernel
theorem dX11_escort_231 : decode cX11_escort 231 = .ok (.istore 4, 2) := by decide +kernel
theorem dX11_escort_233 : decode cX11_escort 233 = .ok (.iload 5, 2) := by decide +kernel
theorem dX11_escort_235 : decode cX11_escort 235 = .ok (.aload_n 0, 1) := by decide +kernel
theorem dX11_escort_236 : decode cX11_escort 236 = .ok (.iload 6, 2) := by decide +kernel
theorem dX11_escort_238 : decode cX11_escort 238 = .ok (.aload_n 0, 1) := by decide +kernel
theorem dX11_escort_239 : decode cX11_escort 239 = .ok (.getfield 225, 3) := by decide +kernel
theorem dX11_escort_242 : decode cX11_escort 242 = .ok (.iload 6, 2) := by decide +kernel
theorem dX11_escort_244 : decode cX11_escort 244 = .ok (.iaload, 1) := by decide +kernel
theorem dX11_escort_245 : decode cX11_escort 245 = .ok (.aload_n 0, 1) := by decide +kernel
theorem dX11_escort_246 : decode cX11_escort 246 = .ok (.getfield 228, 3) := by decide +kernel
theorem dX11_escort_249 : decode cX11_escort 249 = .ok (.iload 6, 2) := by decide +kernel
theorem dX11_escort_251 : decode cX11_escort 251 = .ok (.iaload, 1) := by decide +kernel
theorem dX11_escort_252 : decode cX11_escort 252 = .ok (.invokevirtual 603, 3) := by decide +kernel
theorem dX11_escort_255 : decode cX11_escort 255 = .ok (.iadd, 1) := by decide +kernel
theorem dX11_escort_256 : decode cX11_escort 256 = .ok (.istore 5, 2) := by decide +kernel
theorem dX11_escort_258 : decode cX11_escort 258 = .ok (.aload_n 0, 1) := by decide +kernel
theorem dX11_escort_259 : decode cX11_escort 259 = .ok (.dup, 1) := by decide +kernel
theorem dX11_escort_260 : decode cX11_escort 260 = .ok (.getfield 624, 3) := by decide +kernel
theorem dX11_escort_263 : decode cX11_escort 263 = .ok (.aload_n 0, 1) := by decide +kernel
theorem dX11_escort_264 : decode cX11_escort 264 = .ok (.iload 6, 2) := by decide +kernel
theorem dX11_escort_266 : decode cX11_escort 266 = .ok (.aload_n 0, 1) := by decide +kernel
theorem dX11_escort_267 : decode cX11_escort 267 = .ok (.getfield 225, 3) := by decide +kernel
theorem dX11_escort_270 : decode cX11_escort 270 = .ok (.iload 6, 2) := by decide +kernel
theorem dX11_escort_272 : decode cX11_escort 272 = .ok (.iaload, 1) := by decide +kernel
theorem dX11_escort_273 : decode cX11_escort 273 = .ok (.invokevirtual 606, 3) := by decide +kernel
theorem dX11_escort_276 : decode cX11_escort 276 = .ok (.iadd, 1) := by decide +kernel
theorem dX11_escort_277 : decode cX11_escort 277 = .ok (.putfield 624, 3) := by decide +kernel
theorem dX11_escort_280 : decode cX11_escort 280 = .ok (.iinc 6 1, 3) := by decide +kernel
theorem dX11_escort_283 : decode cX11_escort 283 = .ok (.goto (-90), 3) := by decide +kernel
theorem dX11_escort_286 : decode cX11_escort 286 = .ok (.aload_n 0, 1) := by decide +kernel
theorem dX11_escort_287 : decode cX11_escort 287 = .ok (.iconst 1, 1) := by decide +kernel
theorem dX11_escort_288 : decode cX11_escort 288 = .ok (.putfield 631, 3) := by decide +kernel
theorem dX11_escort_291 : decode cX11_escort 291 = .ok (.aload_n 0, 1) := by decide +kernel
theorem dX11_escort_292 : decode cX11_escort 292 = .ok (.aload_n 0, 1) := by decide +kernel
theorem dX11_escort_293 : decode cX11_escort 293 = .ok (.getfield 596, 3) := by decide +kernel
theorem dX11_escort_296 : decode cX11_escort 296 = .ok (.putfield 635, 3) := by decide +kernel
theorem dX11_escort_299 : decode cX11_escort 299 = .ok (.iload 5, 2) := by decide +kernel
theorem dX11_escort_301 : decode cX11_escort 301 = .ok (.ireturn, 1) := by decide +kernel
theorem dX11_escorts_0 : decode cX11_escorts 0 = .ok (.aload_n 0, 1) := by decide +kernel
theorem dX11_escorts_1 : decode cX11_escorts 1 = .ok (.getfield 631, 3) := by decide +kernel
theorem dX11_escorts_4 : decode cX11_escorts 4 = .ok (.ifCond .ne 7, 3) := by decide +kernel
theorem dX11_escorts_7 : decode cX11_escorts 7 = .ok (.ldc_w 638, 3) := by decide +kernel
theorem dX11_escorts_10 : decode cX11_escorts 10 = .ok (.ireturn, 1) := by decide +kernel
theorem dX11_escorts_11 : decode cX11_escorts 11 = .ok (.iload_n 1, 1) := by decide +kernel
theorem dX11_escorts_12 : decode cX11_escorts 12 = .ok (.ifCond .ne 8, 3) := by decide +kernel
theorem dX11_escorts_15 : decode cX11_escorts 15 = .ok (.aload_n 0, 1) := by decide +kernel
theorem dX11_escorts_16 : decode cX11_escorts 16 = .ok (.getfield 624, 3) := by decide +kernel
theorem dX11_escorts_19 : decode cX11_escorts 19 = .ok (.ireturn, 1) := by decide +kernel
theorem dX11_escorts_20 : decode cX11_escorts 20 = .ok (.iload_n 1, 1) := by decide +kernel
theorem dX11_escorts_21 : decode cX11_escorts 21 = .ok (.i2l, 1) := by decide +kernel
theorem dX11_escorts_22 : decode cX11_escorts 22 = .ok (.ldc2_w 639, 3) := by decide +kernel
theorem dX11_escorts_25 : decode cX11_escorts 25 = .ok (.bipush 99, 2) := by decide +kernel
theorem dX11_escorts_27 : decode cX11_escorts 27 = .ok (.aload_n 0, 1) := by decide +kernel
theorem dX11_escorts_28 : decode cX11_escorts 28 = .ok (.getfield 635, 3) := by decide +kernel
theorem dX11_escorts_31 : decode cX11_escorts 31 = .ok (.iadd, 1) := by decide +kernel
theorem dX11_escorts_32 : decode cX11_escorts 32 = .ok (.i2l, 1) := by decide +kernel
theorem dX11_escorts_33 : decode cX11_escorts 33 = .ok (.invokestatic 233, 3) := by decide +kernel
theorem dX11_escorts_36 : decode cX11_escorts 36 = .ok (.ifCond .eq 13, 3) := by decide +kernel
theorem dX11_escorts_39 : decode cX11_escorts 39 = .ok (.aload_n 0, 1) := by decide +kernel
theorem dX11_escorts_40 : decode cX11_escorts 40 = .ok (.getfield 225, 3) := by decide +kernel
theorem dX11_escorts_43 : decode cX11_escorts 43 = .ok (.iload_n 1, 1) := by decide +kernel
theorem dX11_escorts_44 : decode cX11_escorts 44 = .ok (.bipush 100, 2) := by decide +kernel
theorem dX11_escorts_46 : decode cX11_escorts 46 = .ok (.isub, 1) := by decide +kernel
theorem dX11_escorts_47 : decode cX11_escorts 47 = .ok (.iaload, 1) := by decide +kernel
theorem dX11_escorts_48 : decode cX11_escorts 48 = .ok (.ireturn, 1) := by decide +kernel
theorem dX11_escorts_49 : decode cX11_escorts 49 = .ok (.iload_n 1, 1) := by decide +kernel
theorem dX11_escorts_50 : decode cX11_escorts 50 = .ok (.i2l, 1) := by decide +kernel
theorem dX11_escorts_51 : decode cX11_escorts 51 = .ok (.ldc2_w 641, 3) := by decide +kernel
theorem dX11_escorts_54 : decode cX11_escorts 54 = .ok (.sipush 199, 3) := by decide +kernel
theorem dX11_escorts_57 : decode cX11_escorts 57 = .ok (.aload_n 0, 1) := by decide +kernel
theorem dX11_escorts_58 : decode cX11_escorts 58 = .ok (.getfield 635, 3) := by decide +kernel
theorem dX11_escorts_61 : decode cX11_escorts 61 = .ok (.iadd, 1) := by decide +kernel
theorem dX11_escorts_62 : decode cX11_escorts 62 = .ok (.i2l, 1) := by decide +kernel
theorem dX11_escorts_63 : decode cX11_escorts 63 = .ok (.invokestatic 233, 3) := by decide +kernel
theorem dX11_escorts_66 : decode cX11_escorts 66 = .ok (.ifCond .eq 16, 3) := by decide +kernel
theorem dX11_escorts_69 : decode cX11_escorts 69 = .ok (.aload_n 0, 1) := by decide +kernel
theorem dX11_escorts_70 : decode cX11_escorts 70 = .ok (.getfield 228, 3) := by decide +kernel
theorem dX11_escorts_73 : decode cX11_escorts 73 = .ok (.iload_n 1, 1) := by decide +kernel
theorem dX11_escorts_74 : decode cX11_escorts 74 = .ok (.sipush 200, 3) := by decide +kernel
theorem dX11_escorts_77 : decode cX11_escorts 77 = .ok (.isub, 1) := by decide +kernel
theorem dX11_escorts_78 : decode cX11_escorts 78 = .ok (.iaload, 1) := by decide +kernel
theorem dX11_escorts_79 : decode cX11_escorts 79 = .ok (.goto 6, 3) := by decide +kernel
theorem dX11_escorts_82 : decode cX11_escorts 82 = .ok (.ldc_w 638, 3) := by decide +kernel
theorem dX11_escorts_85 : decode cX11_escorts 85 = .ok (.ireturn, 1) := by decide +kernel
theorem dX11_count_0 : decode cX11_count 0 = .ok (.iload_n 1, 1) := by decide +kernel
theorem dX11_count_1 : decode cX11_count 1 = .ok (.tableswitch 127 0 11 #[63, 68, 73, 78, 85, 92, 97, 102, 107, 112, 117, 122], 63) := by decide +kernel
theorem dX11_count_64 : decode cX11_count 64 = .ok (.aload_n 0, 1) := by decide +kernel
theorem dX11_count_65 : decode cX11_count 65 = .ok (.getfield 237, 3) := by decide +kernel
theorem dX11_count_68 : decode cX11_count 68 = .ok (.ireturn, 1) := by decide +kernel
theorem dX11_count_69 : decode cX11_count 69 = .ok (.aload_n 0, 1) := by decide +kernel
theorem dX11_count_70 : decode cX11_count 70 = .ok (.getfield 248, 3) := by decide +kernel
theorem dX11_count_73 : decode cX11_count 73 = .ok (.ireturn, 1) := by decide +kernel
theorem dX11_count_74 : decode cX11_count 74 = .ok (.aload_n 0, 1) := by decide +kernel
theorem dX11_count_75 : decode cX11_count 75 = .ok (.getfield 261, 3) := by decide +kernel
theorem dX11_count_78 : decode cX11_count 78 = .ok (.ireturn, 1) := by decide +kernel
theorem dX11_count_79 : decode cX11_count 79 = .ok (.aload_n 0, 1) := by decide +kernel
theorem dX11_count_80 : decode cX11_count 80 = .ok (.getfield 52, 3) := by decide +kernel
theorem dX11_count_83 : decode cX11_count 83 = .ok (.iconst 0, 1) := by decide +kernel
theorem dX11_count_84 : decode cX11_count 84 = .ok (.iaload, 1) := by decide +kernel
theorem dX11_count_85 : decode cX11_count 85 = .ok (.ireturn, 1) := by decide +kernel
theorem dX11_count_86 : decode cX11_count 86 = .ok (.aload_n 0, 1) := by decide +kernel
theorem dX11_count_87 : decode cX11_count 87 = .ok (.getfield 52, 3) := by decide +kernel
theorem dX11_count_90 : decode cX11_count 90 = .ok (.iconst 1, 1) := by decide +kernel
theorem dX11_count_91 : decode cX11_count 91 = .ok (.iaload, 1) := by decide +kernel
theorem dX11_count_92 : decode cX11_count 92 = .ok (.ireturn, 1) := by decide +kernel
theorem dX11_count_93 : decode cX11_count 93 = .ok (.aload_n 0, 1) := by decide +kernel
theorem dX11_count_94 : decode cX11_count 94 = .ok (.getfield 350, 3) := by decide +kernel
theorem dX11_count_97 : decode cX11_count 97 = .ok (.ireturn, 1) := by decide +kernel
theorem dX11_count_98 : decode cX11_count 98 = .ok (.aload_n 0, 1) := by decide +kernel
theorem dX11_count_99 : decode cX11_count 99 = .ok (.getfield 485, 3) := by decide +kernel
theorem dX11_count_102 : decode cX11_count 102 = .ok (.ireturn, 1) := by decide +kernel
theorem dX11_count_103 : decode cX11_count 103 = .ok (.aload_n 0, 1) := by decide +kernel
theorem dX11_count_104 : decode cX11_count 104 = .ok (.getfield 567, 3) := by decide +kernel
theorem dX11_count_107 : decode cX11_count 107 = .ok (.ireturn, 1) := by decide +kernel
theorem dX11_count_108 : decode cX11_count 108 = .ok (.aload_n 0, 1) := by decide +kernel
theorem dX11_count_109 : decode cX11_count 109 = .ok (.getfield 574, 3) := by decide +kernel
theorem dX11_count_112 : decode cX11_count 112 = .ok (.ireturn, 1) := by decide +kernel
theorem dX11_count_113 : decode cX11_count 113 = .ok (.aload_n 0, 1) := by decide +kernel
theorem dX11_count_114 : decode cX11_count 114 = .ok (.getfield 589, 3) := by decide +kernel
theorem dX11_count_117 : decode cX11_count 117 = .ok (.ireturn, 1) := by decide +kernel
theorem dX11_count_118 : decode cX11_count 118 = .ok (.aload_n 0, 1) := by decide +kernel
theorem dX11_count_119 : decode cX11_count 119 = .ok (.getfield 596, 3) := by decide +kernel
theorem dX11_count_122 : decode cX11_count 122 = .ok (.ireturn, 1) := by decide +kernel
theorem dX11_count_123 : decode cX11_count 123 = .ok (.aload_n 0, 1) := by decide +kernel
theorem dX11_count_124 : decode cX11_count 124 = .ok (.getfield 316, 3) := by decide +kernel
theorem dX11_count_127 : decode cX11_count 127 = .ok (.ireturn, 1) := by decide +kernel
theorem dX11_count_128 : decode cX11_count 128 = .ok (.iconst (-1), 1) := by decide +kernel
theorem dX11_count_129 : decode cX11_count 129 = .ok (.ireturn, 1) := by decide +kernel
theorem dJ6_bitCount_0f7a4_0 : decode cJ6_bitCount_0f7a4 0 = .ok (.iload_n 0, 1) := by decide +kernel
theorem dJ6_bitCount_0f7a4_1 : decode cJ6_bitCount_0f7a4 1 = .ok (.iload_n 0, 1) := by decide +kernel
theorem dJ6_bitCount_0f7a4_2 : decode cJ6_bitCount_0f7a4 2 = .ok (.iconst 1, 1) := by decide +kernel
theorem dJ6_bitCount_0f7a4_3 : decode cJ6_bitCount_0f7a4 3 = .ok (.iushr, 1) := by decide +kernel
theorem dJ6_bitCount_0f7a4_4 : decode cJ6_bitCount_0f7a4 4 = .ok (.ldc_w 265, 3) := by decide +kernel
theorem dJ6_bitCount_0f7a4_7 : decode cJ6_bitCount_0f7a4 7 = .ok (.iand, 1) := by decide +kernel
theorem dJ6_bitCount_0f7a4_8 : decode cJ6_bitCount_0f7a4 8 = .ok (.isub, 1) := by decide +kernel
theorem dJ6_bitCount_0f7a4_9 : decode cJ6_bitCount_0f7a4 9 = .ok (.istore_n 0, 1) := by decide +kernel
theorem dJ6_bitCount_0f7a4_10 : decode cJ6_bitCount_0f7a4 10 = .ok (.iload_n 0, 1) := by decide +kernel
theorem dJ6_bitCount_0f7a4_11 : decode cJ6_bitCount_0f7a4 11 = .ok (.ldc_w 266, 3) := by decide +kernel
theorem dJ6_bitCount_0f7a4_14 : decode cJ6_bitCount_0f7a4 14 = .ok (.iand, 1) := by decide +kernel
theorem dJ6_bitCount_0f7a4_15 : decode cJ6_bitCount_0f7a4 15 = .ok (.iload_n 0, 1) := by decide +kernel
theorem dJ6_bitCount_0f7a4_16 : decode cJ6_bitCount_0f7a4 16 = .ok (.iconst 2, 1) := by decide +kernel
theorem dJ6_bitCount_0f7a4_17 : decode cJ6_bitCount_0f7a4 17 = .ok (.iushr, 1) := by decide +kernel
theorem dJ6_bitCount_0f7a4_18 : decode cJ6_bitCount_0f7a4 18 = .ok (.ldc_w 266, 3) := by decide +kernel
theorem dJ6_bitCount_0f7a4_21 : decode cJ6_bitCount_0f7a4 21 = .ok (.iand, 1) := by decide +kernel
theorem dJ6_bitCount_0f7a4_22 : decode cJ6_bitCount_0f7a4 22 = .ok (.iadd, 1) := by decide +kernel
theorem dJ6_bitCount_0f7a4_23 : decode cJ6_bitCount_0f7a4 23 = .ok (.istore_n 0, 1) := by decide +kernel
theorem dJ6_bitCount_0f7a4_24 : decode cJ6_bitCount_0f7a4 24 = .ok (.iload_n 0, 1) := by decide +kernel
theorem dJ6_bitCount_0f7a4_25 : decode cJ6_bitCount_0f7a4 25 = .ok (.iload_n 0, 1) := by decide +kernel
theorem dJ6_bitCount_0f7a4_26 : decode cJ6_bitCount_0f7a4 26 = .ok (.iconst 4, 1) := by decide +kernel
theorem dJ6_bitCount_0f7a4_27 : decode cJ6_bitCount_0f7a4 27 = .ok (.iushr, 1) := by decide +kernel
theorem dJ6_bitCount_0f7a4_28 : decode cJ6_bitCount_0f7a4 28 = .ok (.iadd, 1) := by decide +kernel
theorem dJ6_bitCount_0f7a4_29 : decode cJ6_bitCount_0f7a4 29 = .ok (.ldc_w 267, 3) := by decide +kernel
theorem dJ6_bitCount_0f7a4_32 : decode cJ6_bitCount_0f7a4 32 = .ok (.iand, 1) := by decide +kernel
theorem dJ6_bitCount_0f7a4_33 : decode cJ6_bitCount_0f7a4 33 = .ok (.istore_n 0, 1) := by decide +kernel
theorem dJ6_bitCount_0f7a4_34 : decode cJ6_bitCount_0f7a4 34 = .ok (.iload_n 0, 1) := by decide +kernel
theorem dJ6_bitCount_0f7a4_35 : decode cJ6_bitCount_0f7a4 35 = .ok (.iload_n 0, 1) := by decide +kernel
theorem dJ6_bitCount_0f7a4_36 : decode cJ6_bitCount_0f7a4 36 = .ok (.bipush 8, 2) := by decide +kernel
theorem dJ6_bitCount_0f7a4_38 : decode cJ6_bitCount_0f7a4 38 = .ok (.iushr, 1) := by decide +kernel
theorem dJ6_bitCount_0f7a4_39 : decode cJ6_bitCount_0f7a4 39 = .ok (.iadd, 1) := by decide +kernel
theorem dJ6_bitCount_0f7a4_40 : decode cJ6_bitCount_0f7a4 40 = .ok (.istore_n 0, 1) := by decide +kernel
theorem dJ6_bitCount_0f7a4_41 : decode cJ6_bitCount_0f7a4 41 = .ok (.iload_n 0, 1) := by decide +kernel
theorem dJ6_bitCount_0f7a4_42 : decode cJ6_bitCount_0f7a4 42 = .ok (.iload_n 0, 1) := by decide +kernel
theorem dJ6_bitCount_0f7a4_43 : decode cJ6_bitCount_0f7a4 43 = .ok (.bipush 16, 2) := by decide +kernel
theorem dJ6_bitCount_0f7a4_45 : decode cJ6_bitCount_0f7a4 45 = .ok (.iushr, 1) := by decide +kernel
theorem dJ6_bitCount_0f7a4_46 : decode cJ6_bitCount_0f7a4 46 = .ok (.iadd, 1) := by decide +kernel
theorem dJ6_bitCount_0f7a4_47 : decode cJ6_bitCount_0f7a4 47 = .ok (.istore_n 0, 1) := by decide +kernel
theorem dJ6_bitCount_0f7a4_48 : decode cJ6_bitCount_0f7a4 48 = .ok (.iload_n 0, 1) := by decide +kernel
theorem dJ6_bitCount_0f7a4_49 : decode cJ6_bitCount_0f7a4 49 = .ok (.bipush 63, 2) := by decide +kernel
theorem dJ6_bitCount_0f7a4_51 : decode cJ6_bitCount_0f7a4 51 = .ok (.iand, 1) := by decide +kernel
theorem dJ6_bitCount_0f7a4_52 : decode cJ6_bitCount_0f7a4 52 = .ok (.ireturn, 1) := by decide +kernel
theorem dJ9_abs_0f7a4_0 : decode cJ9_abs_0f7a4 0 = .ok (.iload_n 0, 1) := by decide +kernel
theorem dJ9_abs_0f7a4_1 : decode cJ9_abs_0f7a4 1 = .ok (.ifCond .ge 8, 3) := by decide +kernel
theorem dJ9_abs_0f7a4_4 : decode cJ9_abs_0f7a4 4 = .ok (.iload_n 0, 1) := by decide +kernel
theorem dJ9_abs_0f7a4_5 : decode cJ9_abs_0f7a4 5 = .ok (.ineg, 1) := by decide +kernel
theorem dJ9_abs_0f7a4_6 : decode cJ9_abs_0f7a4 6 = .ok (.goto 4, 3) := by decide +kernel
theorem dJ9_abs_0f7a4_9 : decode cJ9_abs_0f7a4 9 = .ok (.iload_n 0, 1) := by decide +kernel
theorem dJ9_abs_0f7a4_10 : decode cJ9_abs_0f7a4 10 = .ok (.ireturn, 1) := by decide +kernel
theorem dJ9_max_7cf53_0 : decode cJ9_max_7cf53 0 = .ok (.iload_n 0, 1) := by decide +kernel
theorem dJ9_max_7cf53_1 : decode cJ9_max_7cf53 1 = .ok (.iload_n 1, 1) := by decide +kernel
theorem dJ9_max_7cf53_2 : decode cJ9_max_7cf53 2 = .ok (.if_icmp .lt 7, 3) := by decide +kernel
theorem dJ9_max_7cf53_5 : decode cJ9_max_7cf53 5 = .ok (.iload_n 0, 1) := by decide +kernel
theorem dJ9_max_7cf53_6 : decode cJ9_max_7cf53 6 = .ok (.goto 4, 3) := by decide +kernel
theorem dJ9_max_7cf53_9 : decode cJ9_max_7cf53 9 = .ok (.iload_n 1, 1) := by decide +kernel
theorem dJ9_max_7cf53_10 : decode cJ9_max_7cf53 10 = .ok (.ireturn, 1) := by decide +kernel
theorem dJ9_max_f86c9_0 : decode cJ9_max_f86c9 0 = .ok (.lload_n 0, 1) := by decide +kernel
theorem dJ9_max_f86c9_1 : decode cJ9_max_f86c9 1 = .ok (.lload_n 2, 1) := by decide +kernel
theorem dJ9_max_f86c9_2 : decode cJ9_max_f86c9 2 = .ok (.lcmp, 1) := by decide +kernel
theorem dJ9_max_f86c9_3 : decode cJ9_max_f86c9 3 = .ok (.ifCond .lt 7, 3) := by decide +kernel
theorem dJ9_max_f86c9_6 : decode cJ9_max_f86c9 6 = .ok (.lload_n 0, 1) := by decide +kernel
theorem dJ9_max_f86c9_7 : decode cJ9_max_f86c9 7 = .ok (.goto 4, 3) := by decide +kernel
theorem dJ9_max_f86c9_10 : decode cJ9_max_f86c9 10 = .ok (.lload_n 2, 1) := by decide +kernel
theorem dJ9_max_f86c9_11 : decode cJ9_max_f86c9 11 = .ok (.lreturn, 1) := by decide +kernel
theorem dJ9_min_7cf53_0 : decode cJ9_min_7cf53 0 = .ok (.iload_n 0, 1) := by decide +kernel
theorem dJ9_min_7cf53_1 : decode cJ9_min_7cf53 1 = .ok (.iload_n 1, 1) := by decide +kernel
theorem dJ9_min_7cf53_2 : decode cJ9_min_7cf53 2 = .ok (.if_icmp .gt 7, 3) := by decide +kernel
theorem dJ9_min_7cf53_5 : decode cJ9_min_7cf53 5 = .ok (.iload_n 0, 1) := by decide +kernel
theorem dJ9_min_7cf53_6 : decode cJ9_min_7cf53 6 = .ok (.goto 4, 3) := by decide +kernel
theorem dJ9_min_7cf53_9 : decode cJ9_min_7cf53 9 = .ok (.iload_n 1, 1) := by decide +kernel
theorem dJ9_min_7cf53_10 : decode cJ9_min_7cf53 10 = .ok (.ireturn, 1) := by decide +kernel
theorem dJ9_min_f86c9_0 : decode cJ9_min_f86c9 0 = .ok (.lload_n 0, 1) := by decide +kernel
theorem dJ9_min_f86c9_1 : decode cJ9_min_f86c9 1 = .ok (.lload_n 2, 1) := by decide +kernel
theorem dJ9_min_f86c9_2 : decode cJ9_min_f86c9 2 = .ok (.lcmp, 1) := by decide +kernel
theorem dJ9_min_f86c9_3 : decode cJ9_min_f86c9 3 = .ok (.ifCond .gt 7, 3) := by decide +kernel
theorem dJ9_min_f86c9_6 : decode cJ9_min_f86c9 6 = .ok (.lload_n 0, 1) := by decide +kernel
theorem dJ9_min_f86c9_7 : decode cJ9_min_f86c9 7 = .ok (.goto 4, 3) := by decide +kernel
theorem dJ9_min_f86c9_10 : decode cJ9_min_f86c9 10 = .ok (.lload_n 2, 1) := by decide +kernel
theorem dJ9_min_f86c9_11 : decode cJ9_min_f86c9 11 = .ok (.lreturn, 1) := by decide +kernel
theorem dJ0_length_8abf5_0 : decode cJ0_length_8abf5 0 = .ok (.aload_n 0, 1) := by decide +kernel
theorem dJ0_length_8abf5_1 : decode cJ0_length_8abf5 1 = .ok (.getfield 9, 3) := by decide +kernel
theorem dJ0_length_8abf5_4 : decode cJ0_length_8abf5 4 = .ok (.arraylength, 1) := by decide +kernel
theorem dJ0_length_8abf5_5 : decode cJ0_length_8abf5 5 = .ok (.aload_n 0, 1) := by decide +kernel
theorem dJ0_length_8abf5_6 : decode cJ0_length_8abf5 6 = .ok (.invokevirtual 335, 3) := by decide +kernel
theorem dJ0_length_8abf5_9 : decode cJ0_length_8abf5 9 = .ok (.ishr, 1) := by decide +kernel
theorem dJ0_length_8abf5_10 : decode cJ0_length_8abf5 10 = .ok (.ireturn, 1) := by decide +kernel
theorem dJ0_charAt_5068e_0 : decode cJ0_charAt_5068e 0 = .ok (.aload_n 0, 1) := by decide +kernel
theorem dJ0_charAt_5068e_1 : decode cJ0_charAt_5068e 1 = .ok (.invokevirtual 492, 3) := by decide +kernel
theorem dJ0_charAt_5068e_4 : decode cJ0_charAt_5068e 4 = .ok (.ifCond .eq 12, 3) := by decide +kernel
theorem dJ0_charAt_5068e_7 : decode cJ0_charAt_5068e 7 = .ok (.aload_n 0, 1) := by decide +kernel
theorem dJ0_charAt_5068e_8 : decode cJ0_charAt_5068e 8 = .ok (.getfield 9, 3) := by decide +kernel
theorem dJ0_charAt_5068e_11 : decode cJ0_charAt_5068e 11 = .ok (.iload_n 1, 1) := by decide +kernel
theorem dJ0_charAt_5068e_12 : decode cJ0_charAt_5068e 12 = .ok (.invokestatic 495, 3) := by decide +kernel
theorem dJ0_charAt_5068e_15 : decode cJ0_charAt_5068e 15 = .ok (.ireturn, 1) := by decide +kernel
theorem dJ0_charAt_5068e_16 : decode cJ0_charAt_5068e 16 = .ok (.aload_n 0, 1) := by decide +kernel
theorem dJ0_charAt_5068e_17 : decode cJ0_charAt_5068e 17 = .ok (.getfield 9, 3) := by decide +kernel
theorem dJ0_charAt_5068e_20 : decode cJ0_charAt_5068e 20 = .ok (.iload_n 1, 1) := by decide +kernel
theorem dJ0_charAt_5068e_21 : decode cJ0_charAt_5068e 21 = .ok (.invokestatic 498, 3) := by decide +kernel
theorem dJ0_charAt_5068e_24 : decode cJ0_charAt_5068e 24 = .ok (.ireturn, 1) := by decide +kernel
theorem dJ0_coder_7d493_0 : decode cJ0_coder_7d493 0 = .ok (.getstatic 38, 3) := by decide +kernel
theorem dJ0_coder_7d493_3 : decode cJ0_coder_7d493 3 = .ok (.ifCond .eq 10, 3) := by decide +kernel
theorem dJ0_coder_7d493_6 : decode cJ0_coder_7d493 6 = .ok (.aload_n 0, 1) := by decide +kernel
theorem dJ0_coder_7d493_7 : decode cJ0_coder_7d493 7 = .ok (.getfield 15, 3) := by decide +kernel
theorem dJ0_coder_7d493_10 : decode cJ0_coder_7d493 10 = .ok (.goto 4, 3) := by decide +kernel
theorem dJ0_coder_7d493_13 : decode cJ0_coder_7d493 13 = .ok (.iconst 1, 1) := by decide +kernel
theorem dJ0_coder_7d493_14 : decode cJ0_coder_7d493 14 = .ok (.ireturn, 1) := by decide +kernel
theorem dJ0_isLatin1_aae02_0 : decode cJ0_isLatin1_aae02 0 = .ok (.getstatic 38, 3) := by decide +kernel
theorem dJ0_isLatin1_aae02_3 : decode cJ0_isLatin1_aae02 3 = .ok (.ifCond .eq 14, 3) := by decide +kernel
theorem dJ0_isLatin1_aae02_6 : decode cJ0_isLatin1_aae02 6 = .ok (.aload_n 0, 1) := by decide +kernel
theorem dJ0_isLatin1_aae02_7 : decode cJ0_isLatin1_aae02 7 = .ok (.getfield 15, 3) := by decide +kernel
theorem dJ0_isLatin1_aae02_10 : decode cJ0_isLatin1_aae02 10 = .ok (.ifCond .ne 7, 3) := by decide +kernel
theorem dJ0_isLatin1_aae02_13 : decode cJ0_isLatin1_aae02 13 = .ok (.iconst 1, 1) := by decide +kernel
theorem dJ0_isLatin1_aae02_14 : decode cJ0_isLatin1_aae02 14 = .ok (.goto 4, 3) := by decide +kernel
theorem dJ0_isLatin1_aae02_17 : decode cJ0_isLatin1_aae02 17 = .ok (.iconst 0, 1) := by decide +kernel
theorem dJ0_isLatin1_aae02_18 : decode cJ0_isLatin1_aae02 18 = .ok (.ireturn, 1) := by decide +kernel
theorem dJ0_checkIndex_df160_0 : decode cJ0_checkIndex_df160 0 = .ok (.iload_n 0, 1) := by decide +kernel
theorem dJ0_checkIndex_df160_1 : decode cJ0_checkIndex_df160 1 = .ok (.iload_n 1, 1) := by decide +kernel
theorem dJ0_checkIndex_df160_2 : decode cJ0_checkIndex_df160 2 = .ok (.getstatic 1053, 3) := by decide +kernel
theorem dJ0_checkIndex_df160_5 : decode cJ0_checkIndex_df160 5 = .ok (.invokestatic 1059, 3) := by decide +kernel
theorem dJ0_checkIndex_df160_8 : decode cJ0_checkIndex_df160 8 = .ok (.pop, 1) := by decide +kernel
theorem dJ0_checkIndex_df160_9 : decode cJ0_checkIndex_df160 9 = .ok (.return_, 1) := by decide +kernel
theorem dJ1_charAt_3b067_0 : decode cJ1_charAt_3b067 0 = .ok (.iload_n 1, 1) := by decide +kernel
theorem dJ1_charAt_3b067_1 : decode cJ1_charAt_3b067 1 = .ok (.aload_n 0, 1) := by decide +kernel
theorem dJ1_charAt_3b067_2 : decode cJ1_charAt_3b067 2 = .ok (.arraylength, 1) := by decide +kernel
theorem dJ1_charAt_3b067_3 : decode cJ1_charAt_3b067 3 = .ok (.invokestatic 9, 3) := by decide +kernel
theorem dJ1_charAt_3b067_6 : decode cJ1_charAt_3b067 6 = .ok (.aload_n 0, 1) := by decide +kernel
theorem dJ1_charAt_3b067_7 : decode cJ1_charAt_3b067 7 = .ok (.iload_n 1, 1) := by decide +kernel
theorem dJ1_charAt_3b067_8 : decode cJ1_charAt_3b067 8 = .ok (.baload, 1) := by decide +kernel
theorem dJ1_charAt_3b067_9 : decode cJ1_charAt_3b067 9 = .ok (.sipush 255, 3) := by decide +kernel
theorem dJ1_charAt_3b067_12 : decode cJ1_charAt_3b067 12 = .ok (.iand, 1) := by decide +kernel
theorem dJ1_charAt_3b067_13 : decode cJ1_charAt_3b067 13 = .ok (.i2c, 1) := by decide +kernel
theorem dJ1_charAt_3b067_14 : decode cJ1_charAt_3b067 14 = .ok (.ireturn, 1) := by decide +kernel
theorem dJ2_getChar_3b067_0 : decode cJ2_getChar_3b067 0 = .ok (.getstatic 44, 3) := by decide +kernel
theorem dJ2_getChar_3b067_3 : decode cJ2_getChar_3b067 3 = .ok (.ifCond .ne 25, 3) := by decide +kernel
theorem dJ2_getChar_3b067_6 : decode cJ2_getChar_3b067 6 = .ok (.iload_n 1, 1) := by decide +kernel
theorem dJ2_getChar_3b067_7 : decode cJ2_getChar_3b067 7 = .ok (.ifCond .lt 11, 3) := by decide +kernel
theorem dJ2_getChar_3b067_10 : decode cJ2_getChar_3b067 10 = .ok (.iload_n 1, 1) := by decide +kernel
theorem dJ2_getChar_3b067_11 : decode cJ2_getChar_3b067 11 = .ok (.aload_n 0, 1) := by decide +kernel
theorem dJ2_getChar_3b067_12 : decode cJ2_getChar_3b067 12 = .ok (.invokestatic 48, 3) := by decide +kernel
theorem dJ2_getChar_3b067_15 : decode cJ2_getChar_3b067 15 = .ok (.if_icmp .lt 13, 3) := by decide +kernel
theorem dJ2_getChar_3b067_18 : decode cJ2_getChar_3b067 18 = .ok (.new 52, 3) := by decide +kernel
theorem dJ2_getChar_3b067_21 : decode cJ2_getChar_3b067 21 = .ok (.dup, 1) := by decide +kernel
theorem dJ2_getChar_3b067_22 : decode cJ2_getChar_3b067 22 = .ok (.ldc 54, 2) := by decide +kernel
theorem dJ2_getChar_3b067_24 : decode cJ2_getChar_3b067 24 = .ok (.invokespecial 56, 3) := by decide +kernel
theorem dJ2_getChar_3b067_27 : decode cJ2_getChar_3b067 27 = .ok (.athrow, 1) := by decide +kernel
theorem dJ2_getChar_3b067_28 : decode cJ2_getChar_3b067 28 = .ok (.iload_n 1, 1) := by decide +kernel
theorem dJ2_getChar_3b067_29 : decode cJ2_getChar_3b067 29 = .ok (.iconst 1, 1) := by decide +kernel
theorem dJ2_getChar_3b067_30 : decode cJ2_getChar_3b067 30 = .ok (.ishl, 1) := by decide +kernel
theorem dJ2_getChar_3b067_31 : decode cJ2_getChar_3b067 31 = .ok (.istore_n 1, 1) := by decide +kernel
theorem dJ2_getChar_3b067_32 : decode cJ2_getChar_3b067 32 = .ok (.aload_n 0, 1) := by decide +kernel
theorem dJ2_getChar_3b067_33 : decode cJ2_getChar_3b067 33 = .ok (.iload_n 1, 1) := by decide +kernel
theorem dJ2_getChar_3b067_34 : decode cJ2_getChar_3b067 34 = .ok (.iinc 1 1, 3) := by decide +kernel
theorem dJ2_getChar_3b067_37 : decode cJ2_getChar_3b067 37 = .ok (.baload, 1) := by decide +kernel
theorem dJ2_getChar_3b067_38 : decode cJ2_getChar_3b067 38 = .ok (.sipush 255, 3) := by decide +kernel
theorem dJ2_getChar_3b067_41 : decode cJ2_getChar_3b067 41 = .ok (.iand, 1) := by decide +kernel
theorem dJ2_getChar_3b067_42 : decode cJ2_getChar_3b067 42 = .ok (.getstatic 59, 3) := by decide +kernel
theorem dJ2_getChar_3b067_45 : decode cJ2_getChar_3b067 45 = .ok (.ishl, 1) := by decide +kernel
theorem dJ2_getChar_3b067_46 : decode cJ2_getChar_3b067 46 = .ok (.aload_n 0, 1) := by decide +kernel
theorem dJ2_getChar_3b067_47 : decode cJ2_getChar_3b067 47 = .ok (.iload_n 1, 1) := by decide +kernel
theorem dJ2_getChar_3b067_48 : decode cJ2_getChar_3b067 48 = .ok (.baload, 1) := by decide +kernel
theorem dJ2_getChar_3b067_49 : decode cJ2_getChar_3b067 49 = .ok (.sipush 255, 3) := by decide +kernel
theorem dJ2_getChar_3b067_52 : decode cJ2_getChar_3b067 52 = .ok (.iand, 1) := by decide +kernel
theorem dJ2_getChar_3b067_53 : decode cJ2_getChar_3b067 53 = .ok (.getstatic 63, 3) := by decide +kernel
theorem dJ2_getChar_3b067_56 : decode cJ2_getChar_3b067 56 = .ok (.ishl, 1) := by decide +kernel
theorem dJ2_getChar_3b067_57 : decode cJ2_getChar_3b067 57 = .ok (.ior, 1) := by decide +kernel
theorem dJ2_getChar_3b067_58 : decode cJ2_getChar_3b067 58 = .ok (.i2c, 1) := by decide +kernel
theorem dJ2_getChar_3b067_59 : decode cJ2_getChar_3b067 59 = .ok (.ireturn, 1) := by decide +kernel
theorem dJ2_length_9d52b_0 : decode cJ2_length_9d52b 0 = .ok (.aload_n 0, 1) := by decide +kernel
theorem dJ2_length_9d52b_1 : decode cJ2_length_9d52b 1 = .ok (.arraylength, 1) := by decide +kernel
theorem dJ2_length_9d52b_2 : decode cJ2_length_9d52b 2 = .ok (.iconst 1, 1) := by decide +kernel
theorem dJ2_length_9d52b_3 : decode cJ2_length_9d52b 3 = .ok (.ishr, 1) := by decide +kernel
theorem dJ2_length_9d52b_4 : decode cJ2_length_9d52b 4 = .ok (.ireturn, 1) := by decide +kernel
theorem dJ2_charAt_3b067_0 : decode cJ2_charAt_3b067 0 = .ok (.iload_n 1, 1) := by decide +kernel
theorem dJ2_charAt_3b067_1 : decode cJ2_charAt_3b067 1 = .ok (.aload_n 0, 1) := by decide +kernel
theorem dJ2_charAt_3b067_2 : decode cJ2_charAt_3b067 2 = .ok (.invokestatic 67, 3) := by decide +kernel
theorem dJ2_charAt_3b067_5 : decode cJ2_charAt_3b067 5 = .ok (.aload_n 0, 1) := by decide +kernel
theorem dJ2_charAt_3b067_6 : decode cJ2_charAt_3b067 6 = .ok (.iload_n 1, 1) := by decide +kernel
theorem dJ2_charAt_3b067_7 : decode cJ2_charAt_3b067 7 = .ok (.invokestatic 71, 3) := by decide +kernel
theorem dJ2_charAt_3b067_10 : decode cJ2_charAt_3b067 10 = .ok (.ireturn, 1) := by decide +kernel
theorem dJ2_checkIndex_2214a_0 : decode cJ2_checkIndex_2214a 0 = .ok (.iload_n 0, 1) := by decide +kernel
theorem dJ2_checkIndex_2214a_1 : decode cJ2_checkIndex_2214a 1 = .ok (.aload_n 1, 1) := by decide +kernel
theorem dJ2_checkIndex_2214a_2 : decode cJ2_checkIndex_2214a 2 = .ok (.invokestatic 48, 3) := by decide +kernel
theorem dJ2_checkIndex_2214a_5 : decode cJ2_checkIndex_2214a 5 = .ok (.invokestatic 414, 3) := by decide +kernel
theorem dJ2_checkIndex_2214a_8 : decode cJ2_checkIndex_2214a 8 = .ok (.return_, 1) := by decide +kernel
theorem dJ7_fill_d0a16_0 : decode cJ7_fill_d0a16 0 = .ok (.iconst 0, 1) := by decide +kernel
theorem dJ7_fill_d0a16_1 : decode cJ7_fill_d0a16 1 = .ok (.istore_n 3, 1) := by decide +kernel
theorem dJ7_fill_d0a16_2 : decode cJ7_fill_d0a16 2 = .ok (.aload_n 0, 1) := by decide +kernel
theorem dJ7_fill_d0a16_3 : decode cJ7_fill_d0a16 3 = .ok (.arraylength, 1) := by decide +kernel
theorem dJ7_fill_d0a16_4 : decode cJ7_fill_d0a16 4 = .ok (.istore 4, 2) := by decide +kernel
theorem dJ7_fill_d0a16_6 : decode cJ7_fill_d0a16 6 = .ok (.iload_n 3, 1) := by decide +kernel
theorem dJ7_fill_d0a16_7 : decode cJ7_fill_d0a16 7 = .ok (.iload 4, 2) := by decide +kernel
theorem dJ7_fill_d0a16_9 : decode cJ7_fill_d0a16 9 = .ok (.if_icmp .ge 13, 3) := by decide +kernel
theorem dJ7_fill_d0a16_12 : decode cJ7_fill_d0a16 12 = .ok (.aload_n 0, 1) := by decide +kernel
theorem dJ7_fill_d0a16_13 : decode cJ7_fill_d0a16 13 = .ok (.iload_n 3, 1) := by decide +kernel
theorem dJ7_fill_d0a16_14 : decode cJ7_fill_d0a16 14 = .ok (.lload_n 1, 1) := by decide +kernel
theorem dJ7_fill_d0a16_15 : decode cJ7_fill_d0a16 15 = .ok (.lastore, 1) := by decide +kernel
theorem dJ7_fill_d0a16_16 : decode cJ7_fill_d0a16 16 = .ok (.iinc 3 1, 3) := by decide +kernel
theorem dJ7_fill_d0a16_19 : decode cJ7_fill_d0a16 19 = .ok (.goto (-13), 3) := by decide +kernel
theorem dJ7_fill_d0a16_22 : decode cJ7_fill_d0a16 22 = .ok (.return_, 1) := by decide +kernel
theorem dJ7_fill_53178_0 : decode cJ7_fill_53178 0 = .ok (.iconst 0, 1) := by decide +kernel
theorem dJ7_fill_53178_1 : decode cJ7_fill_53178 1 = .ok (.istore_n 2, 1) := by decide +kernel
theorem dJ7_fill_53178_2 : decode cJ7_fill_53178 2 = .ok (.aload_n 0, 1) := by decide +kernel
theorem dJ7_fill_53178_3 : decode cJ7_fill_53178 3 = .ok (.arraylength, 1) := by decide +kernel
theorem dJ7_fill_53178_4 : decode cJ7_fill_53178 4 = .ok (.istore_n 3, 1) := by decide +kernel
theorem dJ7_fill_53178_5 : decode cJ7_fill_53178 5 = .ok (.iload_n 2, 1) := by decide +kernel
theorem dJ7_fill_53178_6 : decode cJ7_fill_53178 6 = .ok (.iload_n 3, 1) := by decide +kernel
theorem dJ7_fill_53178_7 : decode cJ7_fill_53178 7 = .ok (.if_icmp .ge 13, 3) := by decide +kernel
theorem dJ7_fill_53178_10 : decode cJ7_fill_53178 10 = .ok (.aload_n 0, 1) := by decide +kernel
theorem dJ7_fill_53178_11 : decode cJ7_fill_53178 11 = .ok (.iload_n 2, 1) := by decide +kernel
theorem dJ7_fill_53178_12 : decode cJ7_fill_53178 12 = .ok (.iload_n 1, 1) := by decide +kernel
theorem dJ7_fill_53178_13 : decode cJ7_fill_53178 13 = .ok (.iastore, 1) := by decide +kernel
theorem dJ7_fill_53178_14 : decode cJ7_fill_53178 14 = .ok (.iinc 2 1, 3) := by decide +kernel
theorem dJ7_fill_53178_17 : decode cJ7_fill_53178 17 = .ok (.goto (-12), 3) := by decide +kernel
theorem dJ7_fill_53178_20 : decode cJ7_fill_53178 20 = .ok (.return_, 1) := by decide +kernel
theorem dJ7_copyOf_59c91_0 : decode cJ7_copyOf_59c91 0 = .ok (.iload_n 1, 1) := by decide +kernel
theorem dJ7_copyOf_59c91_1 : decode cJ7_copyOf_59c91 1 = .ok (.aload_n 0, 1) := by decide +kernel
theorem dJ7_copyOf_59c91_2 : decode cJ7_copyOf_59c91 2 = .ok (.arraylength, 1) := by decide +kernel
theorem dJ7_copyOf_59c91_3 : decode cJ7_copyOf_59c91 3 = .ok (.if_icmp .ne 11, 3) := by decide +kernel
theorem dJ7_copyOf_59c91_6 : decode cJ7_copyOf_59c91 6 = .ok (.aload_n 0, 1) := by decide +kernel
theorem dJ7_copyOf_59c91_7 : decode cJ7_copyOf_59c91 7 = .ok (.invokevirtual 316, 3) := by decide +kernel
theorem dJ7_copyOf_59c91_10 : decode cJ7_copyOf_59c91 10 = .ok (.checkcast 317, 3) := by decide +kernel
theorem dJ7_copyOf_59c91_13 : decode cJ7_copyOf_59c91 13 = .ok (.areturn, 1) := by decide +kernel
theorem dJ7_copyOf_59c91_14 : decode cJ7_copyOf_59c91 14 = .ok (.iload_n 1, 1) := by decide +kernel
theorem dJ7_copyOf_59c91_15 : decode cJ7_copyOf_59c91 15 = .ok (.newarray .int, 2) := by decide +kernel
theorem dJ7_copyOf_59c91_17 : decode cJ7_copyOf_59c91 17 = .ok (.astore_n 2, 1) := by decide +kernel
theorem dJ7_copyOf_59c91_18 : decode cJ7_copyOf_59c91 18 = .ok (.aload_n 0, 1) := by decide +kernel
theorem dJ7_copyOf_59c91_19 : decode cJ7_copyOf_59c91 19 = .ok (.iconst 0, 1) := by decide +kernel
theorem dJ7_copyOf_59c91_20 : decode cJ7_copyOf_59c91 20 = .ok (.aload_n 2, 1) := by decide +kernel
theorem dJ7_copyOf_59c91_21 : decode cJ7_copyOf_59c91 21 = .ok (.iconst 0, 1) := by decide +kernel
theorem dJ7_copyOf_59c91_22 : decode cJ7_copyOf_59c91 22 = .ok (.aload_n 0, 1) := by decide +kernel
theorem dJ7_copyOf_59c91_23 : decode cJ7_copyOf_59c91 23 = .ok (.arraylength, 1) := by decide +kernel
theorem dJ7_copyOf_59c91_24 : decode cJ7_copyOf_59c91 24 = .ok (.iload_n 1, 1) := by decide +kernel
theorem dJ7_copyOf_59c91_25 : decode cJ7_copyOf_59c91 25 = .ok (.invokestatic 304, 3) := by decide +kernel
theorem dJ7_copyOf_59c91_28 : decode cJ7_copyOf_59c91 28 = .ok (.invokestatic 150, 3) := by decide +kernel
theorem dJ7_copyOf_59c91_31 : decode cJ7_copyOf_59c91 31 = .ok (.aload_n 2, 1) := by decide +kernel
theorem dJ7_copyOf_59c91_32 : decode cJ7_copyOf_59c91 32 = .ok (.areturn, 1) := by decide +kernel
theorem dJ3_checkIndex_8e157_0 : decode cJ3_checkIndex_8e157 0 = .ok (.iload_n 0, 1) := by decide +kernel
theorem dJ3_checkIndex_8e157_1 : decode cJ3_checkIndex_8e157 1 = .ok (.ifCond .lt 8, 3) := by decide +kernel
theorem dJ3_checkIndex_8e157_4 : decode cJ3_checkIndex_8e157 4 = .ok (.iload_n 0, 1) := by decide +kernel
theorem dJ3_checkIndex_8e157_5 : decode cJ3_checkIndex_8e157 5 = .ok (.iload_n 1, 1) := by decide +kernel
theorem dJ3_checkIndex_8e157_6 : decode cJ3_checkIndex_8e157 6 = .ok (.if_icmp .lt 10, 3) := by decide +kernel
theorem dJ3_checkIndex_8e157_9 : decode cJ3_checkIndex_8e157 9 = .ok (.aload_n 2, 1) := by decide +kernel
theorem dJ3_checkIndex_8e157_10 : decode cJ3_checkIndex_8e157 10 = .ok (.iload_n 0, 1) := by decide +kernel
theorem dJ3_checkIndex_8e157_11 : decode cJ3_checkIndex_8e157 11 = .ok (.iload_n 1, 1) := by decide +kernel
theorem dJ3_checkIndex_8e157_12 : decode cJ3_checkIndex_8e157 12 = .ok (.invokestatic 95, 3) := by decide +kernel
theorem dJ3_checkIndex_8e157_15 : decode cJ3_checkIndex_8e157 15 = .ok (.athrow, 1) := by decide +kernel
theorem dJ3_checkIndex_8e157_16 : decode cJ3_checkIndex_8e157 16 = .ok (.iload_n 0, 1) := by decide +kernel
theorem dJ3_checkIndex_8e157_17 : decode cJ3_checkIndex_8e157 17 = .ok (.ireturn, 1) := by decide +kernel
theorem dL_law_0 : decode cL_law 0 = .ok (.new 7, 3) := by decide +kernel
theorem dL_law_3 : decode cL_law 3 = .ok (.dup, 1) := by decide +kernel
theorem dL_law_4 : decode cL_law 4 = .ok (.invokespecial 9, 3) := by decide +kernel
theorem dL_law_7 : decode cL_law 7 = .ok (.astore_n 1, 1) := by decide +kernel
theorem dL_law_8 : decode cL_law 8 = .ok (.new 10, 3) := by decide +kernel
theorem dL_law_11 : decode cL_law 11 = .ok (.dup, 1) := by decide +kernel
theorem dL_law_12 : decode cL_law 12 = .ok (.invokespecial 12, 3) := by decide +kernel
theorem dL_law_15 : decode cL_law 15 = .ok (.astore_n 2, 1) := by decide +kernel
theorem dL_law_16 : decode cL_law 16 = .ok (.iconst 0, 1) := by decide +kernel
theorem dL_law_17 : decode cL_law 17 = .ok (.istore_n 3, 1) := by decide +kernel
theorem dL_law_18 : decode cL_law 18 = .ok (.iload_n 3, 1) := by decide +kernel
theorem dL_law_19 : decode cL_law 19 = .ok (.aload_n 0, 1) := by decide +kernel
theorem dL_law_20 : decode cL_law 20 = .ok (.arraylength, 1) := by decide +kernel
theorem dL_law_21 : decode cL_law 21 = .ok (.bipush 7, 2) := by decide +kernel
theorem dL_law_23 : decode cL_law 23 = .ok (.isub, 1) := by decide +kernel
theorem dL_law_24 : decode cL_law 24 = .ok (.if_icmp .gt 2105, 3) := by decide +kernel
theorem dL_law_27 : decode cL_law 27 = .ok (.aload_n 0, 1) := by decide +kernel
theorem dL_law_28 : decode cL_law 28 = .ok (.iload_n 3, 1) := by decide +kernel
theorem dL_law_29 : decode cL_law 29 = .ok (.iaload, 1) := by decide +kernel
theorem dL_law_30 : decode cL_law 30 = .ok (.bipush 63, 2) := by decide +kernel
theorem dL_law_32 : decode cL_law 32 = .ok (.iand, 1) := by decide +kernel
theorem dL_law_33 : decode cL_law 33 = .ok (.tableswitch 2090 0 44 #[195, 218, 261, 314, 377, 420, 453, 476, 519, 552, 585, 648, 702, 735, 798, 821, 854, 887, 962, 1026, 1101, 1164, 1197, 1230, 1305, 1318, 1371, 1414, 1457, 1491, 1514, 1547, 1600, 1664, 1727, 1780, 1823, 1856, 1879, 1902, 1935, 1968, 2011, 2044, 2067], 195) := by decide +kernel
theorem dL_law_228 : decode cL_law 228 = .ok (.aload_n 1, 1) := by decide +kernel
theorem dL_law_229 : decode cL_law 229 = .ok (.aload_n 0, 1) := by decide +kernel
theorem dL_law_230 : decode cL_law 230 = .ok (.iload_n 3, 1) := by decide +kernel
theorem dL_law_231 : decode cL_law 231 = .ok (.iconst 1, 1) := by decide +kernel
theorem dL_law_232 : decode cL_law 232 = .ok (.iadd, 1) := by decide +kernel
theorem dL_law_233 : decode cL_law 233 = .ok (.iaload, 1) := by decide +kernel
theorem dL_law_234 : decode cL_law 234 = .ok (.invokevirtual 13, 3) := by decide +kernel
theorem dL_law_237 : decode cL_law 237 = .ok (.aload_n 2, 1) := by decide +kernel
theorem dL_law_238 : decode cL_law 238 = .ok (.aload_n 0, 1) := by decide +kernel
theorem dL_law_239 : decode cL_law 239 = .ok (.iload_n 3, 1) := by decide +kernel
theorem dL_law_240 : decode cL_law 240 = .ok (.iconst 1, 1) := by decide +kernel
theorem dL_law_241 : decode cL_law 241 = .ok (.iadd, 1) := by decide +kernel
theorem dL_law_242 : decode cL_law 242 = .ok (.iaload, 1) := by decide +kernel
theorem dL_law_243 : decode cL_law 243 = .ok (.invokevirtual 17, 3) := by decide +kernel
theorem dL_law_246 : decode cL_law 246 = .ok (.if_icmp .eq 1877, 3) := by decide +kernel
theorem dL_law_249 : decode cL_law 249 = .ok (.iconst 0, 1) := by decide +kernel
theorem dL_law_250 : decode cL_law 250 = .ok (.ireturn, 1) := by decide +kernel
theorem dL_law_251 : decode cL_law 251 = .ok (.aload_n 1, 1) := by decide +kernel
theorem dL_law_252 : decode cL_law 252 = .ok (.aload_n 0, 1) := by decide +kernel
theorem dL_law_253 : decode cL_law 253 = .ok (.iload_n 3, 1) := by decide +kernel
theorem dL_law_254 : decode cL_law 254 = .ok (.iconst 1, 1) := by decide +kernel
theorem dL_law_255 : decode cL_law 255 = .ok (.iadd, 1) := by decide +kernel
theorem dL_law_256 : decode cL_law 256 = .ok (.iaload, 1) := by decide +kernel
theorem dL_law_257 : decode cL_law 257 = .ok (.aload_n 0, 1) := by decide +kernel
theorem dL_law_258 : decode cL_law 258 = .ok (.iload_n 3, 1) := by decide +kernel
theorem dL_law_259 : decode cL_law 259 = .ok (.iconst 2, 1) := by decide +kernel
theorem dL_law_260 : decode cL_law 260 = .ok (.iadd, 1) := by decide +kernel
theorem dL_law_261 : decode cL_law 261 = .ok (.iaload, 1) := by decide +kernel
theorem dL_law_262 : decode cL_law 262 = .ok (.aload_n 0, 1) := by decide +kernel
theorem dL_law_263 : decode cL_law 263 = .ok (.iload_n 3, 1) := by decide +kernel
theorem dL_law_264 : decode cL_law 264 = .ok (.iconst 3, 1) := by decide +kernel
theorem dL_law_265 : decode cL_law 265 = .ok (.iadd, 1) := by decide +kernel
theorem dL_law_266 : decode cL_law 266 = .ok (.iaload, 1) := by decide +kernel
theorem dL_law_267 : decode cL_law 267 = .ok (.invokevirtual 18, 3) := by decide +kernel
theorem dL_law_270 : decode cL_law 270 = .ok (.aload_n 2, 1) := by decide +kernel
theorem dL_law_271 : decode cL_law 271 = .ok (.aload_n 0, 1) := by decide +kernel
theorem dL_law_272 : decode cL_law 272 = .ok (.iload_n 3, 1) := by decide +kernel
theorem dL_law_273 : decode cL_law 273 = .ok (.iconst 1, 1) := by decide +kernel
theorem dL_law_274 : decode cL_law 274 = .ok (.iadd, 1) := by decide +kernel
theorem dL_law_275 : decode cL_law 275 = .ok (.iaload, 1) := by decide +kernel
theorem dL_law_276 : decode cL_law 276 = .ok (.aload_n 0, 1) := by decide +kernel
theorem dL_law_277 : decode cL_law 277 = .ok (.iload_n 3, 1) := by decide +kernel
theorem dL_law_278 : decode cL_law 278 = .ok (.iconst 2, 1) := by decide +kernel
theorem dL_law_279 : decode cL_law 279 = .ok (.iadd, 1) := by decide +kernel
theorem dL_law_280 : decode cL_law 280 = .ok (.iaload, 1) := by decide +kernel
theorem dL_law_281 : decode cL_law 281 = .ok (.aload_n 0, 1) := by decide +kernel
theorem dL_law_282 : decode cL_law 282 = .ok (.iload_n 3, 1) := by decide +kernel
theorem dL_law_283 : decode cL_law 283 = .ok (.iconst 3, 1) := by decide +kernel
theorem dL_law_284 : decode cL_law 284 = .ok (.iadd, 1) := by decide +kernel
theorem dL_law_285 : decode cL_law 285 = .ok (.iaload, 1) := by decide +kernel
theorem dL_law_286 : decode cL_law 286 = .ok (.invokevirtual 22, 3) := by decide +kernel
theorem dL_law_289 : decode cL_law 289 = .ok (.if_icmp .eq 1834, 3) := by decide +kernel
theorem dL_law_292 : decode cL_law 292 = .ok (.iconst 0, 1) := by decide +kernel
theorem dL_law_293 : decode cL_law 293 = .ok (.ireturn, 1) := by decide +kernel
theorem dL_law_294 : decode cL_law 294 = .ok (.aload_n 1, 1) := by decide +kernel
theorem dL_law_295 : decode cL_law 295 = .ok (.aload_n 0, 1) := by decide +kernel
theorem dL_law_296 : decode cL_law 296 = .ok (.iload_n 3, 1) := by decide +kernel
theorem dL_law_297 : decode cL_law 297 = .ok (.iconst 1, 1) := by decide +kernel
theorem dL_law_298 : decode cL_law 298 = .ok (.iadd, 1) := by decide +kernel
theorem dL_law_299 : decode cL_law 299 = .ok (.iaload, 1) := by decide +kernel
theorem dL_law_300 : decode cL_law 300 = .ok (.aload_n 0, 1) := by decide +kernel
theorem dL_law_301 : decode cL_law 301 = .ok (.iload_n 3, 1) := by decide +kernel
theorem dL_law_302 : decode cL_law 302 = .ok (.iconst 2, 1) := by decide +kernel
theorem dL_law_303 : decode cL_law 303 = .ok (.iadd, 1) := by decide +kernel
theorem dL_law_304 : decode cL_law 304 = .ok (.iaload, 1) := by decide +kernel
theorem dL_law_305 : decode cL_law 305 = .ok (.aload_n 0, 1) := by decide +kernel
theorem dL_law_306 : decode cL_law 306 = .ok (.iload_n 3, 1) := by decide +kernel
theorem dL_law_307 : decode cL_law 307 = .ok (.iconst 3, 1) := by decide +kernel
theorem dL_law_308 : decode cL_law 308 = .ok (.iadd, 1) := by decide +kernel
theorem dL_law_309 : decode cL_law 309 = .ok (.iaload, 1) := by decide +kernel
theorem dL_law_310 : decode cL_law 310 = .ok (.aload_n 0, 1) := by decide +kernel
theorem dL_law_311 : decode cL_law 311 = .ok (.iload_n 3, 1) := by decide +kernel
theorem dL_law_312 : decode cL_law 312 = .ok (.iconst 4, 1) := by decide +kernel
theorem dL_law_313 : decode cL_law 313 = .ok (.iadd, 1) := by decide +kernel
theorem dL_law_314 : decode cL_law 314 = .ok (.iaload, 1) := by decide +kernel
theorem dL_law_315 : decode cL_law 315 = .ok (.invokevirtual 23, 3) := by decide +kernel
theorem dL_law_318 : decode cL_law 318 = .ok (.aload_n 2, 1) := by decide +kernel
theorem dL_law_319 : decode cL_law 319 = .ok (.aload_n 0, 1) := by decide +kernel
theorem dL_law_320 : decode cL_law 320 = .ok (.iload_n 3, 1) := by decide +kernel
theorem dL_law_321 : decode cL_law 321 = .ok (.iconst 1, 1) := by decide +kernel
theorem dL_law_322 : decode cL_law 322 = .ok (.iadd, 1) := by decide +kernel
theorem dL_law_323 : decode cL_law 323 = .ok (.iaload, 1) := by decide +kernel
theorem dL_law_324 : decode cL_law 324 = .ok (.aload_n 0, 1) := by decide +kernel
theorem dL_law_325 : decode cL_law 325 = .ok (.iload_n 3, 1) := by decide +kernel
theorem dL_law_326 : decode cL_law 326 = .ok (.iconst 2, 1) := by decide +kernel
theorem dL_law_327 : decode cL_law 327 = .ok (.iadd, 1) := by decide +kernel
theorem dL_law_328 : decode cL_law 328 = .ok (.iaload, 1) := by decide +kernel
theorem dL_law_329 : decode cL_law 329 = .ok (.aload_n 0, 1) := by decide +kernel
theorem dL_law_330 : decode cL_law 330 = .ok (.iload_n 3, 1) := by decide +kernel
theorem dL_law_331 : decode cL_law 331 = .ok (.iconst 3, 1) := by decide +kernel
theorem dL_law_332 : decode cL_law 332 = .ok (.iadd, 1) := by decide +kernel
theorem dL_law_333 : decode cL_law 333 = .ok (.iaload, 1) := by decide +kernel
theorem dL_law_334 : decode cL_law 334 = .ok (.aload_n 0, 1) := by decide +kernel
theorem dL_law_335 : decode cL_law 335 = .ok (.iload_n 3, 1) := by decide +kernel
theorem dL_law_336 : decode cL_law 336 = .ok (.iconst 4, 1) := by decide +kernel
theorem dL_law_337 : decode cL_law 337 = .ok (.iadd, 1) := by decide +kernel
theorem dL_law_338 : decode cL_law 338 = .ok (.iaload, 1) := by decide +kernel
theorem dL_law_339 : decode cL_law 339 = .ok (.invokevirtual 27, 3) := by decide +kernel
theorem dL_law_342 : decode cL_law 342 = .ok (.if_icmp .eq 1781, 3) := by decide +kernel
theorem dL_law_345 : decode cL_law 345 = .ok (.iconst 0, 1) := by decide +kernel
theorem dL_law_346 : decode cL_law 346 = .ok (.ireturn, 1) := by decide +kernel
theorem dL_law_347 : decode cL_law 347 = .ok (.aload_n 1, 1) := by decide +kernel
theorem dL_law_348 : decode cL_law 348 = .ok (.aload_n 0, 1) := by decide +kernel
theorem dL_law_349 : decode cL_law 349 = .ok (.iload_n 3, 1) := by decide +kernel
theorem dL_law_350 : decode cL_law 350 = .ok (.iconst 1, 1) := by decide +kernel
theorem dL_law_351 : decode cL_law 351 = .ok (.iadd, 1) := by decide +kernel
theorem dL_law_352 : decode cL_law 352 = .ok (.iaload, 1) := by decide +kernel
theorem dL_law_353 : decode cL_law 353 = .ok (.aload_n 0, 1) := by decide +kernel
theorem dL_law_354 : decode cL_law 354 = .ok (.iload_n 3, 1) := by decide +kernel
theorem dL_law_355 : decode cL_law 355 = .ok (.iconst 2, 1) := by decide +kernel
theorem dL_law_356 : decode cL_law 356 = .ok (.iadd, 1) := by decide +kernel
theorem dL_law_357 : decode cL_law 357 = .ok (.iaload, 1) := by decide +kernel
theorem dL_law_358 : decode cL_law 358 = .ok (.aload_n 0, 1) := by decide +kernel
theorem dL_law_359 : decode cL_law 359 = .ok (.iload_n 3, 1) := by decide +kernel
theorem dL_law_360 : decode cL_law 360 = .ok (.iconst 3, 1) := by decide +kernel
theorem dL_law_361 : decode cL_law 361 = .ok (.iadd, 1) := by decide +kernel
theorem dL_law_362 : decode cL_law 362 = .ok (.iaload, 1) := by decide +kernel
theorem dL_law_363 : decode cL_law 363 = .ok (.aload_n 0, 1) := by decide +kernel
theorem dL_law_364 : decode cL_law 364 = .ok (.iload_n 3, 1) := by decide +kernel
theorem dL_law_365 : decode cL_law 365 = .ok (.iconst 4, 1) := by decide +kernel
theorem dL_law_366 : decode cL_law 366 = .ok (.iadd, 1) := by decide +kernel
theorem dL_law_367 : decode cL_law 367 = .ok (.iaload, 1) := by decide +kernel
theorem dL_law_368 : decode cL_law 368 = .ok (.aload_n 0, 1) := by decide +kernel
theorem dL_law_369 : decode cL_law 369 = .ok (.iload_n 3, 1) := by decide +kernel
theorem dL_law_370 : decode cL_law 370 = .ok (.iconst 5, 1) := by decide +kernel
theorem dL_law_371 : decode cL_law 371 = .ok (.iadd, 1) := by decide +kernel
theorem dL_law_372 : decode cL_law 372 = .ok (.iaload, 1) := by decide +kernel
theorem dL_law_373 : decode cL_law 373 = .ok (.invokevirtual 28, 3) := by decide +kernel
theorem dL_law_376 : decode cL_law 376 = .ok (.aload_n 2, 1) := by decide +kernel
theorem dL_law_377 : decode cL_law 377 = .ok (.aload_n 0, 1) := by decide +kernel
theorem dL_law_378 : decode cL_law 378 = .ok (.iload_n 3, 1) := by decide +kernel
theorem dL_law_379 : decode cL_law 379 = .ok (.iconst 1, 1) := by decide +kernel
theorem dL_law_380 : decode cL_law 380 = .ok (.iadd, 1) := by decide +kernel
theorem dL_law_381 : decode cL_law 381 = .ok (.iaload, 1) := by decide +kernel
theorem dL_law_382 : decode cL_law 382 = .ok (.aload_n 0, 1) := by decide +kernel
theorem dL_law_383 : decode cL_law 383 = .ok (.iload_n 3, 1) := by decide +kernel
theorem dL_law_384 : decode cL_law 384 = .ok (.iconst 2, 1) := by decide +kernel
theorem dL_law_385 : decode cL_law 385 = .ok (.iadd, 1) := by decide +kernel
theorem dL_law_386 : decode cL_law 386 = .ok (.iaload, 1) := by decide +kernel
theorem dL_law_387 : decode cL_law 387 = .ok (.aload_n 0, 1) := by decide +kernel
theorem dL_law_388 : decode cL_law 388 = .ok (.iload_n 3, 1) := by decide +kernel
theorem dL_law_389 : decode cL_law 389 = .ok (.iconst 3, 1) := by decide +kernel
theorem dL_law_390 : decode cL_law 390 = .ok (.iadd, 1) := by decide +kernel
theorem dL_law_391 : decode cL_law 391 = .ok (.iaload, 1) := by decide +kernel
theorem dL_law_392 : decode cL_law 392 = .ok (.aload_n 0, 1) := by decide +kernel
theorem dL_law_393 : decode cL_law 393 = .ok (.iload_n 3, 1) := by decide +kernel
theorem dL_law_394 : decode cL_law 394 = .ok (.iconst 4, 1) := by decide +kernel
theorem dL_law_395 : decode cL_law 395 = .ok (.iadd, 1) := by decide +kernel
theorem dL_law_396 : decode cL_law 396 = .ok (.iaload, 1) := by decide +kernel
theorem dL_law_397 : decode cL_law 397 = .ok (.aload_n 0, 1) := by decide +kernel
theorem dL_law_398 : decode cL_law 398 = .ok (.iload_n 3, 1) := by decide +kernel
theorem dL_law_399 : decode cL_law 399 = .ok (.iconst 5, 1) := by decide +kernel
theorem dL_law_400 : decode cL_law 400 = .ok (.iadd, 1) := by decide +kernel
theorem dL_law_401 : decode cL_law 401 = .ok (.iaload, 1) := by decide +kernel
theorem dL_law_402 : decode cL_law 402 = .ok (.invokevirtual 32, 3) := by decide +kernel
theorem dL_law_405 : decode cL_law 405 = .ok (.if_icmp .eq 1718, 3) := by decide +kernel
theorem dL_law_408 : decode cL_law 408 = .ok (.iconst 0, 1) := by decide +kernel
theorem dL_law_409 : decode cL_law 409 = .ok (.ireturn, 1) := by decide +kernel
theorem dL_law_410 : decode cL_law 410 = .ok (.aload_n 1, 1) := by decide +kernel
theorem dL_law_411 : decode cL_law 411 = .ok (.aload_n 0, 1) := by decide +kernel
theorem dL_law_412 : decode cL_law 412 = .ok (.iload_n 3, 1) := by decide +kernel
theorem dL_law_413 : decode cL_law 413 = .ok (.iconst 1, 1) := by decide +kernel
theorem dL_law_414 : decode cL_law 414 = .ok (.iadd, 1) := by decide +kernel
theorem dL_law_415 : decode cL_law 415 = .ok (.iaload, 1) := by decide +kernel
theorem dL_law_416 : decode cL_law 416 = .ok (.aload_n 0, 1) := by decide +kernel
theorem dL_law_417 : decode cL_law 417 = .ok (.iload_n 3, 1) := by decide +kernel
theorem dL_law_418 : decode cL_law 418 = .ok (.iconst 2, 1) := by decide +kernel
theorem dL_law_419 : decode cL_law 419 = .ok (.iadd, 1) := by decide +kernel
theorem dL_law_420 : decode cL_law 420 = .ok (.iaload, 1) := by decide +kernel
theorem dL_law_421 : decode cL_law 421 = .ok (.aload_n 0, 1) := by decide +kernel
theorem dL_law_422 : decode cL_law 422 = .ok (.iload_n 3, 1) := by decide +kernel
theorem dL_law_423 : decode cL_law 423 = .ok (.iconst 3, 1) := by decide +kernel
theorem dL_law_424 : decode cL_law 424 = .ok (.iadd, 1) := by decide +kernel
theorem dL_law_425 : decode cL_law 425 = .ok (.iaload, 1) := by decide +kernel
theorem dL_law_426 : decode cL_law 426 = .ok (.invokevirtual 33, 3) := by decide +kernel
theorem dL_law_429 : decode cL_law 429 = .ok (.aload_n 2, 1) := by decide +kernel
theorem dL_law_430 : decode cL_law 430 = .ok (.aload_n 0, 1) := by decide +kernel
theorem dL_law_431 : decode cL_law 431 = .ok (.iload_n 3, 1) := by decide +kernel
theorem dL_law_432 : decode cL_law 432 = .ok (.iconst 1, 1) := by decide +kernel
theorem dL_law_433 : decode cL_law 433 = .ok (.iadd, 1) := by decide +kernel
theorem dL_law_434 : decode cL_law 434 = .ok (.iaload, 1) := by decide +kernel
theorem dL_law_435 : decode cL_law 435 = .ok (.aload_n 0, 1) := by decide +kernel
theorem dL_law_436 : decode cL_law 436 = .ok (.iload_n 3, 1) := by decide +kernel
theorem dL_law_437 : decode cL_law 437 = .ok (.iconst 2, 1) := by decide +kernel
theorem dL_law_438 : decode cL_law 438 = .ok (.iadd, 1) := by decide +kernel
theorem dL_law_439 : decode cL_law 439 = .ok (.iaload, 1) := by decide +kernel
theorem dL_law_440 : decode cL_law 440 = .ok (.aload_n 0, 1) := by decide +kernel
theorem dL_law_441 : decode cL_law 441 = .ok (.iload_n 3, 1) := by decide +kernel
theorem dL_law_442 : decode cL_law 442 = .ok (.iconst 3, 1) := by decide +kernel
theorem dL_law_443 : decode cL_law 443 = .ok (.iadd, 1) := by decide +kernel
theorem dL_law_444 : decode cL_law 444 = .ok (.iaload, 1) := by decide +kernel
theorem dL_law_445 : decode cL_law 445 = .ok (.invokevirtual 36, 3) := by decide +kernel
theorem dL_law_448 : decode cL_law 448 = .ok (.if_icmp .eq 1675, 3) := by decide +kernel
theorem dL_law_451 : decode cL_law 451 = .ok (.iconst 0, 1) := by decide +kernel
theorem dL_law_452 : decode cL_law 452 = .ok (.ireturn, 1) := by decide +kernel
theorem dL_law_453 : decode cL_law 453 = .ok (.aload_n 1, 1) := by decide +kernel
theorem dL_law_454 : decode cL_law 454 = .ok (.aload_n 0, 1) := by decide +kernel
theorem dL_law_455 : decode cL_law 455 = .ok (.iload_n 3, 1) := by decide +kernel
theorem dL_law_456 : decode cL_law 456 = .ok (.iconst 1, 1) := by decide +kernel
theorem dL_law_457 : decode cL_law 457 = .ok (.iadd, 1) := by decide +kernel
theorem dL_law_458 : decode cL_law 458 = .ok (.iaload, 1) := by decide +kernel
theorem dL_law_459 : decode cL_law 459 = .ok (.aload_n 0, 1) := by decide +kernel
theorem dL_law_460 : decode cL_law 460 = .ok (.iload_n 3, 1) := by decide +kernel
theorem dL_law_461 : decode cL_law 461 = .ok (.iconst 2, 1) := by decide +kernel
theorem dL_law_462 : decode cL_law 462 = .ok (.iadd, 1) := by decide +kernel
theorem dL_law_463 : decode cL_law 463 = .ok (.iaload, 1) := by decide +kernel
theorem dL_law_464 : decode cL_law 464 = .ok (.invokevirtual 37, 3) := by decide +kernel
theorem dL_law_467 : decode cL_law 467 = .ok (.aload_n 2, 1) := by decide +kernel
theorem dL_law_468 : decode cL_law 468 = .ok (.aload_n 0, 1) := by decide +kernel
theorem dL_law_469 : decode cL_law 469 = .ok (.iload_n 3, 1) := by decide +kernel
theorem dL_law_470 : decode cL_law 470 = .ok (.iconst 1, 1) := by decide +kernel
theorem dL_law_471 : decode cL_law 471 = .ok (.iadd, 1) := by decide +kernel
theorem dL_law_472 : decode cL_law 472 = .ok (.iaload, 1) := by decide +kernel
theorem dL_law_473 : decode cL_law 473 = .ok (.aload_n 0, 1) := by decide +kernel
theorem dL_law_474 : decode cL_law 474 = .ok (.iload_n 3, 1) := by decide +kernel
theorem dL_law_475 : decode cL_law 475 = .ok (.iconst 2, 1) := by decide +kernel
theorem dL_law_476 : decode cL_law 476 = .ok (.iadd, 1) := by decide +kernel
theorem dL_law_477 : decode cL_law 477 = .ok (.iaload, 1) := by decide +kernel
theorem dL_law_478 : decode cL_law 478 = .ok (.invokevirtual 41, 3) := by decide +kernel
theorem dL_law_481 : decode cL_law 481 = .ok (.if_icmp .eq 1642, 3) := by decide +kernel
theorem dL_law_484 : decode cL_law 484 = .ok (.iconst 0, 1) := by decide +kernel
theorem dL_law_485 : decode cL_law 485 = .ok (.ireturn, 1) := by decide +kernel
theorem dL_law_486 : decode cL_law 486 = .ok (.aload_n 1, 1) := by decide +kernel
theorem dL_law_487 : decode cL_law 487 = .ok (.aload_n 0, 1) := by decide +kernel
theorem dL_law_488 : decode cL_law 488 = .ok (.iload_n 3, 1) := by decide +kernel
theorem dL_law_489 : decode cL_law 489 = .ok (.iconst 1, 1) := by decide +kernel
theorem dL_law_490 : decode cL_law 490 = .ok (.iadd, 1) := by decide +kernel
theorem dL_law_491 : decode cL_law 491 = .ok (.iaload, 1) := by decide +kernel
theorem dL_law_492 : decode cL_law 492 = .ok (.invokevirtual 42, 3) := by decide +kernel
theorem dL_law_495 : decode cL_law 495 = .ok (.aload_n 2, 1) := by decide +kernel
theorem dL_law_496 : decode cL_law 496 = .ok (.aload_n 0, 1) := by decide +kernel
theorem dL_law_497 : decode cL_law 497 = .ok (.iload_n 3, 1) := by decide +kernel
theorem dL_law_498 : decode cL_law 498 = .ok (.iconst 1, 1) := by decide +kernel
theorem dL_law_499 : decode cL_law 499 = .ok (.iadd, 1) := by decide +kernel
theorem dL_law_500 : decode cL_law 500 = .ok (.iaload, 1) := by decide +kernel
theorem dL_law_501 : decode cL_law 501 = .ok (.invokevirtual 46, 3) := by decide +kernel
theorem dL_law_504 : decode cL_law 504 = .ok (.if_icmp .eq 1619, 3) := by decide +kernel
theorem dL_law_507 : decode cL_law 507 = .ok (.iconst 0, 1) := by decide +kernel
theorem dL_law_508 : decode cL_law 508 = .ok (.ireturn, 1) := by decide +kernel
theorem dL_law_509 : decode cL_law 509 = .ok (.aload_n 1, 1) := by decide +kernel
theorem dL_law_510 : decode cL_law 510 = .ok (.aload_n 0, 1) := by decide +kernel
theorem dL_law_511 : decode cL_law 511 = .ok (.iload_n 3, 1) := by decide +kernel
theorem dL_law_512 : decode cL_law 512 = .ok (.iconst 1, 1) := by decide +kernel
theorem dL_law_513 : decode cL_law 513 = .ok (.iadd, 1) := by decide +kernel
theorem dL_law_514 : decode cL_law 514 = .ok (.iaload, 1) := by decide +kernel
theorem dL_law_515 : decode cL_law 515 = .ok (.aload_n 0, 1) := by decide +kernel
theorem dL_law_516 : decode cL_law 516 = .ok (.iload_n 3, 1) := by decide +kernel
theorem dL_law_517 : decode cL_law 517 = .ok (.iconst 2, 1) := by decide +kernel
theorem dL_law_518 : decode cL_law 518 = .ok (.iadd, 1) := by decide +kernel
theorem dL_law_519 : decode cL_law 519 = .ok (.iaload, 1) := by decide +kernel
theorem dL_law_520 : decode cL_law 520 = .ok (.aload_n 0, 1) := by decide +kernel
theorem dL_law_521 : decode cL_law 521 = .ok (.iload_n 3, 1) := by decide +kernel
theorem dL_law_522 : decode cL_law 522 = .ok (.iconst 3, 1) := by decide +kernel
theorem dL_law_523 : decode cL_law 523 = .ok (.iadd, 1) := by decide +kernel
theorem dL_law_524 : decode cL_law 524 = .ok (.iaload, 1) := by decide +kernel
theorem dL_law_525 : decode cL_law 525 = .ok (.invokevirtual 47, 3) := by decide +kernel
theorem dL_law_528 : decode cL_law 528 = .ok (.aload_n 2, 1) := by decide +kernel
theorem dL_law_529 : decode cL_law 529 = .ok (.aload_n 0, 1) := by decide +kernel
theorem dL_law_530 : decode cL_law 530 = .ok (.iload_n 3, 1) := by decide +kernel
theorem dL_law_531 : decode cL_law 531 = .ok (.iconst 1, 1) := by decide +kernel
theorem dL_law_532 : decode cL_law 532 = .ok (.iadd, 1) := by decide +kernel
theorem dL_law_533 : decode cL_law 533 = .ok (.iaload, 1) := by decide +kernel
theorem dL_law_534 : decode cL_law 534 = .ok (.aload_n 0, 1) := by decide +kernel
theorem dL_law_535 : decode cL_law 535 = .ok (.iload_n 3, 1) := by decide +kernel
theorem dL_law_536 : decode cL_law 536 = .ok (.iconst 2, 1) := by decide +kernel
theorem dL_law_537 : decode cL_law 537 = .ok (.iadd, 1) := by decide +kernel
theorem dL_law_538 : decode cL_law 538 = .ok (.iaload, 1) := by decide +kernel
theorem dL_law_539 : decode cL_law 539 = .ok (.aload_n 0, 1) := by decide +kernel
theorem dL_law_540 : decode cL_law 540 = .ok (.iload_n 3, 1) := by decide +kernel
theorem dL_law_541 : decode cL_law 541 = .ok (.iconst 3, 1) := by decide +kernel
theorem dL_law_542 : decode cL_law 542 = .ok (.iadd, 1) := by decide +kernel
theorem dL_law_543 : decode cL_law 543 = .ok (.iaload, 1) := by decide +kernel
theorem dL_law_544 : decode cL_law 544 = .ok (.invokevirtual 50, 3) := by decide +kernel
theorem dL_law_547 : decode cL_law 547 = .ok (.if_icmp .eq 1576, 3) := by decide +kernel
theorem dL_law_550 : decode cL_law 550 = .ok (.iconst 0, 1) := by decide +kernel
theorem dL_law_551 : decode cL_law 551 = .ok (.ireturn, 1) := by decide +kernel
theorem dL_law_552 : decode cL_law 552 = .ok (.aload_n 1, 1) := by decide +kernel
theorem dL_law_553 : decode cL_law 553 = .ok (.aload_n 0, 1) := by decide +kernel
theorem dL_law_554 : decode cL_law 554 = .ok (.iload_n 3, 1) := by decide +kernel
theorem dL_law_555 : decode cL_law 555 = .ok (.iconst 1, 1) := by decide +kernel
theorem dL_law_556 : decode cL_law 556 = .ok (.iadd, 1) := by decide +kernel
theorem dL_law_557 : decode cL_law 557 = .ok (.iaload, 1) := by decide +kernel
theorem dL_law_558 : decode cL_law 558 = .ok (.aload_n 0, 1) := by decide +kernel
theorem dL_law_559 : decode cL_law 559 = .ok (.iload_n 3, 1) := by decide +kernel
theorem dL_law_560 : decode cL_law 560 = .ok (.iconst 2, 1) := by decide +kernel
theorem dL_law_561 : decode cL_law 561 = .ok (.iadd, 1) := by decide +kernel
theorem dL_law_562 : decode cL_law 562 = .ok (.iaload, 1) := by decide +kernel
theorem dL_law_563 : decode cL_law 563 = .ok (.invokevirtual 51, 3) := by decide +kernel
theorem dL_law_566 : decode cL_law 566 = .ok (.aload_n 2, 1) := by decide +kernel
theorem dL_law_567 : decode cL_law 567 = .ok (.aload_n 0, 1) := by decide +kernel
theorem dL_law_568 : decode cL_law 568 = .ok (.iload_n 3, 1) := by decide +kernel
theorem dL_law_569 : decode cL_law 569 = .ok (.iconst 1, 1) := by decide +kernel
theorem dL_law_570 : decode cL_law 570 = .ok (.iadd, 1) := by decide +kernel
theorem dL_law_571 : decode cL_law 571 = .ok (.iaload, 1) := by decide +kernel
theorem dL_law_572 : decode cL_law 572 = .ok (.aload_n 0, 1) := by decide +kernel
theorem dL_law_573 : decode cL_law 573 = .ok (.iload_n 3, 1) := by decide +kernel
theorem dL_law_574 : decode cL_law 574 = .ok (.iconst 2, 1) := by decide +kernel
theorem dL_law_575 : decode cL_law 575 = .ok (.iadd, 1) := by decide +kernel
theorem dL_law_576 : decode cL_law 576 = .ok (.iaload, 1) := by decide +kernel
theorem dL_law_577 : decode cL_law 577 = .ok (.invokevirtual 55, 3) := by decide +kernel
theorem dL_law_580 : decode cL_law 580 = .ok (.if_icmp .eq 1543, 3) := by decide +kernel
theorem dL_law_583 : decode cL_law 583 = .ok (.iconst 0, 1) := by decide +kernel
theorem dL_law_584 : decode cL_law 584 = .ok (.ireturn, 1) := by decide +kernel
theorem dL_law_585 : decode cL_law 585 = .ok (.aload_n 1, 1) := by decide +kernel
theorem dL_law_586 : decode cL_law 586 = .ok (.aload_n 0, 1) := by decide +kernel
theorem dL_law_587 : decode cL_law 587 = .ok (.iload_n 3, 1) := by decide +kernel
theorem dL_law_588 : decode cL_law 588 = .ok (.iconst 1, 1) := by decide +kernel
theorem dL_law_589 : decode cL_law 589 = .ok (.iadd, 1) := by decide +kernel
theorem dL_law_590 : decode cL_law 590 = .ok (.iaload, 1) := by decide +kernel
theorem dL_law_591 : decode cL_law 591 = .ok (.aload_n 0, 1) := by decide +kernel
theorem dL_law_592 : decode cL_law 592 = .ok (.iload_n 3, 1) := by decide +kernel
theorem dL_law_593 : decode cL_law 593 = .ok (.iconst 2, 1) := by decide +kernel
theorem dL_law_594 : decode cL_law 594 = .ok (.iadd, 1) := by decide +kernel
theorem dL_law_595 : decode cL_law 595 = .ok (.iaload, 1) := by decide +kernel
theorem dL_law_596 : decode cL_law 596 = .ok (.invokevirtual 56, 3) := by decide +kernel
theorem dL_law_599 : decode cL_law 599 = .ok (.aload_n 2, 1) := by decide +kernel
theorem dL_law_600 : decode cL_law 600 = .ok (.aload_n 0, 1) := by decide +kernel
theorem dL_law_601 : decode cL_law 601 = .ok (.iload_n 3, 1) := by decide +kernel
theorem dL_law_602 : decode cL_law 602 = .ok (.iconst 1, 1) := by decide +kernel
theorem dL_law_603 : decode cL_law 603 = .ok (.iadd, 1) := by decide +kernel
theorem dL_law_604 : decode cL_law 604 = .ok (.iaload, 1) := by decide +kernel
theorem dL_law_605 : decode cL_law 605 = .ok (.aload_n 0, 1) := by decide +kernel
theorem dL_law_606 : decode cL_law 606 = .ok (.iload_n 3, 1) := by decide +kernel
theorem dL_law_607 : decode cL_law 607 = .ok (.iconst 2, 1) := by decide +kernel
theorem dL_law_608 : decode cL_law 608 = .ok (.iadd, 1) := by decide +kernel
theorem dL_law_609 : decode cL_law 609 = .ok (.iaload, 1) := by decide +kernel
theorem dL_law_610 : decode cL_law 610 = .ok (.invokevirtual 59, 3) := by decide +kernel
theorem dL_law_613 : decode cL_law 613 = .ok (.if_icmp .eq 1510, 3) := by decide +kernel
theorem dL_law_616 : decode cL_law 616 = .ok (.iconst 0, 1) := by decide +kernel
theorem dL_law_617 : decode cL_law 617 = .ok (.ireturn, 1) := by decide +kernel
theorem dL_law_618 : decode cL_law 618 = .ok (.aload_n 1, 1) := by decide +kernel
theorem dL_law_619 : decode cL_law 619 = .ok (.aload_n 0, 1) := by decide +kernel
theorem dL_law_620 : decode cL_law 620 = .ok (.iload_n 3, 1) := by decide +kernel
theorem dL_law_621 : decode cL_law 621 = .ok (.iconst 1, 1) := by decide +kernel
theorem dL_law_622 : decode cL_law 622 = .ok (.iadd, 1) := by decide +kernel
theorem dL_law_623 : decode cL_law 623 = .ok (.iaload, 1) := by decide +kernel
theorem dL_law_624 : decode cL_law 624 = .ok (.aload_n 0, 1) := by decide +kernel
theorem dL_law_625 : decode cL_law 625 = .ok (.iload_n 3, 1) := by decide +kernel
theorem dL_law_626 : decode cL_law 626 = .ok (.iconst 2, 1) := by decide +kernel
theorem dL_law_627 : decode cL_law 627 = .ok (.iadd, 1) := by decide +kernel
theorem dL_law_628 : decode cL_law 628 = .ok (.iaload, 1) := by decide +kernel
theorem dL_law_629 : decode cL_law 629 = .ok (.aload_n 0, 1) := by decide +kernel
theorem dL_law_630 : decode cL_law 630 = .ok (.iload_n 3, 1) := by decide +kernel
theorem dL_law_631 : decode cL_law 631 = .ok (.iconst 3, 1) := by decide +kernel
theorem dL_law_632 : decode cL_law 632 = .ok (.iadd, 1) := by decide +kernel
theorem dL_law_633 : decode cL_law 633 = .ok (.iaload, 1) := by decide +kernel
theorem dL_law_634 : decode cL_law 634 = .ok (.aload_n 0, 1) := by decide +kernel
theorem dL_law_635 : decode cL_law 635 = .ok (.iload_n 3, 1) := by decide +kernel
theorem dL_law_636 : decode cL_law 636 = .ok (.iconst 4, 1) := by decide +kernel
theorem dL_law_637 : decode cL_law 637 = .ok (.iadd, 1) := by decide +kernel
theorem dL_law_638 : decode cL_law 638 = .ok (.iaload, 1) := by decide +kernel
theorem dL_law_639 : decode cL_law 639 = .ok (.aload_n 0, 1) := by decide +kernel
theorem dL_law_640 : decode cL_law 640 = .ok (.iload_n 3, 1) := by decide +kernel
theorem dL_law_641 : decode cL_law 641 = .ok (.iconst 5, 1) := by decide +kernel
theorem dL_law_642 : decode cL_law 642 = .ok (.iadd, 1) := by decide +kernel
theorem dL_law_643 : decode cL_law 643 = .ok (.iaload, 1) := by decide +kernel
theorem dL_law_644 : decode cL_law 644 = .ok (.invokevirtual 60, 3) := by decide +kernel
theorem dL_law_647 : decode cL_law 647 = .ok (.aload_n 2, 1) := by decide +kernel
theorem dL_law_648 : decode cL_law 648 = .ok (.aload_n 0, 1) := by decide +kernel
theorem dL_law_649 : decode cL_law 649 = .ok (.iload_n 3, 1) := by decide +kernel
theorem dL_law_650 : decode cL_law 650 = .ok (.iconst 1, 1) := by decide +kernel
theorem dL_law_651 : decode cL_law 651 = .ok (.iadd, 1) := by decide +kernel
theorem dL_law_652 : decode cL_law 652 = .ok (.iaload, 1) := by decide +kernel
theorem dL_law_653 : decode cL_law 653 = .ok (.aload_n 0, 1) := by decide +kernel
theorem dL_law_654 : decode cL_law 654 = .ok (.iload_n 3, 1) := by decide +kernel
theorem dL_law_655 : decode cL_law 655 = .ok (.iconst 2, 1) := by decide +kernel
theorem dL_law_656 : decode cL_law 656 = .ok (.iadd, 1) := by decide +kernel
theorem dL_law_657 : decode cL_law 657 = .ok (.iaload, 1) := by decide +kernel
theorem dL_law_658 : decode cL_law 658 = .ok (.aload_n 0, 1) := by decide +kernel
theorem dL_law_659 : decode cL_law 659 = .ok (.iload_n 3, 1) := by decide +kernel
theorem dL_law_660 : decode cL_law 660 = .ok (.iconst 3, 1) := by decide +kernel
theorem dL_law_661 : decode cL_law 661 = .ok (.iadd, 1) := by decide +kernel
theorem dL_law_662 : decode cL_law 662 = .ok (.iaload, 1) := by decide +kernel
theorem dL_law_663 : decode cL_law 663 = .ok (.aload_n 0, 1) := by decide +kernel
theorem dL_law_664 : decode cL_law 664 = .ok (.iload_n 3, 1) := by decide +kernel
theorem dL_law_665 : decode cL_law 665 = .ok (.iconst 4, 1) := by decide +kernel
theorem dL_law_666 : decode cL_law 666 = .ok (.iadd, 1) := by decide +kernel
theorem dL_law_667 : decode cL_law 667 = .ok (.iaload, 1) := by decide +kernel
theorem dL_law_668 : decode cL_law 668 = .ok (.aload_n 0, 1) := by decide +kernel
theorem dL_law_669 : decode cL_law 669 = .ok (.iload_n 3, 1) := by decide +kernel
theorem dL_law_670 : decode cL_law 670 = .ok (.iconst 5, 1) := by decide +kernel
theorem dL_law_671 : decode cL_law 671 = .ok (.iadd, 1) := by decide +kernel
theorem dL_law_672 : decode cL_law 672 = .ok (.iaload, 1) := by decide +kernel
theorem dL_law_673 : decode cL_law 673 = .ok (.invokevirtual 63, 3) := by decide +kernel
theorem dL_law_676 : decode cL_law 676 = .ok (.if_icmp .eq 1447, 3) := by decide +kernel
theorem dL_law_679 : decode cL_law 679 = .ok (.iconst 0, 1) := by decide +kernel
theorem dL_law_680 : decode cL_law 680 = .ok (.ireturn, 1) := by decide +kernel
theorem dL_law_681 : decode cL_law 681 = .ok (.aload_n 1, 1) := by decide +kernel
theorem dL_law_682 : decode cL_law 682 = .ok (.aload_n 0, 1) := by decide +kernel
theorem dL_law_683 : decode cL_law 683 = .ok (.iload_n 3, 1) := by decide +kernel
theorem dL_law_684 : decode cL_law 684 = .ok (.iconst 1, 1) := by decide +kernel
theorem dL_law_685 : decode cL_law 685 = .ok (.iadd, 1) := by decide +kernel
theorem dL_law_686 : decode cL_law 686 = .ok (.iaload, 1) := by decide +kernel
theorem dL_law_687 : decode cL_law 687 = .ok (.aload_n 0, 1) := by decide +kernel
theorem dL_law_688 : decode cL_law 688 = .ok (.iload_n 3, 1) := by decide +kernel
theorem dL_law_689 : decode cL_law 689 = .ok (.iconst 2, 1) := by decide +kernel
theorem dL_law_690 : decode cL_law 690 = .ok (.iadd, 1) := by decide +kernel
theorem dL_law_691 : decode cL_law 691 = .ok (.iaload, 1) := by decide +kernel
theorem dL_law_692 : decode cL_law 692 = .ok (.aload_n 0, 1) := by decide +kernel
theorem dL_law_693 : decode cL_law 693 = .ok (.iload_n 3, 1) := by decide +kernel
theorem dL_law_694 : decode cL_law 694 = .ok (.iconst 3, 1) := by decide +kernel
theorem dL_law_695 : decode cL_law 695 = .ok (.iadd, 1) := by decide +kernel
theorem dL_law_696 : decode cL_law 696 = .ok (.iaload, 1) := by decide +kernel
theorem dL_law_697 : decode cL_law 697 = .ok (.aload_n 0, 1) := by decide +kernel
theorem dL_law_698 : decode cL_law 698 = .ok (.iload_n 3, 1) := by decide +kernel
theorem dL_law_699 : decode cL_law 699 = .ok (.iconst 4, 1) := by decide +kernel
theorem dL_law_700 : decode cL_law 700 = .ok (.iadd, 1) := by decide +kernel
theorem dL_law_701 : decode cL_law 701 = .ok (.iaload, 1) := by decide +kernel
theorem dL_law_702 : decode cL_law 702 = .ok (.invokevirtual 64, 3) := by decide +kernel
theorem dL_law_705 : decode cL_law 705 = .ok (.aload_n 2, 1) := by decide +kernel
theorem dL_law_706 : decode cL_law 706 = .ok (.aload_n 0, 1) := by decide +kernel
theorem dL_law_707 : decode cL_law 707 = .ok (.iload_n 3, 1) := by decide +kernel
theorem dL_law_708 : decode cL_law 708 = .ok (.iconst 1, 1) := by decide +kernel
theorem dL_law_709 : decode cL_law 709 = .ok (.iadd, 1) := by decide +kernel
theorem dL_law_710 : decode cL_law 710 = .ok (.iaload, 1) := by decide +kernel
theorem dL_law_711 : decode cL_law 711 = .ok (.aload_n 0, 1) := by decide +kernel
theorem dL_law_712 : decode cL_law 712 = .ok (.iload_n 3, 1) := by decide +kernel
theorem dL_law_713 : decode cL_law 713 = .ok (.iconst 2, 1) := by decide +kernel
theorem dL_law_714 : decode cL_law 714 = .ok (.iadd, 1) := by decide +kernel
theorem dL_law_715 : decode cL_law 715 = .ok (.iaload, 1) := by decide +kernel
theorem dL_law_716 : decode cL_law 716 = .ok (.aload_n 0, 1) := by decide +kernel
theorem dL_law_717 : decode cL_law 717 = .ok (.iload_n 3, 1) := by decide +kernel
theorem dL_law_718 : decode cL_law 718 = .ok (.iconst 3, 1) := by decide +kernel
theorem dL_law_719 : decode cL_law 719 = .ok (.iadd, 1) := by decide +kernel
theorem dL_law_720 : decode cL_law 720 = .ok (.iaload, 1) := by decide +kernel
theorem dL_law_721 : decode cL_law 721 = .ok (.aload_n 0, 1) := by decide +kernel
theorem dL_law_722 : decode cL_law 722 = .ok (.iload_n 3, 1) := by decide +kernel
theorem dL_law_723 : decode cL_law 723 = .ok (.iconst 4, 1) := by decide +kernel
theorem dL_law_724 : decode cL_law 724 = .ok (.iadd, 1) := by decide +kernel
theorem dL_law_725 : decode cL_law 725 = .ok (.iaload, 1) := by decide +kernel
theorem dL_law_726 : decode cL_law 726 = .ok (.invokevirtual 68, 3) := by decide +kernel
theorem dL_law_729 : decode cL_law 729 = .ok (.lcmp, 1) := by decide +kernel
theorem dL_law_730 : decode cL_law 730 = .ok (.ifCond .eq 1393, 3) := by decide +kernel
theorem dL_law_733 : decode cL_law 733 = .ok (.iconst 0, 1) := by decide +kernel
theorem dL_law_734 : decode cL_law 734 = .ok (.ireturn, 1) := by decide +kernel
theorem dL_law_735 : decode cL_law 735 = .ok (.aload_n 1, 1) := by decide +kernel
theorem dL_law_736 : decode cL_law 736 = .ok (.aload_n 0, 1) := by decide +kernel
theorem dL_law_737 : decode cL_law 737 = .ok (.iload_n 3, 1) := by decide +kernel
theorem dL_law_738 : decode cL_law 738 = .ok (.iconst 1, 1) := by decide +kernel
theorem dL_law_739 : decode cL_law 739 = .ok (.iadd, 1) := by decide +kernel
theorem dL_law_740 : decode cL_law 740 = .ok (.iaload, 1) := by decide +kernel
theorem dL_law_741 : decode cL_law 741 = .ok (.aload_n 0, 1) := by decide +kernel
theorem dL_law_742 : decode cL_law 742 = .ok (.iload_n 3, 1) := by decide +kernel
theorem dL_law_743 : decode cL_law 743 = .ok (.iconst 2, 1) := by decide +kernel
theorem dL_law_744 : decode cL_law 744 = .ok (.iadd, 1) := by decide +kernel
theorem dL_law_745 : decode cL_law 745 = .ok (.iaload, 1) := by decide +kernel
theorem dL_law_746 : decode cL_law 746 = .ok (.invokevirtual 69, 3) := by decide +kernel
theorem dL_law_749 : decode cL_law 749 = .ok (.aload_n 2, 1) := by decide +kernel
theorem dL_law_750 : decode cL_law 750 = .ok (.aload_n 0, 1) := by decide +kernel
theorem dL_law_751 : decode cL_law 751 = .ok (.iload_n 3, 1) := by decide +kernel
theorem dL_law_752 : decode cL_law 752 = .ok (.iconst 1, 1) := by decide +kernel
theorem dL_law_753 : decode cL_law 753 = .ok (.iadd, 1) := by decide +kernel
theorem dL_law_754 : decode cL_law 754 = .ok (.iaload, 1) := by decide +kernel
theorem dL_law_755 : decode cL_law 755 = .ok (.aload_n 0, 1) := by decide +kernel
theorem dL_law_756 : decode cL_law 756 = .ok (.iload_n 3, 1) := by decide +kernel
theorem dL_law_757 : decode cL_law 757 = .ok (.iconst 2, 1) := by decide +kernel
theorem dL_law_758 : decode cL_law 758 = .ok (.iadd, 1) := by decide +kernel
theorem dL_law_759 : decode cL_law 759 = .ok (.iaload, 1) := by decide +kernel
theorem dL_law_760 : decode cL_law 760 = .ok (.invokevirtual 72, 3) := by decide +kernel
theorem dL_law_763 : decode cL_law 763 = .ok (.if_icmp .eq 1360, 3) := by decide +kernel
theorem dL_law_766 : decode cL_law 766 = .ok (.iconst 0, 1) := by decide +kernel
theorem dL_law_767 : decode cL_law 767 = .ok (.ireturn, 1) := by decide +kernel
theorem dL_law_768 : decode cL_law 768 = .ok (.aload_n 1, 1) := by decide +kernel
theorem dL_law_769 : decode cL_law 769 = .ok (.aload_n 0, 1) := by decide +kernel
theorem dL_law_770 : decode cL_law 770 = .ok (.iload_n 3, 1) := by decide +kernel
theorem dL_law_771 : decode cL_law 771 = .ok (.iconst 1, 1) := by decide +kernel
theorem dL_law_772 : decode cL_law 772 = .ok (.iadd, 1) := by decide +kernel
theorem dL_law_773 : decode cL_law 773 = .ok (.iaload, 1) := by decide +kernel
theorem dL_law_774 : decode cL_law 774 = .ok (.aload_n 0, 1) := by decide +kernel
theorem dL_law_775 : decode cL_law 775 = .ok (.iload_n 3, 1) := by decide +kernel
theorem dL_law_776 : decode cL_law 776 = .ok (.iconst 2, 1) := by decide +kernel
theorem dL_law_777 : decode cL_law 777 = .ok (.iadd, 1) := by decide +kernel
theorem dL_law_778 : decode cL_law 778 = .ok (.iaload, 1) := by decide +kernel
theorem dL_law_779 : decode cL_law 779 = .ok (.aload_n 0, 1) := by decide +kernel
theorem dL_law_780 : decode cL_law 780 = .ok (.iload_n 3, 1) := by decide +kernel
theorem dL_law_781 : decode cL_law 781 = .ok (.iconst 3, 1) := by decide +kernel
theorem dL_law_782 : decode cL_law 782 = .ok (.iadd, 1) := by decide +kernel
theorem dL_law_783 : decode cL_law 783 = .ok (.iaload, 1) := by decide +kernel
theorem dL_law_784 : decode cL_law 784 = .ok (.aload_n 0, 1) := by decide +kernel
theorem dL_law_785 : decode cL_law 785 = .ok (.iload_n 3, 1) := by decide +kernel
theorem dL_law_786 : decode cL_law 786 = .ok (.iconst 4, 1) := by decide +kernel
theorem dL_law_787 : decode cL_law 787 = .ok (.iadd, 1) := by decide +kernel
theorem dL_law_788 : decode cL_law 788 = .ok (.iaload, 1) := by decide +kernel
theorem dL_law_789 : decode cL_law 789 = .ok (.aload_n 0, 1) := by decide +kernel
theorem dL_law_790 : decode cL_law 790 = .ok (.iload_n 3, 1) := by decide +kernel
theorem dL_law_791 : decode cL_law 791 = .ok (.iconst 5, 1) := by decide +kernel
theorem dL_law_792 : decode cL_law 792 = .ok (.iadd, 1) := by decide +kernel
theorem dL_law_793 : decode cL_law 793 = .ok (.iaload, 1) := by decide +kernel
theorem dL_law_794 : decode cL_law 794 = .ok (.invokevirtual 73, 3) := by decide +kernel
theorem dL_law_797 : decode cL_law 797 = .ok (.aload_n 2, 1) := by decide +kernel
theorem dL_law_798 : decode cL_law 798 = .ok (.aload_n 0, 1) := by decide +kernel
theorem dL_law_799 : decode cL_law 799 = .ok (.iload_n 3, 1) := by decide +kernel
theorem dL_law_800 : decode cL_law 800 = .ok (.iconst 1, 1) := by decide +kernel
theorem dL_law_801 : decode cL_law 801 = .ok (.iadd, 1) := by decide +kernel
theorem dL_law_802 : decode cL_law 802 = .ok (.iaload, 1) := by decide +kernel
theorem dL_law_803 : decode cL_law 803 = .ok (.aload_n 0, 1) := by decide +kernel
theorem dL_law_804 : decode cL_law 804 = .ok (.iload_n 3, 1) := by decide +kernel
theorem dL_law_805 : decode cL_law 805 = .ok (.iconst 2, 1) := by decide +kernel
theorem dL_law_806 : decode cL_law 806 = .ok (.iadd, 1) := by decide +kernel
theorem dL_law_807 : decode cL_law 807 = .ok (.iaload, 1) := by decide +kernel
theorem dL_law_808 : decode cL_law 808 = .ok (.aload_n 0, 1) := by decide +kernel
theorem dL_law_809 : decode cL_law 809 = .ok (.iload_n 3, 1) := by decide +kernel
theorem dL_law_810 : decode cL_law 810 = .ok (.iconst 3, 1) := by decide +kernel
theorem dL_law_811 : decode cL_law 811 = .ok (.iadd, 1) := by decide +kernel
theorem dL_law_812 : decode cL_law 812 = .ok (.iaload, 1) := by decide +kernel
theorem dL_law_813 : decode cL_law 813 = .ok (.aload_n 0, 1) := by decide +kernel
theorem dL_law_814 : decode cL_law 814 = .ok (.iload_n 3, 1) := by decide +kernel
theorem dL_law_815 : decode cL_law 815 = .ok (.iconst 4, 1) := by decide +kernel
theorem dL_law_816 : decode cL_law 816 = .ok (.iadd, 1) := by decide +kernel
theorem dL_law_817 : decode cL_law 817 = .ok (.iaload, 1) := by decide +kernel
theorem dL_law_818 : decode cL_law 818 = .ok (.aload_n 0, 1) := by decide +kernel
theorem dL_law_819 : decode cL_law 819 = .ok (.iload_n 3, 1) := by decide +kernel
theorem dL_law_820 : decode cL_law 820 = .ok (.iconst 5, 1) := by decide +kernel
theorem dL_law_821 : decode cL_law 821 = .ok (.iadd, 1) := by decide +kernel
theorem dL_law_822 : decode cL_law 822 = .ok (.iaload, 1) := by decide +kernel
theorem dL_law_823 : decode cL_law 823 = .ok (.invokevirtual 76, 3) := by decide +kernel
theorem dL_law_826 : decode cL_law 826 = .ok (.if_icmp .eq 1297, 3) := by decide +kernel
theorem dL_law_829 : decode cL_law 829 = .ok (.iconst 0, 1) := by decide +kernel
theorem dL_law_830 : decode cL_law 830 = .ok (.ireturn, 1) := by decide +kernel
theorem dL_law_831 : decode cL_law 831 = .ok (.aload_n 1, 1) := by decide +kernel
theorem dL_law_832 : decode cL_law 832 = .ok (.aload_n 0, 1) := by decide +kernel
theorem dL_law_833 : decode cL_law 833 = .ok (.iload_n 3, 1) := by decide +kernel
theorem dL_law_834 : decode cL_law 834 = .ok (.iconst 1, 1) := by decide +kernel
theorem dL_law_835 : decode cL_law 835 = .ok (.iadd, 1) := by decide +kernel
theorem dL_law_836 : decode cL_law 836 = .ok (.iaload, 1) := by decide +kernel
theorem dL_law_837 : decode cL_law 837 = .ok (.invokevirtual 77, 3) := by decide +kernel
theorem dL_law_840 : decode cL_law 840 = .ok (.aload_n 2, 1) := by decide +kernel
theorem dL_law_841 : decode cL_law 841 = .ok (.aload_n 0, 1) := by decide +kernel
theorem dL_law_842 : decode cL_law 842 = .ok (.iload_n 3, 1) := by decide +kernel
theorem dL_law_843 : decode cL_law 843 = .ok (.iconst 1, 1) := by decide +kernel
theorem dL_law_844 : decode cL_law 844 = .ok (.iadd, 1) := by decide +kernel
theorem dL_law_845 : decode cL_law 845 = .ok (.iaload, 1) := by decide +kernel
theorem dL_law_846 : decode cL_law 846 = .ok (.invokevirtual 80, 3) := by decide +kernel
theorem dL_law_849 : decode cL_law 849 = .ok (.if_icmp .eq 1274, 3) := by decide +kernel
theorem dL_law_852 : decode cL_law 852 = .ok (.iconst 0, 1) := by decide +kernel
theorem dL_law_853 : decode cL_law 853 = .ok (.ireturn, 1) := by decide +kernel
theorem dL_law_854 : decode cL_law 854 = .ok (.aload_n 1, 1) := by decide +kernel
theorem dL_law_855 : decode cL_law 855 = .ok (.aload_n 0, 1) := by decide +kernel
theorem dL_law_856 : decode cL_law 856 = .ok (.iload_n 3, 1) := by decide +kernel
theorem dL_law_857 : decode cL_law 857 = .ok (.iconst 1, 1) := by decide +kernel
theorem dL_law_858 : decode cL_law 858 = .ok (.iadd, 1) := by decide +kernel
theorem dL_law_859 : decode cL_law 859 = .ok (.iaload, 1) := by decide +kernel
theorem dL_law_860 : decode cL_law 860 = .ok (.aload_n 0, 1) := by decide +kernel
theorem dL_law_861 : decode cL_law 861 = .ok (.iload_n 3, 1) := by decide +kernel
theorem dL_law_862 : decode cL_law 862 = .ok (.iconst 2, 1) := by decide +kernel
theorem dL_law_863 : decode cL_law 863 = .ok (.iadd, 1) := by decide +kernel
theorem dL_law_864 : decode cL_law 864 = .ok (.iaload, 1) := by decide +kernel
theorem dL_law_865 : decode cL_law 865 = .ok (.invokevirtual 81, 3) := by decide +kernel
theorem dL_law_868 : decode cL_law 868 = .ok (.aload_n 2, 1) := by decide +kernel
theorem dL_law_869 : decode cL_law 869 = .ok (.aload_n 0, 1) := by decide +kernel
theorem dL_law_870 : decode cL_law 870 = .ok (.iload_n 3, 1) := by decide +kernel
theorem dL_law_871 : decode cL_law 871 = .ok (.iconst 1, 1) := by decide +kernel
theorem dL_law_872 : decode cL_law 872 = .ok (.iadd, 1) := by decide +kernel
theorem dL_law_873 : decode cL_law 873 = .ok (.iaload, 1) := by decide +kernel
theorem dL_law_874 : decode cL_law 874 = .ok (.aload_n 0, 1) := by decide +kernel
theorem dL_law_875 : decode cL_law 875 = .ok (.iload_n 3, 1) := by decide +kernel
theorem dL_law_876 : decode cL_law 876 = .ok (.iconst 2, 1) := by decide +kernel
theorem dL_law_877 : decode cL_law 877 = .ok (.iadd, 1) := by decide +kernel
theorem dL_law_878 : decode cL_law 878 = .ok (.iaload, 1) := by decide +kernel
theorem dL_law_879 : decode cL_law 879 = .ok (.invokevirtual 84, 3) := by decide +kernel
theorem dL_law_882 : decode cL_law 882 = .ok (.if_icmp .eq 1241, 3) := by decide +kernel
theorem dL_law_885 : decode cL_law 885 = .ok (.iconst 0, 1) := by decide +kernel
theorem dL_law_886 : decode cL_law 886 = .ok (.ireturn, 1) := by decide +kernel
theorem dL_law_887 : decode cL_law 887 = .ok (.aload_n 1, 1) := by decide +kernel
theorem dL_law_888 : decode cL_law 888 = .ok (.aload_n 0, 1) := by decide +kernel
theorem dL_law_889 : decode cL_law 889 = .ok (.iload_n 3, 1) := by decide +kernel
theorem dL_law_890 : decode cL_law 890 = .ok (.iconst 1, 1) := by decide +kernel
theorem dL_law_891 : decode cL_law 891 = .ok (.iadd, 1) := by decide +kernel
theorem dL_law_892 : decode cL_law 892 = .ok (.iaload, 1) := by decide +kernel
theorem dL_law_893 : decode cL_law 893 = .ok (.aload_n 0, 1) := by decide +kernel
theorem dL_law_894 : decode cL_law 894 = .ok (.iload_n 3, 1) := by decide +kernel
theorem dL_law_895 : decode cL_law 895 = .ok (.iconst 2, 1) := by decide +kernel
theorem dL_law_896 : decode cL_law 896 = .ok (.iadd, 1) := by decide +kernel
theorem dL_law_897 : decode cL_law 897 = .ok (.iaload, 1) := by decide +kernel
theorem dL_law_898 : decode cL_law 898 = .ok (.invokevirtual 85, 3) := by decide +kernel
theorem dL_law_901 : decode cL_law 901 = .ok (.aload_n 2, 1) := by decide +kernel
theorem dL_law_902 : decode cL_law 902 = .ok (.aload_n 0, 1) := by decide +kernel
theorem dL_law_903 : decode cL_law 903 = .ok (.iload_n 3, 1) := by decide +kernel
theorem dL_law_904 : decode cL_law 904 = .ok (.iconst 1, 1) := by decide +kernel
theorem dL_law_905 : decode cL_law 905 = .ok (.iadd, 1) := by decide +kernel
theorem dL_law_906 : decode cL_law 906 = .ok (.iaload, 1) := by decide +kernel
theorem dL_law_907 : decode cL_law 907 = .ok (.aload_n 0, 1) := by decide +kernel
theorem dL_law_908 : decode cL_law 908 = .ok (.iload_n 3, 1) := by decide +kernel
theorem dL_law_909 : decode cL_law 909 = .ok (.iconst 2, 1) := by decide +kernel
theorem dL_law_910 : decode cL_law 910 = .ok (.iadd, 1) := by decide +kernel
theorem dL_law_911 : decode cL_law 911 = .ok (.iaload, 1) := by decide +kernel
theorem dL_law_912 : decode cL_law 912 = .ok (.invokevirtual 88, 3) := by decide +kernel
theorem dL_law_915 : decode cL_law 915 = .ok (.if_icmp .eq 1208, 3) := by decide +kernel
theorem dL_law_918 : decode cL_law 918 = .ok (.iconst 0, 1) := by decide +kernel
theorem dL_law_919 : decode cL_law 919 = .ok (.ireturn, 1) := by decide +kernel
theorem dL_law_920 : decode cL_law 920 = .ok (.aload_n 1, 1) := by decide +kernel
theorem dL_law_921 : decode cL_law 921 = .ok (.aload_n 0, 1) := by decide +kernel
theorem dL_law_922 : decode cL_law 922 = .ok (.iload_n 3, 1) := by decide +kernel
theorem dL_law_923 : decode cL_law 923 = .ok (.iconst 1, 1) := by decide +kernel
theorem dL_law_924 : decode cL_law 924 = .ok (.iadd, 1) := by decide +kernel
theorem dL_law_925 : decode cL_law 925 = .ok (.iaload, 1) := by decide +kernel
theorem dL_law_926 : decode cL_law 926 = .ok (.aload_n 0, 1) := by decide +kernel
theorem dL_law_927 : decode cL_law 927 = .ok (.iload_n 3, 1) := by decide +kernel
theorem dL_law_928 : decode cL_law 928 = .ok (.iconst 2, 1) := by decide +kernel
theorem dL_law_929 : decode cL_law 929 = .ok (.iadd, 1) := by decide +kernel
theorem dL_law_930 : decode cL_law 930 = .ok (.iaload, 1) := by decide +kernel
theorem dL_law_931 : decode cL_law 931 = .ok (.aload_n 0, 1) := by decide +kernel
theorem dL_law_932 : decode cL_law 932 = .ok (.iload_n 3, 1) := by decide +kernel
theorem dL_law_933 : decode cL_law 933 = .ok (.iconst 3, 1) := by decide +kernel
theorem dL_law_934 : decode cL_law 934 = .ok (.iadd, 1) := by decide +kernel
theorem dL_law_935 : decode cL_law 935 = .ok (.iaload, 1) := by decide +kernel
theorem dL_law_936 : decode cL_law 936 = .ok (.aload_n 0, 1) := by decide +kernel
theorem dL_law_937 : decode cL_law 937 = .ok (.iload_n 3, 1) := by decide +kernel
theorem dL_law_938 : decode cL_law 938 = .ok (.iconst 4, 1) := by decide +kernel
theorem dL_law_939 : decode cL_law 939 = .ok (.iadd, 1) := by decide +kernel
theorem dL_law_940 : decode cL_law 940 = .ok (.iaload, 1) := by decide +kernel
theorem dL_law_941 : decode cL_law 941 = .ok (.aload_n 0, 1) := by decide +kernel
theorem dL_law_942 : decode cL_law 942 = .ok (.iload_n 3, 1) := by decide +kernel
theorem dL_law_943 : decode cL_law 943 = .ok (.iconst 5, 1) := by decide +kernel
theorem dL_law_944 : decode cL_law 944 = .ok (.iadd, 1) := by decide +kernel
theorem dL_law_945 : decode cL_law 945 = .ok (.iaload, 1) := by decide +kernel
theorem dL_law_946 : decode cL_law 946 = .ok (.aload_n 0, 1) := by decide +kernel
theorem dL_law_947 : decode cL_law 947 = .ok (.iload_n 3, 1) := by decide +kernel
theorem dL_law_948 : decode cL_law 948 = .ok (.bipush 6, 2) := by decide +kernel
theorem dL_law_950 : decode cL_law 950 = .ok (.iadd, 1) := by decide +kernel
theorem dL_law_951 : decode cL_law 951 = .ok (.iaload, 1) := by decide +kernel
theorem dL_law_952 : decode cL_law 952 = .ok (.invokevirtual 89, 3) := by decide +kernel
theorem dL_law_955 : decode cL_law 955 = .ok (.aload_n 2, 1) := by decide +kernel
theorem dL_law_956 : decode cL_law 956 = .ok (.aload_n 0, 1) := by decide +kernel
theorem dL_law_957 : decode cL_law 957 = .ok (.iload_n 3, 1) := by decide +kernel
theorem dL_law_958 : decode cL_law 958 = .ok (.iconst 1, 1) := by decide +kernel
theorem dL_law_959 : decode cL_law 959 = .ok (.iadd, 1) := by decide +kernel
theorem dL_law_960 : decode cL_law 960 = .ok (.iaload, 1) := by decide +kernel
theorem dL_law_961 : decode cL_law 961 = .ok (.aload_n 0, 1) := by decide +kernel
theorem dL_law_962 : decode cL_law 962 = .ok (.iload_n 3, 1) := by decide +kernel
theorem dL_law_963 : decode cL_law 963 = .ok (.iconst 2, 1) := by decide +kernel
theorem dL_law_964 : decode cL_law 964 = .ok (.iadd, 1) := by decide +kernel
theorem dL_law_965 : decode cL_law 965 = .ok (.iaload, 1) := by decide +kernel
theorem dL_law_966 : decode cL_law 966 = .ok (.aload_n 0, 1) := by decide +kernel
theorem dL_law_967 : decode cL_law 967 = .ok (.iload_n 3, 1) := by decide +kernel
theorem dL_law_968 : decode cL_law 968 = .ok (.iconst 3, 1) := by decide +kernel
theorem dL_law_969 : decode cL_law 969 = .ok (.iadd, 1) := by decide +kernel
theorem dL_law_970 : decode cL_law 970 = .ok (.iaload, 1) := by decide +kernel
theorem dL_law_971 : decode cL_law 971 = .ok (.aload_n 0, 1) := by decide +kernel
theorem dL_law_972 : decode cL_law 972 = .ok (.iload_n 3, 1) := by decide +kernel
theorem dL_law_973 : decode cL_law 973 = .ok (.iconst 4, 1) := by decide +kernel
theorem dL_law_974 : decode cL_law 974 = .ok (.iadd, 1) := by decide +kernel
theorem dL_law_975 : decode cL_law 975 = .ok (.iaload, 1) := by decide +kernel
theorem dL_law_976 : decode cL_law 976 = .ok (.aload_n 0, 1) := by decide +kernel
theorem dL_law_977 : decode cL_law 977 = .ok (.iload_n 3, 1) := by decide +kernel
theorem dL_law_978 : decode cL_law 978 = .ok (.iconst 5, 1) := by decide +kernel
theorem dL_law_979 : decode cL_law 979 = .ok (.iadd, 1) := by decide +kernel
theorem dL_law_980 : decode cL_law 980 = .ok (.iaload, 1) := by decide +kernel
theorem dL_law_981 : decode cL_law 981 = .ok (.aload_n 0, 1) := by decide +kernel
theorem dL_law_982 : decode cL_law 982 = .ok (.iload_n 3, 1) := by decide +kernel
theorem dL_law_983 : decode cL_law 983 = .ok (.bipush 6, 2) := by decide +kernel
theorem dL_law_985 : decode cL_law 985 = .ok (.iadd, 1) := by decide +kernel
theorem dL_law_986 : decode cL_law 986 = .ok (.iaload, 1) := by decide +kernel
theorem dL_law_987 : decode cL_law 987 = .ok (.invokevirtual 93, 3) := by decide +kernel
theorem dL_law_990 : decode cL_law 990 = .ok (.if_icmp .eq 1133, 3) := by decide +kernel
theorem dL_law_993 : decode cL_law 993 = .ok (.iconst 0, 1) := by decide +kernel
theorem dL_law_994 : decode cL_law 994 = .ok (.ireturn, 1) := by decide +kernel
theorem dL_law_995 : decode cL_law 995 = .ok (.aload_n 1, 1) := by decide +kernel
theorem dL_law_996 : decode cL_law 996 = .ok (.aload_n 0, 1) := by decide +kernel
theorem dL_law_997 : decode cL_law 997 = .ok (.iload_n 3, 1) := by decide +kernel
theorem dL_law_998 : decode cL_law 998 = .ok (.iconst 1, 1) := by decide +kernel
theorem dL_law_999 : decode cL_law 999 = .ok (.iadd, 1) := by decide +kernel
theorem dL_law_1000 : decode cL_law 1000 = .ok (.iaload, 1) := by decide +kernel
theorem dL_law_1001 : decode cL_law 1001 = .ok (.aload_n 0, 1) := by decide +kernel
theorem dL_law_1002 : decode cL_law 1002 = .ok (.iload_n 3, 1) := by decide +kernel
theorem dL_law_1003 : decode cL_law 1003 = .ok (.iconst 2, 1) := by decide +kernel
theorem dL_law_1004 : decode cL_law 1004 = .ok (.iadd, 1) := by decide +kernel
theorem dL_law_1005 : decode cL_law 1005 = .ok (.iaload, 1) := by decide +kernel
theorem dL_law_1006 : decode cL_law 1006 = .ok (.aload_n 0, 1) := by decide +kernel
theorem dL_law_1007 : decode cL_law 1007 = .ok (.iload_n 3, 1) := by decide +kernel
theorem dL_law_1008 : decode cL_law 1008 = .ok (.iconst 3, 1) := by decide +kernel
theorem dL_law_1009 : decode cL_law 1009 = .ok (.iadd, 1) := by decide +kernel
theorem dL_law_1010 : decode cL_law 1010 = .ok (.iaload, 1) := by decide +kernel
theorem dL_law_1011 : decode cL_law 1011 = .ok (.aload_n 0, 1) := by decide +kernel
theorem dL_law_1012 : decode cL_law 1012 = .ok (.iload_n 3, 1) := by decide +kernel
theorem dL_law_1013 : decode cL_law 1013 = .ok (.iconst 4, 1) := by decide +kernel
theorem dL_law_1014 : decode cL_law 1014 = .ok (.iadd, 1) := by decide +kernel
theorem dL_law_1015 : decode cL_law 1015 = .ok (.iaload, 1) := by decide +kernel
theorem dL_law_1016 : decode cL_law 1016 = .ok (.aload_n 0, 1) := by decide +kernel
theorem dL_law_1017 : decode cL_law 1017 = .ok (.iload_n 3, 1) := by decide +kernel
theorem dL_law_1018 : decode cL_law 1018 = .ok (.iconst 5, 1) := by decide +kernel
theorem dL_law_1019 : decode cL_law 1019 = .ok (.iadd, 1) := by decide +kernel
theorem dL_law_1020 : decode cL_law 1020 = .ok (.iaload, 1) := by decide +kernel
theorem dL_law_1021 : decode cL_law 1021 = .ok (.invokevirtual 94, 3) := by decide +kernel
theorem dL_law_1024 : decode cL_law 1024 = .ok (.aload_n 2, 1) := by decide +kernel
theorem dL_law_1025 : decode cL_law 1025 = .ok (.aload_n 0, 1) := by decide +kernel
theorem dL_law_1026 : decode cL_law 1026 = .ok (.iload_n 3, 1) := by decide +kernel
theorem dL_law_1027 : decode cL_law 1027 = .ok (.iconst 1, 1) := by decide +kernel
theorem dL_law_1028 : decode cL_law 1028 = .ok (.iadd, 1) := by decide +kernel
theorem dL_law_1029 : decode cL_law 1029 = .ok (.iaload, 1) := by decide +kernel
theorem dL_law_1030 : decode cL_law 1030 = .ok (.aload_n 0, 1) := by decide +kernel
theorem dL_law_1031 : decode cL_law 1031 = .ok (.iload_n 3, 1) := by decide +kernel
theorem dL_law_1032 : decode cL_law 1032 = .ok (.iconst 2, 1) := by decide +kernel
theorem dL_law_1033 : decode cL_law 1033 = .ok (.iadd, 1) := by decide +kernel
theorem dL_law_1034 : decode cL_law 1034 = .ok (.iaload, 1) := by decide +kernel
theorem dL_law_1035 : decode cL_law 1035 = .ok (.aload_n 0, 1) := by decide +kernel
theorem dL_law_1036 : decode cL_law 1036 = .ok (.iload_n 3, 1) := by decide +kernel
theorem dL_law_1037 : decode cL_law 1037 = .ok (.iconst 3, 1) := by decide +kernel
theorem dL_law_1038 : decode cL_law 1038 = .ok (.iadd, 1) := by decide +kernel
theorem dL_law_1039 : decode cL_law 1039 = .ok (.iaload, 1) := by decide +kernel
theorem dL_law_1040 : decode cL_law 1040 = .ok (.aload_n 0, 1) := by decide +kernel
theorem dL_law_1041 : decode cL_law 1041 = .ok (.iload_n 3, 1) := by decide +kernel
theorem dL_law_1042 : decode cL_law 1042 = .ok (.iconst 4, 1) := by decide +kernel
theorem dL_law_1043 : decode cL_law 1043 = .ok (.iadd, 1) := by decide +kernel
theorem dL_law_1044 : decode cL_law 1044 = .ok (.iaload, 1) := by decide +kernel
theorem dL_law_1045 : decode cL_law 1045 = .ok (.aload_n 0, 1) := by decide +kernel
theorem dL_law_1046 : decode cL_law 1046 = .ok (.iload_n 3, 1) := by decide +kernel
theorem dL_law_1047 : decode cL_law 1047 = .ok (.iconst 5, 1) := by decide +kernel
theorem dL_law_1048 : decode cL_law 1048 = .ok (.iadd, 1) := by decide +kernel
theorem dL_law_1049 : decode cL_law 1049 = .ok (.iaload, 1) := by decide +kernel
theorem dL_law_1050 : decode cL_law 1050 = .ok (.invokevirtual 98, 3) := by decide +kernel
theorem dL_law_1053 : decode cL_law 1053 = .ok (.lcmp, 1) := by decide +kernel
theorem dL_law_1054 : decode cL_law 1054 = .ok (.ifCond .eq 1069, 3) := by decide +kernel
theorem dL_law_1057 : decode cL_law 1057 = .ok (.iconst 0, 1) := by decide +kernel
theorem dL_law_1058 : decode cL_law 1058 = .ok (.ireturn, 1) := by decide +kernel
theorem dL_law_1059 : decode cL_law 1059 = .ok (.aload_n 1, 1) := by decide +kernel
theorem dL_law_1060 : decode cL_law 1060 = .ok (.aload_n 0, 1) := by decide +kernel
theorem dL_law_1061 : decode cL_law 1061 = .ok (.iload_n 3, 1) := by decide +kernel
theorem dL_law_1062 : decode cL_law 1062 = .ok (.iconst 1, 1) := by decide +kernel
theorem dL_law_1063 : decode cL_law 1063 = .ok (.iadd, 1) := by decide +kernel
theorem dL_law_1064 : decode cL_law 1064 = .ok (.iaload, 1) := by decide +kernel
theorem dL_law_1065 : decode cL_law 1065 = .ok (.aload_n 0, 1) := by decide +kernel
theorem dL_law_1066 : decode cL_law 1066 = .ok (.iload_n 3, 1) := by decide +kernel
theorem dL_law_1067 : decode cL_law 1067 = .ok (.iconst 2, 1) := by decide +kernel
theorem dL_law_1068 : decode cL_law 1068 = .ok (.iadd, 1) := by decide +kernel
theorem dL_law_1069 : decode cL_law 1069 = .ok (.iaload, 1) := by decide +kernel
theorem dL_law_1070 : decode cL_law 1070 = .ok (.aload_n 0, 1) := by decide +kernel
theorem dL_law_1071 : decode cL_law 1071 = .ok (.iload_n 3, 1) := by decide +kernel
theorem dL_law_1072 : decode cL_law 1072 = .ok (.iconst 3, 1) := by decide +kernel
theorem dL_law_1073 : decode cL_law 1073 = .ok (.iadd, 1) := by decide +kernel
theorem dL_law_1074 : decode cL_law 1074 = .ok (.iaload, 1) := by decide +kernel
theorem dL_law_1075 : decode cL_law 1075 = .ok (.aload_n 0, 1) := by decide +kernel
theorem dL_law_1076 : decode cL_law 1076 = .ok (.iload_n 3, 1) := by decide +kernel
theorem dL_law_1077 : decode cL_law 1077 = .ok (.iconst 4, 1) := by decide +kernel
theorem dL_law_1078 : decode cL_law 1078 = .ok (.iadd, 1) := by decide +kernel
theorem dL_law_1079 : decode cL_law 1079 = .ok (.iaload, 1) := by decide +kernel
theorem dL_law_1080 : decode cL_law 1080 = .ok (.aload_n 0, 1) := by decide +kernel
theorem dL_law_1081 : decode cL_law 1081 = .ok (.iload_n 3, 1) := by decide +kernel
theorem dL_law_1082 : decode cL_law 1082 = .ok (.iconst 5, 1) := by decide +kernel
theorem dL_law_1083 : decode cL_law 1083 = .ok (.iadd, 1) := by decide +kernel
theorem dL_law_1084 : decode cL_law 1084 = .ok (.iaload, 1) := by decide +kernel
theorem dL_law_1085 : decode cL_law 1085 = .ok (.aload_n 0, 1) := by decide +kernel
theorem dL_law_1086 : decode cL_law 1086 = .ok (.iload_n 3, 1) := by decide +kernel
theorem dL_law_1087 : decode cL_law 1087 = .ok (.bipush 6, 2) := by decide +kernel
theorem dL_law_1089 : decode cL_law 1089 = .ok (.iadd, 1) := by decide +kernel
theorem dL_law_1090 : decode cL_law 1090 = .ok (.iaload, 1) := by decide +kernel
theorem dL_law_1091 : decode cL_law 1091 = .ok (.invokevirtual 99, 3) := by decide +kernel
theorem dL_law_1094 : decode cL_law 1094 = .ok (.aload_n 2, 1) := by decide +kernel
theorem dL_law_1095 : decode cL_law 1095 = .ok (.aload_n 0, 1) := by decide +kernel
theorem dL_law_1096 : decode cL_law 1096 = .ok (.iload_n 3, 1) := by decide +kernel
theorem dL_law_1097 : decode cL_law 1097 = .ok (.iconst 1, 1) := by decide +kernel
theorem dL_law_1098 : decode cL_law 1098 = .ok (.iadd, 1) := by decide +kernel
theorem dL_law_1099 : decode cL_law 1099 = .ok (.iaload, 1) := by decide +kernel
theorem dL_law_1100 : decode cL_law 1100 = .ok (.aload_n 0, 1) := by decide +kernel
theorem dL_law_1101 : decode cL_law 1101 = .ok (.iload_n 3, 1) := by decide +kernel
theorem dL_law_1102 : decode cL_law 1102 = .ok (.iconst 2, 1) := by decide +kernel
theorem dL_law_1103 : decode cL_law 1103 = .ok (.iadd, 1) := by decide +kernel
theorem dL_law_1104 : decode cL_law 1104 = .ok (.iaload, 1) := by decide +kernel
theorem dL_law_1105 : decode cL_law 1105 = .ok (.aload_n 0, 1) := by decide +kernel
theorem dL_law_1106 : decode cL_law 1106 = .ok (.iload_n 3, 1) := by decide +kernel
theorem dL_law_1107 : decode cL_law 1107 = .ok (.iconst 3, 1) := by decide +kernel
theorem dL_law_1108 : decode cL_law 1108 = .ok (.iadd, 1) := by decide +kernel
theorem dL_law_1109 : decode cL_law 1109 = .ok (.iaload, 1) := by decide +kernel
theorem dL_law_1110 : decode cL_law 1110 = .ok (.aload_n 0, 1) := by decide +kernel
theorem dL_law_1111 : decode cL_law 1111 = .ok (.iload_n 3, 1) := by decide +kernel
theorem dL_law_1112 : decode cL_law 1112 = .ok (.iconst 4, 1) := by decide +kernel
theorem dL_law_1113 : decode cL_law 1113 = .ok (.iadd, 1) := by decide +kernel
theorem dL_law_1114 : decode cL_law 1114 = .ok (.iaload, 1) := by decide +kernel
theorem dL_law_1115 : decode cL_law 1115 = .ok (.aload_n 0, 1) := by decide +kernel
theorem dL_law_1116 : decode cL_law 1116 = .ok (.iload_n 3, 1) := by decide +kernel
theorem dL_law_1117 : decode cL_law 1117 = .ok (.iconst 5, 1) := by decide +kernel
theorem dL_law_1118 : decode cL_law 1118 = .ok (.iadd, 1) := by decide +kernel
theorem dL_law_1119 : decode cL_law 1119 = .ok (.iaload, 1) := by decide +kernel
theorem dL_law_1120 : decode cL_law 1120 = .ok (.aload_n 0, 1) := by decide +kernel
theorem dL_law_1121 : decode cL_law 1121 = .ok (.iload_n 3, 1) := by decide +kernel
theorem dL_law_1122 : decode cL_law 1122 = .ok (.bipush 6, 2) := by decide +kernel
theorem dL_law_1124 : decode cL_law 1124 = .ok (.iadd, 1) := by decide +kernel
theorem dL_law_1125 : decode cL_law 1125 = .ok (.iaload, 1) := by decide +kernel
theorem dL_law_1126 : decode cL_law 1126 = .ok (.invokevirtual 102, 3) := by decide +kernel
theorem dL_law_1129 : decode cL_law 1129 = .ok (.if_icmp .eq 994, 3) := by decide +kernel
theorem dL_law_1132 : decode cL_law 1132 = .ok (.iconst 0, 1) := by decide +kernel
theorem dL_law_1133 : decode cL_law 1133 = .ok (.ireturn, 1) := by decide +kernel
theorem dL_law_1134 : decode cL_law 1134 = .ok (.aload_n 1, 1) := by decide +kernel
theorem dL_law_1135 : decode cL_law 1135 = .ok (.aload_n 0, 1) := by decide +kernel
theorem dL_law_1136 : decode cL_law 1136 = .ok (.iload_n 3, 1) := by decide +kernel
theorem dL_law_1137 : decode cL_law 1137 = .ok (.iconst 1, 1) := by decide +kernel
theorem dL_law_1138 : decode cL_law 1138 = .ok (.iadd, 1) := by decide +kernel
theorem dL_law_1139 : decode cL_law 1139 = .ok (.iaload, 1) := by decide +kernel
theorem dL_law_1140 : decode cL_law 1140 = .ok (.aload_n 0, 1) := by decide +kernel
theorem dL_law_1141 : decode cL_law 1141 = .ok (.iload_n 3, 1) := by decide +kernel
theorem dL_law_1142 : decode cL_law 1142 = .ok (.iconst 2, 1) := by decide +kernel
theorem dL_law_1143 : decode cL_law 1143 = .ok (.iadd, 1) := by decide +kernel
theorem dL_law_1144 : decode cL_law 1144 = .ok (.iaload, 1) := by decide +kernel
theorem dL_law_1145 : decode cL_law 1145 = .ok (.aload_n 0, 1) := by decide +kernel
theorem dL_law_1146 : decode cL_law 1146 = .ok (.iload_n 3, 1) := by decide +kernel
theorem dL_law_1147 : decode cL_law 1147 = .ok (.iconst 3, 1) := by decide +kernel
theorem dL_law_1148 : decode cL_law 1148 = .ok (.iadd, 1) := by decide +kernel
theorem dL_law_1149 : decode cL_law 1149 = .ok (.iaload, 1) := by decide +kernel
theorem dL_law_1150 : decode cL_law 1150 = .ok (.aload_n 0, 1) := by decide +kernel
theorem dL_law_1151 : decode cL_law 1151 = .ok (.iload_n 3, 1) := by decide +kernel
theorem dL_law_1152 : decode cL_law 1152 = .ok (.iconst 4, 1) := by decide +kernel
theorem dL_law_1153 : decode cL_law 1153 = .ok (.iadd, 1) := by decide +kernel
theorem dL_law_1154 : decode cL_law 1154 = .ok (.iaload, 1) := by decide +kernel
theorem dL_law_1155 : decode cL_law 1155 = .ok (.aload_n 0, 1) := by decide +kernel
theorem dL_law_1156 : decode cL_law 1156 = .ok (.iload_n 3, 1) := by decide +kernel
theorem dL_law_1157 : decode cL_law 1157 = .ok (.iconst 5, 1) := by decide +kernel
theorem dL_law_1158 : decode cL_law 1158 = .ok (.iadd, 1) := by decide +kernel
theorem dL_law_1159 : decode cL_law 1159 = .ok (.iaload, 1) := by decide +kernel
theorem dL_law_1160 : decode cL_law 1160 = .ok (.invokevirtual 103, 3) := by decide +kernel
theorem dL_law_1163 : decode cL_law 1163 = .ok (.aload_n 2, 1) := by decide +kernel
theorem dL_law_1164 : decode cL_law 1164 = .ok (.aload_n 0, 1) := by decide +kernel
theorem dL_law_1165 : decode cL_law 1165 = .ok (.iload_n 3, 1) := by decide +kernel
theorem dL_law_1166 : decode cL_law 1166 = .ok (.iconst 1, 1) := by decide +kernel
theorem dL_law_1167 : decode cL_law 1167 = .ok (.iadd, 1) := by decide +kernel
theorem dL_law_1168 : decode cL_law 1168 = .ok (.iaload, 1) := by decide +kernel
theorem dL_law_1169 : decode cL_law 1169 = .ok (.aload_n 0, 1) := by decide +kernel
theorem dL_law_1170 : decode cL_law 1170 = .ok (.iload_n 3, 1) := by decide +kernel
theorem dL_law_1171 : decode cL_law 1171 = .ok (.iconst 2, 1) := by decide +kernel
theorem dL_law_1172 : decode cL_law 1172 = .ok (.iadd, 1) := by decide +kernel
theorem dL_law_1173 : decode cL_law 1173 = .ok (.iaload, 1) := by decide +kernel
theorem dL_law_1174 : decode cL_law 1174 = .ok (.aload_n 0, 1) := by decide +kernel
theorem dL_law_1175 : decode cL_law 1175 = .ok (.iload_n 3, 1) := by decide +kernel
theorem dL_law_1176 : decode cL_law 1176 = .ok (.iconst 3, 1) := by decide +kernel
theorem dL_law_1177 : decode cL_law 1177 = .ok (.iadd, 1) := by decide +kernel
theorem dL_law_1178 : decode cL_law 1178 = .ok (.iaload, 1) := by decide +kernel
theorem dL_law_1179 : decode cL_law 1179 = .ok (.aload_n 0, 1) := by decide +kernel
theorem dL_law_1180 : decode cL_law 1180 = .ok (.iload_n 3, 1) := by decide +kernel
theorem dL_law_1181 : decode cL_law 1181 = .ok (.iconst 4, 1) := by decide +kernel
theorem dL_law_1182 : decode cL_law 1182 = .ok (.iadd, 1) := by decide +kernel
theorem dL_law_1183 : decode cL_law 1183 = .ok (.iaload, 1) := by decide +kernel
theorem dL_law_1184 : decode cL_law 1184 = .ok (.aload_n 0, 1) := by decide +kernel
theorem dL_law_1185 : decode cL_law 1185 = .ok (.iload_n 3, 1) := by decide +kernel
theorem dL_law_1186 : decode cL_law 1186 = .ok (.iconst 5, 1) := by decide +kernel
theorem dL_law_1187 : decode cL_law 1187 = .ok (.iadd, 1) := by decide +kernel
theorem dL_law_1188 : decode cL_law 1188 = .ok (.iaload, 1) := by decide +kernel
theorem dL_law_1189 : decode cL_law 1189 = .ok (.invokevirtual 106, 3) := by decide +kernel
theorem dL_law_1192 : decode cL_law 1192 = .ok (.if_icmp .eq 931, 3) := by decide +kernel
theorem dL_law_1195 : decode cL_law 1195 = .ok (.iconst 0, 1) := by decide +kernel
theorem dL_law_1196 : decode cL_law 1196 = .ok (.ireturn, 1) := by decide +kernel
theorem dL_law_1197 : decode cL_law 1197 = .ok (.aload_n 1, 1) := by decide +kernel
theorem dL_law_1198 : decode cL_law 1198 = .ok (.aload_n 0, 1) := by decide +kernel
theorem dL_law_1199 : decode cL_law 1199 = .ok (.iload_n 3, 1) := by decide +kernel
theorem dL_law_1200 : decode cL_law 1200 = .ok (.iconst 1, 1) := by decide +kernel
theorem dL_law_1201 : decode cL_law 1201 = .ok (.iadd, 1) := by decide +kernel
theorem dL_law_1202 : decode cL_law 1202 = .ok (.iaload, 1) := by decide +kernel
theorem dL_law_1203 : decode cL_law 1203 = .ok (.aload_n 0, 1) := by decide +kernel
theorem dL_law_1204 : decode cL_law 1204 = .ok (.iload_n 3, 1) := by decide +kernel
theorem dL_law_1205 : decode cL_law 1205 = .ok (.iconst 2, 1) := by decide +kernel
theorem dL_law_1206 : decode cL_law 1206 = .ok (.iadd, 1) := by decide +kernel
theorem dL_law_1207 : decode cL_law 1207 = .ok (.iaload, 1) := by decide +kernel
theorem dL_law_1208 : decode cL_law 1208 = .ok (.invokevirtual 107, 3) := by decide +kernel
theorem dL_law_1211 : decode cL_law 1211 = .ok (.aload_n 2, 1) := by decide +kernel
theorem dL_law_1212 : decode cL_law 1212 = .ok (.aload_n 0, 1) := by decide +kernel
theorem dL_law_1213 : decode cL_law 1213 = .ok (.iload_n 3, 1) := by decide +kernel
theorem dL_law_1214 : decode cL_law 1214 = .ok (.iconst 1, 1) := by decide +kernel
theorem dL_law_1215 : decode cL_law 1215 = .ok (.iadd, 1) := by decide +kernel
theorem dL_law_1216 : decode cL_law 1216 = .ok (.iaload, 1) := by decide +kernel
theorem dL_law_1217 : decode cL_law 1217 = .ok (.aload_n 0, 1) := by decide +kernel
theorem dL_law_1218 : decode cL_law 1218 = .ok (.iload_n 3, 1) := by decide +kernel
theorem dL_law_1219 : decode cL_law 1219 = .ok (.iconst 2, 1) := by decide +kernel
theorem dL_law_1220 : decode cL_law 1220 = .ok (.iadd, 1) := by decide +kernel
theorem dL_law_1221 : decode cL_law 1221 = .ok (.iaload, 1) := by decide +kernel
theorem dL_law_1222 : decode cL_law 1222 = .ok (.invokevirtual 110, 3) := by decide +kernel
theorem dL_law_1225 : decode cL_law 1225 = .ok (.if_icmp .eq 898, 3) := by decide +kernel
theorem dL_law_1228 : decode cL_law 1228 = .ok (.iconst 0, 1) := by decide +kernel
theorem dL_law_1229 : decode cL_law 1229 = .ok (.ireturn, 1) := by decide +kernel
theorem dL_law_1230 : decode cL_law 1230 = .ok (.aload_n 1, 1) := by decide +kernel
theorem dL_law_1231 : decode cL_law 1231 = .ok (.aload_n 0, 1) := by decide +kernel
theorem dL_law_1232 : decode cL_law 1232 = .ok (.iload_n 3, 1) := by decide +kernel
theorem dL_law_1233 : decode cL_law 1233 = .ok (.iconst 1, 1) := by decide +kernel
theorem dL_law_1234 : decode cL_law 1234 = .ok (.iadd, 1) := by decide +kernel
theorem dL_law_1235 : decode cL_law 1235 = .ok (.iaload, 1) := by decide +kernel
theorem dL_law_1236 : decode cL_law 1236 = .ok (.aload_n 0, 1) := by decide +kernel
theorem dL_law_1237 : decode cL_law 1237 = .ok (.iload_n 3, 1) := by decide +kernel
theorem dL_law_1238 : decode cL_law 1238 = .ok (.iconst 2, 1) := by decide +kernel
theorem dL_law_1239 : decode cL_law 1239 = .ok (.iadd, 1) := by decide +kernel
theorem dL_law_1240 : decode cL_law 1240 = .ok (.iaload, 1) := by decide +kernel
theorem dL_law_1241 : decode cL_law 1241 = .ok (.invokevirtual 111, 3) := by decide +kernel
theorem dL_law_1244 : decode cL_law 1244 = .ok (.aload_n 2, 1) := by decide +kernel
theorem dL_law_1245 : decode cL_law 1245 = .ok (.aload_n 0, 1) := by decide +kernel
theorem dL_law_1246 : decode cL_law 1246 = .ok (.iload_n 3, 1) := by decide +kernel
theorem dL_law_1247 : decode cL_law 1247 = .ok (.iconst 1, 1) := by decide +kernel
theorem dL_law_1248 : decode cL_law 1248 = .ok (.iadd, 1) := by decide +kernel
theorem dL_law_1249 : decode cL_law 1249 = .ok (.iaload, 1) := by decide +kernel
theorem dL_law_1250 : decode cL_law 1250 = .ok (.aload_n 0, 1) := by decide +kernel
theorem dL_law_1251 : decode cL_law 1251 = .ok (.iload_n 3, 1) := by decide +kernel
theorem dL_law_1252 : decode cL_law 1252 = .ok (.iconst 2, 1) := by decide +kernel
theorem dL_law_1253 : decode cL_law 1253 = .ok (.iadd, 1) := by decide +kernel
theorem dL_law_1254 : decode cL_law 1254 = .ok (.iaload, 1) := by decide +kernel
theorem dL_law_1255 : decode cL_law 1255 = .ok (.invokevirtual 114, 3) := by decide +kernel
theorem dL_law_1258 : decode cL_law 1258 = .ok (.if_icmp .eq 865, 3) := by decide +kernel
theorem dL_law_1261 : decode cL_law 1261 = .ok (.iconst 0, 1) := by decide +kernel
theorem dL_law_1262 : decode cL_law 1262 = .ok (.ireturn, 1) := by decide +kernel
theorem dL_law_1263 : decode cL_law 1263 = .ok (.aload_n 1, 1) := by decide +kernel
theorem dL_law_1264 : decode cL_law 1264 = .ok (.aload_n 0, 1) := by decide +kernel
theorem dL_law_1265 : decode cL_law 1265 = .ok (.iload_n 3, 1) := by decide +kernel
theorem dL_law_1266 : decode cL_law 1266 = .ok (.iconst 1, 1) := by decide +kernel
theorem dL_law_1267 : decode cL_law 1267 = .ok (.iadd, 1) := by decide +kernel
theorem dL_law_1268 : decode cL_law 1268 = .ok (.iaload, 1) := by decide +kernel
theorem dL_law_1269 : decode cL_law 1269 = .ok (.aload_n 0, 1) := by decide +kernel
theorem dL_law_1270 : decode cL_law 1270 = .ok (.iload_n 3, 1) := by decide +kernel
theorem dL_law_1271 : decode cL_law 1271 = .ok (.iconst 2, 1) := by decide +kernel
theorem dL_law_1272 : decode cL_law 1272 = .ok (.iadd, 1) := by decide +kernel
theorem dL_law_1273 : decode cL_law 1273 = .ok (.iaload, 1) := by decide +kernel
theorem dL_law_1274 : decode cL_law 1274 = .ok (.aload_n 0, 1) := by decide +kernel
theorem dL_law_1275 : decode cL_law 1275 = .ok (.iload_n 3, 1) := by decide +kernel
theorem dL_law_1276 : decode cL_law 1276 = .ok (.iconst 3, 1) := by decide +kernel
theorem dL_law_1277 : decode cL_law 1277 = .ok (.iadd, 1) := by decide +kernel
theorem dL_law_1278 : decode cL_law 1278 = .ok (.iaload, 1) := by decide +kernel
theorem dL_law_1279 : decode cL_law 1279 = .ok (.aload_n 0, 1) := by decide +kernel
theorem dL_law_1280 : decode cL_law 1280 = .ok (.iload_n 3, 1) := by decide +kernel
theorem dL_law_1281 : decode cL_law 1281 = .ok (.iconst 4, 1) := by decide +kernel
theorem dL_law_1282 : decode cL_law 1282 = .ok (.iadd, 1) := by decide +kernel
theorem dL_law_1283 : decode cL_law 1283 = .ok (.iaload, 1) := by decide +kernel
theorem dL_law_1284 : decode cL_law 1284 = .ok (.aload_n 0, 1) := by decide +kernel
theorem dL_law_1285 : decode cL_law 1285 = .ok (.iload_n 3, 1) := by decide +kernel
theorem dL_law_1286 : decode cL_law 1286 = .ok (.iconst 5, 1) := by decide +kernel
theorem dL_law_1287 : decode cL_law 1287 = .ok (.iadd, 1) := by decide +kernel
theorem dL_law_1288 : decode cL_law 1288 = .ok (.iaload, 1) := by decide +kernel
theorem dL_law_1289 : decode cL_law 1289 = .ok (.aload_n 0, 1) := by decide +kernel
theorem dL_law_1290 : decode cL_law 1290 = .ok (.iload_n 3, 1) := by decide +kernel
theorem dL_law_1291 : decode cL_law 1291 = .ok (.bipush 6, 2) := by decide +kernel
theorem dL_law_1293 : decode cL_law 1293 = .ok (.iadd, 1) := by decide +kernel
theorem dL_law_1294 : decode cL_law 1294 = .ok (.iaload, 1) := by decide +kernel
theorem dL_law_1295 : decode cL_law 1295 = .ok (.invokevirtual 115, 3) := by decide +kernel
theorem dL_law_1298 : decode cL_law 1298 = .ok (.aload_n 2, 1) := by decide +kernel
theorem dL_law_1299 : decode cL_law 1299 = .ok (.aload_n 0, 1) := by decide +kernel
theorem dL_law_1300 : decode cL_law 1300 = .ok (.iload_n 3, 1) := by decide +kernel
theorem dL_law_1301 : decode cL_law 1301 = .ok (.iconst 1, 1) := by decide +kernel
theorem dL_law_1302 : decode cL_law 1302 = .ok (.iadd, 1) := by decide +kernel
theorem dL_law_1303 : decode cL_law 1303 = .ok (.iaload, 1) := by decide +kernel
theorem dL_law_1304 : decode cL_law 1304 = .ok (.aload_n 0, 1) := by decide +kernel
theorem dL_law_1305 : decode cL_law 1305 = .ok (.iload_n 3, 1) := by decide +kernel
theorem dL_law_1306 : decode cL_law 1306 = .ok (.iconst 2, 1) := by decide +kernel
theorem dL_law_1307 : decode cL_law 1307 = .ok (.iadd, 1) := by decide +kernel
theorem dL_law_1308 : decode cL_law 1308 = .ok (.iaload, 1) := by decide +kernel
theorem dL_law_1309 : decode cL_law 1309 = .ok (.aload_n 0, 1) := by decide +kernel
theorem dL_law_1310 : decode cL_law 1310 = .ok (.iload_n 3, 1) := by decide +kernel
theorem dL_law_1311 : decode cL_law 1311 = .ok (.iconst 3, 1) := by decide +kernel
theorem dL_law_1312 : decode cL_law 1312 = .ok (.iadd, 1) := by decide +kernel
theorem dL_law_1313 : decode cL_law 1313 = .ok (.iaload, 1) := by decide +kernel
theorem dL_law_1314 : decode cL_law 1314 = .ok (.aload_n 0, 1) := by decide +kernel
theorem dL_law_1315 : decode cL_law 1315 = .ok (.iload_n 3, 1) := by decide +kernel
theorem dL_law_1316 : decode cL_law 1316 = .ok (.iconst 4, 1) := by decide +kernel
theorem dL_law_1317 : decode cL_law 1317 = .ok (.iadd, 1) := by decide +kernel
theorem dL_law_1318 : decode cL_law 1318 = .ok (.iaload, 1) := by decide +kernel
theorem dL_law_1319 : decode cL_law 1319 = .ok (.aload_n 0, 1) := by decide +kernel
theorem dL_law_1320 : decode cL_law 1320 = .ok (.iload_n 3, 1) := by decide +kernel
theorem dL_law_1321 : decode cL_law 1321 = .ok (.iconst 5, 1) := by decide +kernel
theorem dL_law_1322 : decode cL_law 1322 = .ok (.iadd, 1) := by decide +kernel
theorem dL_law_1323 : decode cL_law 1323 = .ok (.iaload, 1) := by decide +kernel
theorem dL_law_1324 : decode cL_law 1324 = .ok (.aload_n 0, 1) := by decide +kernel
theorem dL_law_1325 : decode cL_law 1325 = .ok (.iload_n 3, 1) := by decide +kernel
theorem dL_law_1326 : decode cL_law 1326 = .ok (.bipush 6, 2) := by decide +kernel
theorem dL_law_1328 : decode cL_law 1328 = .ok (.iadd, 1) := by decide +kernel
theorem dL_law_1329 : decode cL_law 1329 = .ok (.iaload, 1) := by decide +kernel
theorem dL_law_1330 : decode cL_law 1330 = .ok (.invokevirtual 118, 3) := by decide +kernel
theorem dL_law_1333 : decode cL_law 1333 = .ok (.if_icmp .eq 790, 3) := by decide +kernel
theorem dL_law_1336 : decode cL_law 1336 = .ok (.iconst 0, 1) := by decide +kernel
theorem dL_law_1337 : decode cL_law 1337 = .ok (.ireturn, 1) := by decide +kernel
theorem dL_law_1338 : decode cL_law 1338 = .ok (.aload_n 1, 1) := by decide +kernel
theorem dL_law_1339 : decode cL_law 1339 = .ok (.invokevirtual 119, 3) := by decide +kernel
theorem dL_law_1342 : decode cL_law 1342 = .ok (.aload_n 2, 1) := by decide +kernel
theorem dL_law_1343 : decode cL_law 1343 = .ok (.invokevirtual 123, 3) := by decide +kernel
theorem dL_law_1346 : decode cL_law 1346 = .ok (.if_icmp .eq 777, 3) := by decide +kernel
theorem dL_law_1349 : decode cL_law 1349 = .ok (.iconst 0, 1) := by decide +kernel
theorem dL_law_1350 : decode cL_law 1350 = .ok (.ireturn, 1) := by decide +kernel
theorem dL_law_1351 : decode cL_law 1351 = .ok (.aload_n 1, 1) := by decide +kernel
theorem dL_law_1352 : decode cL_law 1352 = .ok (.aload_n 0, 1) := by decide +kernel
theorem dL_law_1353 : decode cL_law 1353 = .ok (.iload_n 3, 1) := by decide +kernel
theorem dL_law_1354 : decode cL_law 1354 = .ok (.iconst 1, 1) := by decide +kernel
theorem dL_law_1355 : decode cL_law 1355 = .ok (.iadd, 1) := by decide +kernel
theorem dL_law_1356 : decode cL_law 1356 = .ok (.iaload, 1) := by decide +kernel
theorem dL_law_1357 : decode cL_law 1357 = .ok (.aload_n 0, 1) := by decide +kernel
theorem dL_law_1358 : decode cL_law 1358 = .ok (.iload_n 3, 1) := by decide +kernel
theorem dL_law_1359 : decode cL_law 1359 = .ok (.iconst 2, 1) := by decide +kernel
theorem dL_law_1360 : decode cL_law 1360 = .ok (.iadd, 1) := by decide +kernel
theorem dL_law_1361 : decode cL_law 1361 = .ok (.iaload, 1) := by decide +kernel
theorem dL_law_1362 : decode cL_law 1362 = .ok (.aload_n 0, 1) := by decide +kernel
theorem dL_law_1363 : decode cL_law 1363 = .ok (.iload_n 3, 1) := by decide +kernel
theorem dL_law_1364 : decode cL_law 1364 = .ok (.iconst 3, 1) := by decide +kernel
theorem dL_law_1365 : decode cL_law 1365 = .ok (.iadd, 1) := by decide +kernel
theorem dL_law_1366 : decode cL_law 1366 = .ok (.iaload, 1) := by decide +kernel
theorem dL_law_1367 : decode cL_law 1367 = .ok (.aload_n 0, 1) := by decide +kernel
theorem dL_law_1368 : decode cL_law 1368 = .ok (.iload_n 3, 1) := by decide +kernel
theorem dL_law_1369 : decode cL_law 1369 = .ok (.iconst 4, 1) := by decide +kernel
theorem dL_law_1370 : decode cL_law 1370 = .ok (.iadd, 1) := by decide +kernel
theorem dL_law_1371 : decode cL_law 1371 = .ok (.iaload, 1) := by decide +kernel
theorem dL_law_1372 : decode cL_law 1372 = .ok (.invokevirtual 124, 3) := by decide +kernel
theorem dL_law_1375 : decode cL_law 1375 = .ok (.aload_n 2, 1) := by decide +kernel
theorem dL_law_1376 : decode cL_law 1376 = .ok (.aload_n 0, 1) := by decide +kernel
theorem dL_law_1377 : decode cL_law 1377 = .ok (.iload_n 3, 1) := by decide +kernel
theorem dL_law_1378 : decode cL_law 1378 = .ok (.iconst 1, 1) := by decide +kernel
theorem dL_law_1379 : decode cL_law 1379 = .ok (.iadd, 1) := by decide +kernel
theorem dL_law_1380 : decode cL_law 1380 = .ok (.iaload, 1) := by decide +kernel
theorem dL_law_1381 : decode cL_law 1381 = .ok (.aload_n 0, 1) := by decide +kernel
theorem dL_law_1382 : decode cL_law 1382 = .ok (.iload_n 3, 1) := by decide +kernel
theorem dL_law_1383 : decode cL_law 1383 = .ok (.iconst 2, 1) := by decide +kernel
theorem dL_law_1384 : decode cL_law 1384 = .ok (.iadd, 1) := by decide +kernel
theorem dL_law_1385 : decode cL_law 1385 = .ok (.iaload, 1) := by decide +kernel
theorem dL_law_1386 : decode cL_law 1386 = .ok (.aload_n 0, 1) := by decide +kernel
theorem dL_law_1387 : decode cL_law 1387 = .ok (.iload_n 3, 1) := by decide +kernel
theorem dL_law_1388 : decode cL_law 1388 = .ok (.iconst 3, 1) := by decide +kernel
theorem dL_law_1389 : decode cL_law 1389 = .ok (.iadd, 1) := by decide +kernel
theorem dL_law_1390 : decode cL_law 1390 = .ok (.iaload, 1) := by decide +kernel
theorem dL_law_1391 : decode cL_law 1391 = .ok (.aload_n 0, 1) := by decide +kernel
theorem dL_law_1392 : decode cL_law 1392 = .ok (.iload_n 3, 1) := by decide +kernel
theorem dL_law_1393 : decode cL_law 1393 = .ok (.iconst 4, 1) := by decide +kernel
theorem dL_law_1394 : decode cL_law 1394 = .ok (.iadd, 1) := by decide +kernel
theorem dL_law_1395 : decode cL_law 1395 = .ok (.iaload, 1) := by decide +kernel
theorem dL_law_1396 : decode cL_law 1396 = .ok (.invokevirtual 127, 3) := by decide +kernel
theorem dL_law_1399 : decode cL_law 1399 = .ok (.if_icmp .eq 724, 3) := by decide +kernel
theorem dL_law_1402 : decode cL_law 1402 = .ok (.iconst 0, 1) := by decide +kernel
theorem dL_law_1403 : decode cL_law 1403 = .ok (.ireturn, 1) := by decide +kernel
theorem dL_law_1404 : decode cL_law 1404 = .ok (.aload_n 1, 1) := by decide +kernel
theorem dL_law_1405 : decode cL_law 1405 = .ok (.aload_n 0, 1) := by decide +kernel
theorem dL_law_1406 : decode cL_law 1406 = .ok (.iload_n 3, 1) := by decide +kernel
theorem dL_law_1407 : decode cL_law 1407 = .ok (.iconst 1, 1) := by decide +kernel
theorem dL_law_1408 : decode cL_law 1408 = .ok (.iadd, 1) := by decide +kernel
theorem dL_law_1409 : decode cL_law 1409 = .ok (.iaload, 1) := by decide +kernel
theorem dL_law_1410 : decode cL_law 1410 = .ok (.aload_n 0, 1) := by decide +kernel
theorem dL_law_1411 : decode cL_law 1411 = .ok (.iload_n 3, 1) := by decide +kernel
theorem dL_law_1412 : decode cL_law 1412 = .ok (.iconst 2, 1) := by decide +kernel
theorem dL_law_1413 : decode cL_law 1413 = .ok (.iadd, 1) := by decide +kernel
theorem dL_law_1414 : decode cL_law 1414 = .ok (.iaload, 1) := by decide +kernel
theorem dL_law_1415 : decode cL_law 1415 = .ok (.aload_n 0, 1) := by decide +kernel
theorem dL_law_1416 : decode cL_law 1416 = .ok (.iload_n 3, 1) := by decide +kernel
theorem dL_law_1417 : decode cL_law 1417 = .ok (.iconst 3, 1) := by decide +kernel
theorem dL_law_1418 : decode cL_law 1418 = .ok (.iadd, 1) := by decide +kernel
theorem dL_law_1419 : decode cL_law 1419 = .ok (.iaload, 1) := by decide +kernel
theorem dL_law_1420 : decode cL_law 1420 = .ok (.invokevirtual 128, 3) := by decide +kernel
theorem dL_law_1423 : decode cL_law 1423 = .ok (.aload_n 2, 1) := by decide +kernel
theorem dL_law_1424 : decode cL_law 1424 = .ok (.aload_n 0, 1) := by decide +kernel
theorem dL_law_1425 : decode cL_law 1425 = .ok (.iload_n 3, 1) := by decide +kernel
theorem dL_law_1426 : decode cL_law 1426 = .ok (.iconst 1, 1) := by decide +kernel
theorem dL_law_1427 : decode cL_law 1427 = .ok (.iadd, 1) := by decide +kernel
theorem dL_law_1428 : decode cL_law 1428 = .ok (.iaload, 1) := by decide +kernel
theorem dL_law_1429 : decode cL_law 1429 = .ok (.aload_n 0, 1) := by decide +kernel
theorem dL_law_1430 : decode cL_law 1430 = .ok (.iload_n 3, 1) := by decide +kernel
theorem dL_law_1431 : decode cL_law 1431 = .ok (.iconst 2, 1) := by decide +kernel
theorem dL_law_1432 : decode cL_law 1432 = .ok (.iadd, 1) := by decide +kernel
theorem dL_law_1433 : decode cL_law 1433 = .ok (.iaload, 1) := by decide +kernel
theorem dL_law_1434 : decode cL_law 1434 = .ok (.aload_n 0, 1) := by decide +kernel
theorem dL_law_1435 : decode cL_law 1435 = .ok (.iload_n 3, 1) := by decide +kernel
theorem dL_law_1436 : decode cL_law 1436 = .ok (.iconst 3, 1) := by decide +kernel
theorem dL_law_1437 : decode cL_law 1437 = .ok (.iadd, 1) := by decide +kernel
theorem dL_law_1438 : decode cL_law 1438 = .ok (.iaload, 1) := by decide +kernel
theorem dL_law_1439 : decode cL_law 1439 = .ok (.invokevirtual 132, 3) := by decide +kernel
theorem dL_law_1442 : decode cL_law 1442 = .ok (.if_icmp .eq 681, 3) := by decide +kernel
theorem dL_law_1445 : decode cL_law 1445 = .ok (.iconst 0, 1) := by decide +kernel
theorem dL_law_1446 : decode cL_law 1446 = .ok (.ireturn, 1) := by decide +kernel
theorem dL_law_1447 : decode cL_law 1447 = .ok (.aload_n 1, 1) := by decide +kernel
theorem dL_law_1448 : decode cL_law 1448 = .ok (.aload_n 0, 1) := by decide +kernel
theorem dL_law_1449 : decode cL_law 1449 = .ok (.iload_n 3, 1) := by decide +kernel
theorem dL_law_1450 : decode cL_law 1450 = .ok (.iconst 1, 1) := by decide +kernel
theorem dL_law_1451 : decode cL_law 1451 = .ok (.iadd, 1) := by decide +kernel
theorem dL_law_1452 : decode cL_law 1452 = .ok (.iaload, 1) := by decide +kernel
theorem dL_law_1453 : decode cL_law 1453 = .ok (.aload_n 0, 1) := by decide +kernel
theorem dL_law_1454 : decode cL_law 1454 = .ok (.iload_n 3, 1) := by decide +kernel
theorem dL_law_1455 : decode cL_law 1455 = .ok (.iconst 2, 1) := by decide +kernel
theorem dL_law_1456 : decode cL_law 1456 = .ok (.iadd, 1) := by decide +kernel
theorem dL_law_1457 : decode cL_law 1457 = .ok (.iaload, 1) := by decide +kernel
theorem dL_law_1458 : decode cL_law 1458 = .ok (.aload_n 0, 1) := by decide +kernel
theorem dL_law_1459 : decode cL_law 1459 = .ok (.iload_n 3, 1) := by decide +kernel
theorem dL_law_1460 : decode cL_law 1460 = .ok (.iconst 3, 1) := by decide +kernel
theorem dL_law_1461 : decode cL_law 1461 = .ok (.iadd, 1) := by decide +kernel
theorem dL_law_1462 : decode cL_law 1462 = .ok (.iaload, 1) := by decide +kernel
theorem dL_law_1463 : decode cL_law 1463 = .ok (.invokevirtual 133, 3) := by decide +kernel
theorem dL_law_1466 : decode cL_law 1466 = .ok (.aload_n 2, 1) := by decide +kernel
theorem dL_law_1467 : decode cL_law 1467 = .ok (.aload_n 0, 1) := by decide +kernel
theorem dL_law_1468 : decode cL_law 1468 = .ok (.iload_n 3, 1) := by decide +kernel
theorem dL_law_1469 : decode cL_law 1469 = .ok (.iconst 1, 1) := by decide +kernel
theorem dL_law_1470 : decode cL_law 1470 = .ok (.iadd, 1) := by decide +kernel
theorem dL_law_1471 : decode cL_law 1471 = .ok (.iaload, 1) := by decide +kernel
theorem dL_law_1472 : decode cL_law 1472 = .ok (.aload_n 0, 1) := by decide +kernel
theorem dL_law_1473 : decode cL_law 1473 = .ok (.iload_n 3, 1) := by decide +kernel
theorem dL_law_1474 : decode cL_law 1474 = .ok (.iconst 2, 1) := by decide +kernel
theorem dL_law_1475 : decode cL_law 1475 = .ok (.iadd, 1) := by decide +kernel
theorem dL_law_1476 : decode cL_law 1476 = .ok (.iaload, 1) := by decide +kernel
theorem dL_law_1477 : decode cL_law 1477 = .ok (.aload_n 0, 1) := by decide +kernel
theorem dL_law_1478 : decode cL_law 1478 = .ok (.iload_n 3, 1) := by decide +kernel
theorem dL_law_1479 : decode cL_law 1479 = .ok (.iconst 3, 1) := by decide +kernel
theorem dL_law_1480 : decode cL_law 1480 = .ok (.iadd, 1) := by decide +kernel
theorem dL_law_1481 : decode cL_law 1481 = .ok (.iaload, 1) := by decide +kernel
theorem dL_law_1482 : decode cL_law 1482 = .ok (.invokevirtual 136, 3) := by decide +kernel
theorem dL_law_1485 : decode cL_law 1485 = .ok (.if_icmp .eq 638, 3) := by decide +kernel
theorem dL_law_1488 : decode cL_law 1488 = .ok (.iconst 0, 1) := by decide +kernel
theorem dL_law_1489 : decode cL_law 1489 = .ok (.ireturn, 1) := by decide +kernel
theorem dL_law_1490 : decode cL_law 1490 = .ok (.aload_n 1, 1) := by decide +kernel
theorem dL_law_1491 : decode cL_law 1491 = .ok (.aload_n 0, 1) := by decide +kernel
theorem dL_law_1492 : decode cL_law 1492 = .ok (.iload_n 3, 1) := by decide +kernel
theorem dL_law_1493 : decode cL_law 1493 = .ok (.iconst 1, 1) := by decide +kernel
theorem dL_law_1494 : decode cL_law 1494 = .ok (.iadd, 1) := by decide +kernel
theorem dL_law_1495 : decode cL_law 1495 = .ok (.iaload, 1) := by decide +kernel
theorem dL_law_1496 : decode cL_law 1496 = .ok (.aload_n 0, 1) := by decide +kernel
theorem dL_law_1497 : decode cL_law 1497 = .ok (.iload_n 3, 1) := by decide +kernel
theorem dL_law_1498 : decode cL_law 1498 = .ok (.iconst 2, 1) := by decide +kernel
theorem dL_law_1499 : decode cL_law 1499 = .ok (.iadd, 1) := by decide +kernel
theorem dL_law_1500 : decode cL_law 1500 = .ok (.iaload, 1) := by decide +kernel
theorem dL_law_1501 : decode cL_law 1501 = .ok (.invokevirtual 137, 3) := by decide +kernel
theorem dL_law_1504 : decode cL_law 1504 = .ok (.aload_n 2, 1) := by decide +kernel
theorem dL_law_1505 : decode cL_law 1505 = .ok (.aload_n 0, 1) := by decide +kernel
theorem dL_law_1506 : decode cL_law 1506 = .ok (.iload_n 3, 1) := by decide +kernel
theorem dL_law_1507 : decode cL_law 1507 = .ok (.iconst 1, 1) := by decide +kernel
theorem dL_law_1508 : decode cL_law 1508 = .ok (.iadd, 1) := by decide +kernel
theorem dL_law_1509 : decode cL_law 1509 = .ok (.iaload, 1) := by decide +kernel
theorem dL_law_1510 : decode cL_law 1510 = .ok (.aload_n 0, 1) := by decide +kernel
theorem dL_law_1511 : decode cL_law 1511 = .ok (.iload_n 3, 1) := by decide +kernel
theorem dL_law_1512 : decode cL_law 1512 = .ok (.iconst 2, 1) := by decide +kernel
theorem dL_law_1513 : decode cL_law 1513 = .ok (.iadd, 1) := by decide +kernel
theorem dL_law_1514 : decode cL_law 1514 = .ok (.iaload, 1) := by decide +kernel
theorem dL_law_1515 : decode cL_law 1515 = .ok (.invokevirtual 141, 3) := by decide +kernel
theorem dL_law_1518 : decode cL_law 1518 = .ok (.lcmp, 1) := by decide +kernel
theorem dL_law_1519 : decode cL_law 1519 = .ok (.ifCond .eq 604, 3) := by decide +kernel
theorem dL_law_1522 : decode cL_law 1522 = .ok (.iconst 0, 1) := by decide +kernel
theorem dL_law_1523 : decode cL_law 1523 = .ok (.ireturn, 1) := by decide +kernel
theorem dL_law_1524 : decode cL_law 1524 = .ok (.aload_n 1, 1) := by decide +kernel
theorem dL_law_1525 : decode cL_law 1525 = .ok (.aload_n 0, 1) := by decide +kernel
theorem dL_law_1526 : decode cL_law 1526 = .ok (.iload_n 3, 1) := by decide +kernel
theorem dL_law_1527 : decode cL_law 1527 = .ok (.iconst 1, 1) := by decide +kernel
theorem dL_law_1528 : decode cL_law 1528 = .ok (.iadd, 1) := by decide +kernel
theorem dL_law_1529 : decode cL_law 1529 = .ok (.iaload, 1) := by decide +kernel
theorem dL_law_1530 : decode cL_law 1530 = .ok (.invokevirtual 142, 3) := by decide +kernel
theorem dL_law_1533 : decode cL_law 1533 = .ok (.aload_n 2, 1) := by decide +kernel
theorem dL_law_1534 : decode cL_law 1534 = .ok (.aload_n 0, 1) := by decide +kernel
theorem dL_law_1535 : decode cL_law 1535 = .ok (.iload_n 3, 1) := by decide +kernel
theorem dL_law_1536 : decode cL_law 1536 = .ok (.iconst 1, 1) := by decide +kernel
theorem dL_law_1537 : decode cL_law 1537 = .ok (.iadd, 1) := by decide +kernel
theorem dL_law_1538 : decode cL_law 1538 = .ok (.iaload, 1) := by decide +kernel
theorem dL_law_1539 : decode cL_law 1539 = .ok (.invokevirtual 145, 3) := by decide +kernel
theorem dL_law_1542 : decode cL_law 1542 = .ok (.if_icmp .eq 581, 3) := by decide +kernel
theorem dL_law_1545 : decode cL_law 1545 = .ok (.iconst 0, 1) := by decide +kernel
theorem dL_law_1546 : decode cL_law 1546 = .ok (.ireturn, 1) := by decide +kernel
theorem dL_law_1547 : decode cL_law 1547 = .ok (.aload_n 1, 1) := by decide +kernel
theorem dL_law_1548 : decode cL_law 1548 = .ok (.aload_n 0, 1) := by decide +kernel
theorem dL_law_1549 : decode cL_law 1549 = .ok (.iload_n 3, 1) := by decide +kernel
theorem dL_law_1550 : decode cL_law 1550 = .ok (.iconst 1, 1) := by decide +kernel
theorem dL_law_1551 : decode cL_law 1551 = .ok (.iadd, 1) := by decide +kernel
theorem dL_law_1552 : decode cL_law 1552 = .ok (.iaload, 1) := by decide +kernel
theorem dL_law_1553 : decode cL_law 1553 = .ok (.aload_n 0, 1) := by decide +kernel
theorem dL_law_1554 : decode cL_law 1554 = .ok (.iload_n 3, 1) := by decide +kernel
theorem dL_law_1555 : decode cL_law 1555 = .ok (.iconst 2, 1) := by decide +kernel
theorem dL_law_1556 : decode cL_law 1556 = .ok (.iadd, 1) := by decide +kernel
theorem dL_law_1557 : decode cL_law 1557 = .ok (.iaload, 1) := by decide +kernel
theorem dL_law_1558 : decode cL_law 1558 = .ok (.invokevirtual 146, 3) := by decide +kernel
theorem dL_law_1561 : decode cL_law 1561 = .ok (.aload_n 2, 1) := by decide +kernel
theorem dL_law_1562 : decode cL_law 1562 = .ok (.aload_n 0, 1) := by decide +kernel
theorem dL_law_1563 : decode cL_law 1563 = .ok (.iload_n 3, 1) := by decide +kernel
theorem dL_law_1564 : decode cL_law 1564 = .ok (.iconst 1, 1) := by decide +kernel
theorem dL_law_1565 : decode cL_law 1565 = .ok (.iadd, 1) := by decide +kernel
theorem dL_law_1566 : decode cL_law 1566 = .ok (.iaload, 1) := by decide +kernel
theorem dL_law_1567 : decode cL_law 1567 = .ok (.aload_n 0, 1) := by decide +kernel
theorem dL_law_1568 : decode cL_law 1568 = .ok (.iload_n 3, 1) := by decide +kernel
theorem dL_law_1569 : decode cL_law 1569 = .ok (.iconst 2, 1) := by decide +kernel
theorem dL_law_1570 : decode cL_law 1570 = .ok (.iadd, 1) := by decide +kernel
theorem dL_law_1571 : decode cL_law 1571 = .ok (.iaload, 1) := by decide +kernel
theorem dL_law_1572 : decode cL_law 1572 = .ok (.invokevirtual 149, 3) := by decide +kernel
theorem dL_law_1575 : decode cL_law 1575 = .ok (.if_icmp .eq 548, 3) := by decide +kernel
theorem dL_law_1578 : decode cL_law 1578 = .ok (.iconst 0, 1) := by decide +kernel
theorem dL_law_1579 : decode cL_law 1579 = .ok (.ireturn, 1) := by decide +kernel
theorem dL_law_1580 : decode cL_law 1580 = .ok (.aload_n 1, 1) := by decide +kernel
theorem dL_law_1581 : decode cL_law 1581 = .ok (.aload_n 0, 1) := by decide +kernel
theorem dL_law_1582 : decode cL_law 1582 = .ok (.iload_n 3, 1) := by decide +kernel
theorem dL_law_1583 : decode cL_law 1583 = .ok (.iconst 1, 1) := by decide +kernel
theorem dL_law_1584 : decode cL_law 1584 = .ok (.iadd, 1) := by decide +kernel
theorem dL_law_1585 : decode cL_law 1585 = .ok (.iaload, 1) := by decide +kernel
theorem dL_law_1586 : decode cL_law 1586 = .ok (.aload_n 0, 1) := by decide +kernel
theorem dL_law_1587 : decode cL_law 1587 = .ok (.iload_n 3, 1) := by decide +kernel
theorem dL_law_1588 : decode cL_law 1588 = .ok (.iconst 2, 1) := by decide +kernel
theorem dL_law_1589 : decode cL_law 1589 = .ok (.iadd, 1) := by decide +kernel
theorem dL_law_1590 : decode cL_law 1590 = .ok (.iaload, 1) := by decide +kernel
theorem dL_law_1591 : decode cL_law 1591 = .ok (.aload_n 0, 1) := by decide +kernel
theorem dL_law_1592 : decode cL_law 1592 = .ok (.iload_n 3, 1) := by decide +kernel
theorem dL_law_1593 : decode cL_law 1593 = .ok (.iconst 3, 1) := by decide +kernel
theorem dL_law_1594 : decode cL_law 1594 = .ok (.iadd, 1) := by decide +kernel
theorem dL_law_1595 : decode cL_law 1595 = .ok (.iaload, 1) := by decide +kernel
theorem dL_law_1596 : decode cL_law 1596 = .ok (.aload_n 0, 1) := by decide +kernel
theorem dL_law_1597 : decode cL_law 1597 = .ok (.iload_n 3, 1) := by decide +kernel
theorem dL_law_1598 : decode cL_law 1598 = .ok (.iconst 4, 1) := by decide +kernel
theorem dL_law_1599 : decode cL_law 1599 = .ok (.iadd, 1) := by decide +kernel
theorem dL_law_1600 : decode cL_law 1600 = .ok (.iaload, 1) := by decide +kernel
theorem dL_law_1601 : decode cL_law 1601 = .ok (.invokevirtual 150, 3) := by decide +kernel
theorem dL_law_1604 : decode cL_law 1604 = .ok (.aload_n 2, 1) := by decide +kernel
theorem dL_law_1605 : decode cL_law 1605 = .ok (.aload_n 0, 1) := by decide +kernel
theorem dL_law_1606 : decode cL_law 1606 = .ok (.iload_n 3, 1) := by decide +kernel
theorem dL_law_1607 : decode cL_law 1607 = .ok (.iconst 1, 1) := by decide +kernel
theorem dL_law_1608 : decode cL_law 1608 = .ok (.iadd, 1) := by decide +kernel
theorem dL_law_1609 : decode cL_law 1609 = .ok (.iaload, 1) := by decide +kernel
theorem dL_law_1610 : decode cL_law 1610 = .ok (.aload_n 0, 1) := by decide +kernel
theorem dL_law_1611 : decode cL_law 1611 = .ok (.iload_n 3, 1) := by decide +kernel
theorem dL_law_1612 : decode cL_law 1612 = .ok (.iconst 2, 1) := by decide +kernel
theorem dL_law_1613 : decode cL_law 1613 = .ok (.iadd, 1) := by decide +kernel
theorem dL_law_1614 : decode cL_law 1614 = .ok (.iaload, 1) := by decide +kernel
theorem dL_law_1615 : decode cL_law 1615 = .ok (.aload_n 0, 1) := by decide +kernel
theorem dL_law_1616 : decode cL_law 1616 = .ok (.iload_n 3, 1) := by decide +kernel
theorem dL_law_1617 : decode cL_law 1617 = .ok (.iconst 3, 1) := by decide +kernel
theorem dL_law_1618 : decode cL_law 1618 = .ok (.iadd, 1) := by decide +kernel
theorem dL_law_1619 : decode cL_law 1619 = .ok (.iaload, 1) := by decide +kernel
theorem dL_law_1620 : decode cL_law 1620 = .ok (.aload_n 0, 1) := by decide +kernel
theorem dL_law_1621 : decode cL_law 1621 = .ok (.iload_n 3, 1) := by decide +kernel
theorem dL_law_1622 : decode cL_law 1622 = .ok (.iconst 4, 1) := by decide +kernel
theorem dL_law_1623 : decode cL_law 1623 = .ok (.iadd, 1) := by decide +kernel
theorem dL_law_1624 : decode cL_law 1624 = .ok (.iaload, 1) := by decide +kernel
theorem dL_law_1625 : decode cL_law 1625 = .ok (.invokevirtual 154, 3) := by decide +kernel
theorem dL_law_1628 : decode cL_law 1628 = .ok (.if_icmp .eq 495, 3) := by decide +kernel
theorem dL_law_1631 : decode cL_law 1631 = .ok (.iconst 0, 1) := by decide +kernel
theorem dL_law_1632 : decode cL_law 1632 = .ok (.ireturn, 1) := by decide +kernel
theorem dL_law_1633 : decode cL_law 1633 = .ok (.aload_n 1, 1) := by decide +kernel
theorem dL_law_1634 : decode cL_law 1634 = .ok (.aload_n 0, 1) := by decide +kernel
theorem dL_law_1635 : decode cL_law 1635 = .ok (.iload_n 3, 1) := by decide +kernel
theorem dL_law_1636 : decode cL_law 1636 = .ok (.iconst 1, 1) := by decide +kernel
theorem dL_law_1637 : decode cL_law 1637 = .ok (.iadd, 1) := by decide +kernel
theorem dL_law_1638 : decode cL_law 1638 = .ok (.iaload, 1) := by decide +kernel
theorem dL_law_1639 : decode cL_law 1639 = .ok (.aload_n 0, 1) := by decide +kernel
theorem dL_law_1640 : decode cL_law 1640 = .ok (.iload_n 3, 1) := by decide +kernel
theorem dL_law_1641 : decode cL_law 1641 = .ok (.iconst 2, 1) := by decide +kernel
theorem dL_law_1642 : decode cL_law 1642 = .ok (.iadd, 1) := by decide +kernel
theorem dL_law_1643 : decode cL_law 1643 = .ok (.iaload, 1) := by decide +kernel
theorem dL_law_1644 : decode cL_law 1644 = .ok (.aload_n 0, 1) := by decide +kernel
theorem dL_law_1645 : decode cL_law 1645 = .ok (.iload_n 3, 1) := by decide +kernel
theorem dL_law_1646 : decode cL_law 1646 = .ok (.iconst 3, 1) := by decide +kernel
theorem dL_law_1647 : decode cL_law 1647 = .ok (.iadd, 1) := by decide +kernel
theorem dL_law_1648 : decode cL_law 1648 = .ok (.iaload, 1) := by decide +kernel
theorem dL_law_1649 : decode cL_law 1649 = .ok (.aload_n 0, 1) := by decide +kernel
theorem dL_law_1650 : decode cL_law 1650 = .ok (.iload_n 3, 1) := by decide +kernel
theorem dL_law_1651 : decode cL_law 1651 = .ok (.iconst 4, 1) := by decide +kernel
theorem dL_law_1652 : decode cL_law 1652 = .ok (.iadd, 1) := by decide +kernel
theorem dL_law_1653 : decode cL_law 1653 = .ok (.iaload, 1) := by decide +kernel
theorem dL_law_1654 : decode cL_law 1654 = .ok (.aload_n 0, 1) := by decide +kernel
theorem dL_law_1655 : decode cL_law 1655 = .ok (.iload_n 3, 1) := by decide +kernel
theorem dL_law_1656 : decode cL_law 1656 = .ok (.iconst 5, 1) := by decide +kernel
theorem dL_law_1657 : decode cL_law 1657 = .ok (.iadd, 1) := by decide +kernel
theorem dL_law_1658 : decode cL_law 1658 = .ok (.iaload, 1) := by decide +kernel
theorem dL_law_1659 : decode cL_law 1659 = .ok (.invokevirtual 155, 3) := by decide +kernel
theorem dL_law_1662 : decode cL_law 1662 = .ok (.aload_n 2, 1) := by decide +kernel
theorem dL_law_1663 : decode cL_law 1663 = .ok (.aload_n 0, 1) := by decide +kernel
theorem dL_law_1664 : decode cL_law 1664 = .ok (.iload_n 3, 1) := by decide +kernel
theorem dL_law_1665 : decode cL_law 1665 = .ok (.iconst 1, 1) := by decide +kernel
theorem dL_law_1666 : decode cL_law 1666 = .ok (.iadd, 1) := by decide +kernel
theorem dL_law_1667 : decode cL_law 1667 = .ok (.iaload, 1) := by decide +kernel
theorem dL_law_1668 : decode cL_law 1668 = .ok (.aload_n 0, 1) := by decide +kernel
theorem dL_law_1669 : decode cL_law 1669 = .ok (.iload_n 3, 1) := by decide +kernel
theorem dL_law_1670 : decode cL_law 1670 = .ok (.iconst 2, 1) := by decide +kernel
theorem dL_law_1671 : decode cL_law 1671 = .ok (.iadd, 1) := by decide +kernel
theorem dL_law_1672 : decode cL_law 1672 = .ok (.iaload, 1) := by decide +kernel
theorem dL_law_1673 : decode cL_law 1673 = .ok (.aload_n 0, 1) := by decide +kernel
theorem dL_law_1674 : decode cL_law 1674 = .ok (.iload_n 3, 1) := by decide +kernel
theorem dL_law_1675 : decode cL_law 1675 = .ok (.iconst 3, 1) := by decide +kernel
theorem dL_law_1676 : decode cL_law 1676 = .ok (.iadd, 1) := by decide +kernel
theorem dL_law_1677 : decode cL_law 1677 = .ok (.iaload, 1) := by decide +kernel
theorem dL_law_1678 : decode cL_law 1678 = .ok (.aload_n 0, 1) := by decide +kernel
theorem dL_law_1679 : decode cL_law 1679 = .ok (.iload_n 3, 1) := by decide +kernel
theorem dL_law_1680 : decode cL_law 1680 = .ok (.iconst 4, 1) := by decide +kernel
theorem dL_law_1681 : decode cL_law 1681 = .ok (.iadd, 1) := by decide +kernel
theorem dL_law_1682 : decode cL_law 1682 = .ok (.iaload, 1) := by decide +kernel
theorem dL_law_1683 : decode cL_law 1683 = .ok (.aload_n 0, 1) := by decide +kernel
theorem dL_law_1684 : decode cL_law 1684 = .ok (.iload_n 3, 1) := by decide +kernel
theorem dL_law_1685 : decode cL_law 1685 = .ok (.iconst 5, 1) := by decide +kernel
theorem dL_law_1686 : decode cL_law 1686 = .ok (.iadd, 1) := by decide +kernel
theorem dL_law_1687 : decode cL_law 1687 = .ok (.iaload, 1) := by decide +kernel
theorem dL_law_1688 : decode cL_law 1688 = .ok (.invokevirtual 158, 3) := by decide +kernel
theorem dL_law_1691 : decode cL_law 1691 = .ok (.lcmp, 1) := by decide +kernel
theorem dL_law_1692 : decode cL_law 1692 = .ok (.ifCond .eq 431, 3) := by decide +kernel
theorem dL_law_1695 : decode cL_law 1695 = .ok (.iconst 0, 1) := by decide +kernel
theorem dL_law_1696 : decode cL_law 1696 = .ok (.ireturn, 1) := by decide +kernel
theorem dL_law_1697 : decode cL_law 1697 = .ok (.aload_n 1, 1) := by decide +kernel
theorem dL_law_1698 : decode cL_law 1698 = .ok (.aload_n 0, 1) := by decide +kernel
theorem dL_law_1699 : decode cL_law 1699 = .ok (.iload_n 3, 1) := by decide +kernel
theorem dL_law_1700 : decode cL_law 1700 = .ok (.iconst 1, 1) := by decide +kernel
theorem dL_law_1701 : decode cL_law 1701 = .ok (.iadd, 1) := by decide +kernel
theorem dL_law_1702 : decode cL_law 1702 = .ok (.iaload, 1) := by decide +kernel
theorem dL_law_1703 : decode cL_law 1703 = .ok (.aload_n 0, 1) := by decide +kernel
theorem dL_law_1704 : decode cL_law 1704 = .ok (.iload_n 3, 1) := by decide +kernel
theorem dL_law_1705 : decode cL_law 1705 = .ok (.iconst 2, 1) := by decide +kernel
theorem dL_law_1706 : decode cL_law 1706 = .ok (.iadd, 1) := by decide +kernel
theorem dL_law_1707 : decode cL_law 1707 = .ok (.iaload, 1) := by decide +kernel
theorem dL_law_1708 : decode cL_law 1708 = .ok (.aload_n 0, 1) := by decide +kernel
theorem dL_law_1709 : decode cL_law 1709 = .ok (.iload_n 3, 1) := by decide +kernel
theorem dL_law_1710 : decode cL_law 1710 = .ok (.iconst 3, 1) := by decide +kernel
theorem dL_law_1711 : decode cL_law 1711 = .ok (.iadd, 1) := by decide +kernel
theorem dL_law_1712 : decode cL_law 1712 = .ok (.iaload, 1) := by decide +kernel
theorem dL_law_1713 : decode cL_law 1713 = .ok (.aload_n 0, 1) := by decide +kernel
theorem dL_law_1714 : decode cL_law 1714 = .ok (.iload_n 3, 1) := by decide +kernel
theorem dL_law_1715 : decode cL_law 1715 = .ok (.iconst 4, 1) := by decide +kernel
theorem dL_law_1716 : decode cL_law 1716 = .ok (.iadd, 1) := by decide +kernel
theorem dL_law_1717 : decode cL_law 1717 = .ok (.iaload, 1) := by decide +kernel
theorem dL_law_1718 : decode cL_law 1718 = .ok (.aload_n 0, 1) := by decide +kernel
theorem dL_law_1719 : decode cL_law 1719 = .ok (.iload_n 3, 1) := by decide +kernel
theorem dL_law_1720 : decode cL_law 1720 = .ok (.iconst 5, 1) := by decide +kernel
theorem dL_law_1721 : decode cL_law 1721 = .ok (.iadd, 1) := by decide +kernel
theorem dL_law_1722 : decode cL_law 1722 = .ok (.iaload, 1) := by decide +kernel
theorem dL_law_1723 : decode cL_law 1723 = .ok (.invokevirtual 159, 3) := by decide +kernel
theorem dL_law_1726 : decode cL_law 1726 = .ok (.aload_n 2, 1) := by decide +kernel
theorem dL_law_1727 : decode cL_law 1727 = .ok (.aload_n 0, 1) := by decide +kernel
theorem dL_law_1728 : decode cL_law 1728 = .ok (.iload_n 3, 1) := by decide +kernel
theorem dL_law_1729 : decode cL_law 1729 = .ok (.iconst 1, 1) := by decide +kernel
theorem dL_law_1730 : decode cL_law 1730 = .ok (.iadd, 1) := by decide +kernel
theorem dL_law_1731 : decode cL_law 1731 = .ok (.iaload, 1) := by decide +kernel
theorem dL_law_1732 : decode cL_law 1732 = .ok (.aload_n 0, 1) := by decide +kernel
theorem dL_law_1733 : decode cL_law 1733 = .ok (.iload_n 3, 1) := by decide +kernel
theorem dL_law_1734 : decode cL_law 1734 = .ok (.iconst 2, 1) := by decide +kernel
theorem dL_law_1735 : decode cL_law 1735 = .ok (.iadd, 1) := by decide +kernel
theorem dL_law_1736 : decode cL_law 1736 = .ok (.iaload, 1) := by decide +kernel
theorem dL_law_1737 : decode cL_law 1737 = .ok (.aload_n 0, 1) := by decide +kernel
theorem dL_law_1738 : decode cL_law 1738 = .ok (.iload_n 3, 1) := by decide +kernel
theorem dL_law_1739 : decode cL_law 1739 = .ok (.iconst 3, 1) := by decide +kernel
theorem dL_law_1740 : decode cL_law 1740 = .ok (.iadd, 1) := by decide +kernel
theorem dL_law_1741 : decode cL_law 1741 = .ok (.iaload, 1) := by decide +kernel
theorem dL_law_1742 : decode cL_law 1742 = .ok (.aload_n 0, 1) := by decide +kernel
theorem dL_law_1743 : decode cL_law 1743 = .ok (.iload_n 3, 1) := by decide +kernel
theorem dL_law_1744 : decode cL_law 1744 = .ok (.iconst 4, 1) := by decide +kernel
theorem dL_law_1745 : decode cL_law 1745 = .ok (.iadd, 1) := by decide +kernel
theorem dL_law_1746 : decode cL_law 1746 = .ok (.iaload, 1) := by decide +kernel
theorem dL_law_1747 : decode cL_law 1747 = .ok (.aload_n 0, 1) := by decide +kernel
theorem dL_law_1748 : decode cL_law 1748 = .ok (.iload_n 3, 1) := by decide +kernel
theorem dL_law_1749 : decode cL_law 1749 = .ok (.iconst 5, 1) := by decide +kernel
theorem dL_law_1750 : decode cL_law 1750 = .ok (.iadd, 1) := by decide +kernel
theorem dL_law_1751 : decode cL_law 1751 = .ok (.iaload, 1) := by decide +kernel
theorem dL_law_1752 : decode cL_law 1752 = .ok (.invokevirtual 162, 3) := by decide +kernel
theorem dL_law_1755 : decode cL_law 1755 = .ok (.if_icmp .eq 368, 3) := by decide +kernel
theorem dL_law_1758 : decode cL_law 1758 = .ok (.iconst 0, 1) := by decide +kernel
theorem dL_law_1759 : decode cL_law 1759 = .ok (.ireturn, 1) := by decide +kernel
theorem dL_law_1760 : decode cL_law 1760 = .ok (.aload_n 1, 1) := by decide +kernel
theorem dL_law_1761 : decode cL_law 1761 = .ok (.aload_n 0, 1) := by decide +kernel
theorem dL_law_1762 : decode cL_law 1762 = .ok (.iload_n 3, 1) := by decide +kernel
theorem dL_law_1763 : decode cL_law 1763 = .ok (.iconst 1, 1) := by decide +kernel
theorem dL_law_1764 : decode cL_law 1764 = .ok (.iadd, 1) := by decide +kernel
theorem dL_law_1765 : decode cL_law 1765 = .ok (.iaload, 1) := by decide +kernel
theorem dL_law_1766 : decode cL_law 1766 = .ok (.aload_n 0, 1) := by decide +kernel
theorem dL_law_1767 : decode cL_law 1767 = .ok (.iload_n 3, 1) := by decide +kernel
theorem dL_law_1768 : decode cL_law 1768 = .ok (.iconst 2, 1) := by decide +kernel
theorem dL_law_1769 : decode cL_law 1769 = .ok (.iadd, 1) := by decide +kernel
theorem dL_law_1770 : decode cL_law 1770 = .ok (.iaload, 1) := by decide +kernel
theorem dL_law_1771 : decode cL_law 1771 = .ok (.aload_n 0, 1) := by decide +kernel
theorem dL_law_1772 : decode cL_law 1772 = .ok (.iload_n 3, 1) := by decide +kernel
theorem dL_law_1773 : decode cL_law 1773 = .ok (.iconst 3, 1) := by decide +kernel
theorem dL_law_1774 : decode cL_law 1774 = .ok (.iadd, 1) := by decide +kernel
theorem dL_law_1775 : decode cL_law 1775 = .ok (.iaload, 1) := by decide +kernel
theorem dL_law_1776 : decode cL_law 1776 = .ok (.aload_n 0, 1) := by decide +kernel
theorem dL_law_1777 : decode cL_law 1777 = .ok (.iload_n 3, 1) := by decide +kernel
theorem dL_law_1778 : decode cL_law 1778 = .ok (.iconst 4, 1) := by decide +kernel
theorem dL_law_1779 : decode cL_law 1779 = .ok (.iadd, 1) := by decide +kernel
theorem dL_law_1780 : decode cL_law 1780 = .ok (.iaload, 1) := by decide +kernel
theorem dL_law_1781 : decode cL_law 1781 = .ok (.invokevirtual 163, 3) := by decide +kernel
theorem dL_law_1784 : decode cL_law 1784 = .ok (.aload_n 2, 1) := by decide +kernel
theorem dL_law_1785 : decode cL_law 1785 = .ok (.aload_n 0, 1) := by decide +kernel
theorem dL_law_1786 : decode cL_law 1786 = .ok (.iload_n 3, 1) := by decide +kernel
theorem dL_law_1787 : decode cL_law 1787 = .ok (.iconst 1, 1) := by decide +kernel
theorem dL_law_1788 : decode cL_law 1788 = .ok (.iadd, 1) := by decide +kernel
theorem dL_law_1789 : decode cL_law 1789 = .ok (.iaload, 1) := by decide +kernel
theorem dL_law_1790 : decode cL_law 1790 = .ok (.aload_n 0, 1) := by decide +kernel
theorem dL_law_1791 : decode cL_law 1791 = .ok (.iload_n 3, 1) := by decide +kernel
theorem dL_law_1792 : decode cL_law 1792 = .ok (.iconst 2, 1) := by decide +kernel
theorem dL_law_1793 : decode cL_law 1793 = .ok (.iadd, 1) := by decide +kernel
theorem dL_law_1794 : decode cL_law 1794 = .ok (.iaload, 1) := by decide +kernel
theorem dL_law_1795 : decode cL_law 1795 = .ok (.aload_n 0, 1) := by decide +kernel
theorem dL_law_1796 : decode cL_law 1796 = .ok (.iload_n 3, 1) := by decide +kernel
theorem dL_law_1797 : decode cL_law 1797 = .ok (.iconst 3, 1) := by decide +kernel
theorem dL_law_1798 : decode cL_law 1798 = .ok (.iadd, 1) := by decide +kernel
theorem dL_law_1799 : decode cL_law 1799 = .ok (.iaload, 1) := by decide +kernel
theorem dL_law_1800 : decode cL_law 1800 = .ok (.aload_n 0, 1) := by decide +kernel
theorem dL_law_1801 : decode cL_law 1801 = .ok (.iload_n 3, 1) := by decide +kernel
theorem dL_law_1802 : decode cL_law 1802 = .ok (.iconst 4, 1) := by decide +kernel
theorem dL_law_1803 : decode cL_law 1803 = .ok (.iadd, 1) := by decide +kernel
theorem dL_law_1804 : decode cL_law 1804 = .ok (.iaload, 1) := by decide +kernel
theorem dL_law_1805 : decode cL_law 1805 = .ok (.invokevirtual 166, 3) := by decide +kernel
theorem dL_law_1808 : decode cL_law 1808 = .ok (.if_icmp .eq 315, 3) := by decide +kernel
theorem dL_law_1811 : decode cL_law 1811 = .ok (.iconst 0, 1) := by decide +kernel
theorem dL_law_1812 : decode cL_law 1812 = .ok (.ireturn, 1) := by decide +kernel
theorem dL_law_1813 : decode cL_law 1813 = .ok (.aload_n 1, 1) := by decide +kernel
theorem dL_law_1814 : decode cL_law 1814 = .ok (.aload_n 0, 1) := by decide +kernel
theorem dL_law_1815 : decode cL_law 1815 = .ok (.iload_n 3, 1) := by decide +kernel
theorem dL_law_1816 : decode cL_law 1816 = .ok (.iconst 1, 1) := by decide +kernel
theorem dL_law_1817 : decode cL_law 1817 = .ok (.iadd, 1) := by decide +kernel
theorem dL_law_1818 : decode cL_law 1818 = .ok (.iaload, 1) := by decide +kernel
theorem dL_law_1819 : decode cL_law 1819 = .ok (.aload_n 0, 1) := by decide +kernel
theorem dL_law_1820 : decode cL_law 1820 = .ok (.iload_n 3, 1) := by decide +kernel
theorem dL_law_1821 : decode cL_law 1821 = .ok (.iconst 2, 1) := by decide +kernel
theorem dL_law_1822 : decode cL_law 1822 = .ok (.iadd, 1) := by decide +kernel
theorem dL_law_1823 : decode cL_law 1823 = .ok (.iaload, 1) := by decide +kernel
theorem dL_law_1824 : decode cL_law 1824 = .ok (.aload_n 0, 1) := by decide +kernel
theorem dL_law_1825 : decode cL_law 1825 = .ok (.iload_n 3, 1) := by decide +kernel
theorem dL_law_1826 : decode cL_law 1826 = .ok (.iconst 3, 1) := by decide +kernel
theorem dL_law_1827 : decode cL_law 1827 = .ok (.iadd, 1) := by decide +kernel
theorem dL_law_1828 : decode cL_law 1828 = .ok (.iaload, 1) := by decide +kernel
theorem dL_law_1829 : decode cL_law 1829 = .ok (.invokevirtual 167, 3) := by decide +kernel
theorem dL_law_1832 : decode cL_law 1832 = .ok (.aload_n 2, 1) := by decide +kernel
theorem dL_law_1833 : decode cL_law 1833 = .ok (.aload_n 0, 1) := by decide +kernel
theorem dL_law_1834 : decode cL_law 1834 = .ok (.iload_n 3, 1) := by decide +kernel
theorem dL_law_1835 : decode cL_law 1835 = .ok (.iconst 1, 1) := by decide +kernel
theorem dL_law_1836 : decode cL_law 1836 = .ok (.iadd, 1) := by decide +kernel
theorem dL_law_1837 : decode cL_law 1837 = .ok (.iaload, 1) := by decide +kernel
theorem dL_law_1838 : decode cL_law 1838 = .ok (.aload_n 0, 1) := by decide +kernel
theorem dL_law_1839 : decode cL_law 1839 = .ok (.iload_n 3, 1) := by decide +kernel
theorem dL_law_1840 : decode cL_law 1840 = .ok (.iconst 2, 1) := by decide +kernel
theorem dL_law_1841 : decode cL_law 1841 = .ok (.iadd, 1) := by decide +kernel
theorem dL_law_1842 : decode cL_law 1842 = .ok (.iaload, 1) := by decide +kernel
theorem dL_law_1843 : decode cL_law 1843 = .ok (.aload_n 0, 1) := by decide +kernel
theorem dL_law_1844 : decode cL_law 1844 = .ok (.iload_n 3, 1) := by decide +kernel
theorem dL_law_1845 : decode cL_law 1845 = .ok (.iconst 3, 1) := by decide +kernel
theorem dL_law_1846 : decode cL_law 1846 = .ok (.iadd, 1) := by decide +kernel
theorem dL_law_1847 : decode cL_law 1847 = .ok (.iaload, 1) := by decide +kernel
theorem dL_law_1848 : decode cL_law 1848 = .ok (.invokevirtual 170, 3) := by decide +kernel
theorem dL_law_1851 : decode cL_law 1851 = .ok (.if_icmp .eq 272, 3) := by decide +kernel
theorem dL_law_1854 : decode cL_law 1854 = .ok (.iconst 0, 1) := by decide +kernel
theorem dL_law_1855 : decode cL_law 1855 = .ok (.ireturn, 1) := by decide +kernel
theorem dL_law_1856 : decode cL_law 1856 = .ok (.aload_n 1, 1) := by decide +kernel
theorem dL_law_1857 : decode cL_law 1857 = .ok (.aload_n 0, 1) := by decide +kernel
theorem dL_law_1858 : decode cL_law 1858 = .ok (.iload_n 3, 1) := by decide +kernel
theorem dL_law_1859 : decode cL_law 1859 = .ok (.iconst 1, 1) := by decide +kernel
theorem dL_law_1860 : decode cL_law 1860 = .ok (.iadd, 1) := by decide +kernel
theorem dL_law_1861 : decode cL_law 1861 = .ok (.iaload, 1) := by decide +kernel
theorem dL_law_1862 : decode cL_law 1862 = .ok (.aload_n 0, 1) := by decide +kernel
theorem dL_law_1863 : decode cL_law 1863 = .ok (.iload_n 3, 1) := by decide +kernel
theorem dL_law_1864 : decode cL_law 1864 = .ok (.iconst 2, 1) := by decide +kernel
theorem dL_law_1865 : decode cL_law 1865 = .ok (.iadd, 1) := by decide +kernel
theorem dL_law_1866 : decode cL_law 1866 = .ok (.iaload, 1) := by decide +kernel
theorem dL_law_1867 : decode cL_law 1867 = .ok (.invokevirtual 171, 3) := by decide +kernel
theorem dL_law_1870 : decode cL_law 1870 = .ok (.aload_n 2, 1) := by decide +kernel
theorem dL_law_1871 : decode cL_law 1871 = .ok (.aload_n 0, 1) := by decide +kernel
theorem dL_law_1872 : decode cL_law 1872 = .ok (.iload_n 3, 1) := by decide +kernel
theorem dL_law_1873 : decode cL_law 1873 = .ok (.iconst 1, 1) := by decide +kernel
theorem dL_law_1874 : decode cL_law 1874 = .ok (.iadd, 1) := by decide +kernel
theorem dL_law_1875 : decode cL_law 1875 = .ok (.iaload, 1) := by decide +kernel
theorem dL_law_1876 : decode cL_law 1876 = .ok (.aload_n 0, 1) := by decide +kernel
theorem dL_law_1877 : decode cL_law 1877 = .ok (.iload_n 3, 1) := by decide +kernel
theorem dL_law_1878 : decode cL_law 1878 = .ok (.iconst 2, 1) := by decide +kernel
theorem dL_law_1879 : decode cL_law 1879 = .ok (.iadd, 1) := by decide +kernel
theorem dL_law_1880 : decode cL_law 1880 = .ok (.iaload, 1) := by decide +kernel
theorem dL_law_1881 : decode cL_law 1881 = .ok (.invokevirtual 174, 3) := by decide +kernel
theorem dL_law_1884 : decode cL_law 1884 = .ok (.if_icmp .eq 239, 3) := by decide +kernel
theorem dL_law_1887 : decode cL_law 1887 = .ok (.iconst 0, 1) := by decide +kernel
theorem dL_law_1888 : decode cL_law 1888 = .ok (.ireturn, 1) := by decide +kernel
theorem dL_law_1889 : decode cL_law 1889 = .ok (.aload_n 1, 1) := by decide +kernel
theorem dL_law_1890 : decode cL_law 1890 = .ok (.aload_n 0, 1) := by decide +kernel
theorem dL_law_1891 : decode cL_law 1891 = .ok (.iload_n 3, 1) := by decide +kernel
theorem dL_law_1892 : decode cL_law 1892 = .ok (.iconst 1, 1) := by decide +kernel
theorem dL_law_1893 : decode cL_law 1893 = .ok (.iadd, 1) := by decide +kernel
theorem dL_law_1894 : decode cL_law 1894 = .ok (.iaload, 1) := by decide +kernel
theorem dL_law_1895 : decode cL_law 1895 = .ok (.invokevirtual 175, 3) := by decide +kernel
theorem dL_law_1898 : decode cL_law 1898 = .ok (.aload_n 2, 1) := by decide +kernel
theorem dL_law_1899 : decode cL_law 1899 = .ok (.aload_n 0, 1) := by decide +kernel
theorem dL_law_1900 : decode cL_law 1900 = .ok (.iload_n 3, 1) := by decide +kernel
theorem dL_law_1901 : decode cL_law 1901 = .ok (.iconst 1, 1) := by decide +kernel
theorem dL_law_1902 : decode cL_law 1902 = .ok (.iadd, 1) := by decide +kernel
theorem dL_law_1903 : decode cL_law 1903 = .ok (.iaload, 1) := by decide +kernel
theorem dL_law_1904 : decode cL_law 1904 = .ok (.invokevirtual 178, 3) := by decide +kernel
theorem dL_law_1907 : decode cL_law 1907 = .ok (.if_icmp .eq 216, 3) := by decide +kernel
theorem dL_law_1910 : decode cL_law 1910 = .ok (.iconst 0, 1) := by decide +kernel
theorem dL_law_1911 : decode cL_law 1911 = .ok (.ireturn, 1) := by decide +kernel
theorem dL_law_1912 : decode cL_law 1912 = .ok (.aload_n 1, 1) := by decide +kernel
theorem dL_law_1913 : decode cL_law 1913 = .ok (.aload_n 0, 1) := by decide +kernel
theorem dL_law_1914 : decode cL_law 1914 = .ok (.iload_n 3, 1) := by decide +kernel
theorem dL_law_1915 : decode cL_law 1915 = .ok (.iconst 1, 1) := by decide +kernel
theorem dL_law_1916 : decode cL_law 1916 = .ok (.iadd, 1) := by decide +kernel
theorem dL_law_1917 : decode cL_law 1917 = .ok (.iaload, 1) := by decide +kernel
theorem dL_law_1918 : decode cL_law 1918 = .ok (.invokevirtual 179, 3) := by decide +kernel
theorem dL_law_1921 : decode cL_law 1921 = .ok (.aload_n 2, 1) := by decide +kernel
theorem dL_law_1922 : decode cL_law 1922 = .ok (.aload_n 0, 1) := by decide +kernel
theorem dL_law_1923 : decode cL_law 1923 = .ok (.iload_n 3, 1) := by decide +kernel
theorem dL_law_1924 : decode cL_law 1924 = .ok (.iconst 1, 1) := by decide +kernel
theorem dL_law_1925 : decode cL_law 1925 = .ok (.iadd, 1) := by decide +kernel
theorem dL_law_1926 : decode cL_law 1926 = .ok (.iaload, 1) := by decide +kernel
theorem dL_law_1927 : decode cL_law 1927 = .ok (.invokevirtual 182, 3) := by decide +kernel
theorem dL_law_1930 : decode cL_law 1930 = .ok (.if_icmp .eq 193, 3) := by decide +kernel
theorem dL_law_1933 : decode cL_law 1933 = .ok (.iconst 0, 1) := by decide +kernel
theorem dL_law_1934 : decode cL_law 1934 = .ok (.ireturn, 1) := by decide +kernel
theorem dL_law_1935 : decode cL_law 1935 = .ok (.aload_n 1, 1) := by decide +kernel
theorem dL_law_1936 : decode cL_law 1936 = .ok (.aload_n 0, 1) := by decide +kernel
theorem dL_law_1937 : decode cL_law 1937 = .ok (.iload_n 3, 1) := by decide +kernel
theorem dL_law_1938 : decode cL_law 1938 = .ok (.iconst 1, 1) := by decide +kernel
theorem dL_law_1939 : decode cL_law 1939 = .ok (.iadd, 1) := by decide +kernel
theorem dL_law_1940 : decode cL_law 1940 = .ok (.iaload, 1) := by decide +kernel
theorem dL_law_1941 : decode cL_law 1941 = .ok (.aload_n 0, 1) := by decide +kernel
theorem dL_law_1942 : decode cL_law 1942 = .ok (.iload_n 3, 1) := by decide +kernel
theorem dL_law_1943 : decode cL_law 1943 = .ok (.iconst 2, 1) := by decide +kernel
theorem dL_law_1944 : decode cL_law 1944 = .ok (.iadd, 1) := by decide +kernel
theorem dL_law_1945 : decode cL_law 1945 = .ok (.iaload, 1) := by decide +kernel
theorem dL_law_1946 : decode cL_law 1946 = .ok (.invokevirtual 183, 3) := by decide +kernel
theorem dL_law_1949 : decode cL_law 1949 = .ok (.aload_n 2, 1) := by decide +kernel
theorem dL_law_1950 : decode cL_law 1950 = .ok (.aload_n 0, 1) := by decide +kernel
theorem dL_law_1951 : decode cL_law 1951 = .ok (.iload_n 3, 1) := by decide +kernel
theorem dL_law_1952 : decode cL_law 1952 = .ok (.iconst 1, 1) := by decide +kernel
theorem dL_law_1953 : decode cL_law 1953 = .ok (.iadd, 1) := by decide +kernel
theorem dL_law_1954 : decode cL_law 1954 = .ok (.iaload, 1) := by decide +kernel
theorem dL_law_1955 : decode cL_law 1955 = .ok (.aload_n 0, 1) := by decide +kernel
theorem dL_law_1956 : decode cL_law 1956 = .ok (.iload_n 3, 1) := by decide +kernel
theorem dL_law_1957 : decode cL_law 1957 = .ok (.iconst 2, 1) := by decide +kernel
theorem dL_law_1958 : decode cL_law 1958 = .ok (.iadd, 1) := by decide +kernel
theorem dL_law_1959 : decode cL_law 1959 = .ok (.iaload, 1) := by decide +kernel
theorem dL_law_1960 : decode cL_law 1960 = .ok (.invokevirtual 186, 3) := by decide +kernel
theorem dL_law_1963 : decode cL_law 1963 = .ok (.if_icmp .eq 160, 3) := by decide +kernel
theorem dL_law_1966 : decode cL_law 1966 = .ok (.iconst 0, 1) := by decide +kernel
theorem dL_law_1967 : decode cL_law 1967 = .ok (.ireturn, 1) := by decide +kernel
theorem dL_law_1968 : decode cL_law 1968 = .ok (.aload_n 1, 1) := by decide +kernel
theorem dL_law_1969 : decode cL_law 1969 = .ok (.aload_n 0, 1) := by decide +kernel
theorem dL_law_1970 : decode cL_law 1970 = .ok (.iload_n 3, 1) := by decide +kernel
theorem dL_law_1971 : decode cL_law 1971 = .ok (.iconst 1, 1) := by decide +kernel
theorem dL_law_1972 : decode cL_law 1972 = .ok (.iadd, 1) := by decide +kernel
theorem dL_law_1973 : decode cL_law 1973 = .ok (.iaload, 1) := by decide +kernel
theorem dL_law_1974 : decode cL_law 1974 = .ok (.aload_n 0, 1) := by decide +kernel
theorem dL_law_1975 : decode cL_law 1975 = .ok (.iload_n 3, 1) := by decide +kernel
theorem dL_law_1976 : decode cL_law 1976 = .ok (.iconst 2, 1) := by decide +kernel
theorem dL_law_1977 : decode cL_law 1977 = .ok (.iadd, 1) := by decide +kernel
theorem dL_law_1978 : decode cL_law 1978 = .ok (.iaload, 1) := by decide +kernel
theorem dL_law_1979 : decode cL_law 1979 = .ok (.invokevirtual 187, 3) := by decide +kernel
theorem dL_law_1982 : decode cL_law 1982 = .ok (.aload_n 2, 1) := by decide +kernel
theorem dL_law_1983 : decode cL_law 1983 = .ok (.aload_n 0, 1) := by decide +kernel
theorem dL_law_1984 : decode cL_law 1984 = .ok (.iload_n 3, 1) := by decide +kernel
theorem dL_law_1985 : decode cL_law 1985 = .ok (.iconst 1, 1) := by decide +kernel
theorem dL_law_1986 : decode cL_law 1986 = .ok (.iadd, 1) := by decide +kernel
theorem dL_law_1987 : decode cL_law 1987 = .ok (.iaload, 1) := by decide +kernel
theorem dL_law_1988 : decode cL_law 1988 = .ok (.aload_n 0, 1) := by decide +kernel
theorem dL_law_1989 : decode cL_law 1989 = .ok (.iload_n 3, 1) := by decide +kernel
theorem dL_law_1990 : decode cL_law 1990 = .ok (.iconst 2, 1) := by decide +kernel
theorem dL_law_1991 : decode cL_law 1991 = .ok (.iadd, 1) := by decide +kernel
theorem dL_law_1992 : decode cL_law 1992 = .ok (.iaload, 1) := by decide +kernel
theorem dL_law_1993 : decode cL_law 1993 = .ok (.invokevirtual 190, 3) := by decide +kernel
theorem dL_law_1996 : decode cL_law 1996 = .ok (.if_icmp .eq 127, 3) := by decide +kernel
theorem dL_law_1999 : decode cL_law 1999 = .ok (.iconst 0, 1) := by decide +kernel
theorem dL_law_2000 : decode cL_law 2000 = .ok (.ireturn, 1) := by decide +kernel
theorem dL_law_2001 : decode cL_law 2001 = .ok (.aload_n 1, 1) := by decide +kernel
theorem dL_law_2002 : decode cL_law 2002 = .ok (.aload_n 0, 1) := by decide +kernel
theorem dL_law_2003 : decode cL_law 2003 = .ok (.iload_n 3, 1) := by decide +kernel
theorem dL_law_2004 : decode cL_law 2004 = .ok (.iconst 1, 1) := by decide +kernel
theorem dL_law_2005 : decode cL_law 2005 = .ok (.iadd, 1) := by decide +kernel
theorem dL_law_2006 : decode cL_law 2006 = .ok (.iaload, 1) := by decide +kernel
theorem dL_law_2007 : decode cL_law 2007 = .ok (.aload_n 0, 1) := by decide +kernel
theorem dL_law_2008 : decode cL_law 2008 = .ok (.iload_n 3, 1) := by decide +kernel
theorem dL_law_2009 : decode cL_law 2009 = .ok (.iconst 2, 1) := by decide +kernel
theorem dL_law_2010 : decode cL_law 2010 = .ok (.iadd, 1) := by decide +kernel
theorem dL_law_2011 : decode cL_law 2011 = .ok (.iaload, 1) := by decide +kernel
theorem dL_law_2012 : decode cL_law 2012 = .ok (.aload_n 0, 1) := by decide +kernel
theorem dL_law_2013 : decode cL_law 2013 = .ok (.iload_n 3, 1) := by decide +kernel
theorem dL_law_2014 : decode cL_law 2014 = .ok (.iconst 3, 1) := by decide +kernel
theorem dL_law_2015 : decode cL_law 2015 = .ok (.iadd, 1) := by decide +kernel
theorem dL_law_2016 : decode cL_law 2016 = .ok (.iaload, 1) := by decide +kernel
theorem dL_law_2017 : decode cL_law 2017 = .ok (.invokevirtual 191, 3) := by decide +kernel
theorem dL_law_2020 : decode cL_law 2020 = .ok (.aload_n 2, 1) := by decide +kernel
theorem dL_law_2021 : decode cL_law 2021 = .ok (.aload_n 0, 1) := by decide +kernel
theorem dL_law_2022 : decode cL_law 2022 = .ok (.iload_n 3, 1) := by decide +kernel
theorem dL_law_2023 : decode cL_law 2023 = .ok (.iconst 1, 1) := by decide +kernel
theorem dL_law_2024 : decode cL_law 2024 = .ok (.iadd, 1) := by decide +kernel
theorem dL_law_2025 : decode cL_law 2025 = .ok (.iaload, 1) := by decide +kernel
theorem dL_law_2026 : decode cL_law 2026 = .ok (.aload_n 0, 1) := by decide +kernel
theorem dL_law_2027 : decode cL_law 2027 = .ok (.iload_n 3, 1) := by decide +kernel
theorem dL_law_2028 : decode cL_law 2028 = .ok (.iconst 2, 1) := by decide +kernel
theorem dL_law_2029 : decode cL_law 2029 = .ok (.iadd, 1) := by decide +kernel
theorem dL_law_2030 : decode cL_law 2030 = .ok (.iaload, 1) := by decide +kernel
theorem dL_law_2031 : decode cL_law 2031 = .ok (.aload_n 0, 1) := by decide +kernel
theorem dL_law_2032 : decode cL_law 2032 = .ok (.iload_n 3, 1) := by decide +kernel
theorem dL_law_2033 : decode cL_law 2033 = .ok (.iconst 3, 1) := by decide +kernel
theorem dL_law_2034 : decode cL_law 2034 = .ok (.iadd, 1) := by decide +kernel
theorem dL_law_2035 : decode cL_law 2035 = .ok (.iaload, 1) := by decide +kernel
theorem dL_law_2036 : decode cL_law 2036 = .ok (.invokevirtual 194, 3) := by decide +kernel
theorem dL_law_2039 : decode cL_law 2039 = .ok (.if_icmp .eq 84, 3) := by decide +kernel
theorem dL_law_2042 : decode cL_law 2042 = .ok (.iconst 0, 1) := by decide +kernel
theorem dL_law_2043 : decode cL_law 2043 = .ok (.ireturn, 1) := by decide +kernel
theorem dL_law_2044 : decode cL_law 2044 = .ok (.aload_n 1, 1) := by decide +kernel
theorem dL_law_2045 : decode cL_law 2045 = .ok (.aload_n 0, 1) := by decide +kernel
theorem dL_law_2046 : decode cL_law 2046 = .ok (.iload_n 3, 1) := by decide +kernel
theorem dL_law_2047 : decode cL_law 2047 = .ok (.iconst 1, 1) := by decide +kernel
theorem dL_law_2048 : decode cL_law 2048 = .ok (.iadd, 1) := by decide +kernel
theorem dL_law_2049 : decode cL_law 2049 = .ok (.iaload, 1) := by decide +kernel
theorem dL_law_2050 : decode cL_law 2050 = .ok (.aload_n 0, 1) := by decide +kernel
theorem dL_law_2051 : decode cL_law 2051 = .ok (.iload_n 3, 1) := by decide +kernel
theorem dL_law_2052 : decode cL_law 2052 = .ok (.iconst 2, 1) := by decide +kernel
theorem dL_law_2053 : decode cL_law 2053 = .ok (.iadd, 1) := by decide +kernel
theorem dL_law_2054 : decode cL_law 2054 = .ok (.iaload, 1) := by decide +kernel
theorem dL_law_2055 : decode cL_law 2055 = .ok (.invokevirtual 195, 3) := by decide +kernel
theorem dL_law_2058 : decode cL_law 2058 = .ok (.aload_n 2, 1) := by decide +kernel
theorem dL_law_2059 : decode cL_law 2059 = .ok (.aload_n 0, 1) := by decide +kernel
theorem dL_law_2060 : decode cL_law 2060 = .ok (.iload_n 3, 1) := by decide +kernel
theorem dL_law_2061 : decode cL_law 2061 = .ok (.iconst 1, 1) := by decide +kernel
theorem dL_law_2062 : decode cL_law 2062 = .ok (.iadd, 1) := by decide +kernel
theorem dL_law_2063 : decode cL_law 2063 = .ok (.iaload, 1) := by decide +kernel
theorem dL_law_2064 : decode cL_law 2064 = .ok (.aload_n 0, 1) := by decide +kernel
theorem dL_law_2065 : decode cL_law 2065 = .ok (.iload_n 3, 1) := by decide +kernel
theorem dL_law_2066 : decode cL_law 2066 = .ok (.iconst 2, 1) := by decide +kernel
theorem dL_law_2067 : decode cL_law 2067 = .ok (.iadd, 1) := by decide +kernel
theorem dL_law_2068 : decode cL_law 2068 = .ok (.iaload, 1) := by decide +kernel
theorem dL_law_2069 : decode cL_law 2069 = .ok (.invokevirtual 198, 3) := by decide +kernel
theorem dL_law_2072 : decode cL_law 2072 = .ok (.if_icmp .eq 51, 3) := by decide +kernel
theorem dL_law_2075 : decode cL_law 2075 = .ok (.iconst 0, 1) := by decide +kernel
theorem dL_law_2076 : decode cL_law 2076 = .ok (.ireturn, 1) := by decide +kernel
theorem dL_law_2077 : decode cL_law 2077 = .ok (.aload_n 1, 1) := by decide +kernel
theorem dL_law_2078 : decode cL_law 2078 = .ok (.aload_n 0, 1) := by decide +kernel
theorem dL_law_2079 : decode cL_law 2079 = .ok (.iload_n 3, 1) := by decide +kernel
theorem dL_law_2080 : decode cL_law 2080 = .ok (.iconst 1, 1) := by decide +kernel
theorem dL_law_2081 : decode cL_law 2081 = .ok (.iadd, 1) := by decide +kernel
theorem dL_law_2082 : decode cL_law 2082 = .ok (.iaload, 1) := by decide +kernel
theorem dL_law_2083 : decode cL_law 2083 = .ok (.invokevirtual 199, 3) := by decide +kernel
theorem dL_law_2086 : decode cL_law 2086 = .ok (.aload_n 2, 1) := by decide +kernel
theorem dL_law_2087 : decode cL_law 2087 = .ok (.aload_n 0, 1) := by decide +kernel
theorem dL_law_2088 : decode cL_law 2088 = .ok (.iload_n 3, 1) := by decide +kernel
theorem dL_law_2089 : decode cL_law 2089 = .ok (.iconst 1, 1) := by decide +kernel
theorem dL_law_2090 : decode cL_law 2090 = .ok (.iadd, 1) := by decide +kernel
theorem dL_law_2091 : decode cL_law 2091 = .ok (.iaload, 1) := by decide +kernel
theorem dL_law_2092 : decode cL_law 2092 = .ok (.invokevirtual 202, 3) := by decide +kernel
theorem dL_law_2095 : decode cL_law 2095 = .ok (.if_icmp .eq 28, 3) := by decide +kernel
theorem dL_law_2098 : decode cL_law 2098 = .ok (.iconst 0, 1) := by decide +kernel
theorem dL_law_2099 : decode cL_law 2099 = .ok (.ireturn, 1) := by decide +kernel
theorem dL_law_2100 : decode cL_law 2100 = .ok (.aload_n 1, 1) := by decide +kernel
theorem dL_law_2101 : decode cL_law 2101 = .ok (.aload_n 0, 1) := by decide +kernel
theorem dL_law_2102 : decode cL_law 2102 = .ok (.iload_n 3, 1) := by decide +kernel
theorem dL_law_2103 : decode cL_law 2103 = .ok (.iconst 1, 1) := by decide +kernel
theorem dL_law_2104 : decode cL_law 2104 = .ok (.iadd, 1) := by decide +kernel
theorem dL_law_2105 : decode cL_law 2105 = .ok (.iaload, 1) := by decide +kernel
theorem dL_law_2106 : decode cL_law 2106 = .ok (.invokevirtual 203, 3) := by decide +kernel
theorem dL_law_2109 : decode cL_law 2109 = .ok (.aload_n 2, 1) := by decide +kernel
theorem dL_law_2110 : decode cL_law 2110 = .ok (.aload_n 0, 1) := by decide +kernel
theorem dL_law_2111 : decode cL_law 2111 = .ok (.iload_n 3, 1) := by decide +kernel
theorem dL_law_2112 : decode cL_law 2112 = .ok (.iconst 1, 1) := by decide +kernel
theorem dL_law_2113 : decode cL_law 2113 = .ok (.iadd, 1) := by decide +kernel
theorem dL_law_2114 : decode cL_law 2114 = .ok (.iaload, 1) := by decide +kernel
theorem dL_law_2115 : decode cL_law 2115 = .ok (.invokevirtual 206, 3) := by decide +kernel
theorem dL_law_2118 : decode cL_law 2118 = .ok (.if_icmp .eq 5, 3) := by decide +kernel
theorem dL_law_2121 : decode cL_law 2121 = .ok (.iconst 0, 1) := by decide +kernel
theorem dL_law_2122 : decode cL_law 2122 = .ok (.ireturn, 1) := by decide +kernel
theorem dL_law_2123 : decode cL_law 2123 = .ok (.iinc 3 7, 3) := by decide +kernel
theorem dL_law_2126 : decode cL_law 2126 = .ok (.goto (-2108), 3) := by decide +kernel
theorem dL_law_2129 : decode cL_law 2129 = .ok (.iconst 1, 1) := by decide +kernel
theorem dL_law_2130 : decode cL_law 2130 = .ok (.ireturn, 1) := by decide +kernel
