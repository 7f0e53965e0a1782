theorem dX8_reals_0 : decode (mB 102) 0 = .ok (.iconst 0, 1) := by decide +kernel
theorem dX8_reals_1 : decode (mB 102) 1 = .ok (.istore_n 1, 1) := by decide +kernel
theorem dX8_reals_2 : decode (mB 102) 2 = .ok (.iconst 0, 1) := by decide +kernel
theorem dX8_reals_3 : decode (mB 102) 3 = .ok (.istore_n 2, 1) := by decide +kernel
theorem dX8_reals_4 : decode (mB 102) 4 = .ok (.iload_n 2, 1) := by decide +kernel
theorem dX8_reals_5 : decode (mB 102) 5 = .ok (.aload_n 0, 1) := by decide +kernel
theorem dX8_reals_6 : decode (mB 102) 6 = .ok (.getfield 9, 3) := by decide +kernel
theorem dX8_reals_9 : decode (mB 102) 9 = .ok (.invokevirtual 33, 3) := by decide +kernel
theorem dX8_reals_12 : decode (mB 102) 12 = .ok (.if_icmp .ge 28, 3) := by decide +kernel
theorem dX8_reals_15 : decode (mB 102) 15 = .ok (.iload_n 1, 1) := by decide +kernel
theorem dX8_reals_16 : decode (mB 102) 16 = .ok (.aload_n 0, 1) := by decide +kernel
theorem dX8_reals_17 : decode (mB 102) 17 = .ok (.getfield 9, 3) := by decide +kernel
theorem dX8_reals_20 : decode (mB 102) 20 = .ok (.iload_n 2, 1) := by decide +kernel
theorem dX8_reals_21 : decode (mB 102) 21 = .ok (.invokevirtual 41, 3) := by decide +kernel
theorem dX8_reals_24 : decode (mB 102) 24 = .ok (.ifCond .eq 7, 3) := by decide +kernel
theorem dX8_reals_27 : decode (mB 102) 27 = .ok (.iconst 1, 1) := by decide +kernel
theorem dX8_reals_28 : decode (mB 102) 28 = .ok (.goto 4, 3) := by decide +kernel
theorem dX8_reals_31 : decode (mB 102) 31 = .ok (.iconst 0, 1) := by decide +kernel
theorem dX8_reals_32 : decode (mB 102) 32 = .ok (.iadd, 1) := by decide +kernel
theorem dX8_reals_33 : decode (mB 102) 33 = .ok (.istore_n 1, 1) := by decide +kernel
theorem dX8_reals_34 : decode (mB 102) 34 = .ok (.iinc 2 1, 3) := by decide +kernel
theorem dX8_reals_37 : decode (mB 102) 37 = .ok (.goto (-33), 3) := by decide +kernel
theorem dX8_reals_40 : decode (mB 102) 40 = .ok (.iload_n 1, 1) := by decide +kernel
theorem dX8_reals_41 : decode (mB 102) 41 = .ok (.ireturn, 1) := by decide +kernel
theorem dX8_looseOf_0 : decode (mB 103) 0 = .ok (.iconst 0, 1) := by decide +kernel
theorem dX8_looseOf_1 : decode (mB 103) 1 = .ok (.istore_n 2, 1) := by decide +kernel
theorem dX8_looseOf_2 : decode (mB 103) 2 = .ok (.iconst 0, 1) := by decide +kernel
theorem dX8_looseOf_3 : decode (mB 103) 3 = .ok (.istore_n 3, 1) := by decide +kernel
theorem dX8_looseOf_4 : decode (mB 103) 4 = .ok (.iload_n 3, 1) := by decide +kernel
theorem dX8_looseOf_5 : decode (mB 103) 5 = .ok (.aload_n 0, 1) := by decide +kernel
theorem dX8_looseOf_6 : decode (mB 103) 6 = .ok (.getfield 9, 3) := by decide +kernel
theorem dX8_looseOf_9 : decode (mB 103) 9 = .ok (.invokevirtual 33, 3) := by decide +kernel
theorem dX8_looseOf_12 : decode (mB 103) 12 = .ok (.if_icmp .ge 34, 3) := by decide +kernel
theorem dX8_looseOf_15 : decode (mB 103) 15 = .ok (.iload_n 2, 1) := by decide +kernel
theorem dX8_looseOf_16 : decode (mB 103) 16 = .ok (.aload_n 0, 1) := by decide +kernel
theorem dX8_looseOf_17 : decode (mB 103) 17 = .ok (.iload_n 3, 1) := by decide +kernel
theorem dX8_looseOf_18 : decode (mB 103) 18 = .ok (.invokevirtual 37, 3) := by decide +kernel
theorem dX8_looseOf_21 : decode (mB 103) 21 = .ok (.iload_n 1, 1) := by decide +kernel
theorem dX8_looseOf_22 : decode (mB 103) 22 = .ok (.if_icmp .ne 15, 3) := by decide +kernel
theorem dX8_looseOf_25 : decode (mB 103) 25 = .ok (.aload_n 0, 1) := by decide +kernel
theorem dX8_looseOf_26 : decode (mB 103) 26 = .ok (.iload_n 3, 1) := by decide +kernel
theorem dX8_looseOf_27 : decode (mB 103) 27 = .ok (.invokevirtual 44, 3) := by decide +kernel
theorem dX8_looseOf_30 : decode (mB 103) 30 = .ok (.ifCond .eq 7, 3) := by decide +kernel
theorem dX8_looseOf_33 : decode (mB 103) 33 = .ok (.iconst 1, 1) := by decide +kernel
theorem dX8_looseOf_34 : decode (mB 103) 34 = .ok (.goto 4, 3) := by decide +kernel
theorem dX8_looseOf_37 : decode (mB 103) 37 = .ok (.iconst 0, 1) := by decide +kernel
theorem dX8_looseOf_38 : decode (mB 103) 38 = .ok (.iadd, 1) := by decide +kernel
theorem dX8_looseOf_39 : decode (mB 103) 39 = .ok (.istore_n 2, 1) := by decide +kernel
theorem dX8_looseOf_40 : decode (mB 103) 40 = .ok (.iinc 3 1, 3) := by decide +kernel
theorem dX8_looseOf_43 : decode (mB 103) 43 = .ok (.goto (-39), 3) := by decide +kernel
theorem dX8_looseOf_46 : decode (mB 103) 46 = .ok (.iload_n 2, 1) := by decide +kernel
theorem dX8_looseOf_47 : decode (mB 103) 47 = .ok (.ireturn, 1) := by decide +kernel
theorem dX8_looseRealsOf_0 : decode (mB 104) 0 = .ok (.iconst 0, 1) := by decide +kernel
theorem dX8_looseRealsOf_1 : decode (mB 104) 1 = .ok (.istore_n 2, 1) := by decide +kernel
theorem dX8_looseRealsOf_2 : decode (mB 104) 2 = .ok (.iconst 0, 1) := by decide +kernel
theorem dX8_looseRealsOf_3 : decode (mB 104) 3 = .ok (.istore_n 3, 1) := by decide +kernel
theorem dX8_looseRealsOf_4 : decode (mB 104) 4 = .ok (.iload_n 3, 1) := by decide +kernel
theorem dX8_looseRealsOf_5 : decode (mB 104) 5 = .ok (.aload_n 0, 1) := by decide +kernel
theorem dX8_looseRealsOf_6 : decode (mB 104) 6 = .ok (.getfield 9, 3) := by decide +kernel
theorem dX8_looseRealsOf_9 : decode (mB 104) 9 = .ok (.invokevirtual 33, 3) := by decide +kernel
theorem dX8_looseRealsOf_12 : decode (mB 104) 12 = .ok (.if_icmp .ge 45, 3) := by decide +kernel
theorem dX8_looseRealsOf_15 : decode (mB 104) 15 = .ok (.iload_n 2, 1) := by decide +kernel
theorem dX8_looseRealsOf_16 : decode (mB 104) 16 = .ok (.aload_n 0, 1) := by decide +kernel
theorem dX8_looseRealsOf_17 : decode (mB 104) 17 = .ok (.iload_n 3, 1) := by decide +kernel
theorem dX8_looseRealsOf_18 : decode (mB 104) 18 = .ok (.invokevirtual 37, 3) := by decide +kernel
theorem dX8_looseRealsOf_21 : decode (mB 104) 21 = .ok (.iload_n 1, 1) := by decide +kernel
theorem dX8_looseRealsOf_22 : decode (mB 104) 22 = .ok (.if_icmp .ne 26, 3) := by decide +kernel
theorem dX8_looseRealsOf_25 : decode (mB 104) 25 = .ok (.aload_n 0, 1) := by decide +kernel
theorem dX8_looseRealsOf_26 : decode (mB 104) 26 = .ok (.iload_n 3, 1) := by decide +kernel
theorem dX8_looseRealsOf_27 : decode (mB 104) 27 = .ok (.invokevirtual 44, 3) := by decide +kernel
theorem dX8_looseRealsOf_30 : decode (mB 104) 30 = .ok (.ifCond .eq 18, 3) := by decide +kernel
theorem dX8_looseRealsOf_33 : decode (mB 104) 33 = .ok (.aload_n 0, 1) := by decide +kernel
theorem dX8_looseRealsOf_34 : decode (mB 104) 34 = .ok (.getfield 9, 3) := by decide +kernel
theorem dX8_looseRealsOf_37 : decode (mB 104) 37 = .ok (.iload_n 3, 1) := by decide +kernel
theorem dX8_looseRealsOf_38 : decode (mB 104) 38 = .ok (.invokevirtual 41, 3) := by decide +kernel
theorem dX8_looseRealsOf_41 : decode (mB 104) 41 = .ok (.ifCond .eq 7, 3) := by decide +kernel
theorem dX8_looseRealsOf_44 : decode (mB 104) 44 = .ok (.iconst 1, 1) := by decide +kernel
theorem dX8_looseRealsOf_45 : decode (mB 104) 45 = .ok (.goto 4, 3) := by decide +kernel
theorem dX8_looseRealsOf_48 : decode (mB 104) 48 = .ok (.iconst 0, 1) := by decide +kernel
theorem dX8_looseRealsOf_49 : decode (mB 104) 49 = .ok (.iadd, 1) := by decide +kernel
theorem dX8_looseRealsOf_50 : decode (mB 104) 50 = .ok (.istore_n 2, 1) := by decide +kernel
theorem dX8_looseRealsOf_51 : decode (mB 104) 51 = .ok (.iinc 3 1, 3) := by decide +kernel
theorem dX8_looseRealsOf_54 : decode (mB 104) 54 = .ok (.goto (-50), 3) := by decide +kernel
theorem dX8_looseRealsOf_57 : decode (mB 104) 57 = .ok (.iload_n 2, 1) := by decide +kernel
theorem dX8_looseRealsOf_58 : decode (mB 104) 58 = .ok (.ireturn, 1) := by decide +kernel
theorem dX8_looseReals_0 : decode (mB 105) 0 = .ok (.iconst 0, 1) := by decide +kernel
theorem dX8_looseReals_1 : decode (mB 105) 1 = .ok (.istore_n 1, 1) := by decide +kernel
theorem dX8_looseReals_2 : decode (mB 105) 2 = .ok (.iconst 0, 1) := by decide +kernel
theorem dX8_looseReals_3 : decode (mB 105) 3 = .ok (.istore_n 2, 1) := by decide +kernel
theorem dX8_looseReals_4 : decode (mB 105) 4 = .ok (.iload_n 2, 1) := by decide +kernel
theorem dX8_looseReals_5 : decode (mB 105) 5 = .ok (.aload_n 0, 1) := by decide +kernel
theorem dX8_looseReals_6 : decode (mB 105) 6 = .ok (.getfield 9, 3) := by decide +kernel
theorem dX8_looseReals_9 : decode (mB 105) 9 = .ok (.invokevirtual 33, 3) := by decide +kernel
theorem dX8_looseReals_12 : decode (mB 105) 12 = .ok (.if_icmp .ge 36, 3) := by decide +kernel
theorem dX8_looseReals_15 : decode (mB 105) 15 = .ok (.iload_n 1, 1) := by decide +kernel
theorem dX8_looseReals_16 : decode (mB 105) 16 = .ok (.aload_n 0, 1) := by decide +kernel
theorem dX8_looseReals_17 : decode (mB 105) 17 = .ok (.iload_n 2, 1) := by decide +kernel
theorem dX8_looseReals_18 : decode (mB 105) 18 = .ok (.invokevirtual 44, 3) := by decide +kernel
theorem dX8_looseReals_21 : decode (mB 105) 21 = .ok (.ifCond .eq 18, 3) := by decide +kernel
theorem dX8_looseReals_24 : decode (mB 105) 24 = .ok (.aload_n 0, 1) := by decide +kernel
theorem dX8_looseReals_25 : decode (mB 105) 25 = .ok (.getfield 9, 3) := by decide +kernel
theorem dX8_looseReals_28 : decode (mB 105) 28 = .ok (.iload_n 2, 1) := by decide +kernel
theorem dX8_looseReals_29 : decode (mB 105) 29 = .ok (.invokevirtual 41, 3) := by decide +kernel
theorem dX8_looseReals_32 : decode (mB 105) 32 = .ok (.ifCond .eq 7, 3) := by decide +kernel
theorem dX8_looseReals_35 : decode (mB 105) 35 = .ok (.iconst 1, 1) := by decide +kernel
theorem dX8_looseReals_36 : decode (mB 105) 36 = .ok (.goto 4, 3) := by decide +kernel
theorem dX8_looseReals_39 : decode (mB 105) 39 = .ok (.iconst 0, 1) := by decide +kernel
theorem dX8_looseReals_40 : decode (mB 105) 40 = .ok (.iadd, 1) := by decide +kernel
theorem dX8_looseReals_41 : decode (mB 105) 41 = .ok (.istore_n 1, 1) := by decide +kernel
theorem dX8_looseReals_42 : decode (mB 105) 42 = .ok (.iinc 2 1, 3) := by decide +kernel
theorem dX8_looseReals_45 : decode (mB 105) 45 = .ok (.goto (-41), 3) := by decide +kernel
theorem dX8_looseReals_48 : decode (mB 105) 48 = .ok (.iload_n 1, 1) := by decide +kernel
theorem dX8_looseReals_49 : decode (mB 105) 49 = .ok (.ireturn, 1) := by decide +kernel
theorem dX8_isLoose_0 : decode (mB 106) 0 = .ok (.aload_n 0, 1) := by decide +kernel
theorem dX8_isLoose_1 : decode (mB 106) 1 = .ok (.getfield 9, 3) := by decide +kernel
theorem dX8_isLoose_4 : decode (mB 106) 4 = .ok (.bipush 6, 2) := by decide +kernel
theorem dX8_isLoose_6 : decode (mB 106) 6 = .ok (.iload_n 1, 1) := by decide +kernel
theorem dX8_isLoose_7 : decode (mB 106) 7 = .ok (.invokevirtual 23, 3) := by decide +kernel
theorem dX8_isLoose_10 : decode (mB 106) 10 = .ok (.iconst 4, 1) := by decide +kernel
theorem dX8_isLoose_11 : decode (mB 106) 11 = .ok (.if_icmp .ge 7, 3) := by decide +kernel
theorem dX8_isLoose_14 : decode (mB 106) 14 = .ok (.iconst 1, 1) := by decide +kernel
theorem dX8_isLoose_15 : decode (mB 106) 15 = .ok (.goto 4, 3) := by decide +kernel
theorem dX8_isLoose_18 : decode (mB 106) 18 = .ok (.iconst 0, 1) := by decide +kernel
theorem dX8_isLoose_19 : decode (mB 106) 19 = .ok (.ireturn, 1) := by decide +kernel
theorem dX8_canSlip_0 : decode (mB 107) 0 = .ok (.aload_n 0, 1) := by decide +kernel
theorem dX8_canSlip_1 : decode (mB 107) 1 = .ok (.getfield 9, 3) := by decide +kernel
theorem dX8_canSlip_4 : decode (mB 107) 4 = .ok (.iload_n 1, 1) := by decide +kernel
theorem dX8_canSlip_5 : decode (mB 107) 5 = .ok (.invokevirtual 29, 3) := by decide +kernel
theorem dX8_canSlip_8 : decode (mB 107) 8 = .ok (.ifCond .eq 28, 3) := by decide +kernel
theorem dX8_canSlip_11 : decode (mB 107) 11 = .ok (.aload_n 0, 1) := by decide +kernel
theorem dX8_canSlip_12 : decode (mB 107) 12 = .ok (.iload_n 1, 1) := by decide +kernel
theorem dX8_canSlip_13 : decode (mB 107) 13 = .ok (.invokevirtual 44, 3) := by decide +kernel
theorem dX8_canSlip_16 : decode (mB 107) 16 = .ok (.ifCond .eq 20, 3) := by decide +kernel
theorem dX8_canSlip_19 : decode (mB 107) 19 = .ok (.aload_n 0, 1) := by decide +kernel
theorem dX8_canSlip_20 : decode (mB 107) 20 = .ok (.aload_n 0, 1) := by decide +kernel
theorem dX8_canSlip_21 : decode (mB 107) 21 = .ok (.iload_n 1, 1) := by decide +kernel
theorem dX8_canSlip_22 : decode (mB 107) 22 = .ok (.invokevirtual 37, 3) := by decide +kernel
theorem dX8_canSlip_25 : decode (mB 107) 25 = .ok (.iload_n 2, 1) := by decide +kernel
theorem dX8_canSlip_26 : decode (mB 107) 26 = .ok (.invokevirtual 47, 3) := by decide +kernel
theorem dX8_canSlip_29 : decode (mB 107) 29 = .ok (.ifCond .eq 7, 3) := by decide +kernel
theorem dX8_canSlip_32 : decode (mB 107) 32 = .ok (.iconst 1, 1) := by decide +kernel
theorem dX8_canSlip_33 : decode (mB 107) 33 = .ok (.goto 4, 3) := by decide +kernel
theorem dX8_canSlip_36 : decode (mB 107) 36 = .ok (.iconst 0, 1) := by decide +kernel
theorem dX8_canSlip_37 : decode (mB 107) 37 = .ok (.ireturn, 1) := by decide +kernel
theorem dX8_canGive_0 : decode (mB 108) 0 = .ok (.iload_n 1, 1) := by decide +kernel
theorem dX8_canGive_1 : decode (mB 108) 1 = .ok (.iload_n 2, 1) := by decide +kernel
theorem dX8_canGive_2 : decode (mB 108) 2 = .ok (.if_icmp .eq 30, 3) := by decide +kernel
theorem dX8_canGive_5 : decode (mB 108) 5 = .ok (.aload_n 0, 1) := by decide +kernel
theorem dX8_canGive_6 : decode (mB 108) 6 = .ok (.getfield 9, 3) := by decide +kernel
theorem dX8_canGive_9 : decode (mB 108) 9 = .ok (.iload_n 2, 1) := by decide +kernel
theorem dX8_canGive_10 : decode (mB 108) 10 = .ok (.invokevirtual 51, 3) := by decide +kernel
theorem dX8_canGive_13 : decode (mB 108) 13 = .ok (.ifCond .eq 19, 3) := by decide +kernel
theorem dX8_canGive_16 : decode (mB 108) 16 = .ok (.aload_n 0, 1) := by decide +kernel
theorem dX8_canGive_17 : decode (mB 108) 17 = .ok (.getfield 9, 3) := by decide +kernel
theorem dX8_canGive_20 : decode (mB 108) 20 = .ok (.iconst 1, 1) := by decide +kernel
theorem dX8_canGive_21 : decode (mB 108) 21 = .ok (.iload_n 2, 1) := by decide +kernel
theorem dX8_canGive_22 : decode (mB 108) 22 = .ok (.invokevirtual 23, 3) := by decide +kernel
theorem dX8_canGive_25 : decode (mB 108) 25 = .ok (.ifCond .ne 7, 3) := by decide +kernel
theorem dX8_canGive_28 : decode (mB 108) 28 = .ok (.iconst 1, 1) := by decide +kernel
theorem dX8_canGive_29 : decode (mB 108) 29 = .ok (.goto 4, 3) := by decide +kernel
theorem dX8_canGive_32 : decode (mB 108) 32 = .ok (.iconst 0, 1) := by decide +kernel
theorem dX8_canGive_33 : decode (mB 108) 33 = .ok (.ireturn, 1) := by decide +kernel
theorem dX8_oddsOf_0 : decode (mB 109) 0 = .ok (.aload_n 0, 1) := by decide +kernel
theorem dX8_oddsOf_1 : decode (mB 109) 1 = .ok (.iload_n 1, 1) := by decide +kernel
theorem dX8_oddsOf_2 : decode (mB 109) 2 = .ok (.iload_n 2, 1) := by decide +kernel
theorem dX8_oddsOf_3 : decode (mB 109) 3 = .ok (.invokevirtual 54, 3) := by decide +kernel
theorem dX8_oddsOf_6 : decode (mB 109) 6 = .ok (.ifCond .ne 5, 3) := by decide +kernel
theorem dX8_oddsOf_9 : decode (mB 109) 9 = .ok (.iconst 0, 1) := by decide +kernel
theorem dX8_oddsOf_10 : decode (mB 109) 10 = .ok (.ireturn, 1) := by decide +kernel
theorem dX8_oddsOf_11 : decode (mB 109) 11 = .ok (.aload_n 0, 1) := by decide +kernel
theorem dX8_oddsOf_12 : decode (mB 109) 12 = .ok (.aload_n 0, 1) := by decide +kernel
theorem dX8_oddsOf_13 : decode (mB 109) 13 = .ok (.iload_n 1, 1) := by decide +kernel
theorem dX8_oddsOf_14 : decode (mB 109) 14 = .ok (.invokevirtual 37, 3) := by decide +kernel
theorem dX8_oddsOf_17 : decode (mB 109) 17 = .ok (.iload_n 2, 1) := by decide +kernel
theorem dX8_oddsOf_18 : decode (mB 109) 18 = .ok (.aload_n 0, 1) := by decide +kernel
theorem dX8_oddsOf_19 : decode (mB 109) 19 = .ok (.iload_n 2, 1) := by decide +kernel
theorem dX8_oddsOf_20 : decode (mB 109) 20 = .ok (.invokevirtual 57, 3) := by decide +kernel
theorem dX8_oddsOf_23 : decode (mB 109) 23 = .ok (.aload_n 0, 1) := by decide +kernel
theorem dX8_oddsOf_24 : decode (mB 109) 24 = .ok (.getfield 9, 3) := by decide +kernel
theorem dX8_oddsOf_27 : decode (mB 109) 27 = .ok (.bipush 6, 2) := by decide +kernel
theorem dX8_oddsOf_29 : decode (mB 109) 29 = .ok (.iload_n 1, 1) := by decide +kernel
theorem dX8_oddsOf_30 : decode (mB 109) 30 = .ok (.invokevirtual 23, 3) := by decide +kernel
theorem dX8_oddsOf_33 : decode (mB 109) 33 = .ok (.aload_n 0, 1) := by decide +kernel
theorem dX8_oddsOf_34 : decode (mB 109) 34 = .ok (.getfield 9, 3) := by decide +kernel
theorem dX8_oddsOf_37 : decode (mB 109) 37 = .ok (.invokevirtual 60, 3) := by decide +kernel
theorem dX8_oddsOf_40 : decode (mB 109) 40 = .ok (.invokevirtual 63, 3) := by decide +kernel
theorem dX8_oddsOf_43 : decode (mB 109) 43 = .ok (.ireturn, 1) := by decide +kernel
theorem dX8_oddsBy_0 : decode (mB 110) 0 = .ok (.aload_n 0, 1) := by decide +kernel
theorem dX8_oddsBy_1 : decode (mB 110) 1 = .ok (.iload_n 1, 1) := by decide +kernel
theorem dX8_oddsBy_2 : decode (mB 110) 2 = .ok (.iload_n 2, 1) := by decide +kernel
theorem dX8_oddsBy_3 : decode (mB 110) 3 = .ok (.invokevirtual 47, 3) := by decide +kernel
theorem dX8_oddsBy_6 : decode (mB 110) 6 = .ok (.ifCond .eq 9, 3) := by decide +kernel
theorem dX8_oddsBy_9 : decode (mB 110) 9 = .ok (.iload 4, 2) := by decide +kernel
theorem dX8_oddsBy_11 : decode (mB 110) 11 = .ok (.iconst 4, 1) := by decide +kernel
theorem dX8_oddsBy_12 : decode (mB 110) 12 = .ok (.if_icmp .lt 5, 3) := by decide +kernel
theorem dX8_oddsBy_15 : decode (mB 110) 15 = .ok (.iconst 0, 1) := by decide +kernel
theorem dX8_oddsBy_16 : decode (mB 110) 16 = .ok (.ireturn, 1) := by decide +kernel
theorem dX8_oddsBy_17 : decode (mB 110) 17 = .ok (.aload_n 0, 1) := by decide +kernel
theorem dX8_oddsBy_18 : decode (mB 110) 18 = .ok (.getfield 9, 3) := by decide +kernel
theorem dX8_oddsBy_21 : decode (mB 110) 21 = .ok (.iconst 0, 1) := by decide +kernel
theorem dX8_oddsBy_22 : decode (mB 110) 22 = .ok (.iload_n 2, 1) := by decide +kernel
theorem dX8_oddsBy_23 : decode (mB 110) 23 = .ok (.invokevirtual 23, 3) := by decide +kernel
theorem dX8_oddsBy_26 : decode (mB 110) 26 = .ok (.istore 6, 2) := by decide +kernel
theorem dX8_oddsBy_28 : decode (mB 110) 28 = .ok (.aload_n 0, 1) := by decide +kernel
theorem dX8_oddsBy_29 : decode (mB 110) 29 = .ok (.getfield 9, 3) := by decide +kernel
theorem dX8_oddsBy_32 : decode (mB 110) 32 = .ok (.bipush 8, 2) := by decide +kernel
theorem dX8_oddsBy_34 : decode (mB 110) 34 = .ok (.iconst 0, 1) := by decide +kernel
theorem dX8_oddsBy_35 : decode (mB 110) 35 = .ok (.invokevirtual 23, 3) := by decide +kernel
theorem dX8_oddsBy_38 : decode (mB 110) 38 = .ok (.istore 7, 2) := by decide +kernel
theorem dX8_oddsBy_40 : decode (mB 110) 40 = .ok (.bipush 12, 2) := by decide +kernel
theorem dX8_oddsBy_42 : decode (mB 110) 42 = .ok (.iload 6, 2) := by decide +kernel
theorem dX8_oddsBy_44 : decode (mB 110) 44 = .ok (.isub, 1) := by decide +kernel
theorem dX8_oddsBy_45 : decode (mB 110) 45 = .ok (.iload 7, 2) := by decide +kernel
theorem dX8_oddsBy_47 : decode (mB 110) 47 = .ok (.isub, 1) := by decide +kernel
theorem dX8_oddsBy_48 : decode (mB 110) 48 = .ok (.istore 8, 2) := by decide +kernel
theorem dX8_oddsBy_50 : decode (mB 110) 50 = .ok (.aload_n 0, 1) := by decide +kernel
theorem dX8_oddsBy_51 : decode (mB 110) 51 = .ok (.getfield 15, 3) := by decide +kernel
theorem dX8_oddsBy_54 : decode (mB 110) 54 = .ok (.invokevirtual 67, 3) := by decide +kernel
theorem dX8_oddsBy_57 : decode (mB 110) 57 = .ok (.ifCond .eq 30, 3) := by decide +kernel
theorem dX8_oddsBy_60 : decode (mB 110) 60 = .ok (.aload_n 0, 1) := by decide +kernel
theorem dX8_oddsBy_61 : decode (mB 110) 61 = .ok (.getfield 15, 3) := by decide +kernel
theorem dX8_oddsBy_64 : decode (mB 110) 64 = .ok (.iload 6, 2) := by decide +kernel
theorem dX8_oddsBy_66 : decode (mB 110) 66 = .ok (.aload_n 0, 1) := by decide +kernel
theorem dX8_oddsBy_67 : decode (mB 110) 67 = .ok (.getfield 9, 3) := by decide +kernel
theorem dX8_oddsBy_70 : decode (mB 110) 70 = .ok (.iconst 0, 1) := by decide +kernel
theorem dX8_oddsBy_71 : decode (mB 110) 71 = .ok (.iload_n 1, 1) := by decide +kernel
theorem dX8_oddsBy_72 : decode (mB 110) 72 = .ok (.invokevirtual 23, 3) := by decide +kernel
theorem dX8_oddsBy_75 : decode (mB 110) 75 = .ok (.iload_n 3, 1) := by decide +kernel
theorem dX8_oddsBy_76 : decode (mB 110) 76 = .ok (.iload 4, 2) := by decide +kernel
theorem dX8_oddsBy_78 : decode (mB 110) 78 = .ok (.iload 5, 2) := by decide +kernel
theorem dX8_oddsBy_80 : decode (mB 110) 80 = .ok (.iload 7, 2) := by decide +kernel
theorem dX8_oddsBy_82 : decode (mB 110) 82 = .ok (.invokevirtual 73, 3) := by decide +kernel
theorem dX8_oddsBy_85 : decode (mB 110) 85 = .ok (.istore 8, 2) := by decide +kernel
theorem dX8_oddsBy_87 : decode (mB 110) 87 = .ok (.iconst 0, 1) := by decide +kernel
theorem dX8_oddsBy_88 : decode (mB 110) 88 = .ok (.bipush 12, 2) := by decide +kernel
theorem dX8_oddsBy_90 : decode (mB 110) 90 = .ok (.iload 8, 2) := by decide +kernel
theorem dX8_oddsBy_92 : decode (mB 110) 92 = .ok (.invokestatic 77, 3) := by decide +kernel
theorem dX8_oddsBy_95 : decode (mB 110) 95 = .ok (.invokestatic 82, 3) := by decide +kernel
theorem dX8_oddsBy_98 : decode (mB 110) 98 = .ok (.ireturn, 1) := by decide +kernel
theorem dX8_slipDrawn_0 : decode (mB 111) 0 = .ok (.aload_n 0, 1) := by decide +kernel
theorem dX8_slipDrawn_1 : decode (mB 111) 1 = .ok (.getfield 9, 3) := by decide +kernel
theorem dX8_slipDrawn_4 : decode (mB 111) 4 = .ok (.invokevirtual 33, 3) := by decide +kernel
theorem dX8_slipDrawn_7 : decode (mB 111) 7 = .ok (.istore_n 2, 1) := by decide +kernel
theorem dX8_slipDrawn_8 : decode (mB 111) 8 = .ok (.aload_n 0, 1) := by decide +kernel
theorem dX8_slipDrawn_9 : decode (mB 111) 9 = .ok (.getfield 9, 3) := by decide +kernel
theorem dX8_slipDrawn_12 : decode (mB 111) 12 = .ok (.invokevirtual 85, 3) := by decide +kernel
theorem dX8_slipDrawn_15 : decode (mB 111) 15 = .ok (.istore_n 3, 1) := by decide +kernel
theorem dX8_slipDrawn_16 : decode (mB 111) 16 = .ok (.iload_n 2, 1) := by decide +kernel
theorem dX8_slipDrawn_17 : decode (mB 111) 17 = .ok (.ifCond .le 7, 3) := by decide +kernel
theorem dX8_slipDrawn_20 : decode (mB 111) 20 = .ok (.iload_n 3, 1) := by decide +kernel
theorem dX8_slipDrawn_21 : decode (mB 111) 21 = .ok (.ifCond .gt 5, 3) := by decide +kernel
theorem dX8_slipDrawn_24 : decode (mB 111) 24 = .ok (.iconst 0, 1) := by decide +kernel
theorem dX8_slipDrawn_25 : decode (mB 111) 25 = .ok (.ireturn, 1) := by decide +kernel
theorem dX8_slipDrawn_26 : decode (mB 111) 26 = .ok (.iload_n 1, 1) := by decide +kernel
theorem dX8_slipDrawn_27 : decode (mB 111) 27 = .ok (.bipush 8, 2) := by decide +kernel
theorem dX8_slipDrawn_29 : decode (mB 111) 29 = .ok (.iushr, 1) := by decide +kernel
theorem dX8_slipDrawn_30 : decode (mB 111) 30 = .ok (.iload_n 2, 1) := by decide +kernel
theorem dX8_slipDrawn_31 : decode (mB 111) 31 = .ok (.irem, 1) := by decide +kernel
theorem dX8_slipDrawn_32 : decode (mB 111) 32 = .ok (.istore 4, 2) := by decide +kernel
theorem dX8_slipDrawn_34 : decode (mB 111) 34 = .ok (.iload_n 1, 1) := by decide +kernel
theorem dX8_slipDrawn_35 : decode (mB 111) 35 = .ok (.bipush 12, 2) := by decide +kernel
theorem dX8_slipDrawn_37 : decode (mB 111) 37 = .ok (.iushr, 1) := by decide +kernel
theorem dX8_slipDrawn_38 : decode (mB 111) 38 = .ok (.iload_n 3, 1) := by decide +kernel
theorem dX8_slipDrawn_39 : decode (mB 111) 39 = .ok (.irem, 1) := by decide +kernel
theorem dX8_slipDrawn_40 : decode (mB 111) 40 = .ok (.istore 5, 2) := by decide +kernel
theorem dX8_slipDrawn_42 : decode (mB 111) 42 = .ok (.iload_n 1, 1) := by decide +kernel
theorem dX8_slipDrawn_43 : decode (mB 111) 43 = .ok (.bipush 20, 2) := by decide +kernel
theorem dX8_slipDrawn_45 : decode (mB 111) 45 = .ok (.iushr, 1) := by decide +kernel
theorem dX8_slipDrawn_46 : decode (mB 111) 46 = .ok (.bipush 12, 2) := by decide +kernel
theorem dX8_slipDrawn_48 : decode (mB 111) 48 = .ok (.irem, 1) := by decide +kernel
theorem dX8_slipDrawn_49 : decode (mB 111) 49 = .ok (.aload_n 0, 1) := by decide +kernel
theorem dX8_slipDrawn_50 : decode (mB 111) 50 = .ok (.iload 4, 2) := by decide +kernel
theorem dX8_slipDrawn_52 : decode (mB 111) 52 = .ok (.iload 5, 2) := by decide +kernel
theorem dX8_slipDrawn_54 : decode (mB 111) 54 = .ok (.invokevirtual 88, 3) := by decide +kernel
theorem dX8_slipDrawn_57 : decode (mB 111) 57 = .ok (.if_icmp .ge 7, 3) := by decide +kernel
theorem dX8_slipDrawn_60 : decode (mB 111) 60 = .ok (.iconst 1, 1) := by decide +kernel
theorem dX8_slipDrawn_61 : decode (mB 111) 61 = .ok (.goto 4, 3) := by decide +kernel
theorem dX8_slipDrawn_64 : decode (mB 111) 64 = .ok (.iconst 0, 1) := by decide +kernel
theorem dX8_slipDrawn_65 : decode (mB 111) 65 = .ok (.istore 6, 2) := by decide +kernel
theorem dX8_slipDrawn_67 : decode (mB 111) 67 = .ok (.iload 6, 2) := by decide +kernel
theorem dX8_slipDrawn_69 : decode (mB 111) 69 = .ok (.ifCond .eq 11, 3) := by decide +kernel
theorem dX8_slipDrawn_72 : decode (mB 111) 72 = .ok (.aload_n 0, 1) := by decide +kernel
theorem dX8_slipDrawn_73 : decode (mB 111) 73 = .ok (.iload 4, 2) := by decide +kernel
theorem dX8_slipDrawn_75 : decode (mB 111) 75 = .ok (.iload 5, 2) := by decide +kernel
theorem dX8_slipDrawn_77 : decode (mB 111) 77 = .ok (.invokevirtual 91, 3) := by decide +kernel
theorem dX8_slipDrawn_80 : decode (mB 111) 80 = .ok (.iload 6, 2) := by decide +kernel
theorem dX8_slipDrawn_82 : decode (mB 111) 82 = .ok (.ireturn, 1) := by decide +kernel
theorem dX8_kingDrawn_0 : decode (mB 112) 0 = .ok (.aload_n 0, 1) := by decide +kernel
theorem dX8_kingDrawn_1 : decode (mB 112) 1 = .ok (.invokevirtual 95, 3) := by decide +kernel
theorem dX8_kingDrawn_4 : decode (mB 112) 4 = .ok (.istore_n 2, 1) := by decide +kernel
theorem dX8_kingDrawn_5 : decode (mB 112) 5 = .ok (.iload_n 2, 1) := by decide +kernel
theorem dX8_kingDrawn_6 : decode (mB 112) 6 = .ok (.ifCond .gt 6, 3) := by decide +kernel
theorem dX8_kingDrawn_9 : decode (mB 112) 9 = .ok (.bipush (-2), 2) := by decide +kernel
theorem dX8_kingDrawn_11 : decode (mB 112) 11 = .ok (.ireturn, 1) := by decide +kernel
theorem dX8_kingDrawn_12 : decode (mB 112) 12 = .ok (.iload_n 1, 1) := by decide +kernel
theorem dX8_kingDrawn_13 : decode (mB 112) 13 = .ok (.bipush 8, 2) := by decide +kernel
theorem dX8_kingDrawn_15 : decode (mB 112) 15 = .ok (.iushr, 1) := by decide +kernel
theorem dX8_kingDrawn_16 : decode (mB 112) 16 = .ok (.iload_n 2, 1) := by decide +kernel
theorem dX8_kingDrawn_17 : decode (mB 112) 17 = .ok (.irem, 1) := by decide +kernel
theorem dX8_kingDrawn_18 : decode (mB 112) 18 = .ok (.istore_n 3, 1) := by decide +kernel
theorem dX8_kingDrawn_19 : decode (mB 112) 19 = .ok (.iconst 0, 1) := by decide +kernel
theorem dX8_kingDrawn_20 : decode (mB 112) 20 = .ok (.istore 4, 2) := by decide +kernel
theorem dX8_kingDrawn_22 : decode (mB 112) 22 = .ok (.iload 4, 2) := by decide +kernel
theorem dX8_kingDrawn_24 : decode (mB 112) 24 = .ok (.aload_n 0, 1) := by decide +kernel
theorem dX8_kingDrawn_25 : decode (mB 112) 25 = .ok (.getfield 9, 3) := by decide +kernel
theorem dX8_kingDrawn_28 : decode (mB 112) 28 = .ok (.invokevirtual 33, 3) := by decide +kernel
theorem dX8_kingDrawn_31 : decode (mB 112) 31 = .ok (.if_icmp .ge 35, 3) := by decide +kernel
theorem dX8_kingDrawn_34 : decode (mB 112) 34 = .ok (.aload_n 0, 1) := by decide +kernel
theorem dX8_kingDrawn_35 : decode (mB 112) 35 = .ok (.getfield 9, 3) := by decide +kernel
theorem dX8_kingDrawn_38 : decode (mB 112) 38 = .ok (.iload 4, 2) := by decide +kernel
theorem dX8_kingDrawn_40 : decode (mB 112) 40 = .ok (.invokevirtual 41, 3) := by decide +kernel
theorem dX8_kingDrawn_43 : decode (mB 112) 43 = .ok (.ifCond .eq 17, 3) := by decide +kernel
theorem dX8_kingDrawn_46 : decode (mB 112) 46 = .ok (.iload_n 3, 1) := by decide +kernel
theorem dX8_kingDrawn_47 : decode (mB 112) 47 = .ok (.ifCond .ne 10, 3) := by decide +kernel
theorem dX8_kingDrawn_50 : decode (mB 112) 50 = .ok (.aload_n 0, 1) := by decide +kernel
theorem dX8_kingDrawn_51 : decode (mB 112) 51 = .ok (.iload 4, 2) := by decide +kernel
theorem dX8_kingDrawn_53 : decode (mB 112) 53 = .ok (.invokevirtual 37, 3) := by decide +kernel
theorem dX8_kingDrawn_56 : decode (mB 112) 56 = .ok (.ireturn, 1) := by decide +kernel
theorem dX8_kingDrawn_57 : decode (mB 112) 57 = .ok (.iinc 3 (-1), 3) := by decide +kernel
theorem dX8_kingDrawn_60 : decode (mB 112) 60 = .ok (.iinc 4 1, 3) := by decide +kernel
theorem dX8_kingDrawn_63 : decode (mB 112) 63 = .ok (.goto (-41), 3) := by decide +kernel
theorem dX8_kingDrawn_66 : decode (mB 112) 66 = .ok (.bipush (-2), 2) := by decide +kernel
theorem dX8_kingDrawn_68 : decode (mB 112) 68 = .ok (.ireturn, 1) := by decide +kernel
theorem dX9_init_0 : decode (mB 113) 0 = .ok (.aload_n 0, 1) := by decide +kernel
theorem dX9_init_1 : decode (mB 113) 1 = .ok (.invokespecial 3, 3) := by decide +kernel
theorem dX9_init_4 : decode (mB 113) 4 = .ok (.aload_n 0, 1) := by decide +kernel
theorem dX9_init_5 : decode (mB 113) 5 = .ok (.aload_n 1, 1) := by decide +kernel
theorem dX9_init_6 : decode (mB 113) 6 = .ok (.putfield 9, 3) := by decide +kernel
theorem dX9_init_9 : decode (mB 113) 9 = .ok (.aload_n 0, 1) := by decide +kernel
theorem dX9_init_10 : decode (mB 113) 10 = .ok (.aload_n 2, 1) := by decide +kernel
theorem dX9_init_11 : decode (mB 113) 11 = .ok (.putfield 15, 3) := by decide +kernel
theorem dX9_init_14 : decode (mB 113) 14 = .ok (.aload_n 0, 1) := by decide +kernel
theorem dX9_init_15 : decode (mB 113) 15 = .ok (.aload_n 3, 1) := by decide +kernel
theorem dX9_init_16 : decode (mB 113) 16 = .ok (.putfield 19, 3) := by decide +kernel
theorem dX9_init_19 : decode (mB 113) 19 = .ok (.aload_n 0, 1) := by decide +kernel
theorem dX9_init_20 : decode (mB 113) 20 = .ok (.bipush 12, 2) := by decide +kernel
theorem dX9_init_22 : decode (mB 113) 22 = .ok (.newarray .int, 2) := by decide +kernel
theorem dX9_init_24 : decode (mB 113) 24 = .ok (.putfield 23, 3) := by decide +kernel
theorem dX9_init_27 : decode (mB 113) 27 = .ok (.aload_n 0, 1) := by decide +kernel
theorem dX9_init_28 : decode (mB 113) 28 = .ok (.sipush 864, 3) := by decide +kernel
theorem dX9_init_31 : decode (mB 113) 31 = .ok (.newarray .int, 2) := by decide +kernel
theorem dX9_init_33 : decode (mB 113) 33 = .ok (.putfield 27, 3) := by decide +kernel
theorem dX9_init_36 : decode (mB 113) 36 = .ok (.return_, 1) := by decide +kernel
theorem dX9_goThrough_0 : decode (mB 114) 0 = .ok (.iconst 0, 1) := by decide +kernel
theorem dX9_goThrough_1 : decode (mB 114) 1 = .ok (.istore 4, 2) := by decide +kernel
theorem dX9_goThrough_3 : decode (mB 114) 3 = .ok (.iload 4, 2) := by decide +kernel
theorem dX9_goThrough_5 : decode (mB 114) 5 = .ok (.bipush 12, 2) := by decide +kernel
theorem dX9_goThrough_7 : decode (mB 114) 7 = .ok (.if_icmp .ge 38, 3) := by decide +kernel
theorem dX9_goThrough_10 : decode (mB 114) 10 = .ok (.aload_n 0, 1) := by decide +kernel
theorem dX9_goThrough_11 : decode (mB 114) 11 = .ok (.getfield 23, 3) := by decide +kernel
theorem dX9_goThrough_14 : decode (mB 114) 14 = .ok (.iload 4, 2) := by decide +kernel
theorem dX9_goThrough_16 : decode (mB 114) 16 = .ok (.iload 4, 2) := by decide +kernel
theorem dX9_goThrough_18 : decode (mB 114) 18 = .ok (.aload_n 1, 1) := by decide +kernel
theorem dX9_goThrough_19 : decode (mB 114) 19 = .ok (.iload_n 2, 1) := by decide +kernel
theorem dX9_goThrough_20 : decode (mB 114) 20 = .ok (.invokevirtual 30, 3) := by decide +kernel
theorem dX9_goThrough_23 : decode (mB 114) 23 = .ok (.if_icmp .ge 14, 3) := by decide +kernel
theorem dX9_goThrough_26 : decode (mB 114) 26 = .ok (.aload_n 1, 1) := by decide +kernel
theorem dX9_goThrough_27 : decode (mB 114) 27 = .ok (.iload_n 2, 1) := by decide +kernel
theorem dX9_goThrough_28 : decode (mB 114) 28 = .ok (.iload 4, 2) := by decide +kernel
theorem dX9_goThrough_30 : decode (mB 114) 30 = .ok (.invokevirtual 36, 3) := by decide +kernel
theorem dX9_goThrough_33 : decode (mB 114) 33 = .ok (.l2i, 1) := by decide +kernel
theorem dX9_goThrough_34 : decode (mB 114) 34 = .ok (.goto 4, 3) := by decide +kernel
theorem dX9_goThrough_37 : decode (mB 114) 37 = .ok (.iconst (-1), 1) := by decide +kernel
theorem dX9_goThrough_38 : decode (mB 114) 38 = .ok (.iastore, 1) := by decide +kernel
theorem dX9_goThrough_39 : decode (mB 114) 39 = .ok (.iinc 4 1, 3) := by decide +kernel
theorem dX9_goThrough_42 : decode (mB 114) 42 = .ok (.goto (-39), 3) := by decide +kernel
theorem dX9_goThrough_45 : decode (mB 114) 45 = .ok (.iconst 0, 1) := by decide +kernel
theorem dX9_goThrough_46 : decode (mB 114) 46 = .ok (.istore 4, 2) := by decide +kernel
theorem dX9_goThrough_48 : decode (mB 114) 48 = .ok (.iload 4, 2) := by decide +kernel
theorem dX9_goThrough_50 : decode (mB 114) 50 = .ok (.aload_n 0, 1) := by decide +kernel
theorem dX9_goThrough_51 : decode (mB 114) 51 = .ok (.getfield 27, 3) := by decide +kernel
theorem dX9_goThrough_54 : decode (mB 114) 54 = .ok (.arraylength, 1) := by decide +kernel
theorem dX9_goThrough_55 : decode (mB 114) 55 = .ok (.if_icmp .ge 21, 3) := by decide +kernel
theorem dX9_goThrough_58 : decode (mB 114) 58 = .ok (.iload_n 3, 1) := by decide +kernel
theorem dX9_goThrough_59 : decode (mB 114) 59 = .ok (.ifCond .eq 17, 3) := by decide +kernel
theorem dX9_goThrough_62 : decode (mB 114) 62 = .ok (.aload_n 0, 1) := by decide +kernel
theorem dX9_goThrough_63 : decode (mB 114) 63 = .ok (.getfield 27, 3) := by decide +kernel
theorem dX9_goThrough_66 : decode (mB 114) 66 = .ok (.iload 4, 2) := by decide +kernel
theorem dX9_goThrough_68 : decode (mB 114) 68 = .ok (.iconst (-1), 1) := by decide +kernel
theorem dX9_goThrough_69 : decode (mB 114) 69 = .ok (.iastore, 1) := by decide +kernel
theorem dX9_goThrough_70 : decode (mB 114) 70 = .ok (.iinc 4 1, 3) := by decide +kernel
theorem dX9_goThrough_73 : decode (mB 114) 73 = .ok (.goto (-25), 3) := by decide +kernel
theorem dX9_goThrough_76 : decode (mB 114) 76 = .ok (.aload_n 0, 1) := by decide +kernel
theorem dX9_goThrough_77 : decode (mB 114) 77 = .ok (.iload_n 3, 1) := by decide +kernel
theorem dX9_goThrough_78 : decode (mB 114) 78 = .ok (.putfield 40, 3) := by decide +kernel
theorem dX9_goThrough_81 : decode (mB 114) 81 = .ok (.aload_n 0, 1) := by decide +kernel
theorem dX9_goThrough_82 : decode (mB 114) 82 = .ok (.iconst 0, 1) := by decide +kernel
theorem dX9_goThrough_83 : decode (mB 114) 83 = .ok (.putfield 44, 3) := by decide +kernel
theorem dX9_goThrough_86 : decode (mB 114) 86 = .ok (.aload_n 0, 1) := by decide +kernel
theorem dX9_goThrough_87 : decode (mB 114) 87 = .ok (.bipush (-2), 2) := by decide +kernel
theorem dX9_goThrough_89 : decode (mB 114) 89 = .ok (.putfield 48, 3) := by decide +kernel
theorem dX9_goThrough_92 : decode (mB 114) 92 = .ok (.aload_n 0, 1) := by decide +kernel
theorem dX9_goThrough_93 : decode (mB 114) 93 = .ok (.bipush (-2), 2) := by decide +kernel
theorem dX9_goThrough_95 : decode (mB 114) 95 = .ok (.putfield 51, 3) := by decide +kernel
theorem dX9_goThrough_98 : decode (mB 114) 98 = .ok (.aload_n 0, 1) := by decide +kernel
theorem dX9_goThrough_99 : decode (mB 114) 99 = .ok (.sipush 4095, 3) := by decide +kernel
theorem dX9_goThrough_102 : decode (mB 114) 102 = .ok (.putfield 54, 3) := by decide +kernel
theorem dX9_goThrough_105 : decode (mB 114) 105 = .ok (.aload_n 0, 1) := by decide +kernel
theorem dX9_goThrough_106 : decode (mB 114) 106 = .ok (.lconst 0, 1) := by decide +kernel
theorem dX9_goThrough_107 : decode (mB 114) 107 = .ok (.putfield 57, 3) := by decide +kernel
theorem dX9_goThrough_110 : decode (mB 114) 110 = .ok (.aload_n 0, 1) := by decide +kernel
theorem dX9_goThrough_111 : decode (mB 114) 111 = .ok (.bipush (-2), 2) := by decide +kernel
theorem dX9_goThrough_113 : decode (mB 114) 113 = .ok (.putfield 61, 3) := by decide +kernel
theorem dX9_goThrough_116 : decode (mB 114) 116 = .ok (.aload_n 0, 1) := by decide +kernel
theorem dX9_goThrough_117 : decode (mB 114) 117 = .ok (.iconst 0, 1) := by decide +kernel
theorem dX9_goThrough_118 : decode (mB 114) 118 = .ok (.iconst 0, 1) := by decide +kernel
theorem dX9_goThrough_119 : decode (mB 114) 119 = .ok (.lconst 1, 1) := by decide +kernel
theorem dX9_goThrough_120 : decode (mB 114) 120 = .ok (.invokestatic 64, 3) := by decide +kernel
theorem dX9_goThrough_123 : decode (mB 114) 123 = .ok (.return_, 1) := by decide +kernel
theorem dX9_spread_0 : decode (mB 115) 0 = .ok (.iload_n 1, 1) := by decide +kernel
theorem dX9_spread_1 : decode (mB 115) 1 = .ok (.aload_n 0, 1) := by decide +kernel
theorem dX9_spread_2 : decode (mB 115) 2 = .ok (.getfield 19, 3) := by decide +kernel
theorem dX9_spread_5 : decode (mB 115) 5 = .ok (.invokevirtual 68, 3) := by decide +kernel
theorem dX9_spread_8 : decode (mB 115) 8 = .ok (.if_icmp .lt 10, 3) := by decide +kernel
theorem dX9_spread_11 : decode (mB 115) 11 = .ok (.aload_n 0, 1) := by decide +kernel
theorem dX9_spread_12 : decode (mB 115) 12 = .ok (.iload_n 2, 1) := by decide +kernel
theorem dX9_spread_13 : decode (mB 115) 13 = .ok (.lload_n 3, 1) := by decide +kernel
theorem dX9_spread_14 : decode (mB 115) 14 = .ok (.invokevirtual 74, 3) := by decide +kernel
theorem dX9_spread_17 : decode (mB 115) 17 = .ok (.return_, 1) := by decide +kernel
theorem dX9_spread_18 : decode (mB 115) 18 = .ok (.aload_n 0, 1) := by decide +kernel
theorem dX9_spread_19 : decode (mB 115) 19 = .ok (.getfield 15, 3) := by decide +kernel
theorem dX9_spread_22 : decode (mB 115) 22 = .ok (.astore 5, 2) := by decide +kernel
theorem dX9_spread_24 : decode (mB 115) 24 = .ok (.aload_n 0, 1) := by decide +kernel
theorem dX9_spread_25 : decode (mB 115) 25 = .ok (.getfield 19, 3) := by decide +kernel
theorem dX9_spread_28 : decode (mB 115) 28 = .ok (.iload_n 1, 1) := by decide +kernel
theorem dX9_spread_29 : decode (mB 115) 29 = .ok (.invokevirtual 78, 3) := by decide +kernel
theorem dX9_spread_32 : decode (mB 115) 32 = .ok (.istore 6, 2) := by decide +kernel
theorem dX9_spread_34 : decode (mB 115) 34 = .ok (.aload_n 0, 1) := by decide +kernel
theorem dX9_spread_35 : decode (mB 115) 35 = .ok (.getfield 19, 3) := by decide +kernel
theorem dX9_spread_38 : decode (mB 115) 38 = .ok (.iload_n 1, 1) := by decide +kernel
theorem dX9_spread_39 : decode (mB 115) 39 = .ok (.invokevirtual 81, 3) := by decide +kernel
theorem dX9_spread_42 : decode (mB 115) 42 = .ok (.istore 7, 2) := by decide +kernel
theorem dX9_spread_44 : decode (mB 115) 44 = .ok (.aload 5, 2) := by decide +kernel
theorem dX9_spread_46 : decode (mB 115) 46 = .ok (.iload 6, 2) := by decide +kernel
theorem dX9_spread_48 : decode (mB 115) 48 = .ok (.iload 7, 2) := by decide +kernel
theorem dX9_spread_50 : decode (mB 115) 50 = .ok (.invokevirtual 84, 3) := by decide +kernel
theorem dX9_spread_53 : decode (mB 115) 53 = .ok (.ifCond .ne 17, 3) := by decide +kernel
theorem dX9_spread_56 : decode (mB 115) 56 = .ok (.aload_n 0, 1) := by decide +kernel
theorem dX9_spread_57 : decode (mB 115) 57 = .ok (.iload_n 1, 1) := by decide +kernel
theorem dX9_spread_58 : decode (mB 115) 58 = .ok (.iconst 1, 1) := by decide +kernel
theorem dX9_spread_59 : decode (mB 115) 59 = .ok (.iadd, 1) := by decide +kernel
theorem dX9_spread_60 : decode (mB 115) 60 = .ok (.iload_n 2, 1) := by decide +kernel
theorem dX9_spread_61 : decode (mB 115) 61 = .ok (.ldc2_w 90, 3) := by decide +kernel
theorem dX9_spread_64 : decode (mB 115) 64 = .ok (.lload_n 3, 1) := by decide +kernel
theorem dX9_spread_65 : decode (mB 115) 65 = .ok (.lmul, 1) := by decide +kernel
theorem dX9_spread_66 : decode (mB 115) 66 = .ok (.invokestatic 64, 3) := by decide +kernel
theorem dX9_spread_69 : decode (mB 115) 69 = .ok (.return_, 1) := by decide +kernel
theorem dX9_spread_70 : decode (mB 115) 70 = .ok (.aload_n 0, 1) := by decide +kernel
theorem dX9_spread_71 : decode (mB 115) 71 = .ok (.getfield 40, 3) := by decide +kernel
theorem dX9_spread_74 : decode (mB 115) 74 = .ok (.ifCond .eq 15, 3) := by decide +kernel
theorem dX9_spread_77 : decode (mB 115) 77 = .ok (.aload_n 0, 1) := by decide +kernel
theorem dX9_spread_78 : decode (mB 115) 78 = .ok (.iload_n 1, 1) := by decide +kernel
theorem dX9_spread_79 : decode (mB 115) 79 = .ok (.iload 6, 2) := by decide +kernel
theorem dX9_spread_81 : decode (mB 115) 81 = .ok (.iload 7, 2) := by decide +kernel
theorem dX9_spread_83 : decode (mB 115) 83 = .ok (.invokevirtual 92, 3) := by decide +kernel
theorem dX9_spread_86 : decode (mB 115) 86 = .ok (.goto 4, 3) := by decide +kernel
theorem dX9_spread_89 : decode (mB 115) 89 = .ok (.iconst 0, 1) := by decide +kernel
theorem dX9_spread_90 : decode (mB 115) 90 = .ok (.istore 8, 2) := by decide +kernel
theorem dX9_spread_92 : decode (mB 115) 92 = .ok (.aload 5, 2) := by decide +kernel
theorem dX9_spread_94 : decode (mB 115) 94 = .ok (.iload 6, 2) := by decide +kernel
theorem dX9_spread_96 : decode (mB 115) 96 = .ok (.invokevirtual 96, 3) := by decide +kernel
theorem dX9_spread_99 : decode (mB 115) 99 = .ok (.istore 9, 2) := by decide +kernel
theorem dX9_spread_101 : decode (mB 115) 101 = .ok (.aload_n 0, 1) := by decide +kernel
theorem dX9_spread_102 : decode (mB 115) 102 = .ok (.iload_n 1, 1) := by decide +kernel
theorem dX9_spread_103 : decode (mB 115) 103 = .ok (.iconst 1, 1) := by decide +kernel
theorem dX9_spread_104 : decode (mB 115) 104 = .ok (.iadd, 1) := by decide +kernel
theorem dX9_spread_105 : decode (mB 115) 105 = .ok (.iload_n 2, 1) := by decide +kernel
theorem dX9_spread_106 : decode (mB 115) 106 = .ok (.bipush 12, 2) := by decide +kernel
theorem dX9_spread_108 : decode (mB 115) 108 = .ok (.iload 8, 2) := by decide +kernel
theorem dX9_spread_110 : decode (mB 115) 110 = .ok (.isub, 1) := by decide +kernel
theorem dX9_spread_111 : decode (mB 115) 111 = .ok (.i2l, 1) := by decide +kernel
theorem dX9_spread_112 : decode (mB 115) 112 = .ok (.lload_n 3, 1) := by decide +kernel
theorem dX9_spread_113 : decode (mB 115) 113 = .ok (.lmul, 1) := by decide +kernel
theorem dX9_spread_114 : decode (mB 115) 114 = .ok (.invokestatic 64, 3) := by decide +kernel
theorem dX9_spread_117 : decode (mB 115) 117 = .ok (.aload 5, 2) := by decide +kernel
theorem dX9_spread_119 : decode (mB 115) 119 = .ok (.iload 6, 2) := by decide +kernel
theorem dX9_spread_121 : decode (mB 115) 121 = .ok (.iload 7, 2) := by decide +kernel
theorem dX9_spread_123 : decode (mB 115) 123 = .ok (.invokevirtual 99, 3) := by decide +kernel
theorem dX9_spread_126 : decode (mB 115) 126 = .ok (.aload_n 0, 1) := by decide +kernel
theorem dX9_spread_127 : decode (mB 115) 127 = .ok (.iload_n 1, 1) := by decide +kernel
theorem dX9_spread_128 : decode (mB 115) 128 = .ok (.iconst 1, 1) := by decide +kernel
theorem dX9_spread_129 : decode (mB 115) 129 = .ok (.iadd, 1) := by decide +kernel
theorem dX9_spread_130 : decode (mB 115) 130 = .ok (.iload_n 2, 1) := by decide +kernel
theorem dX9_spread_131 : decode (mB 115) 131 = .ok (.iconst 1, 1) := by decide +kernel
theorem dX9_spread_132 : decode (mB 115) 132 = .ok (.iload_n 1, 1) := by decide +kernel
theorem dX9_spread_133 : decode (mB 115) 133 = .ok (.ishl, 1) := by decide +kernel
theorem dX9_spread_134 : decode (mB 115) 134 = .ok (.ior, 1) := by decide +kernel
theorem dX9_spread_135 : decode (mB 115) 135 = .ok (.iload 8, 2) := by decide +kernel
theorem dX9_spread_137 : decode (mB 115) 137 = .ok (.i2l, 1) := by decide +kernel
theorem dX9_spread_138 : decode (mB 115) 138 = .ok (.lload_n 3, 1) := by decide +kernel
theorem dX9_spread_139 : decode (mB 115) 139 = .ok (.lmul, 1) := by decide +kernel
theorem dX9_spread_140 : decode (mB 115) 140 = .ok (.invokestatic 64, 3) := by decide +kernel
theorem dX9_spread_143 : decode (mB 115) 143 = .ok (.aload 5, 2) := by decide +kernel
theorem dX9_spread_145 : decode (mB 115) 145 = .ok (.iload 6, 2) := by decide +kernel
theorem dX9_spread_147 : decode (mB 115) 147 = .ok (.iload 9, 2) := by decide +kernel
theorem dX9_spread_149 : decode (mB 115) 149 = .ok (.invokevirtual 99, 3) := by decide +kernel
theorem dX9_spread_152 : decode (mB 115) 152 = .ok (.return_, 1) := by decide +kernel
theorem dX9_oddsAt_0 : decode (mB 116) 0 = .ok (.aload_n 0, 1) := by decide +kernel
theorem dX9_oddsAt_1 : decode (mB 116) 1 = .ok (.getfield 15, 3) := by decide +kernel
theorem dX9_oddsAt_4 : decode (mB 116) 4 = .ok (.iload_n 2, 1) := by decide +kernel
theorem dX9_oddsAt_5 : decode (mB 116) 5 = .ok (.invokevirtual 96, 3) := by decide +kernel
theorem dX9_oddsAt_8 : decode (mB 116) 8 = .ok (.istore 4, 2) := by decide +kernel
theorem dX9_oddsAt_10 : decode (mB 116) 10 = .ok (.aload_n 0, 1) := by decide +kernel
theorem dX9_oddsAt_11 : decode (mB 116) 11 = .ok (.getfield 15, 3) := by decide +kernel
theorem dX9_oddsAt_14 : decode (mB 116) 14 = .ok (.iload_n 3, 1) := by decide +kernel
theorem dX9_oddsAt_15 : decode (mB 116) 15 = .ok (.invokevirtual 103, 3) := by decide +kernel
theorem dX9_oddsAt_18 : decode (mB 116) 18 = .ok (.istore 5, 2) := by decide +kernel
theorem dX9_oddsAt_20 : decode (mB 116) 20 = .ok (.iload_n 1, 1) := by decide +kernel
theorem dX9_oddsAt_21 : decode (mB 116) 21 = .ok (.bipush 6, 2) := by decide +kernel
theorem dX9_oddsAt_23 : decode (mB 116) 23 = .ok (.imul, 1) := by decide +kernel
theorem dX9_oddsAt_24 : decode (mB 116) 24 = .ok (.iload 4, 2) := by decide +kernel
theorem dX9_oddsAt_26 : decode (mB 116) 26 = .ok (.iadd, 1) := by decide +kernel
theorem dX9_oddsAt_27 : decode (mB 116) 27 = .ok (.bipush 12, 2) := by decide +kernel
theorem dX9_oddsAt_29 : decode (mB 116) 29 = .ok (.imul, 1) := by decide +kernel
theorem dX9_oddsAt_30 : decode (mB 116) 30 = .ok (.iload 5, 2) := by decide +kernel
theorem dX9_oddsAt_32 : decode (mB 116) 32 = .ok (.iadd, 1) := by decide +kernel
theorem dX9_oddsAt_33 : decode (mB 116) 33 = .ok (.istore 6, 2) := by decide +kernel
theorem dX9_oddsAt_35 : decode (mB 116) 35 = .ok (.iload 6, 2) := by decide +kernel
theorem dX9_oddsAt_37 : decode (mB 116) 37 = .ok (.ifCond .lt 13, 3) := by decide +kernel
theorem dX9_oddsAt_40 : decode (mB 116) 40 = .ok (.iload 6, 2) := by decide +kernel
theorem dX9_oddsAt_42 : decode (mB 116) 42 = .ok (.aload_n 0, 1) := by decide +kernel
theorem dX9_oddsAt_43 : decode (mB 116) 43 = .ok (.getfield 27, 3) := by decide +kernel
theorem dX9_oddsAt_46 : decode (mB 116) 46 = .ok (.arraylength, 1) := by decide +kernel
theorem dX9_oddsAt_47 : decode (mB 116) 47 = .ok (.if_icmp .lt 5, 3) := by decide +kernel
theorem dX9_oddsAt_50 : decode (mB 116) 50 = .ok (.iconst 0, 1) := by decide +kernel
theorem dX9_oddsAt_51 : decode (mB 116) 51 = .ok (.ireturn, 1) := by decide +kernel
theorem dX9_oddsAt_52 : decode (mB 116) 52 = .ok (.aload_n 0, 1) := by decide +kernel
theorem dX9_oddsAt_53 : decode (mB 116) 53 = .ok (.getfield 27, 3) := by decide +kernel
theorem dX9_oddsAt_56 : decode (mB 116) 56 = .ok (.iload 6, 2) := by decide +kernel
theorem dX9_oddsAt_58 : decode (mB 116) 58 = .ok (.iaload, 1) := by decide +kernel
theorem dX9_oddsAt_59 : decode (mB 116) 59 = .ok (.iconst (-1), 1) := by decide +kernel
theorem dX9_oddsAt_60 : decode (mB 116) 60 = .ok (.if_icmp .ne 39, 3) := by decide +kernel
theorem dX9_oddsAt_63 : decode (mB 116) 63 = .ok (.aload_n 0, 1) := by decide +kernel
theorem dX9_oddsAt_64 : decode (mB 116) 64 = .ok (.getfield 27, 3) := by decide +kernel
theorem dX9_oddsAt_67 : decode (mB 116) 67 = .ok (.iload 6, 2) := by decide +kernel
theorem dX9_oddsAt_69 : decode (mB 116) 69 = .ok (.aload_n 0, 1) := by decide +kernel
theorem dX9_oddsAt_70 : decode (mB 116) 70 = .ok (.getfield 15, 3) := by decide +kernel
theorem dX9_oddsAt_73 : decode (mB 116) 73 = .ok (.iload 4, 2) := by decide +kernel
theorem dX9_oddsAt_75 : decode (mB 116) 75 = .ok (.iload_n 3, 1) := by decide +kernel
theorem dX9_oddsAt_76 : decode (mB 116) 76 = .ok (.iload 5, 2) := by decide +kernel
theorem dX9_oddsAt_78 : decode (mB 116) 78 = .ok (.aload_n 0, 1) := by decide +kernel
theorem dX9_oddsAt_79 : decode (mB 116) 79 = .ok (.getfield 9, 3) := by decide +kernel
theorem dX9_oddsAt_82 : decode (mB 116) 82 = .ok (.bipush 6, 2) := by decide +kernel
theorem dX9_oddsAt_84 : decode (mB 116) 84 = .ok (.iload_n 2, 1) := by decide +kernel
theorem dX9_oddsAt_85 : decode (mB 116) 85 = .ok (.invokevirtual 106, 3) := by decide +kernel
theorem dX9_oddsAt_88 : decode (mB 116) 88 = .ok (.aload_n 0, 1) := by decide +kernel
theorem dX9_oddsAt_89 : decode (mB 116) 89 = .ok (.getfield 9, 3) := by decide +kernel
theorem dX9_oddsAt_92 : decode (mB 116) 92 = .ok (.invokevirtual 111, 3) := by decide +kernel
theorem dX9_oddsAt_95 : decode (mB 116) 95 = .ok (.invokevirtual 114, 3) := by decide +kernel
theorem dX9_oddsAt_98 : decode (mB 116) 98 = .ok (.iastore, 1) := by decide +kernel
theorem dX9_oddsAt_99 : decode (mB 116) 99 = .ok (.aload_n 0, 1) := by decide +kernel
theorem dX9_oddsAt_100 : decode (mB 116) 100 = .ok (.getfield 27, 3) := by decide +kernel
theorem dX9_oddsAt_103 : decode (mB 116) 103 = .ok (.iload 6, 2) := by decide +kernel
theorem dX9_oddsAt_105 : decode (mB 116) 105 = .ok (.iaload, 1) := by decide +kernel
theorem dX9_oddsAt_106 : decode (mB 116) 106 = .ok (.ireturn, 1) := by decide +kernel
theorem dX9_arrive_0 : decode (mB 117) 0 = .ok (.aload_n 0, 1) := by decide +kernel
theorem dX9_arrive_1 : decode (mB 117) 1 = .ok (.invokevirtual 118, 3) := by decide +kernel
theorem dX9_arrive_4 : decode (mB 117) 4 = .ok (.ifCond .ne 4, 3) := by decide +kernel
theorem dX9_arrive_7 : decode (mB 117) 7 = .ok (.return_, 1) := by decide +kernel
theorem dX9_arrive_8 : decode (mB 117) 8 = .ok (.iload_n 1, 1) := by decide +kernel
theorem dX9_arrive_9 : decode (mB 117) 9 = .ok (.invokestatic 122, 3) := by decide +kernel
theorem dX9_arrive_12 : decode (mB 117) 12 = .ok (.istore 4, 2) := by decide +kernel
theorem dX9_arrive_14 : decode (mB 117) 14 = .ok (.aload_n 0, 1) := by decide +kernel
theorem dX9_arrive_15 : decode (mB 117) 15 = .ok (.getfield 44, 3) := by decide +kernel
theorem dX9_arrive_18 : decode (mB 117) 18 = .ok (.ifCond .eq 29, 3) := by decide +kernel
theorem dX9_arrive_21 : decode (mB 117) 21 = .ok (.iload 4, 2) := by decide +kernel
theorem dX9_arrive_23 : decode (mB 117) 23 = .ok (.aload_n 0, 1) := by decide +kernel
theorem dX9_arrive_24 : decode (mB 117) 24 = .ok (.getfield 48, 3) := by decide +kernel
theorem dX9_arrive_27 : decode (mB 117) 27 = .ok (.if_icmp .lt 20, 3) := by decide +kernel
theorem dX9_arrive_30 : decode (mB 117) 30 = .ok (.iload 4, 2) := by decide +kernel
theorem dX9_arrive_32 : decode (mB 117) 32 = .ok (.aload_n 0, 1) := by decide +kernel
theorem dX9_arrive_33 : decode (mB 117) 33 = .ok (.getfield 48, 3) := by decide +kernel
theorem dX9_arrive_36 : decode (mB 117) 36 = .ok (.if_icmp .ne 22, 3) := by decide +kernel
theorem dX9_arrive_39 : decode (mB 117) 39 = .ok (.iload_n 1, 1) := by decide +kernel
theorem dX9_arrive_40 : decode (mB 117) 40 = .ok (.aload_n 0, 1) := by decide +kernel
theorem dX9_arrive_41 : decode (mB 117) 41 = .ok (.getfield 51, 3) := by decide +kernel
theorem dX9_arrive_44 : decode (mB 117) 44 = .ok (.if_icmp .ge 14, 3) := by decide +kernel
theorem dX9_arrive_47 : decode (mB 117) 47 = .ok (.aload_n 0, 1) := by decide +kernel
theorem dX9_arrive_48 : decode (mB 117) 48 = .ok (.iload 4, 2) := by decide +kernel
theorem dX9_arrive_50 : decode (mB 117) 50 = .ok (.putfield 48, 3) := by decide +kernel
theorem dX9_arrive_53 : decode (mB 117) 53 = .ok (.aload_n 0, 1) := by decide +kernel
theorem dX9_arrive_54 : decode (mB 117) 54 = .ok (.iload_n 1, 1) := by decide +kernel
theorem dX9_arrive_55 : decode (mB 117) 55 = .ok (.putfield 51, 3) := by decide +kernel
theorem dX9_arrive_58 : decode (mB 117) 58 = .ok (.lload_n 2, 1) := by decide +kernel
theorem dX9_arrive_59 : decode (mB 117) 59 = .ok (.aload_n 0, 1) := by decide +kernel
theorem dX9_arrive_60 : decode (mB 117) 60 = .ok (.getfield 57, 3) := by decide +kernel
theorem dX9_arrive_63 : decode (mB 117) 63 = .ok (.lcmp, 1) := by decide +kernel
theorem dX9_arrive_64 : decode (mB 117) 64 = .ok (.ifCond .gt 26, 3) := by decide +kernel
theorem dX9_arrive_67 : decode (mB 117) 67 = .ok (.lload_n 2, 1) := by decide +kernel
theorem dX9_arrive_68 : decode (mB 117) 68 = .ok (.lconst 0, 1) := by decide +kernel
theorem dX9_arrive_69 : decode (mB 117) 69 = .ok (.lcmp, 1) := by decide +kernel
theorem dX9_arrive_70 : decode (mB 117) 70 = .ok (.ifCond .le 30, 3) := by decide +kernel
theorem dX9_arrive_73 : decode (mB 117) 73 = .ok (.lload_n 2, 1) := by decide +kernel
theorem dX9_arrive_74 : decode (mB 117) 74 = .ok (.aload_n 0, 1) := by decide +kernel
theorem dX9_arrive_75 : decode (mB 117) 75 = .ok (.getfield 57, 3) := by decide +kernel
theorem dX9_arrive_78 : decode (mB 117) 78 = .ok (.lcmp, 1) := by decide +kernel
theorem dX9_arrive_79 : decode (mB 117) 79 = .ok (.ifCond .ne 21, 3) := by decide +kernel
theorem dX9_arrive_82 : decode (mB 117) 82 = .ok (.iload_n 1, 1) := by decide +kernel
theorem dX9_arrive_83 : decode (mB 117) 83 = .ok (.aload_n 0, 1) := by decide +kernel
theorem dX9_arrive_84 : decode (mB 117) 84 = .ok (.getfield 61, 3) := by decide +kernel
theorem dX9_arrive_87 : decode (mB 117) 87 = .ok (.if_icmp .ge 13, 3) := by decide +kernel
theorem dX9_arrive_90 : decode (mB 117) 90 = .ok (.aload_n 0, 1) := by decide +kernel
theorem dX9_arrive_91 : decode (mB 117) 91 = .ok (.lload_n 2, 1) := by decide +kernel
theorem dX9_arrive_92 : decode (mB 117) 92 = .ok (.putfield 57, 3) := by decide +kernel
theorem dX9_arrive_95 : decode (mB 117) 95 = .ok (.aload_n 0, 1) := by decide +kernel
theorem dX9_arrive_96 : decode (mB 117) 96 = .ok (.iload_n 1, 1) := by decide +kernel
theorem dX9_arrive_97 : decode (mB 117) 97 = .ok (.putfield 61, 3) := by decide +kernel
theorem dX9_arrive_100 : decode (mB 117) 100 = .ok (.aload_n 0, 1) := by decide +kernel
theorem dX9_arrive_101 : decode (mB 117) 101 = .ok (.dup, 1) := by decide +kernel
theorem dX9_arrive_102 : decode (mB 117) 102 = .ok (.getfield 44, 3) := by decide +kernel
theorem dX9_arrive_105 : decode (mB 117) 105 = .ok (.iconst 1, 1) := by decide +kernel
theorem dX9_arrive_106 : decode (mB 117) 106 = .ok (.iadd, 1) := by decide +kernel
theorem dX9_arrive_107 : decode (mB 117) 107 = .ok (.putfield 44, 3) := by decide +kernel
theorem dX9_arrive_110 : decode (mB 117) 110 = .ok (.aload_n 0, 1) := by decide +kernel
theorem dX9_arrive_111 : decode (mB 117) 111 = .ok (.dup, 1) := by decide +kernel
theorem dX9_arrive_112 : decode (mB 117) 112 = .ok (.getfield 54, 3) := by decide +kernel
theorem dX9_arrive_115 : decode (mB 117) 115 = .ok (.iload_n 1, 1) := by decide +kernel
theorem dX9_arrive_116 : decode (mB 117) 116 = .ok (.iand, 1) := by decide +kernel
theorem dX9_arrive_117 : decode (mB 117) 117 = .ok (.putfield 54, 3) := by decide +kernel
theorem dX9_arrive_120 : decode (mB 117) 120 = .ok (.return_, 1) := by decide +kernel
theorem dX9_isAsTold_0 : decode (mB 118) 0 = .ok (.iconst 0, 1) := by decide +kernel
theorem dX9_isAsTold_1 : decode (mB 118) 1 = .ok (.istore_n 1, 1) := by decide +kernel
theorem dX9_isAsTold_2 : decode (mB 118) 2 = .ok (.iload_n 1, 1) := by decide +kernel
theorem dX9_isAsTold_3 : decode (mB 118) 3 = .ok (.aload_n 0, 1) := by decide +kernel
theorem dX9_isAsTold_4 : decode (mB 118) 4 = .ok (.getfield 9, 3) := by decide +kernel
theorem dX9_isAsTold_7 : decode (mB 118) 7 = .ok (.invokevirtual 127, 3) := by decide +kernel
theorem dX9_isAsTold_10 : decode (mB 118) 10 = .ok (.if_icmp .ge 44, 3) := by decide +kernel
theorem dX9_isAsTold_13 : decode (mB 118) 13 = .ok (.iload_n 1, 1) := by decide +kernel
theorem dX9_isAsTold_14 : decode (mB 118) 14 = .ok (.bipush 12, 2) := by decide +kernel
theorem dX9_isAsTold_16 : decode (mB 118) 16 = .ok (.if_icmp .ge 38, 3) := by decide +kernel
theorem dX9_isAsTold_19 : decode (mB 118) 19 = .ok (.aload_n 0, 1) := by decide +kernel
theorem dX9_isAsTold_20 : decode (mB 118) 20 = .ok (.getfield 23, 3) := by decide +kernel
theorem dX9_isAsTold_23 : decode (mB 118) 23 = .ok (.iload_n 1, 1) := by decide +kernel
theorem dX9_isAsTold_24 : decode (mB 118) 24 = .ok (.iaload, 1) := by decide +kernel
theorem dX9_isAsTold_25 : decode (mB 118) 25 = .ok (.iconst (-1), 1) := by decide +kernel
theorem dX9_isAsTold_26 : decode (mB 118) 26 = .ok (.if_icmp .eq 22, 3) := by decide +kernel
theorem dX9_isAsTold_29 : decode (mB 118) 29 = .ok (.aload_n 0, 1) := by decide +kernel
theorem dX9_isAsTold_30 : decode (mB 118) 30 = .ok (.getfield 23, 3) := by decide +kernel
theorem dX9_isAsTold_33 : decode (mB 118) 33 = .ok (.iload_n 1, 1) := by decide +kernel
theorem dX9_isAsTold_34 : decode (mB 118) 34 = .ok (.iaload, 1) := by decide +kernel
theorem dX9_isAsTold_35 : decode (mB 118) 35 = .ok (.aload_n 0, 1) := by decide +kernel
theorem dX9_isAsTold_36 : decode (mB 118) 36 = .ok (.getfield 15, 3) := by decide +kernel
theorem dX9_isAsTold_39 : decode (mB 118) 39 = .ok (.iload_n 1, 1) := by decide +kernel
theorem dX9_isAsTold_40 : decode (mB 118) 40 = .ok (.invokevirtual 96, 3) := by decide +kernel
theorem dX9_isAsTold_43 : decode (mB 118) 43 = .ok (.if_icmp .eq 5, 3) := by decide +kernel
theorem dX9_isAsTold_46 : decode (mB 118) 46 = .ok (.iconst 0, 1) := by decide +kernel
theorem dX9_isAsTold_47 : decode (mB 118) 47 = .ok (.ireturn, 1) := by decide +kernel
theorem dX9_isAsTold_48 : decode (mB 118) 48 = .ok (.iinc 1 1, 3) := by decide +kernel
theorem dX9_isAsTold_51 : decode (mB 118) 51 = .ok (.goto (-49), 3) := by decide +kernel
theorem dX9_isAsTold_54 : decode (mB 118) 54 = .ok (.iconst 1, 1) := by decide +kernel
theorem dX9_isAsTold_55 : decode (mB 118) 55 = .ok (.ireturn, 1) := by decide +kernel
theorem dX9_howMany_0 : decode (mB 119) 0 = .ok (.aload_n 0, 1) := by decide +kernel
theorem dX9_howMany_1 : decode (mB 119) 1 = .ok (.getfield 44, 3) := by decide +kernel
theorem dX9_howMany_4 : decode (mB 119) 4 = .ok (.ireturn, 1) := by decide +kernel
theorem dX9_fewest_0 : decode (mB 120) 0 = .ok (.aload_n 0, 1) := by decide +kernel
theorem dX9_fewest_1 : decode (mB 120) 1 = .ok (.getfield 48, 3) := by decide +kernel
theorem dX9_fewest_4 : decode (mB 120) 4 = .ok (.ireturn, 1) := by decide +kernel
theorem dX9_fewestBits_0 : decode (mB 121) 0 = .ok (.aload_n 0, 1) := by decide +kernel
theorem dX9_fewestBits_1 : decode (mB 121) 1 = .ok (.getfield 51, 3) := by decide +kernel
theorem dX9_fewestBits_4 : decode (mB 121) 4 = .ok (.ireturn, 1) := by decide +kernel
theorem dX9_certain_0 : decode (mB 122) 0 = .ok (.aload_n 0, 1) := by decide +kernel
theorem dX9_certain_1 : decode (mB 122) 1 = .ok (.getfield 44, 3) := by decide +kernel
theorem dX9_certain_4 : decode (mB 122) 4 = .ok (.ifCond .ne 7, 3) := by decide +kernel
theorem dX9_certain_7 : decode (mB 122) 7 = .ok (.iconst 0, 1) := by decide +kernel
theorem dX9_certain_8 : decode (mB 122) 8 = .ok (.goto 7, 3) := by decide +kernel
theorem dX9_certain_11 : decode (mB 122) 11 = .ok (.aload_n 0, 1) := by decide +kernel
theorem dX9_certain_12 : decode (mB 122) 12 = .ok (.getfield 54, 3) := by decide +kernel
theorem dX9_certain_15 : decode (mB 122) 15 = .ok (.ireturn, 1) := by decide +kernel
theorem dX9_likeliestBits_0 : decode (mB 123) 0 = .ok (.aload_n 0, 1) := by decide +kernel
theorem dX9_likeliestBits_1 : decode (mB 123) 1 = .ok (.getfield 61, 3) := by decide +kernel
theorem dX9_likeliestBits_4 : decode (mB 123) 4 = .ok (.ireturn, 1) := by decide +kernel
theorem dX10_init_0 : decode (mB 124) 0 = .ok (.aload_n 0, 1) := by decide +kernel
theorem dX10_init_1 : decode (mB 124) 1 = .ok (.invokespecial 3, 3) := by decide +kernel
theorem dX10_init_4 : decode (mB 124) 4 = .ok (.aload_n 0, 1) := by decide +kernel
theorem dX10_init_5 : decode (mB 124) 5 = .ok (.bipush 9, 2) := by decide +kernel
theorem dX10_init_7 : decode (mB 124) 7 = .ok (.bipush 12, 2) := by decide +kernel
theorem dX10_init_9 : decode (mB 124) 9 = .ok (.multianewarray 9 2, 4) := by decide +kernel
theorem dX10_init_13 : decode (mB 124) 13 = .ok (.putfield 11, 3) := by decide +kernel
theorem dX10_init_16 : decode (mB 124) 16 = .ok (.iconst 0, 1) := by decide +kernel
theorem dX10_init_17 : decode (mB 124) 17 = .ok (.istore_n 1, 1) := by decide +kernel
theorem dX10_init_18 : decode (mB 124) 18 = .ok (.iload_n 1, 1) := by decide +kernel
theorem dX10_init_19 : decode (mB 124) 19 = .ok (.bipush 6, 2) := by decide +kernel
theorem dX10_init_21 : decode (mB 124) 21 = .ok (.if_icmp .ge 19, 3) := by decide +kernel
theorem dX10_init_24 : decode (mB 124) 24 = .ok (.aload_n 0, 1) := by decide +kernel
theorem dX10_init_25 : decode (mB 124) 25 = .ok (.getfield 11, 3) := by decide +kernel
theorem dX10_init_28 : decode (mB 124) 28 = .ok (.iconst 2, 1) := by decide +kernel
theorem dX10_init_29 : decode (mB 124) 29 = .ok (.aaload, 1) := by decide +kernel
theorem dX10_init_30 : decode (mB 124) 30 = .ok (.iload_n 1, 1) := by decide +kernel
theorem dX10_init_31 : decode (mB 124) 31 = .ok (.bipush 10, 2) := by decide +kernel
theorem dX10_init_33 : decode (mB 124) 33 = .ok (.iastore, 1) := by decide +kernel
theorem dX10_init_34 : decode (mB 124) 34 = .ok (.iinc 1 1, 3) := by decide +kernel
theorem dX10_init_37 : decode (mB 124) 37 = .ok (.goto (-19), 3) := by decide +kernel
theorem dX10_init_40 : decode (mB 124) 40 = .ok (.return_, 1) := by decide +kernel
theorem dX10_people_0 : decode (mB 125) 0 = .ok (.aload_n 0, 1) := by decide +kernel
theorem dX10_people_1 : decode (mB 125) 1 = .ok (.getfield 16, 3) := by decide +kernel
theorem dX10_people_4 : decode (mB 125) 4 = .ok (.ireturn, 1) := by decide +kernel
theorem dX10_tickets_0 : decode (mB 126) 0 = .ok (.aload_n 0, 1) := by decide +kernel
theorem dX10_tickets_1 : decode (mB 126) 1 = .ok (.getfield 20, 3) := by decide +kernel
theorem dX10_tickets_4 : decode (mB 126) 4 = .ok (.ireturn, 1) := by decide +kernel
theorem dX10_hourNow_0 : decode (mB 127) 0 = .ok (.aload_n 0, 1) := by decide +kernel
theorem dX10_hourNow_1 : decode (mB 127) 1 = .ok (.bipush 7, 2) := by decide +kernel
theorem dX10_hourNow_3 : decode (mB 127) 3 = .ok (.iconst 0, 1) := by decide +kernel
theorem dX10_hourNow_4 : decode (mB 127) 4 = .ok (.invokevirtual 23, 3) := by decide +kernel
theorem dX10_hourNow_7 : decode (mB 127) 7 = .ok (.ireturn, 1) := by decide +kernel
theorem dX10_isPerson_0 : decode (mB 128) 0 = .ok (.iload_n 1, 1) := by decide +kernel
theorem dX10_isPerson_1 : decode (mB 128) 1 = .ok (.ifCond .lt 15, 3) := by decide +kernel
theorem dX10_isPerson_4 : decode (mB 128) 4 = .ok (.iload_n 1, 1) := by decide +kernel
theorem dX10_isPerson_5 : decode (mB 128) 5 = .ok (.aload_n 0, 1) := by decide +kernel
theorem dX10_isPerson_6 : decode (mB 128) 6 = .ok (.getfield 16, 3) := by decide +kernel
theorem dX10_isPerson_9 : decode (mB 128) 9 = .ok (.if_icmp .ge 7, 3) := by decide +kernel
theorem dX10_isPerson_12 : decode (mB 128) 12 = .ok (.iconst 1, 1) := by decide +kernel
theorem dX10_isPerson_13 : decode (mB 128) 13 = .ok (.goto 4, 3) := by decide +kernel
theorem dX10_isPerson_16 : decode (mB 128) 16 = .ok (.iconst 0, 1) := by decide +kernel
theorem dX10_isPerson_17 : decode (mB 128) 17 = .ok (.ireturn, 1) := by decide +kernel
theorem dX10_isTicket_0 : decode (mB 129) 0 = .ok (.iload_n 1, 1) := by decide +kernel
theorem dX10_isTicket_1 : decode (mB 129) 1 = .ok (.ifCond .lt 15, 3) := by decide +kernel
theorem dX10_isTicket_4 : decode (mB 129) 4 = .ok (.iload_n 1, 1) := by decide +kernel
theorem dX10_isTicket_5 : decode (mB 129) 5 = .ok (.aload_n 0, 1) := by decide +kernel
theorem dX10_isTicket_6 : decode (mB 129) 6 = .ok (.getfield 20, 3) := by decide +kernel
theorem dX10_isTicket_9 : decode (mB 129) 9 = .ok (.if_icmp .ge 7, 3) := by decide +kernel
theorem dX10_isTicket_12 : decode (mB 129) 12 = .ok (.iconst 1, 1) := by decide +kernel
theorem dX10_isTicket_13 : decode (mB 129) 13 = .ok (.goto 4, 3) := by decide +kernel
theorem dX10_isTicket_16 : decode (mB 129) 16 = .ok (.iconst 0, 1) := by decide +kernel
theorem dX10_isTicket_17 : decode (mB 129) 17 = .ok (.ireturn, 1) := by decide +kernel
theorem dX10_isSlipping_0 : decode (mB 130) 0 = .ok (.aload_n 0, 1) := by decide +kernel
theorem dX10_isSlipping_1 : decode (mB 130) 1 = .ok (.iload_n 1, 1) := by decide +kernel
theorem dX10_isSlipping_2 : decode (mB 130) 2 = .ok (.iconst 3, 1) := by decide +kernel
theorem dX10_isSlipping_3 : decode (mB 130) 3 = .ok (.ishr, 1) := by decide +kernel
theorem dX10_isSlipping_4 : decode (mB 130) 4 = .ok (.invokevirtual 27, 3) := by decide +kernel
theorem dX10_isSlipping_7 : decode (mB 130) 7 = .ok (.ifCond .eq 18, 3) := by decide +kernel
theorem dX10_isSlipping_10 : decode (mB 130) 10 = .ok (.aload_n 0, 1) := by decide +kernel
theorem dX10_isSlipping_11 : decode (mB 130) 11 = .ok (.iload_n 1, 1) := by decide +kernel
theorem dX10_isSlipping_12 : decode (mB 130) 12 = .ok (.bipush 7, 2) := by decide +kernel
theorem dX10_isSlipping_14 : decode (mB 130) 14 = .ok (.iand, 1) := by decide +kernel
theorem dX10_isSlipping_15 : decode (mB 130) 15 = .ok (.invokevirtual 31, 3) := by decide +kernel
theorem dX10_isSlipping_18 : decode (mB 130) 18 = .ok (.ifCond .eq 7, 3) := by decide +kernel
theorem dX10_isSlipping_21 : decode (mB 130) 21 = .ok (.iconst 1, 1) := by decide +kernel
theorem dX10_isSlipping_22 : decode (mB 130) 22 = .ok (.goto 4, 3) := by decide +kernel
theorem dX10_isSlipping_25 : decode (mB 130) 25 = .ok (.iconst 0, 1) := by decide +kernel
theorem dX10_isSlipping_26 : decode (mB 130) 26 = .ok (.ireturn, 1) := by decide +kernel
theorem dX10_isReal_0 : decode (mB 131) 0 = .ok (.aload_n 0, 1) := by decide +kernel
theorem dX10_isReal_1 : decode (mB 131) 1 = .ok (.iload_n 1, 1) := by decide +kernel
theorem dX10_isReal_2 : decode (mB 131) 2 = .ok (.invokevirtual 27, 3) := by decide +kernel
theorem dX10_isReal_5 : decode (mB 131) 5 = .ok (.ifCond .eq 16, 3) := by decide +kernel
theorem dX10_isReal_8 : decode (mB 131) 8 = .ok (.aload_n 0, 1) := by decide +kernel
theorem dX10_isReal_9 : decode (mB 131) 9 = .ok (.iconst 5, 1) := by decide +kernel
theorem dX10_isReal_10 : decode (mB 131) 10 = .ok (.iload_n 1, 1) := by decide +kernel
theorem dX10_isReal_11 : decode (mB 131) 11 = .ok (.invokevirtual 23, 3) := by decide +kernel
theorem dX10_isReal_14 : decode (mB 131) 14 = .ok (.ifCond .ne 7, 3) := by decide +kernel
theorem dX10_isReal_17 : decode (mB 131) 17 = .ok (.iconst 1, 1) := by decide +kernel
theorem dX10_isReal_18 : decode (mB 131) 18 = .ok (.goto 4, 3) := by decide +kernel
theorem dX10_isReal_21 : decode (mB 131) 21 = .ok (.iconst 0, 1) := by decide +kernel
theorem dX10_isReal_22 : decode (mB 131) 22 = .ok (.ireturn, 1) := by decide +kernel
theorem dX10_hasNumber_0 : decode (mB 132) 0 = .ok (.iload_n 1, 1) := by decide +kernel
theorem dX10_hasNumber_1 : decode (mB 132) 1 = .ok (.ifCond .lt 13, 3) := by decide +kernel
theorem dX10_hasNumber_4 : decode (mB 132) 4 = .ok (.iload_n 1, 1) := by decide +kernel
theorem dX10_hasNumber_5 : decode (mB 132) 5 = .ok (.bipush 8, 2) := by decide +kernel
theorem dX10_hasNumber_7 : decode (mB 132) 7 = .ok (.if_icmp .gt 7, 3) := by decide +kernel
theorem dX10_hasNumber_10 : decode (mB 132) 10 = .ok (.iload_n 2, 1) := by decide +kernel
theorem dX10_hasNumber_11 : decode (mB 132) 11 = .ok (.ifCond .ge 5, 3) := by decide +kernel
theorem dX10_hasNumber_14 : decode (mB 132) 14 = .ok (.iconst 0, 1) := by decide +kernel
theorem dX10_hasNumber_15 : decode (mB 132) 15 = .ok (.ireturn, 1) := by decide +kernel
theorem dX10_hasNumber_16 : decode (mB 132) 16 = .ok (.iload_n 1, 1) := by decide +kernel
theorem dX10_hasNumber_17 : decode (mB 132) 17 = .ok (.bipush 7, 2) := by decide +kernel
theorem dX10_hasNumber_19 : decode (mB 132) 19 = .ok (.if_icmp .lt 13, 3) := by decide +kernel
theorem dX10_hasNumber_22 : decode (mB 132) 22 = .ok (.iload_n 2, 1) := by decide +kernel
theorem dX10_hasNumber_23 : decode (mB 132) 23 = .ok (.ifCond .ne 7, 3) := by decide +kernel
theorem dX10_hasNumber_26 : decode (mB 132) 26 = .ok (.iconst 1, 1) := by decide +kernel
theorem dX10_hasNumber_27 : decode (mB 132) 27 = .ok (.goto 4, 3) := by decide +kernel
theorem dX10_hasNumber_30 : decode (mB 132) 30 = .ok (.iconst 0, 1) := by decide +kernel
theorem dX10_hasNumber_31 : decode (mB 132) 31 = .ok (.ireturn, 1) := by decide +kernel
theorem dX10_hasNumber_32 : decode (mB 132) 32 = .ok (.iload_n 2, 1) := by decide +kernel
theorem dX10_hasNumber_33 : decode (mB 132) 33 = .ok (.iload_n 1, 1) := by decide +kernel
theorem dX10_hasNumber_34 : decode (mB 132) 34 = .ok (.iconst 4, 1) := by decide +kernel
theorem dX10_hasNumber_35 : decode (mB 132) 35 = .ok (.if_icmp .lt 10, 3) := by decide +kernel
theorem dX10_hasNumber_38 : decode (mB 132) 38 = .ok (.aload_n 0, 1) := by decide +kernel
theorem dX10_hasNumber_39 : decode (mB 132) 39 = .ok (.getfield 20, 3) := by decide +kernel
theorem dX10_hasNumber_42 : decode (mB 132) 42 = .ok (.goto 7, 3) := by decide +kernel
theorem dX10_hasNumber_45 : decode (mB 132) 45 = .ok (.aload_n 0, 1) := by decide +kernel
theorem dX10_hasNumber_46 : decode (mB 132) 46 = .ok (.getfield 16, 3) := by decide +kernel
theorem dX10_hasNumber_49 : decode (mB 132) 49 = .ok (.if_icmp .ge 7, 3) := by decide +kernel
theorem dX10_hasNumber_52 : decode (mB 132) 52 = .ok (.iconst 1, 1) := by decide +kernel
theorem dX10_hasNumber_53 : decode (mB 132) 53 = .ok (.goto 4, 3) := by decide +kernel
theorem dX10_hasNumber_56 : decode (mB 132) 56 = .ok (.iconst 0, 1) := by decide +kernel
theorem dX10_hasNumber_57 : decode (mB 132) 57 = .ok (.ireturn, 1) := by decide +kernel
theorem dX10_mayBe_0 : decode (mB 133) 0 = .ok (.iload_n 1, 1) := by decide +kernel
theorem dX10_mayBe_1 : decode (mB 133) 1 = .ok (.ifCond .lt 9, 3) := by decide +kernel
theorem dX10_mayBe_4 : decode (mB 133) 4 = .ok (.iload_n 1, 1) := by decide +kernel
theorem dX10_mayBe_5 : decode (mB 133) 5 = .ok (.bipush 8, 2) := by decide +kernel
theorem dX10_mayBe_7 : decode (mB 133) 7 = .ok (.if_icmp .le 5, 3) := by decide +kernel
theorem dX10_mayBe_10 : decode (mB 133) 10 = .ok (.iconst 0, 1) := by decide +kernel
theorem dX10_mayBe_11 : decode (mB 133) 11 = .ok (.ireturn, 1) := by decide +kernel
theorem dX10_mayBe_12 : decode (mB 133) 12 = .ok (.iload_n 1, 1) := by decide +kernel
theorem dX10_mayBe_13 : decode (mB 133) 13 = .ok (.iconst 4, 1) := by decide +kernel
theorem dX10_mayBe_14 : decode (mB 133) 14 = .ok (.if_icmp .ne 11, 3) := by decide +kernel
theorem dX10_mayBe_17 : decode (mB 133) 17 = .ok (.aload_n 0, 1) := by decide +kernel
theorem dX10_mayBe_18 : decode (mB 133) 18 = .ok (.iload_n 2, 1) := by decide +kernel
theorem dX10_mayBe_19 : decode (mB 133) 19 = .ok (.invokevirtual 31, 3) := by decide +kernel
theorem dX10_mayBe_22 : decode (mB 133) 22 = .ok (.goto 21, 3) := by decide +kernel
theorem dX10_mayBe_25 : decode (mB 133) 25 = .ok (.iload_n 2, 1) := by decide +kernel
theorem dX10_mayBe_26 : decode (mB 133) 26 = .ok (.ifCond .lt 16, 3) := by decide +kernel
theorem dX10_mayBe_29 : decode (mB 133) 29 = .ok (.iload_n 2, 1) := by decide +kernel
theorem dX10_mayBe_30 : decode (mB 133) 30 = .ok (.getstatic 34, 3) := by decide +kernel
theorem dX10_mayBe_33 : decode (mB 133) 33 = .ok (.iload_n 1, 1) := by decide +kernel
theorem dX10_mayBe_34 : decode (mB 133) 34 = .ok (.iaload, 1) := by decide +kernel
theorem dX10_mayBe_35 : decode (mB 133) 35 = .ok (.if_icmp .gt 7, 3) := by decide +kernel
theorem dX10_mayBe_38 : decode (mB 133) 38 = .ok (.iconst 1, 1) := by decide +kernel
theorem dX10_mayBe_39 : decode (mB 133) 39 = .ok (.goto 4, 3) := by decide +kernel
theorem dX10_mayBe_42 : decode (mB 133) 42 = .ok (.iconst 0, 1) := by decide +kernel
theorem dX10_mayBe_43 : decode (mB 133) 43 = .ok (.ireturn, 1) := by decide +kernel
theorem dX10_get_0 : decode (mB 134) 0 = .ok (.aload_n 0, 1) := by decide +kernel
theorem dX10_get_1 : decode (mB 134) 1 = .ok (.iload_n 1, 1) := by decide +kernel
theorem dX10_get_2 : decode (mB 134) 2 = .ok (.iload_n 2, 1) := by decide +kernel
theorem dX10_get_3 : decode (mB 134) 3 = .ok (.invokevirtual 38, 3) := by decide +kernel
theorem dX10_get_6 : decode (mB 134) 6 = .ok (.ifCond .eq 14, 3) := by decide +kernel
theorem dX10_get_9 : decode (mB 134) 9 = .ok (.aload_n 0, 1) := by decide +kernel
theorem dX10_get_10 : decode (mB 134) 10 = .ok (.getfield 11, 3) := by decide +kernel
theorem dX10_get_13 : decode (mB 134) 13 = .ok (.iload_n 1, 1) := by decide +kernel
theorem dX10_get_14 : decode (mB 134) 14 = .ok (.aaload, 1) := by decide +kernel
theorem dX10_get_15 : decode (mB 134) 15 = .ok (.iload_n 2, 1) := by decide +kernel
theorem dX10_get_16 : decode (mB 134) 16 = .ok (.iaload, 1) := by decide +kernel
theorem dX10_get_17 : decode (mB 134) 17 = .ok (.goto 4, 3) := by decide +kernel
theorem dX10_get_20 : decode (mB 134) 20 = .ok (.iconst 0, 1) := by decide +kernel
theorem dX10_get_21 : decode (mB 134) 21 = .ok (.ireturn, 1) := by decide +kernel
theorem dX10_set_0 : decode (mB 135) 0 = .ok (.aload_n 0, 1) := by decide +kernel
theorem dX10_set_1 : decode (mB 135) 1 = .ok (.iload_n 1, 1) := by decide +kernel
theorem dX10_set_2 : decode (mB 135) 2 = .ok (.iload_n 2, 1) := by decide +kernel
theorem dX10_set_3 : decode (mB 135) 3 = .ok (.invokevirtual 38, 3) := by decide +kernel
theorem dX10_set_6 : decode (mB 135) 6 = .ok (.ifCond .eq 12, 3) := by decide +kernel
theorem dX10_set_9 : decode (mB 135) 9 = .ok (.aload_n 0, 1) := by decide +kernel
theorem dX10_set_10 : decode (mB 135) 10 = .ok (.getfield 11, 3) := by decide +kernel
theorem dX10_set_13 : decode (mB 135) 13 = .ok (.iload_n 1, 1) := by decide +kernel
theorem dX10_set_14 : decode (mB 135) 14 = .ok (.aaload, 1) := by decide +kernel
theorem dX10_set_15 : decode (mB 135) 15 = .ok (.iload_n 2, 1) := by decide +kernel
theorem dX10_set_16 : decode (mB 135) 16 = .ok (.iload_n 3, 1) := by decide +kernel
theorem dX10_set_17 : decode (mB 135) 17 = .ok (.iastore, 1) := by decide +kernel
theorem dX10_set_18 : decode (mB 135) 18 = .ok (.return_, 1) := by decide +kernel
theorem dX10_addPerson_0 : decode (mB 136) 0 = .ok (.aload_n 0, 1) := by decide +kernel
theorem dX10_addPerson_1 : decode (mB 136) 1 = .ok (.getfield 16, 3) := by decide +kernel
theorem dX10_addPerson_4 : decode (mB 136) 4 = .ok (.bipush 6, 2) := by decide +kernel
theorem dX10_addPerson_6 : decode (mB 136) 6 = .ok (.if_icmp .lt 6, 3) := by decide +kernel
theorem dX10_addPerson_9 : decode (mB 136) 9 = .ok (.bipush (-3), 2) := by decide +kernel
theorem dX10_addPerson_11 : decode (mB 136) 11 = .ok (.ireturn, 1) := by decide +kernel
theorem dX10_addPerson_12 : decode (mB 136) 12 = .ok (.aload_n 0, 1) := by decide +kernel
theorem dX10_addPerson_13 : decode (mB 136) 13 = .ok (.dup, 1) := by decide +kernel
theorem dX10_addPerson_14 : decode (mB 136) 14 = .ok (.getfield 16, 3) := by decide +kernel
theorem dX10_addPerson_17 : decode (mB 136) 17 = .ok (.iconst 1, 1) := by decide +kernel
theorem dX10_addPerson_18 : decode (mB 136) 18 = .ok (.iadd, 1) := by decide +kernel
theorem dX10_addPerson_19 : decode (mB 136) 19 = .ok (.putfield 16, 3) := by decide +kernel
theorem dX10_addPerson_22 : decode (mB 136) 22 = .ok (.aload_n 0, 1) := by decide +kernel
theorem dX10_addPerson_23 : decode (mB 136) 23 = .ok (.iconst 0, 1) := by decide +kernel
theorem dX10_addPerson_24 : decode (mB 136) 24 = .ok (.aload_n 0, 1) := by decide +kernel
theorem dX10_addPerson_25 : decode (mB 136) 25 = .ok (.getfield 16, 3) := by decide +kernel
theorem dX10_addPerson_28 : decode (mB 136) 28 = .ok (.iconst 1, 1) := by decide +kernel
theorem dX10_addPerson_29 : decode (mB 136) 29 = .ok (.isub, 1) := by decide +kernel
theorem dX10_addPerson_30 : decode (mB 136) 30 = .ok (.iload_n 1, 1) := by decide +kernel
theorem dX10_addPerson_31 : decode (mB 136) 31 = .ok (.invokevirtual 42, 3) := by decide +kernel
theorem dX10_addPerson_34 : decode (mB 136) 34 = .ok (.aload_n 0, 1) := by decide +kernel
theorem dX10_addPerson_35 : decode (mB 136) 35 = .ok (.getfield 16, 3) := by decide +kernel
theorem dX10_addPerson_38 : decode (mB 136) 38 = .ok (.iconst 1, 1) := by decide +kernel
theorem dX10_addPerson_39 : decode (mB 136) 39 = .ok (.isub, 1) := by decide +kernel
theorem dX10_addPerson_40 : decode (mB 136) 40 = .ok (.ireturn, 1) := by decide +kernel
theorem dX10_addTicket_0 : decode (mB 137) 0 = .ok (.aload_n 0, 1) := by decide +kernel
theorem dX10_addTicket_1 : decode (mB 137) 1 = .ok (.getfield 20, 3) := by decide +kernel
theorem dX10_addTicket_4 : decode (mB 137) 4 = .ok (.bipush 12, 2) := by decide +kernel
theorem dX10_addTicket_6 : decode (mB 137) 6 = .ok (.if_icmp .lt 6, 3) := by decide +kernel
theorem dX10_addTicket_9 : decode (mB 137) 9 = .ok (.bipush (-3), 2) := by decide +kernel
theorem dX10_addTicket_11 : decode (mB 137) 11 = .ok (.ireturn, 1) := by decide +kernel
theorem dX10_addTicket_12 : decode (mB 137) 12 = .ok (.aload_n 0, 1) := by decide +kernel
theorem dX10_addTicket_13 : decode (mB 137) 13 = .ok (.dup, 1) := by decide +kernel
theorem dX10_addTicket_14 : decode (mB 137) 14 = .ok (.getfield 20, 3) := by decide +kernel
theorem dX10_addTicket_17 : decode (mB 137) 17 = .ok (.iconst 1, 1) := by decide +kernel
theorem dX10_addTicket_18 : decode (mB 137) 18 = .ok (.iadd, 1) := by decide +kernel
theorem dX10_addTicket_19 : decode (mB 137) 19 = .ok (.putfield 20, 3) := by decide +kernel
theorem dX10_addTicket_22 : decode (mB 137) 22 = .ok (.aload_n 0, 1) := by decide +kernel
theorem dX10_addTicket_23 : decode (mB 137) 23 = .ok (.iconst 4, 1) := by decide +kernel
theorem dX10_addTicket_24 : decode (mB 137) 24 = .ok (.aload_n 0, 1) := by decide +kernel
theorem dX10_addTicket_25 : decode (mB 137) 25 = .ok (.getfield 20, 3) := by decide +kernel
theorem dX10_addTicket_28 : decode (mB 137) 28 = .ok (.iconst 1, 1) := by decide +kernel
theorem dX10_addTicket_29 : decode (mB 137) 29 = .ok (.isub, 1) := by decide +kernel
theorem dX10_addTicket_30 : decode (mB 137) 30 = .ok (.iload_n 1, 1) := by decide +kernel
theorem dX10_addTicket_31 : decode (mB 137) 31 = .ok (.invokevirtual 42, 3) := by decide +kernel
theorem dX10_addTicket_34 : decode (mB 137) 34 = .ok (.aload_n 0, 1) := by decide +kernel
theorem dX10_addTicket_35 : decode (mB 137) 35 = .ok (.iconst 5, 1) := by decide +kernel
theorem dX10_addTicket_36 : decode (mB 137) 36 = .ok (.aload_n 0, 1) := by decide +kernel
theorem dX10_addTicket_37 : decode (mB 137) 37 = .ok (.getfield 20, 3) := by decide +kernel
theorem dX10_addTicket_40 : decode (mB 137) 40 = .ok (.iconst 1, 1) := by decide +kernel
theorem dX10_addTicket_41 : decode (mB 137) 41 = .ok (.isub, 1) := by decide +kernel
theorem dX10_addTicket_42 : decode (mB 137) 42 = .ok (.iload_n 2, 1) := by decide +kernel
theorem dX10_addTicket_43 : decode (mB 137) 43 = .ok (.invokevirtual 42, 3) := by decide +kernel
theorem dX10_addTicket_46 : decode (mB 137) 46 = .ok (.aload_n 0, 1) := by decide +kernel
theorem dX10_addTicket_47 : decode (mB 137) 47 = .ok (.bipush 6, 2) := by decide +kernel
theorem dX10_addTicket_49 : decode (mB 137) 49 = .ok (.aload_n 0, 1) := by decide +kernel
theorem dX10_addTicket_50 : decode (mB 137) 50 = .ok (.getfield 20, 3) := by decide +kernel
theorem dX10_addTicket_53 : decode (mB 137) 53 = .ok (.iconst 1, 1) := by decide +kernel
theorem dX10_addTicket_54 : decode (mB 137) 54 = .ok (.isub, 1) := by decide +kernel
theorem dX10_addTicket_55 : decode (mB 137) 55 = .ok (.iload_n 3, 1) := by decide +kernel
theorem dX10_addTicket_56 : decode (mB 137) 56 = .ok (.invokevirtual 42, 3) := by decide +kernel
theorem dX10_addTicket_59 : decode (mB 137) 59 = .ok (.aload_n 0, 1) := by decide +kernel
theorem dX10_addTicket_60 : decode (mB 137) 60 = .ok (.getfield 20, 3) := by decide +kernel
theorem dX10_addTicket_63 : decode (mB 137) 63 = .ok (.iconst 1, 1) := by decide +kernel
theorem dX10_addTicket_64 : decode (mB 137) 64 = .ok (.isub, 1) := by decide +kernel
theorem dX10_addTicket_65 : decode (mB 137) 65 = .ok (.ireturn, 1) := by decide +kernel
theorem dX11_init_0 : decode (mB 138) 0 = .ok (.aload_n 0, 1) := by decide +kernel
theorem dX11_init_1 : decode (mB 138) 1 = .ok (.invokespecial 1, 3) := by decide +kernel
theorem dX11_init_4 : decode (mB 138) 4 = .ok (.aload_n 0, 1) := by decide +kernel
theorem dX11_init_5 : decode (mB 138) 5 = .ok (.new 7, 3) := by decide +kernel
theorem dX11_init_8 : decode (mB 138) 8 = .ok (.dup, 1) := by decide +kernel
theorem dX11_init_9 : decode (mB 138) 9 = .ok (.invokespecial 9, 3) := by decide +kernel
theorem dX11_init_12 : decode (mB 138) 12 = .ok (.putfield 10, 3) := by decide +kernel
theorem dX11_init_15 : decode (mB 138) 15 = .ok (.aload_n 0, 1) := by decide +kernel
theorem dX11_init_16 : decode (mB 138) 16 = .ok (.new 16, 3) := by decide +kernel
theorem dX11_init_19 : decode (mB 138) 19 = .ok (.dup, 1) := by decide +kernel
theorem dX11_init_20 : decode (mB 138) 20 = .ok (.invokespecial 18, 3) := by decide +kernel
theorem dX11_init_23 : decode (mB 138) 23 = .ok (.putfield 19, 3) := by decide +kernel
theorem dX11_init_26 : decode (mB 138) 26 = .ok (.aload_n 0, 1) := by decide +kernel
theorem dX11_init_27 : decode (mB 138) 27 = .ok (.new 23, 3) := by decide +kernel
theorem dX11_init_30 : decode (mB 138) 30 = .ok (.dup, 1) := by decide +kernel
theorem dX11_init_31 : decode (mB 138) 31 = .ok (.invokespecial 25, 3) := by decide +kernel
theorem dX11_init_34 : decode (mB 138) 34 = .ok (.putfield 26, 3) := by decide +kernel
theorem dX11_init_37 : decode (mB 138) 37 = .ok (.aload_n 0, 1) := by decide +kernel
theorem dX11_init_38 : decode (mB 138) 38 = .ok (.new 30, 3) := by decide +kernel
theorem dX11_init_41 : decode (mB 138) 41 = .ok (.dup, 1) := by decide +kernel
theorem dX11_init_42 : decode (mB 138) 42 = .ok (.aload_n 0, 1) := by decide +kernel
theorem dX11_init_43 : decode (mB 138) 43 = .ok (.getfield 10, 3) := by decide +kernel
theorem dX11_init_46 : decode (mB 138) 46 = .ok (.aload_n 0, 1) := by decide +kernel
theorem dX11_init_47 : decode (mB 138) 47 = .ok (.getfield 19, 3) := by decide +kernel
theorem dX11_init_50 : decode (mB 138) 50 = .ok (.invokespecial 32, 3) := by decide +kernel
theorem dX11_init_53 : decode (mB 138) 53 = .ok (.putfield 35, 3) := by decide +kernel
theorem dX11_init_56 : decode (mB 138) 56 = .ok (.aload_n 0, 1) := by decide +kernel
theorem dX11_init_57 : decode (mB 138) 57 = .ok (.new 39, 3) := by decide +kernel
theorem dX11_init_60 : decode (mB 138) 60 = .ok (.dup, 1) := by decide +kernel
theorem dX11_init_61 : decode (mB 138) 61 = .ok (.invokespecial 41, 3) := by decide +kernel
theorem dX11_init_64 : decode (mB 138) 64 = .ok (.putfield 42, 3) := by decide +kernel
theorem dX11_init_67 : decode (mB 138) 67 = .ok (.aload_n 0, 1) := by decide +kernel
theorem dX11_init_68 : decode (mB 138) 68 = .ok (.new 46, 3) := by decide +kernel
theorem dX11_init_71 : decode (mB 138) 71 = .ok (.dup, 1) := by decide +kernel
theorem dX11_init_72 : decode (mB 138) 72 = .ok (.aload_n 0, 1) := by decide +kernel
theorem dX11_init_73 : decode (mB 138) 73 = .ok (.getfield 10, 3) := by decide +kernel
theorem dX11_init_76 : decode (mB 138) 76 = .ok (.aload_n 0, 1) := by decide +kernel
theorem dX11_init_77 : decode (mB 138) 77 = .ok (.getfield 35, 3) := by decide +kernel
theorem dX11_init_80 : decode (mB 138) 80 = .ok (.invokespecial 48, 3) := by decide +kernel
theorem dX11_init_83 : decode (mB 138) 83 = .ok (.putfield 51, 3) := by decide +kernel
theorem dX11_init_86 : decode (mB 138) 86 = .ok (.aload_n 0, 1) := by decide +kernel
theorem dX11_init_87 : decode (mB 138) 87 = .ok (.new 55, 3) := by decide +kernel
theorem dX11_init_90 : decode (mB 138) 90 = .ok (.dup, 1) := by decide +kernel
theorem dX11_init_91 : decode (mB 138) 91 = .ok (.aload_n 0, 1) := by decide +kernel
theorem dX11_init_92 : decode (mB 138) 92 = .ok (.getfield 10, 3) := by decide +kernel
theorem dX11_init_95 : decode (mB 138) 95 = .ok (.aload_n 0, 1) := by decide +kernel
theorem dX11_init_96 : decode (mB 138) 96 = .ok (.getfield 35, 3) := by decide +kernel
theorem dX11_init_99 : decode (mB 138) 99 = .ok (.aload_n 0, 1) := by decide +kernel
theorem dX11_init_100 : decode (mB 138) 100 = .ok (.getfield 51, 3) := by decide +kernel
theorem dX11_init_103 : decode (mB 138) 103 = .ok (.invokespecial 57, 3) := by decide +kernel
theorem dX11_init_106 : decode (mB 138) 106 = .ok (.putfield 60, 3) := by decide +kernel
theorem dX11_init_109 : decode (mB 138) 109 = .ok (.aload_n 0, 1) := by decide +kernel
theorem dX11_init_110 : decode (mB 138) 110 = .ok (.new 64, 3) := by decide +kernel
theorem dX11_init_113 : decode (mB 138) 113 = .ok (.dup, 1) := by decide +kernel
theorem dX11_init_114 : decode (mB 138) 114 = .ok (.aload_n 0, 1) := by decide +kernel
theorem dX11_init_115 : decode (mB 138) 115 = .ok (.getfield 10, 3) := by decide +kernel
theorem dX11_init_118 : decode (mB 138) 118 = .ok (.aload_n 0, 1) := by decide +kernel
theorem dX11_init_119 : decode (mB 138) 119 = .ok (.getfield 35, 3) := by decide +kernel
theorem dX11_init_122 : decode (mB 138) 122 = .ok (.invokespecial 66, 3) := by decide +kernel
theorem dX11_init_125 : decode (mB 138) 125 = .ok (.putfield 67, 3) := by decide +kernel
theorem dX11_init_128 : decode (mB 138) 128 = .ok (.aload_n 0, 1) := by decide +kernel
theorem dX11_init_129 : decode (mB 138) 129 = .ok (.new 71, 3) := by decide +kernel
theorem dX11_init_132 : decode (mB 138) 132 = .ok (.dup, 1) := by decide +kernel
theorem dX11_init_133 : decode (mB 138) 133 = .ok (.aload_n 0, 1) := by decide +kernel
theorem dX11_init_134 : decode (mB 138) 134 = .ok (.getfield 10, 3) := by decide +kernel
theorem dX11_init_137 : decode (mB 138) 137 = .ok (.invokespecial 73, 3) := by decide +kernel
theorem dX11_init_140 : decode (mB 138) 140 = .ok (.putfield 76, 3) := by decide +kernel
theorem dX11_init_143 : decode (mB 138) 143 = .ok (.aload_n 0, 1) := by decide +kernel
theorem dX11_init_144 : decode (mB 138) 144 = .ok (.new 80, 3) := by decide +kernel
theorem dX11_init_147 : decode (mB 138) 147 = .ok (.dup, 1) := by decide +kernel
theorem dX11_init_148 : decode (mB 138) 148 = .ok (.aload_n 0, 1) := by decide +kernel
theorem dX11_init_149 : decode (mB 138) 149 = .ok (.getfield 10, 3) := by decide +kernel
theorem dX11_init_152 : decode (mB 138) 152 = .ok (.invokespecial 82, 3) := by decide +kernel
theorem dX11_init_155 : decode (mB 138) 155 = .ok (.putfield 83, 3) := by decide +kernel
theorem dX11_init_158 : decode (mB 138) 158 = .ok (.aload_n 0, 1) := by decide +kernel
theorem dX11_init_159 : decode (mB 138) 159 = .ok (.new 87, 3) := by decide +kernel
theorem dX11_init_162 : decode (mB 138) 162 = .ok (.dup, 1) := by decide +kernel
theorem dX11_init_163 : decode (mB 138) 163 = .ok (.invokespecial 89, 3) := by decide +kernel
theorem dX11_init_166 : decode (mB 138) 166 = .ok (.putfield 90, 3) := by decide +kernel
theorem dX11_init_169 : decode (mB 138) 169 = .ok (.return_, 1) := by decide +kernel
theorem dX11_person_0 : decode (mB 139) 0 = .ok (.aload_n 0, 1) := by decide +kernel
theorem dX11_person_1 : decode (mB 139) 1 = .ok (.getfield 10, 3) := by decide +kernel
theorem dX11_person_4 : decode (mB 139) 4 = .ok (.iconst 0, 1) := by decide +kernel
theorem dX11_person_5 : decode (mB 139) 5 = .ok (.iload_n 1, 1) := by decide +kernel
theorem dX11_person_6 : decode (mB 139) 6 = .ok (.invokevirtual 94, 3) := by decide +kernel
theorem dX11_person_9 : decode (mB 139) 9 = .ok (.ifCond .ne 5, 3) := by decide +kernel
theorem dX11_person_12 : decode (mB 139) 12 = .ok (.iconst (-1), 1) := by decide +kernel
theorem dX11_person_13 : decode (mB 139) 13 = .ok (.ireturn, 1) := by decide +kernel
theorem dX11_person_14 : decode (mB 139) 14 = .ok (.aload_n 0, 1) := by decide +kernel
theorem dX11_person_15 : decode (mB 139) 15 = .ok (.getfield 10, 3) := by decide +kernel
theorem dX11_person_18 : decode (mB 139) 18 = .ok (.iload_n 1, 1) := by decide +kernel
theorem dX11_person_19 : decode (mB 139) 19 = .ok (.invokevirtual 98, 3) := by decide +kernel
theorem dX11_person_22 : decode (mB 139) 22 = .ok (.ireturn, 1) := by decide +kernel
theorem dX11_ticket_0 : decode (mB 140) 0 = .ok (.aload_n 0, 1) := by decide +kernel
theorem dX11_ticket_1 : decode (mB 140) 1 = .ok (.getfield 10, 3) := by decide +kernel
theorem dX11_ticket_4 : decode (mB 140) 4 = .ok (.iconst 4, 1) := by decide +kernel
theorem dX11_ticket_5 : decode (mB 140) 5 = .ok (.iload_n 1, 1) := by decide +kernel
theorem dX11_ticket_6 : decode (mB 140) 6 = .ok (.invokevirtual 94, 3) := by decide +kernel
theorem dX11_ticket_9 : decode (mB 140) 9 = .ok (.ifCond .eq 15, 3) := by decide +kernel
theorem dX11_ticket_12 : decode (mB 140) 12 = .ok (.aload_n 0, 1) := by decide +kernel
theorem dX11_ticket_13 : decode (mB 140) 13 = .ok (.getfield 10, 3) := by decide +kernel
theorem dX11_ticket_16 : decode (mB 140) 16 = .ok (.iconst 5, 1) := by decide +kernel
theorem dX11_ticket_17 : decode (mB 140) 17 = .ok (.iload_n 2, 1) := by decide +kernel
theorem dX11_ticket_18 : decode (mB 140) 18 = .ok (.invokevirtual 94, 3) := by decide +kernel
theorem dX11_ticket_21 : decode (mB 140) 21 = .ok (.ifCond .ne 5, 3) := by decide +kernel
theorem dX11_ticket_24 : decode (mB 140) 24 = .ok (.iconst (-1), 1) := by decide +kernel
theorem dX11_ticket_25 : decode (mB 140) 25 = .ok (.ireturn, 1) := by decide +kernel
theorem dX11_ticket_26 : decode (mB 140) 26 = .ok (.aload_n 0, 1) := by decide +kernel
theorem dX11_ticket_27 : decode (mB 140) 27 = .ok (.getfield 10, 3) := by decide +kernel
theorem dX11_ticket_30 : decode (mB 140) 30 = .ok (.iload_n 1, 1) := by decide +kernel
theorem dX11_ticket_31 : decode (mB 140) 31 = .ok (.iload_n 2, 1) := by decide +kernel
theorem dX11_ticket_32 : decode (mB 140) 32 = .ok (.iconst 0, 1) := by decide +kernel
theorem dX11_ticket_33 : decode (mB 140) 33 = .ok (.invokevirtual 102, 3) := by decide +kernel
theorem dX11_ticket_36 : decode (mB 140) 36 = .ok (.ireturn, 1) := by decide +kernel
theorem dX11_tickets_0 : decode (mB 141) 0 = .ok (.aload_n 0, 1) := by decide +kernel
theorem dX11_tickets_1 : decode (mB 141) 1 = .ok (.getfield 42, 3) := by decide +kernel
theorem dX11_tickets_4 : decode (mB 141) 4 = .ok (.iload_n 1, 1) := by decide +kernel
theorem dX11_tickets_5 : decode (mB 141) 5 = .ok (.invokevirtual 106, 3) := by decide +kernel
theorem dX11_tickets_8 : decode (mB 141) 8 = .ok (.ifCond .eq 14, 3) := by decide +kernel
theorem dX11_tickets_11 : decode (mB 141) 11 = .ok (.iload_n 3, 1) := by decide +kernel
theorem dX11_tickets_12 : decode (mB 141) 12 = .ok (.iconst 1, 1) := by decide +kernel
theorem dX11_tickets_13 : decode (mB 141) 13 = .ok (.if_icmp .lt 9, 3) := by decide +kernel
theorem dX11_tickets_16 : decode (mB 141) 16 = .ok (.iload_n 3, 1) := by decide +kernel
theorem dX11_tickets_17 : decode (mB 141) 17 = .ok (.bipush 12, 2) := by decide +kernel
theorem dX11_tickets_19 : decode (mB 141) 19 = .ok (.if_icmp .le 5, 3) := by decide +kernel
theorem dX11_tickets_22 : decode (mB 141) 22 = .ok (.iconst (-1), 1) := by decide +kernel
theorem dX11_tickets_23 : decode (mB 141) 23 = .ok (.ireturn, 1) := by decide +kernel
theorem dX11_tickets_24 : decode (mB 141) 24 = .ok (.aload_n 0, 1) := by decide +kernel
theorem dX11_tickets_25 : decode (mB 141) 25 = .ok (.getfield 42, 3) := by decide +kernel
theorem dX11_tickets_28 : decode (mB 141) 28 = .ok (.iload_n 1, 1) := by decide +kernel
theorem dX11_tickets_29 : decode (mB 141) 29 = .ok (.invokevirtual 110, 3) := by decide +kernel
theorem dX11_tickets_32 : decode (mB 141) 32 = .ok (.istore 4, 2) := by decide +kernel
theorem dX11_tickets_34 : decode (mB 141) 34 = .ok (.iload 4, 2) := by decide +kernel
theorem dX11_tickets_36 : decode (mB 141) 36 = .ok (.bipush (-12), 2) := by decide +kernel
theorem dX11_tickets_38 : decode (mB 141) 38 = .ok (.if_icmp .ne 6, 3) := by decide +kernel
theorem dX11_tickets_41 : decode (mB 141) 41 = .ok (.bipush (-12), 2) := by decide +kernel
theorem dX11_tickets_43 : decode (mB 141) 43 = .ok (.ireturn, 1) := by decide +kernel
theorem dX11_tickets_44 : decode (mB 141) 44 = .ok (.iload 4, 2) := by decide +kernel
theorem dX11_tickets_46 : decode (mB 141) 46 = .ok (.bipush (-11), 2) := by decide +kernel
theorem dX11_tickets_48 : decode (mB 141) 48 = .ok (.if_icmp .eq 7, 3) := by decide +kernel
theorem dX11_tickets_51 : decode (mB 141) 51 = .ok (.iload_n 2, 1) := by decide +kernel
theorem dX11_tickets_52 : decode (mB 141) 52 = .ok (.ifCond .ge 5, 3) := by decide +kernel
theorem dX11_tickets_55 : decode (mB 141) 55 = .ok (.iconst 0, 1) := by decide +kernel
theorem dX11_tickets_56 : decode (mB 141) 56 = .ok (.ireturn, 1) := by decide +kernel
theorem dX11_tickets_57 : decode (mB 141) 57 = .ok (.iconst 0, 1) := by decide +kernel
theorem dX11_tickets_58 : decode (mB 141) 58 = .ok (.istore 5, 2) := by decide +kernel
theorem dX11_tickets_60 : decode (mB 141) 60 = .ok (.iconst 0, 1) := by decide +kernel
theorem dX11_tickets_61 : decode (mB 141) 61 = .ok (.istore 6, 2) := by decide +kernel
theorem dX11_tickets_63 : decode (mB 141) 63 = .ok (.iload 6, 2) := by decide +kernel
theorem dX11_tickets_65 : decode (mB 141) 65 = .ok (.iload_n 3, 1) := by decide +kernel
theorem dX11_tickets_66 : decode (mB 141) 66 = .ok (.if_icmp .ge 23, 3) := by decide +kernel
theorem dX11_tickets_69 : decode (mB 141) 69 = .ok (.aload_n 0, 1) := by decide +kernel
theorem dX11_tickets_70 : decode (mB 141) 70 = .ok (.iload_n 1, 1) := by decide +kernel
theorem dX11_tickets_71 : decode (mB 141) 71 = .ok (.iload_n 2, 1) := by decide +kernel
theorem dX11_tickets_72 : decode (mB 141) 72 = .ok (.iload 6, 2) := by decide +kernel
theorem dX11_tickets_74 : decode (mB 141) 74 = .ok (.invokevirtual 113, 3) := by decide +kernel
theorem dX11_tickets_77 : decode (mB 141) 77 = .ok (.ifCond .eq 12, 3) := by decide +kernel
theorem dX11_tickets_80 : decode (mB 141) 80 = .ok (.iinc 5 1, 3) := by decide +kernel
theorem dX11_tickets_83 : decode (mB 141) 83 = .ok (.iinc 6 1, 3) := by decide +kernel
theorem dX11_tickets_86 : decode (mB 141) 86 = .ok (.goto (-23), 3) := by decide +kernel
theorem dX11_tickets_89 : decode (mB 141) 89 = .ok (.iload 5, 2) := by decide +kernel
theorem dX11_tickets_91 : decode (mB 141) 91 = .ok (.ireturn, 1) := by decide +kernel
theorem dX11_addFromRow_0 : decode (mB 142) 0 = .ok (.iload_n 2, 1) := by decide +kernel
theorem dX11_addFromRow_1 : decode (mB 142) 1 = .ok (.i2l, 1) := by decide +kernel
theorem dX11_addFromRow_2 : decode (mB 142) 2 = .ok (.ldc2_w 117, 3) := by decide +kernel
theorem dX11_addFromRow_5 : decode (mB 142) 5 = .ok (.iload_n 3, 1) := by decide +kernel
theorem dX11_addFromRow_6 : decode (mB 142) 6 = .ok (.i2l, 1) := by decide +kernel
theorem dX11_addFromRow_7 : decode (mB 142) 7 = .ok (.lmul, 1) := by decide +kernel
theorem dX11_addFromRow_8 : decode (mB 142) 8 = .ok (.ladd, 1) := by decide +kernel
theorem dX11_addFromRow_9 : decode (mB 142) 9 = .ok (.lstore 4, 2) := by decide +kernel
theorem dX11_addFromRow_11 : decode (mB 142) 11 = .ok (.lload 4, 2) := by decide +kernel
theorem dX11_addFromRow_13 : decode (mB 142) 13 = .ok (.ldc2_w 117, 3) := by decide +kernel
theorem dX11_addFromRow_16 : decode (mB 142) 16 = .ok (.ladd, 1) := by decide +kernel
theorem dX11_addFromRow_17 : decode (mB 142) 17 = .ok (.aload_n 0, 1) := by decide +kernel
theorem dX11_addFromRow_18 : decode (mB 142) 18 = .ok (.getfield 42, 3) := by decide +kernel
theorem dX11_addFromRow_21 : decode (mB 142) 21 = .ok (.iload_n 1, 1) := by decide +kernel
theorem dX11_addFromRow_22 : decode (mB 142) 22 = .ok (.invokevirtual 119, 3) := by decide +kernel
theorem dX11_addFromRow_25 : decode (mB 142) 25 = .ok (.i2l, 1) := by decide +kernel
theorem dX11_addFromRow_26 : decode (mB 142) 26 = .ok (.lcmp, 1) := by decide +kernel
theorem dX11_addFromRow_27 : decode (mB 142) 27 = .ok (.ifCond .le 5, 3) := by decide +kernel
theorem dX11_addFromRow_30 : decode (mB 142) 30 = .ok (.iconst 0, 1) := by decide +kernel
theorem dX11_addFromRow_31 : decode (mB 142) 31 = .ok (.ireturn, 1) := by decide +kernel
theorem dX11_addFromRow_32 : decode (mB 142) 32 = .ok (.aload_n 0, 1) := by decide +kernel
theorem dX11_addFromRow_33 : decode (mB 142) 33 = .ok (.getfield 42, 3) := by decide +kernel
theorem dX11_addFromRow_36 : decode (mB 142) 36 = .ok (.iload_n 1, 1) := by decide +kernel
theorem dX11_addFromRow_37 : decode (mB 142) 37 = .ok (.lload 4, 2) := by decide +kernel
theorem dX11_addFromRow_39 : decode (mB 142) 39 = .ok (.l2i, 1) := by decide +kernel
theorem dX11_addFromRow_40 : decode (mB 142) 40 = .ok (.invokevirtual 122, 3) := by decide +kernel
theorem dX11_addFromRow_43 : decode (mB 142) 43 = .ok (.l2i, 1) := by decide +kernel
theorem dX11_addFromRow_44 : decode (mB 142) 44 = .ok (.istore 6, 2) := by decide +kernel
theorem dX11_addFromRow_46 : decode (mB 142) 46 = .ok (.aload_n 0, 1) := by decide +kernel
theorem dX11_addFromRow_47 : decode (mB 142) 47 = .ok (.getfield 42, 3) := by decide +kernel
theorem dX11_addFromRow_50 : decode (mB 142) 50 = .ok (.iload_n 1, 1) := by decide +kernel
theorem dX11_addFromRow_51 : decode (mB 142) 51 = .ok (.lload 4, 2) := by decide +kernel
theorem dX11_addFromRow_53 : decode (mB 142) 53 = .ok (.l2i, 1) := by decide +kernel
theorem dX11_addFromRow_54 : decode (mB 142) 54 = .ok (.iconst 1, 1) := by decide +kernel
theorem dX11_addFromRow_55 : decode (mB 142) 55 = .ok (.iadd, 1) := by decide +kernel
theorem dX11_addFromRow_56 : decode (mB 142) 56 = .ok (.invokevirtual 122, 3) := by decide +kernel
theorem dX11_addFromRow_59 : decode (mB 142) 59 = .ok (.l2i, 1) := by decide +kernel
theorem dX11_addFromRow_60 : decode (mB 142) 60 = .ok (.istore 7, 2) := by decide +kernel
theorem dX11_addFromRow_62 : decode (mB 142) 62 = .ok (.aload_n 0, 1) := by decide +kernel
theorem dX11_addFromRow_63 : decode (mB 142) 63 = .ok (.getfield 42, 3) := by decide +kernel
theorem dX11_addFromRow_66 : decode (mB 142) 66 = .ok (.iload_n 1, 1) := by decide +kernel
theorem dX11_addFromRow_67 : decode (mB 142) 67 = .ok (.lload 4, 2) := by decide +kernel
theorem dX11_addFromRow_69 : decode (mB 142) 69 = .ok (.l2i, 1) := by decide +kernel
theorem dX11_addFromRow_70 : decode (mB 142) 70 = .ok (.iconst 2, 1) := by decide +kernel
theorem dX11_addFromRow_71 : decode (mB 142) 71 = .ok (.iadd, 1) := by decide +kernel
theorem dX11_addFromRow_72 : decode (mB 142) 72 = .ok (.invokevirtual 122, 3) := by decide +kernel
theorem dX11_addFromRow_75 : decode (mB 142) 75 = .ok (.l2i, 1) := by decide +kernel
theorem dX11_addFromRow_76 : decode (mB 142) 76 = .ok (.istore 8, 2) := by decide +kernel
theorem dX11_addFromRow_78 : decode (mB 142) 78 = .ok (.aload_n 0, 1) := by decide +kernel
theorem dX11_addFromRow_79 : decode (mB 142) 79 = .ok (.getfield 10, 3) := by decide +kernel
theorem dX11_addFromRow_82 : decode (mB 142) 82 = .ok (.iconst 4, 1) := by decide +kernel
theorem dX11_addFromRow_83 : decode (mB 142) 83 = .ok (.iload 6, 2) := by decide +kernel
theorem dX11_addFromRow_85 : decode (mB 142) 85 = .ok (.invokevirtual 94, 3) := by decide +kernel
theorem dX11_addFromRow_88 : decode (mB 142) 88 = .ok (.ifCond .eq 30, 3) := by decide +kernel
theorem dX11_addFromRow_91 : decode (mB 142) 91 = .ok (.aload_n 0, 1) := by decide +kernel
theorem dX11_addFromRow_92 : decode (mB 142) 92 = .ok (.getfield 10, 3) := by decide +kernel
theorem dX11_addFromRow_95 : decode (mB 142) 95 = .ok (.iconst 5, 1) := by decide +kernel
theorem dX11_addFromRow_96 : decode (mB 142) 96 = .ok (.iload 7, 2) := by decide +kernel
theorem dX11_addFromRow_98 : decode (mB 142) 98 = .ok (.invokevirtual 94, 3) := by decide +kernel
theorem dX11_addFromRow_101 : decode (mB 142) 101 = .ok (.ifCond .eq 17, 3) := by decide +kernel
theorem dX11_addFromRow_104 : decode (mB 142) 104 = .ok (.aload_n 0, 1) := by decide +kernel
theorem dX11_addFromRow_105 : decode (mB 142) 105 = .ok (.getfield 10, 3) := by decide +kernel
theorem dX11_addFromRow_108 : decode (mB 142) 108 = .ok (.bipush 6, 2) := by decide +kernel
theorem dX11_addFromRow_110 : decode (mB 142) 110 = .ok (.iload 8, 2) := by decide +kernel
theorem dX11_addFromRow_112 : decode (mB 142) 112 = .ok (.invokevirtual 94, 3) := by decide +kernel
theorem dX11_addFromRow_115 : decode (mB 142) 115 = .ok (.ifCond .ne 5, 3) := by decide +kernel
theorem dX11_addFromRow_118 : decode (mB 142) 118 = .ok (.iconst 0, 1) := by decide +kernel
theorem dX11_addFromRow_119 : decode (mB 142) 119 = .ok (.ireturn, 1) := by decide +kernel
theorem dX11_addFromRow_120 : decode (mB 142) 120 = .ok (.aload_n 0, 1) := by decide +kernel
theorem dX11_addFromRow_121 : decode (mB 142) 121 = .ok (.getfield 10, 3) := by decide +kernel
theorem dX11_addFromRow_124 : decode (mB 142) 124 = .ok (.iload 6, 2) := by decide +kernel
theorem dX11_addFromRow_126 : decode (mB 142) 126 = .ok (.iload 7, 2) := by decide +kernel
theorem dX11_addFromRow_128 : decode (mB 142) 128 = .ok (.iload 8, 2) := by decide +kernel
theorem dX11_addFromRow_130 : decode (mB 142) 130 = .ok (.invokevirtual 102, 3) := by decide +kernel
theorem dX11_addFromRow_133 : decode (mB 142) 133 = .ok (.bipush (-3), 2) := by decide +kernel
theorem dX11_addFromRow_135 : decode (mB 142) 135 = .ok (.if_icmp .eq 7, 3) := by decide +kernel
theorem dX11_addFromRow_138 : decode (mB 142) 138 = .ok (.iconst 1, 1) := by decide +kernel
theorem dX11_addFromRow_139 : decode (mB 142) 139 = .ok (.goto 4, 3) := by decide +kernel
theorem dX11_addFromRow_142 : decode (mB 142) 142 = .ok (.iconst 0, 1) := by decide +kernel
theorem dX11_addFromRow_143 : decode (mB 142) 143 = .ok (.ireturn, 1) := by decide +kernel
theorem dX11_mend_0 : decode (mB 143) 0 = .ok (.aload_n 0, 1) := by decide +kernel
theorem dX11_mend_1 : decode (mB 143) 1 = .ok (.getfield 10, 3) := by decide +kernel
theorem dX11_mend_4 : decode (mB 143) 4 = .ok (.iload_n 2, 1) := by decide +kernel
theorem dX11_mend_5 : decode (mB 143) 5 = .ok (.iload_n 1, 1) := by decide +kernel
theorem dX11_mend_6 : decode (mB 143) 6 = .ok (.invokevirtual 126, 3) := by decide +kernel
theorem dX11_mend_9 : decode (mB 143) 9 = .ok (.ifCond .eq 15, 3) := by decide +kernel
theorem dX11_mend_12 : decode (mB 143) 12 = .ok (.aload_n 0, 1) := by decide +kernel
theorem dX11_mend_13 : decode (mB 143) 13 = .ok (.getfield 10, 3) := by decide +kernel
theorem dX11_mend_16 : decode (mB 143) 16 = .ok (.iload_n 2, 1) := by decide +kernel
theorem dX11_mend_17 : decode (mB 143) 17 = .ok (.iload_n 3, 1) := by decide +kernel
theorem dX11_mend_18 : decode (mB 143) 18 = .ok (.invokevirtual 94, 3) := by decide +kernel
theorem dX11_mend_21 : decode (mB 143) 21 = .ok (.ifCond .ne 5, 3) := by decide +kernel
theorem dX11_mend_24 : decode (mB 143) 24 = .ok (.iconst (-1), 1) := by decide +kernel
theorem dX11_mend_25 : decode (mB 143) 25 = .ok (.ireturn, 1) := by decide +kernel
theorem dX11_mend_26 : decode (mB 143) 26 = .ok (.aload_n 0, 1) := by decide +kernel
theorem dX11_mend_27 : decode (mB 143) 27 = .ok (.getfield 10, 3) := by decide +kernel
theorem dX11_mend_30 : decode (mB 143) 30 = .ok (.iload_n 2, 1) := by decide +kernel
theorem dX11_mend_31 : decode (mB 143) 31 = .ok (.iload_n 1, 1) := by decide +kernel
theorem dX11_mend_32 : decode (mB 143) 32 = .ok (.invokevirtual 129, 3) := by decide +kernel
theorem dX11_mend_35 : decode (mB 143) 35 = .ok (.istore 4, 2) := by decide +kernel
theorem dX11_mend_37 : decode (mB 143) 37 = .ok (.iload 4, 2) := by decide +kernel
theorem dX11_mend_39 : decode (mB 143) 39 = .ok (.iload_n 3, 1) := by decide +kernel
theorem dX11_mend_40 : decode (mB 143) 40 = .ok (.if_icmp .eq 25, 3) := by decide +kernel
theorem dX11_mend_43 : decode (mB 143) 43 = .ok (.aload_n 0, 1) := by decide +kernel
theorem dX11_mend_44 : decode (mB 143) 44 = .ok (.getfield 83, 3) := by decide +kernel
theorem dX11_mend_47 : decode (mB 143) 47 = .ok (.iload_n 2, 1) := by decide +kernel
theorem dX11_mend_48 : decode (mB 143) 48 = .ok (.iload_n 1, 1) := by decide +kernel
theorem dX11_mend_49 : decode (mB 143) 49 = .ok (.iload 4, 2) := by decide +kernel
theorem dX11_mend_51 : decode (mB 143) 51 = .ok (.iload_n 3, 1) := by decide +kernel
theorem dX11_mend_52 : decode (mB 143) 52 = .ok (.invokevirtual 132, 3) := by decide +kernel
theorem dX11_mend_55 : decode (mB 143) 55 = .ok (.aload_n 0, 1) := by decide +kernel
theorem dX11_mend_56 : decode (mB 143) 56 = .ok (.getfield 10, 3) := by decide +kernel
theorem dX11_mend_59 : decode (mB 143) 59 = .ok (.iload_n 2, 1) := by decide +kernel
theorem dX11_mend_60 : decode (mB 143) 60 = .ok (.iload_n 1, 1) := by decide +kernel
theorem dX11_mend_61 : decode (mB 143) 61 = .ok (.iload_n 3, 1) := by decide +kernel
theorem dX11_mend_62 : decode (mB 143) 62 = .ok (.invokevirtual 136, 3) := by decide +kernel
theorem dX11_mend_65 : decode (mB 143) 65 = .ok (.iload 4, 2) := by decide +kernel
theorem dX11_mend_67 : decode (mB 143) 67 = .ok (.ireturn, 1) := by decide +kernel
theorem dX11_of_0 : decode (mB 144) 0 = .ok (.iload_n 2, 1) := by decide +kernel
theorem dX11_of_1 : decode (mB 144) 1 = .ok (.bipush 9, 2) := by decide +kernel
theorem dX11_of_3 : decode (mB 144) 3 = .ok (.if_icmp .eq 9, 3) := by decide +kernel
theorem dX11_of_6 : decode (mB 144) 6 = .ok (.iload_n 2, 1) := by decide +kernel
theorem dX11_of_7 : decode (mB 144) 7 = .ok (.bipush 10, 2) := by decide +kernel
theorem dX11_of_9 : decode (mB 144) 9 = .ok (.if_icmp .ne 42, 3) := by decide +kernel
theorem dX11_of_12 : decode (mB 144) 12 = .ok (.aload_n 0, 1) := by decide +kernel
theorem dX11_of_13 : decode (mB 144) 13 = .ok (.getfield 10, 3) := by decide +kernel
theorem dX11_of_16 : decode (mB 144) 16 = .ok (.iload_n 1, 1) := by decide +kernel
theorem dX11_of_17 : decode (mB 144) 17 = .ok (.invokevirtual 140, 3) := by decide +kernel
theorem dX11_of_20 : decode (mB 144) 20 = .ok (.ifCond .ne 5, 3) := by decide +kernel
theorem dX11_of_23 : decode (mB 144) 23 = .ok (.iconst (-1), 1) := by decide +kernel
theorem dX11_of_24 : decode (mB 144) 24 = .ok (.ireturn, 1) := by decide +kernel
theorem dX11_of_25 : decode (mB 144) 25 = .ok (.iload_n 2, 1) := by decide +kernel
theorem dX11_of_26 : decode (mB 144) 26 = .ok (.bipush 9, 2) := by decide +kernel
theorem dX11_of_28 : decode (mB 144) 28 = .ok (.if_icmp .ne 14, 3) := by decide +kernel
theorem dX11_of_31 : decode (mB 144) 31 = .ok (.aload_n 0, 1) := by decide +kernel
theorem dX11_of_32 : decode (mB 144) 32 = .ok (.invokevirtual 143, 3) := by decide +kernel
theorem dX11_of_35 : decode (mB 144) 35 = .ok (.iload_n 1, 1) := by decide +kernel
theorem dX11_of_36 : decode (mB 144) 36 = .ok (.invokevirtual 147, 3) := by decide +kernel
theorem dX11_of_39 : decode (mB 144) 39 = .ok (.goto 11, 3) := by decide +kernel
theorem dX11_of_42 : decode (mB 144) 42 = .ok (.aload_n 0, 1) := by decide +kernel
theorem dX11_of_43 : decode (mB 144) 43 = .ok (.invokevirtual 143, 3) := by decide +kernel
theorem dX11_of_46 : decode (mB 144) 46 = .ok (.iload_n 1, 1) := by decide +kernel
theorem dX11_of_47 : decode (mB 144) 47 = .ok (.invokevirtual 150, 3) := by decide +kernel
theorem dX11_of_50 : decode (mB 144) 50 = .ok (.ireturn, 1) := by decide +kernel
theorem dX11_of_51 : decode (mB 144) 51 = .ok (.aload_n 0, 1) := by decide +kernel
theorem dX11_of_52 : decode (mB 144) 52 = .ok (.getfield 10, 3) := by decide +kernel
theorem dX11_of_55 : decode (mB 144) 55 = .ok (.iload_n 2, 1) := by decide +kernel
theorem dX11_of_56 : decode (mB 144) 56 = .ok (.iload_n 1, 1) := by decide +kernel
theorem dX11_of_57 : decode (mB 144) 57 = .ok (.invokevirtual 126, 3) := by decide +kernel
theorem dX11_of_60 : decode (mB 144) 60 = .ok (.ifCond .eq 15, 3) := by decide +kernel
theorem dX11_of_63 : decode (mB 144) 63 = .ok (.aload_n 0, 1) := by decide +kernel
theorem dX11_of_64 : decode (mB 144) 64 = .ok (.getfield 10, 3) := by decide +kernel
theorem dX11_of_67 : decode (mB 144) 67 = .ok (.iload_n 2, 1) := by decide +kernel
theorem dX11_of_68 : decode (mB 144) 68 = .ok (.iload_n 1, 1) := by decide +kernel
theorem dX11_of_69 : decode (mB 144) 69 = .ok (.invokevirtual 129, 3) := by decide +kernel
theorem dX11_of_72 : decode (mB 144) 72 = .ok (.goto 4, 3) := by decide +kernel
theorem dX11_of_75 : decode (mB 144) 75 = .ok (.iconst (-1), 1) := by decide +kernel
theorem dX11_of_76 : decode (mB 144) 76 = .ok (.ireturn, 1) := by decide +kernel
theorem dX11_feed_0 : decode (mB 145) 0 = .ok (.iload_n 1, 1) := by decide +kernel
theorem dX11_feed_1 : decode (mB 145) 1 = .ok (.ifCond .lt 10, 3) := by decide +kernel
theorem dX11_feed_4 : decode (mB 145) 4 = .ok (.iload_n 1, 1) := by decide +kernel
theorem dX11_feed_5 : decode (mB 145) 5 = .ok (.sipush 255, 3) := by decide +kernel
theorem dX11_feed_8 : decode (mB 145) 8 = .ok (.if_icmp .le 5, 3) := by decide +kernel
theorem dX11_feed_11 : decode (mB 145) 11 = .ok (.iconst (-1), 1) := by decide +kernel
theorem dX11_feed_12 : decode (mB 145) 12 = .ok (.ireturn, 1) := by decide +kernel
theorem dX11_feed_13 : decode (mB 145) 13 = .ok (.aload_n 0, 1) := by decide +kernel
theorem dX11_feed_14 : decode (mB 145) 14 = .ok (.getfield 26, 3) := by decide +kernel
theorem dX11_feed_17 : decode (mB 145) 17 = .ok (.iload_n 1, 1) := by decide +kernel
theorem dX11_feed_18 : decode (mB 145) 18 = .ok (.invokevirtual 153, 3) := by decide +kernel
theorem dX11_feed_21 : decode (mB 145) 21 = .ok (.ireturn, 1) := by decide +kernel
theorem dX11_law_0 : decode (mB 146) 0 = .ok (.aload_n 0, 1) := by decide +kernel
theorem dX11_law_1 : decode (mB 146) 1 = .ok (.getfield 26, 3) := by decide +kernel
theorem dX11_law_4 : decode (mB 146) 4 = .ok (.invokevirtual 156, 3) := by decide +kernel
theorem dX11_law_7 : decode (mB 146) 7 = .ok (.istore_n 1, 1) := by decide +kernel
theorem dX11_law_8 : decode (mB 146) 8 = .ok (.iload_n 1, 1) := by decide +kernel
theorem dX11_law_9 : decode (mB 146) 9 = .ok (.ifCond .ge 17, 3) := by decide +kernel
theorem dX11_law_12 : decode (mB 146) 12 = .ok (.aload_n 0, 1) := by decide +kernel
theorem dX11_law_13 : decode (mB 146) 13 = .ok (.getfield 19, 3) := by decide +kernel
theorem dX11_law_16 : decode (mB 146) 16 = .ok (.aload_n 0, 1) := by decide +kernel
theorem dX11_law_17 : decode (mB 146) 17 = .ok (.getfield 26, 3) := by decide +kernel
theorem dX11_law_20 : decode (mB 146) 20 = .ok (.invokevirtual 160, 3) := by decide +kernel
theorem dX11_law_23 : decode (mB 146) 23 = .ok (.invokevirtual 164, 3) := by decide +kernel
theorem dX11_law_26 : decode (mB 146) 26 = .ok (.aload_n 0, 1) := by decide +kernel
theorem dX11_law_27 : decode (mB 146) 27 = .ok (.getfield 26, 3) := by decide +kernel
theorem dX11_law_30 : decode (mB 146) 30 = .ok (.invokevirtual 168, 3) := by decide +kernel
theorem dX11_law_33 : decode (mB 146) 33 = .ok (.iload_n 1, 1) := by decide +kernel
theorem dX11_law_34 : decode (mB 146) 34 = .ok (.ifCond .ge 7, 3) := by decide +kernel
theorem dX11_law_37 : decode (mB 146) 37 = .ok (.iconst 1, 1) := by decide +kernel
theorem dX11_law_38 : decode (mB 146) 38 = .ok (.goto 7, 3) := by decide +kernel
theorem dX11_law_41 : decode (mB 146) 41 = .ok (.bipush (-100), 2) := by decide +kernel
theorem dX11_law_43 : decode (mB 146) 43 = .ok (.iload_n 1, 1) := by decide +kernel
theorem dX11_law_44 : decode (mB 146) 44 = .ok (.isub, 1) := by decide +kernel
theorem dX11_law_45 : decode (mB 146) 45 = .ok (.ireturn, 1) := by decide +kernel
theorem dX11_odds_0 : decode (mB 147) 0 = .ok (.aload_n 0, 1) := by decide +kernel
theorem dX11_odds_1 : decode (mB 147) 1 = .ok (.getfield 10, 3) := by decide +kernel
theorem dX11_odds_4 : decode (mB 147) 4 = .ok (.iload_n 1, 1) := by decide +kernel
theorem dX11_odds_5 : decode (mB 147) 5 = .ok (.invokevirtual 171, 3) := by decide +kernel
theorem dX11_odds_8 : decode (mB 147) 8 = .ok (.ifCond .eq 20, 3) := by decide +kernel
theorem dX11_odds_11 : decode (mB 147) 11 = .ok (.aload_n 0, 1) := by decide +kernel
theorem dX11_odds_12 : decode (mB 147) 12 = .ok (.invokevirtual 143, 3) := by decide +kernel
theorem dX11_odds_15 : decode (mB 147) 15 = .ok (.iload_n 1, 1) := by decide +kernel
theorem dX11_odds_16 : decode (mB 147) 16 = .ok (.iconst 3, 1) := by decide +kernel
theorem dX11_odds_17 : decode (mB 147) 17 = .ok (.ishr, 1) := by decide +kernel
theorem dX11_odds_18 : decode (mB 147) 18 = .ok (.iload_n 1, 1) := by decide +kernel
theorem dX11_odds_19 : decode (mB 147) 19 = .ok (.bipush 7, 2) := by decide +kernel
theorem dX11_odds_21 : decode (mB 147) 21 = .ok (.iand, 1) := by decide +kernel
theorem dX11_odds_22 : decode (mB 147) 22 = .ok (.invokevirtual 174, 3) := by decide +kernel
theorem dX11_odds_25 : decode (mB 147) 25 = .ok (.goto 4, 3) := by decide +kernel
theorem dX11_odds_28 : decode (mB 147) 28 = .ok (.iconst (-1), 1) := by decide +kernel
theorem dX11_odds_29 : decode (mB 147) 29 = .ok (.ireturn, 1) := by decide +kernel
theorem dX11_now_0 : decode (mB 148) 0 = .ok (.aload_n 0, 1) := by decide +kernel
theorem dX11_now_1 : decode (mB 148) 1 = .ok (.getfield 35, 3) := by decide +kernel
theorem dX11_now_4 : decode (mB 148) 4 = .ok (.invokevirtual 177, 3) := by decide +kernel
theorem dX11_now_7 : decode (mB 148) 7 = .ok (.aload_n 0, 1) := by decide +kernel
theorem dX11_now_8 : decode (mB 148) 8 = .ok (.getfield 35, 3) := by decide +kernel
theorem dX11_now_11 : decode (mB 148) 11 = .ok (.areturn, 1) := by decide +kernel
theorem dX11_later_0 : decode (mB 149) 0 = .ok (.aload_n 0, 1) := by decide +kernel
theorem dX11_later_1 : decode (mB 149) 1 = .ok (.getfield 42, 3) := by decide +kernel
theorem dX11_later_4 : decode (mB 149) 4 = .ok (.iload_n 1, 1) := by decide +kernel
theorem dX11_later_5 : decode (mB 149) 5 = .ok (.invokevirtual 106, 3) := by decide +kernel
theorem dX11_later_8 : decode (mB 149) 8 = .ok (.ifCond .eq 24, 3) := by decide +kernel
theorem dX11_later_11 : decode (mB 149) 11 = .ok (.iload_n 2, 1) := by decide +kernel
theorem dX11_later_12 : decode (mB 149) 12 = .ok (.ifCond .lt 20, 3) := by decide +kernel
theorem dX11_later_15 : decode (mB 149) 15 = .ok (.iload_n 2, 1) := by decide +kernel
theorem dX11_later_16 : decode (mB 149) 16 = .ok (.bipush 12, 2) := by decide +kernel
theorem dX11_later_18 : decode (mB 149) 18 = .ok (.if_icmp .gt 14, 3) := by decide +kernel
theorem dX11_later_21 : decode (mB 149) 21 = .ok (.aload_n 0, 1) := by decide +kernel
theorem dX11_later_22 : decode (mB 149) 22 = .ok (.getfield 10, 3) := by decide +kernel
theorem dX11_later_25 : decode (mB 149) 25 = .ok (.iload_n 3, 1) := by decide +kernel
theorem dX11_later_26 : decode (mB 149) 26 = .ok (.invokevirtual 180, 3) := by decide +kernel
theorem dX11_later_29 : decode (mB 149) 29 = .ok (.ifCond .ne 5, 3) := by decide +kernel
theorem dX11_later_32 : decode (mB 149) 32 = .ok (.iconst (-1), 1) := by decide +kernel
theorem dX11_later_33 : decode (mB 149) 33 = .ok (.ireturn, 1) := by decide +kernel
theorem dX11_later_34 : decode (mB 149) 34 = .ok (.aload_n 0, 1) := by decide +kernel
theorem dX11_later_35 : decode (mB 149) 35 = .ok (.getfield 42, 3) := by decide +kernel
theorem dX11_later_38 : decode (mB 149) 38 = .ok (.iload_n 1, 1) := by decide +kernel
theorem dX11_later_39 : decode (mB 149) 39 = .ok (.invokevirtual 110, 3) := by decide +kernel
theorem dX11_later_42 : decode (mB 149) 42 = .ok (.istore 4, 2) := by decide +kernel
theorem dX11_later_44 : decode (mB 149) 44 = .ok (.iload 4, 2) := by decide +kernel
theorem dX11_later_46 : decode (mB 149) 46 = .ok (.ifCond .eq 6, 3) := by decide +kernel
theorem dX11_later_49 : decode (mB 149) 49 = .ok (.iload 4, 2) := by decide +kernel
theorem dX11_later_51 : decode (mB 149) 51 = .ok (.ireturn, 1) := by decide +kernel
theorem dX11_later_52 : decode (mB 149) 52 = .ok (.aload_n 0, 1) := by decide +kernel
theorem dX11_later_53 : decode (mB 149) 53 = .ok (.getfield 51, 3) := by decide +kernel
theorem dX11_later_56 : decode (mB 149) 56 = .ok (.aload_n 0, 1) := by decide +kernel
theorem dX11_later_57 : decode (mB 149) 57 = .ok (.getfield 42, 3) := by decide +kernel
theorem dX11_later_60 : decode (mB 149) 60 = .ok (.iload_n 1, 1) := by decide +kernel
theorem dX11_later_61 : decode (mB 149) 61 = .ok (.invokevirtual 183, 3) := by decide +kernel
theorem dX11_later_64 : decode (mB 149) 64 = .ok (.aload_n 0, 1) := by decide +kernel
theorem dX11_later_65 : decode (mB 149) 65 = .ok (.getfield 51, 3) := by decide +kernel
theorem dX11_later_68 : decode (mB 149) 68 = .ok (.iload_n 2, 1) := by decide +kernel
theorem dX11_later_69 : decode (mB 149) 69 = .ok (.invokevirtual 186, 3) := by decide +kernel
theorem dX11_later_72 : decode (mB 149) 72 = .ok (.aload_n 0, 1) := by decide +kernel
theorem dX11_later_73 : decode (mB 149) 73 = .ok (.getfield 35, 3) := by decide +kernel
theorem dX11_later_76 : decode (mB 149) 76 = .ok (.iload_n 3, 1) := by decide +kernel
theorem dX11_later_77 : decode (mB 149) 77 = .ok (.invokevirtual 190, 3) := by decide +kernel
theorem dX11_later_80 : decode (mB 149) 80 = .ok (.ireturn, 1) := by decide +kernel
theorem dX11_eve_0 : decode (mB 150) 0 = .ok (.aload_n 0, 1) := by decide +kernel
theorem dX11_eve_1 : decode (mB 150) 1 = .ok (.getfield 42, 3) := by decide +kernel
theorem dX11_eve_4 : decode (mB 150) 4 = .ok (.iload_n 1, 1) := by decide +kernel
theorem dX11_eve_5 : decode (mB 150) 5 = .ok (.invokevirtual 106, 3) := by decide +kernel
theorem dX11_eve_8 : decode (mB 150) 8 = .ok (.ifCond .eq 35, 3) := by decide +kernel
theorem dX11_eve_11 : decode (mB 150) 11 = .ok (.iload_n 2, 1) := by decide +kernel
theorem dX11_eve_12 : decode (mB 150) 12 = .ok (.ifCond .lt 31, 3) := by decide +kernel
theorem dX11_eve_15 : decode (mB 150) 15 = .ok (.iload_n 2, 1) := by decide +kernel
theorem dX11_eve_16 : decode (mB 150) 16 = .ok (.bipush 12, 2) := by decide +kernel
theorem dX11_eve_18 : decode (mB 150) 18 = .ok (.if_icmp .gt 25, 3) := by decide +kernel
theorem dX11_eve_21 : decode (mB 150) 21 = .ok (.iload_n 3, 1) := by decide +kernel
theorem dX11_eve_22 : decode (mB 150) 22 = .ok (.iconst (-1), 1) := by decide +kernel
theorem dX11_eve_23 : decode (mB 150) 23 = .ok (.if_icmp .eq 22, 3) := by decide +kernel
theorem dX11_eve_26 : decode (mB 150) 26 = .ok (.iload_n 3, 1) := by decide +kernel
theorem dX11_eve_27 : decode (mB 150) 27 = .ok (.bipush (-2), 2) := by decide +kernel
theorem dX11_eve_29 : decode (mB 150) 29 = .ok (.if_icmp .eq 16, 3) := by decide +kernel
theorem dX11_eve_32 : decode (mB 150) 32 = .ok (.aload_n 0, 1) := by decide +kernel
theorem dX11_eve_33 : decode (mB 150) 33 = .ok (.getfield 10, 3) := by decide +kernel
theorem dX11_eve_36 : decode (mB 150) 36 = .ok (.iload_n 3, 1) := by decide +kernel
theorem dX11_eve_37 : decode (mB 150) 37 = .ok (.invokevirtual 140, 3) := by decide +kernel
theorem dX11_eve_40 : decode (mB 150) 40 = .ok (.ifCond .ne 5, 3) := by decide +kernel
theorem dX11_eve_43 : decode (mB 150) 43 = .ok (.iconst (-1), 1) := by decide +kernel
theorem dX11_eve_44 : decode (mB 150) 44 = .ok (.ireturn, 1) := by decide +kernel
theorem dX11_eve_45 : decode (mB 150) 45 = .ok (.aload_n 0, 1) := by decide +kernel
theorem dX11_eve_46 : decode (mB 150) 46 = .ok (.getfield 42, 3) := by decide +kernel
theorem dX11_eve_49 : decode (mB 150) 49 = .ok (.iload_n 1, 1) := by decide +kernel
theorem dX11_eve_50 : decode (mB 150) 50 = .ok (.invokevirtual 110, 3) := by decide +kernel
theorem dX11_eve_53 : decode (mB 150) 53 = .ok (.istore 4, 2) := by decide +kernel
theorem dX11_eve_55 : decode (mB 150) 55 = .ok (.iload 4, 2) := by decide +kernel
theorem dX11_eve_57 : decode (mB 150) 57 = .ok (.ifCond .eq 6, 3) := by decide +kernel
theorem dX11_eve_60 : decode (mB 150) 60 = .ok (.iload 4, 2) := by decide +kernel
theorem dX11_eve_62 : decode (mB 150) 62 = .ok (.ireturn, 1) := by decide +kernel
theorem dX11_eve_63 : decode (mB 150) 63 = .ok (.aload_n 0, 1) := by decide +kernel
theorem dX11_eve_64 : decode (mB 150) 64 = .ok (.getfield 51, 3) := by decide +kernel
theorem dX11_eve_67 : decode (mB 150) 67 = .ok (.aload_n 0, 1) := by decide +kernel
theorem dX11_eve_68 : decode (mB 150) 68 = .ok (.getfield 42, 3) := by decide +kernel
theorem dX11_eve_71 : decode (mB 150) 71 = .ok (.iload_n 1, 1) := by decide +kernel
theorem dX11_eve_72 : decode (mB 150) 72 = .ok (.invokevirtual 183, 3) := by decide +kernel
theorem dX11_eve_75 : decode (mB 150) 75 = .ok (.aload_n 0, 1) := by decide +kernel
theorem dX11_eve_76 : decode (mB 150) 76 = .ok (.getfield 51, 3) := by decide +kernel
theorem dX11_eve_79 : decode (mB 150) 79 = .ok (.iload_n 2, 1) := by decide +kernel
theorem dX11_eve_80 : decode (mB 150) 80 = .ok (.invokevirtual 186, 3) := by decide +kernel
theorem dX11_eve_83 : decode (mB 150) 83 = .ok (.iload_n 3, 1) := by decide +kernel
theorem dX11_eve_84 : decode (mB 150) 84 = .ok (.iconst (-1), 1) := by decide +kernel
theorem dX11_eve_85 : decode (mB 150) 85 = .ok (.if_icmp .ne 11, 3) := by decide +kernel
theorem dX11_eve_88 : decode (mB 150) 88 = .ok (.aload_n 0, 1) := by decide +kernel
theorem dX11_eve_89 : decode (mB 150) 89 = .ok (.getfield 51, 3) := by decide +kernel
theorem dX11_eve_92 : decode (mB 150) 92 = .ok (.invokevirtual 193, 3) := by decide +kernel
theorem dX11_eve_95 : decode (mB 150) 95 = .ok (.ireturn, 1) := by decide +kernel
theorem dX11_eve_96 : decode (mB 150) 96 = .ok (.iload_n 3, 1) := by decide +kernel
theorem dX11_eve_97 : decode (mB 150) 97 = .ok (.bipush (-2), 2) := by decide +kernel
theorem dX11_eve_99 : decode (mB 150) 99 = .ok (.if_icmp .ne 13, 3) := by decide +kernel
theorem dX11_eve_102 : decode (mB 150) 102 = .ok (.aload_n 0, 1) := by decide +kernel
theorem dX11_eve_103 : decode (mB 150) 103 = .ok (.getfield 51, 3) := by decide +kernel
theorem dX11_eve_106 : decode (mB 150) 106 = .ok (.invokevirtual 196, 3) := by decide +kernel
theorem dX11_eve_109 : decode (mB 150) 109 = .ok (.goto 11, 3) := by decide +kernel
theorem dX11_eve_112 : decode (mB 150) 112 = .ok (.aload_n 0, 1) := by decide +kernel
theorem dX11_eve_113 : decode (mB 150) 113 = .ok (.getfield 35, 3) := by decide +kernel
theorem dX11_eve_116 : decode (mB 150) 116 = .ok (.iload_n 3, 1) := by decide +kernel
theorem dX11_eve_117 : decode (mB 150) 117 = .ok (.invokevirtual 150, 3) := by decide +kernel
theorem dX11_eve_120 : decode (mB 150) 120 = .ok (.ireturn, 1) := by decide +kernel
theorem dX11_likely_0 : decode (mB 151) 0 = .ok (.aload_n 0, 1) := by decide +kernel
theorem dX11_likely_1 : decode (mB 151) 1 = .ok (.getfield 42, 3) := by decide +kernel
theorem dX11_likely_4 : decode (mB 151) 4 = .ok (.iload_n 1, 1) := by decide +kernel
theorem dX11_likely_5 : decode (mB 151) 5 = .ok (.invokevirtual 110, 3) := by decide +kernel
theorem dX11_likely_8 : decode (mB 151) 8 = .ok (.ifCond .ne 21, 3) := by decide +kernel
theorem dX11_likely_11 : decode (mB 151) 11 = .ok (.iload_n 2, 1) := by decide +kernel
theorem dX11_likely_12 : decode (mB 151) 12 = .ok (.ifCond .lt 17, 3) := by decide +kernel
theorem dX11_likely_15 : decode (mB 151) 15 = .ok (.iload_n 2, 1) := by decide +kernel
theorem dX11_likely_16 : decode (mB 151) 16 = .ok (.sipush 4095, 3) := by decide +kernel
theorem dX11_likely_19 : decode (mB 151) 19 = .ok (.if_icmp .gt 10, 3) := by decide +kernel
theorem dX11_likely_22 : decode (mB 151) 22 = .ok (.iload_n 3, 1) := by decide +kernel
theorem dX11_likely_23 : decode (mB 151) 23 = .ok (.invokestatic 199, 3) := by decide +kernel
theorem dX11_likely_26 : decode (mB 151) 26 = .ok (.ifCond .ne 7, 3) := by decide +kernel
theorem dX11_likely_29 : decode (mB 151) 29 = .ok (.ldc2_w 204, 3) := by decide +kernel
theorem dX11_likely_32 : decode (mB 151) 32 = .ok (.lreturn, 1) := by decide +kernel
theorem dX11_likely_33 : decode (mB 151) 33 = .ok (.aload_n 0, 1) := by decide +kernel
theorem dX11_likely_34 : decode (mB 151) 34 = .ok (.getfield 51, 3) := by decide +kernel
theorem dX11_likely_37 : decode (mB 151) 37 = .ok (.aload_n 0, 1) := by decide +kernel
theorem dX11_likely_38 : decode (mB 151) 38 = .ok (.getfield 42, 3) := by decide +kernel
theorem dX11_likely_41 : decode (mB 151) 41 = .ok (.iload_n 1, 1) := by decide +kernel
theorem dX11_likely_42 : decode (mB 151) 42 = .ok (.invokevirtual 183, 3) := by decide +kernel
theorem dX11_likely_45 : decode (mB 151) 45 = .ok (.aload_n 0, 1) := by decide +kernel
theorem dX11_likely_46 : decode (mB 151) 46 = .ok (.getfield 51, 3) := by decide +kernel
theorem dX11_likely_49 : decode (mB 151) 49 = .ok (.iload_n 2, 1) := by decide +kernel
theorem dX11_likely_50 : decode (mB 151) 50 = .ok (.invokevirtual 206, 3) := by decide +kernel
theorem dX11_likely_53 : decode (mB 151) 53 = .ok (.aload_n 0, 1) := by decide +kernel
theorem dX11_likely_54 : decode (mB 151) 54 = .ok (.getfield 51, 3) := by decide +kernel
theorem dX11_likely_57 : decode (mB 151) 57 = .ok (.invokevirtual 209, 3) := by decide +kernel
theorem dX11_likely_60 : decode (mB 151) 60 = .ok (.aload_n 0, 1) := by decide +kernel
theorem dX11_likely_61 : decode (mB 151) 61 = .ok (.getfield 51, 3) := by decide +kernel
theorem dX11_likely_64 : decode (mB 151) 64 = .ok (.invokevirtual 213, 3) := by decide +kernel
theorem dX11_likely_67 : decode (mB 151) 67 = .ok (.iload_n 3, 1) := by decide +kernel
theorem dX11_likely_68 : decode (mB 151) 68 = .ok (.invokestatic 216, 3) := by decide +kernel
theorem dX11_likely_71 : decode (mB 151) 71 = .ok (.lreturn, 1) := by decide +kernel
theorem dX11_all_0 : decode (mB 152) 0 = .ok (.aload_n 0, 1) := by decide +kernel
theorem dX11_all_1 : decode (mB 152) 1 = .ok (.getfield 42, 3) := by decide +kernel
theorem dX11_all_4 : decode (mB 152) 4 = .ok (.iload_n 1, 1) := by decide +kernel
theorem dX11_all_5 : decode (mB 152) 5 = .ok (.invokevirtual 110, 3) := by decide +kernel
theorem dX11_all_8 : decode (mB 152) 8 = .ok (.ifCond .ne 10, 3) := by decide +kernel
theorem dX11_all_11 : decode (mB 152) 11 = .ok (.iload_n 2, 1) := by decide +kernel
theorem dX11_all_12 : decode (mB 152) 12 = .ok (.invokestatic 199, 3) := by decide +kernel
theorem dX11_all_15 : decode (mB 152) 15 = .ok (.ifCond .ne 7, 3) := by decide +kernel
theorem dX11_all_18 : decode (mB 152) 18 = .ok (.ldc2_w 204, 3) := by decide +kernel
theorem dX11_all_21 : decode (mB 152) 21 = .ok (.lreturn, 1) := by decide +kernel
theorem dX11_all_22 : decode (mB 152) 22 = .ok (.aload_n 0, 1) := by decide +kernel
theorem dX11_all_23 : decode (mB 152) 23 = .ok (.getfield 51, 3) := by decide +kernel
theorem dX11_all_26 : decode (mB 152) 26 = .ok (.aload_n 0, 1) := by decide +kernel
theorem dX11_all_27 : decode (mB 152) 27 = .ok (.getfield 42, 3) := by decide +kernel
theorem dX11_all_30 : decode (mB 152) 30 = .ok (.iload_n 1, 1) := by decide +kernel
theorem dX11_all_31 : decode (mB 152) 31 = .ok (.invokevirtual 183, 3) := by decide +kernel
theorem dX11_all_34 : decode (mB 152) 34 = .ok (.aload_n 0, 1) := by decide +kernel
theorem dX11_all_35 : decode (mB 152) 35 = .ok (.getfield 51, 3) := by decide +kernel
theorem dX11_all_38 : decode (mB 152) 38 = .ok (.invokevirtual 220, 3) := by decide +kernel
theorem dX11_all_41 : decode (mB 152) 41 = .ok (.aload_n 0, 1) := by decide +kernel
theorem dX11_all_42 : decode (mB 152) 42 = .ok (.getfield 51, 3) := by decide +kernel
theorem dX11_all_45 : decode (mB 152) 45 = .ok (.invokevirtual 209, 3) := by decide +kernel
theorem dX11_all_48 : decode (mB 152) 48 = .ok (.aload_n 0, 1) := by decide +kernel
theorem dX11_all_49 : decode (mB 152) 49 = .ok (.getfield 51, 3) := by decide +kernel
theorem dX11_all_52 : decode (mB 152) 52 = .ok (.invokevirtual 213, 3) := by decide +kernel
theorem dX11_all_55 : decode (mB 152) 55 = .ok (.iload_n 2, 1) := by decide +kernel
theorem dX11_all_56 : decode (mB 152) 56 = .ok (.invokestatic 216, 3) := by decide +kernel
theorem dX11_all_59 : decode (mB 152) 59 = .ok (.lreturn, 1) := by decide +kernel
theorem dX11_isPart_0 : decode (mB 153) 0 = .ok (.iload_n 0, 1) := by decide +kernel
theorem dX11_isPart_1 : decode (mB 153) 1 = .ok (.ifCond .eq 8, 3) := by decide +kernel
theorem dX11_isPart_4 : decode (mB 153) 4 = .ok (.iload_n 0, 1) := by decide +kernel
theorem dX11_isPart_5 : decode (mB 153) 5 = .ok (.iconst 1, 1) := by decide +kernel
theorem dX11_isPart_6 : decode (mB 153) 6 = .ok (.if_icmp .ne 7, 3) := by decide +kernel
theorem dX11_isPart_9 : decode (mB 153) 9 = .ok (.iconst 1, 1) := by decide +kernel
theorem dX11_isPart_10 : decode (mB 153) 10 = .ok (.goto 4, 3) := by decide +kernel
theorem dX11_isPart_13 : decode (mB 153) 13 = .ok (.iconst 0, 1) := by decide +kernel
theorem dX11_isPart_14 : decode (mB 153) 14 = .ok (.ireturn, 1) := by decide +kernel
theorem dX11_partOf_0 : decode (mB 154) 0 = .ok (.lload_n 0, 1) := by decide +kernel
theorem dX11_partOf_1 : decode (mB 154) 1 = .ok (.lconst 0, 1) := by decide +kernel
theorem dX11_partOf_2 : decode (mB 154) 2 = .ok (.lcmp, 1) := by decide +kernel
theorem dX11_partOf_3 : decode (mB 154) 3 = .ok (.ifCond .eq 9, 3) := by decide +kernel
theorem dX11_partOf_6 : decode (mB 154) 6 = .ok (.lload_n 2, 1) := by decide +kernel
theorem dX11_partOf_7 : decode (mB 154) 7 = .ok (.lconst 0, 1) := by decide +kernel
theorem dX11_partOf_8 : decode (mB 154) 8 = .ok (.lcmp, 1) := by decide +kernel
theorem dX11_partOf_9 : decode (mB 154) 9 = .ok (.ifCond .ne 7, 3) := by decide +kernel
theorem dX11_partOf_12 : decode (mB 154) 12 = .ok (.iload 4, 2) := by decide +kernel
theorem dX11_partOf_14 : decode (mB 154) 14 = .ok (.i2l, 1) := by decide +kernel
theorem dX11_partOf_15 : decode (mB 154) 15 = .ok (.lreturn, 1) := by decide +kernel
theorem dX11_partOf_16 : decode (mB 154) 16 = .ok (.lload_n 2, 1) := by decide +kernel
theorem dX11_partOf_17 : decode (mB 154) 17 = .ok (.lstore 5, 2) := by decide +kernel
theorem dX11_partOf_19 : decode (mB 154) 19 = .ok (.lload_n 0, 1) := by decide +kernel
theorem dX11_partOf_20 : decode (mB 154) 20 = .ok (.lstore 7, 2) := by decide +kernel
theorem dX11_partOf_22 : decode (mB 154) 22 = .ok (.iconst 0, 1) := by decide +kernel
theorem dX11_partOf_23 : decode (mB 154) 23 = .ok (.istore 9, 2) := by decide +kernel
theorem dX11_partOf_25 : decode (mB 154) 25 = .ok (.iload 9, 2) := by decide +kernel
theorem dX11_partOf_27 : decode (mB 154) 27 = .ok (.sipush 200, 3) := by decide +kernel
theorem dX11_partOf_30 : decode (mB 154) 30 = .ok (.if_icmp .ge 31, 3) := by decide +kernel
theorem dX11_partOf_33 : decode (mB 154) 33 = .ok (.lload 7, 2) := by decide +kernel
theorem dX11_partOf_35 : decode (mB 154) 35 = .ok (.lconst 0, 1) := by decide +kernel
theorem dX11_partOf_36 : decode (mB 154) 36 = .ok (.lcmp, 1) := by decide +kernel
theorem dX11_partOf_37 : decode (mB 154) 37 = .ok (.ifCond .eq 24, 3) := by decide +kernel
theorem dX11_partOf_40 : decode (mB 154) 40 = .ok (.lload 5, 2) := by decide +kernel
theorem dX11_partOf_42 : decode (mB 154) 42 = .ok (.lload 7, 2) := by decide +kernel
theorem dX11_partOf_44 : decode (mB 154) 44 = .ok (.lrem, 1) := by decide +kernel
theorem dX11_partOf_45 : decode (mB 154) 45 = .ok (.lstore 10, 2) := by decide +kernel
theorem dX11_partOf_47 : decode (mB 154) 47 = .ok (.lload 7, 2) := by decide +kernel
theorem dX11_partOf_49 : decode (mB 154) 49 = .ok (.lstore 5, 2) := by decide +kernel
theorem dX11_partOf_51 : decode (mB 154) 51 = .ok (.lload 10, 2) := by decide +kernel
theorem dX11_partOf_53 : decode (mB 154) 53 = .ok (.lstore 7, 2) := by decide +kernel
theorem dX11_partOf_55 : decode (mB 154) 55 = .ok (.iinc 9 1, 3) := by decide +kernel
theorem dX11_partOf_58 : decode (mB 154) 58 = .ok (.goto (-33), 3) := by decide +kernel
theorem dX11_partOf_61 : decode (mB 154) 61 = .ok (.lload 5, 2) := by decide +kernel
theorem dX11_partOf_63 : decode (mB 154) 63 = .ok (.lconst 0, 1) := by decide +kernel
theorem dX11_partOf_64 : decode (mB 154) 64 = .ok (.lcmp, 1) := by decide +kernel
theorem dX11_partOf_65 : decode (mB 154) 65 = .ok (.ifCond .ne 7, 3) := by decide +kernel
theorem dX11_partOf_68 : decode (mB 154) 68 = .ok (.iload 4, 2) := by decide +kernel
theorem dX11_partOf_70 : decode (mB 154) 70 = .ok (.i2l, 1) := by decide +kernel
theorem dX11_partOf_71 : decode (mB 154) 71 = .ok (.lreturn, 1) := by decide +kernel
theorem dX11_partOf_72 : decode (mB 154) 72 = .ok (.iload 4, 2) := by decide +kernel
theorem dX11_partOf_74 : decode (mB 154) 74 = .ok (.ifCond .ne 7, 3) := by decide +kernel
theorem dX11_partOf_77 : decode (mB 154) 77 = .ok (.lload_n 0, 1) := by decide +kernel
theorem dX11_partOf_78 : decode (mB 154) 78 = .ok (.goto 4, 3) := by decide +kernel
theorem dX11_partOf_81 : decode (mB 154) 81 = .ok (.lload_n 2, 1) := by decide +kernel
theorem dX11_partOf_82 : decode (mB 154) 82 = .ok (.lload 5, 2) := by decide +kernel
theorem dX11_partOf_84 : decode (mB 154) 84 = .ok (.ldiv, 1) := by decide +kernel
theorem dX11_partOf_85 : decode (mB 154) 85 = .ok (.lreturn, 1) := by decide +kernel
theorem dX11_king_0 : decode (mB 155) 0 = .ok (.aload_n 0, 1) := by decide +kernel
theorem dX11_king_1 : decode (mB 155) 1 = .ok (.getfield 10, 3) := by decide +kernel
theorem dX11_king_4 : decode (mB 155) 4 = .ok (.iload_n 1, 1) := by decide +kernel
theorem dX11_king_5 : decode (mB 155) 5 = .ok (.invokevirtual 140, 3) := by decide +kernel
theorem dX11_king_8 : decode (mB 155) 8 = .ok (.ifCond .eq 10, 3) := by decide +kernel
theorem dX11_king_11 : decode (mB 155) 11 = .ok (.iload_n 2, 1) := by decide +kernel
theorem dX11_king_12 : decode (mB 155) 12 = .ok (.invokestatic 199, 3) := by decide +kernel
theorem dX11_king_15 : decode (mB 155) 15 = .ok (.ifCond .ne 7, 3) := by decide +kernel
theorem dX11_king_18 : decode (mB 155) 18 = .ok (.ldc2_w 204, 3) := by decide +kernel
theorem dX11_king_21 : decode (mB 155) 21 = .ok (.lreturn, 1) := by decide +kernel
theorem dX11_king_22 : decode (mB 155) 22 = .ok (.aload_n 0, 1) := by decide +kernel
theorem dX11_king_23 : decode (mB 155) 23 = .ok (.invokevirtual 143, 3) := by decide +kernel
theorem dX11_king_26 : decode (mB 155) 26 = .ok (.astore_n 3, 1) := by decide +kernel
theorem dX11_king_27 : decode (mB 155) 27 = .ok (.aload_n 3, 1) := by decide +kernel
theorem dX11_king_28 : decode (mB 155) 28 = .ok (.iload_n 1, 1) := by decide +kernel
theorem dX11_king_29 : decode (mB 155) 29 = .ok (.invokevirtual 150, 3) := by decide +kernel
theorem dX11_king_32 : decode (mB 155) 32 = .ok (.i2l, 1) := by decide +kernel
theorem dX11_king_33 : decode (mB 155) 33 = .ok (.aload_n 3, 1) := by decide +kernel
theorem dX11_king_34 : decode (mB 155) 34 = .ok (.invokevirtual 223, 3) := by decide +kernel
theorem dX11_king_37 : decode (mB 155) 37 = .ok (.i2l, 1) := by decide +kernel
theorem dX11_king_38 : decode (mB 155) 38 = .ok (.iload_n 2, 1) := by decide +kernel
theorem dX11_king_39 : decode (mB 155) 39 = .ok (.invokestatic 216, 3) := by decide +kernel
theorem dX11_king_42 : decode (mB 155) 42 = .ok (.lreturn, 1) := by decide +kernel
theorem dX11_safe_0 : decode (mB 156) 0 = .ok (.aload_n 0, 1) := by decide +kernel
theorem dX11_safe_1 : decode (mB 156) 1 = .ok (.invokevirtual 143, 3) := by decide +kernel
theorem dX11_safe_4 : decode (mB 156) 4 = .ok (.astore_n 1, 1) := by decide +kernel
theorem dX11_safe_5 : decode (mB 156) 5 = .ok (.iconst 0, 1) := by decide +kernel
theorem dX11_safe_6 : decode (mB 156) 6 = .ok (.istore_n 2, 1) := by decide +kernel
theorem dX11_safe_7 : decode (mB 156) 7 = .ok (.iconst 0, 1) := by decide +kernel
theorem dX11_safe_8 : decode (mB 156) 8 = .ok (.istore_n 3, 1) := by decide +kernel
theorem dX11_safe_9 : decode (mB 156) 9 = .ok (.iload_n 3, 1) := by decide +kernel
theorem dX11_safe_10 : decode (mB 156) 10 = .ok (.aload_n 0, 1) := by decide +kernel
theorem dX11_safe_11 : decode (mB 156) 11 = .ok (.getfield 10, 3) := by decide +kernel
theorem dX11_safe_14 : decode (mB 156) 14 = .ok (.invokevirtual 226, 3) := by decide +kernel
theorem dX11_safe_17 : decode (mB 156) 17 = .ok (.if_icmp .ge 23, 3) := by decide +kernel
theorem dX11_safe_20 : decode (mB 156) 20 = .ok (.aload_n 1, 1) := by decide +kernel
theorem dX11_safe_21 : decode (mB 156) 21 = .ok (.iload_n 3, 1) := by decide +kernel
theorem dX11_safe_22 : decode (mB 156) 22 = .ok (.invokevirtual 150, 3) := by decide +kernel
theorem dX11_safe_25 : decode (mB 156) 25 = .ok (.ifCond .ne 9, 3) := by decide +kernel
theorem dX11_safe_28 : decode (mB 156) 28 = .ok (.iload_n 2, 1) := by decide +kernel
theorem dX11_safe_29 : decode (mB 156) 29 = .ok (.iconst 1, 1) := by decide +kernel
theorem dX11_safe_30 : decode (mB 156) 30 = .ok (.iload_n 3, 1) := by decide +kernel
theorem dX11_safe_31 : decode (mB 156) 31 = .ok (.ishl, 1) := by decide +kernel
theorem dX11_safe_32 : decode (mB 156) 32 = .ok (.ior, 1) := by decide +kernel
theorem dX11_safe_33 : decode (mB 156) 33 = .ok (.istore_n 2, 1) := by decide +kernel
theorem dX11_safe_34 : decode (mB 156) 34 = .ok (.iinc 3 1, 3) := by decide +kernel
theorem dX11_safe_37 : decode (mB 156) 37 = .ok (.goto (-28), 3) := by decide +kernel
theorem dX11_safe_40 : decode (mB 156) 40 = .ok (.iload_n 2, 1) := by decide +kernel
theorem dX11_safe_41 : decode (mB 156) 41 = .ok (.ireturn, 1) := by decide +kernel
theorem dX11_likeliest_0 : decode (mB 157) 0 = .ok (.aload_n 0, 1) := by decide +kernel
theorem dX11_likeliest_1 : decode (mB 157) 1 = .ok (.invokevirtual 143, 3) := by decide +kernel
theorem dX11_likeliest_4 : decode (mB 157) 4 = .ok (.astore_n 1, 1) := by decide +kernel
theorem dX11_likeliest_5 : decode (mB 157) 5 = .ok (.iconst 0, 1) := by decide +kernel
theorem dX11_likeliest_6 : decode (mB 157) 6 = .ok (.istore_n 2, 1) := by decide +kernel
theorem dX11_likeliest_7 : decode (mB 157) 7 = .ok (.bipush (-2), 2) := by decide +kernel
theorem dX11_likeliest_9 : decode (mB 157) 9 = .ok (.istore_n 3, 1) := by decide +kernel
theorem dX11_likeliest_10 : decode (mB 157) 10 = .ok (.iconst 0, 1) := by decide +kernel
theorem dX11_likeliest_11 : decode (mB 157) 11 = .ok (.istore 4, 2) := by decide +kernel
theorem dX11_likeliest_13 : decode (mB 157) 13 = .ok (.iload 4, 2) := by decide +kernel
theorem dX11_likeliest_15 : decode (mB 157) 15 = .ok (.aload_n 0, 1) := by decide +kernel
theorem dX11_likeliest_16 : decode (mB 157) 16 = .ok (.getfield 10, 3) := by decide +kernel
theorem dX11_likeliest_19 : decode (mB 157) 19 = .ok (.invokevirtual 226, 3) := by decide +kernel
theorem dX11_likeliest_22 : decode (mB 157) 22 = .ok (.if_icmp .ge 29, 3) := by decide +kernel
theorem dX11_likeliest_25 : decode (mB 157) 25 = .ok (.aload_n 1, 1) := by decide +kernel
theorem dX11_likeliest_26 : decode (mB 157) 26 = .ok (.iload 4, 2) := by decide +kernel
theorem dX11_likeliest_28 : decode (mB 157) 28 = .ok (.invokevirtual 150, 3) := by decide +kernel
theorem dX11_likeliest_31 : decode (mB 157) 31 = .ok (.istore 5, 2) := by decide +kernel
theorem dX11_likeliest_33 : decode (mB 157) 33 = .ok (.iload 5, 2) := by decide +kernel
theorem dX11_likeliest_35 : decode (mB 157) 35 = .ok (.iload_n 2, 1) := by decide +kernel
theorem dX11_likeliest_36 : decode (mB 157) 36 = .ok (.if_icmp .le 9, 3) := by decide +kernel
theorem dX11_likeliest_39 : decode (mB 157) 39 = .ok (.iload 5, 2) := by decide +kernel
theorem dX11_likeliest_41 : decode (mB 157) 41 = .ok (.istore_n 2, 1) := by decide +kernel
theorem dX11_likeliest_42 : decode (mB 157) 42 = .ok (.iload 4, 2) := by decide +kernel
theorem dX11_likeliest_44 : decode (mB 157) 44 = .ok (.istore_n 3, 1) := by decide +kernel
theorem dX11_likeliest_45 : decode (mB 157) 45 = .ok (.iinc 4 1, 3) := by decide +kernel
theorem dX11_likeliest_48 : decode (mB 157) 48 = .ok (.goto (-35), 3) := by decide +kernel
theorem dX11_likeliest_51 : decode (mB 157) 51 = .ok (.iload_n 3, 1) := by decide +kernel
theorem dX11_likeliest_52 : decode (mB 157) 52 = .ok (.ireturn, 1) := by decide +kernel
theorem dX11_watch_0 : decode (mB 158) 0 = .ok (.aload_n 0, 1) := by decide +kernel
theorem dX11_watch_1 : decode (mB 158) 1 = .ok (.getfield 10, 3) := by decide +kernel
theorem dX11_watch_4 : decode (mB 158) 4 = .ok (.iload_n 1, 1) := by decide +kernel
theorem dX11_watch_5 : decode (mB 158) 5 = .ok (.invokevirtual 140, 3) := by decide +kernel
theorem dX11_watch_8 : decode (mB 158) 8 = .ok (.ifCond .ne 5, 3) := by decide +kernel
theorem dX11_watch_11 : decode (mB 158) 11 = .ok (.iconst (-1), 1) := by decide +kernel
theorem dX11_watch_12 : decode (mB 158) 12 = .ok (.ireturn, 1) := by decide +kernel
theorem dX11_watch_13 : decode (mB 158) 13 = .ok (.aload_n 0, 1) := by decide +kernel
theorem dX11_watch_14 : decode (mB 158) 14 = .ok (.invokevirtual 143, 3) := by decide +kernel
theorem dX11_watch_17 : decode (mB 158) 17 = .ok (.astore_n 2, 1) := by decide +kernel
theorem dX11_watch_18 : decode (mB 158) 18 = .ok (.iconst (-1), 1) := by decide +kernel
theorem dX11_watch_19 : decode (mB 158) 19 = .ok (.istore_n 3, 1) := by decide +kernel
theorem dX11_watch_20 : decode (mB 158) 20 = .ok (.bipush (-2), 2) := by decide +kernel
theorem dX11_watch_22 : decode (mB 158) 22 = .ok (.istore 4, 2) := by decide +kernel
theorem dX11_watch_24 : decode (mB 158) 24 = .ok (.iconst 0, 1) := by decide +kernel
theorem dX11_watch_25 : decode (mB 158) 25 = .ok (.istore 5, 2) := by decide +kernel
theorem dX11_watch_27 : decode (mB 158) 27 = .ok (.iload 5, 2) := by decide +kernel
theorem dX11_watch_29 : decode (mB 158) 29 = .ok (.aload_n 0, 1) := by decide +kernel
theorem dX11_watch_30 : decode (mB 158) 30 = .ok (.getfield 10, 3) := by decide +kernel
theorem dX11_watch_33 : decode (mB 158) 33 = .ok (.invokevirtual 229, 3) := by decide +kernel
theorem dX11_watch_36 : decode (mB 158) 36 = .ok (.if_icmp .ge 62, 3) := by decide +kernel
theorem dX11_watch_39 : decode (mB 158) 39 = .ok (.aload_n 2, 1) := by decide +kernel
theorem dX11_watch_40 : decode (mB 158) 40 = .ok (.iload 5, 2) := by decide +kernel
theorem dX11_watch_42 : decode (mB 158) 42 = .ok (.iload_n 1, 1) := by decide +kernel
theorem dX11_watch_43 : decode (mB 158) 43 = .ok (.invokevirtual 232, 3) := by decide +kernel
theorem dX11_watch_46 : decode (mB 158) 46 = .ok (.ifCond .eq 46, 3) := by decide +kernel
theorem dX11_watch_49 : decode (mB 158) 49 = .ok (.aload_n 2, 1) := by decide +kernel
theorem dX11_watch_50 : decode (mB 158) 50 = .ok (.iload 5, 2) := by decide +kernel
theorem dX11_watch_52 : decode (mB 158) 52 = .ok (.iload_n 1, 1) := by decide +kernel
theorem dX11_watch_53 : decode (mB 158) 53 = .ok (.invokevirtual 174, 3) := by decide +kernel
theorem dX11_watch_56 : decode (mB 158) 56 = .ok (.istore 6, 2) := by decide +kernel
theorem dX11_watch_58 : decode (mB 158) 58 = .ok (.aload_n 2, 1) := by decide +kernel
theorem dX11_watch_59 : decode (mB 158) 59 = .ok (.iload 5, 2) := by decide +kernel
theorem dX11_watch_61 : decode (mB 158) 61 = .ok (.invokevirtual 190, 3) := by decide +kernel
theorem dX11_watch_64 : decode (mB 158) 64 = .ok (.istore 7, 2) := by decide +kernel
theorem dX11_watch_66 : decode (mB 158) 66 = .ok (.iload 6, 2) := by decide +kernel
theorem dX11_watch_68 : decode (mB 158) 68 = .ok (.iload_n 3, 1) := by decide +kernel
theorem dX11_watch_69 : decode (mB 158) 69 = .ok (.if_icmp .gt 16, 3) := by decide +kernel
theorem dX11_watch_72 : decode (mB 158) 72 = .ok (.iload 6, 2) := by decide +kernel
theorem dX11_watch_74 : decode (mB 158) 74 = .ok (.iload_n 3, 1) := by decide +kernel
theorem dX11_watch_75 : decode (mB 158) 75 = .ok (.if_icmp .ne 17, 3) := by decide +kernel
theorem dX11_watch_78 : decode (mB 158) 78 = .ok (.iload 7, 2) := by decide +kernel
theorem dX11_watch_80 : decode (mB 158) 80 = .ok (.iload 4, 2) := by decide +kernel
theorem dX11_watch_82 : decode (mB 158) 82 = .ok (.if_icmp .ge 10, 3) := by decide +kernel
theorem dX11_watch_85 : decode (mB 158) 85 = .ok (.iload 6, 2) := by decide +kernel
theorem dX11_watch_87 : decode (mB 158) 87 = .ok (.istore_n 3, 1) := by decide +kernel
theorem dX11_watch_88 : decode (mB 158) 88 = .ok (.iload 7, 2) := by decide +kernel
theorem dX11_watch_90 : decode (mB 158) 90 = .ok (.istore 4, 2) := by decide +kernel
theorem dX11_watch_92 : decode (mB 158) 92 = .ok (.iinc 5 1, 3) := by decide +kernel
theorem dX11_watch_95 : decode (mB 158) 95 = .ok (.goto (-68), 3) := by decide +kernel
theorem dX11_watch_98 : decode (mB 158) 98 = .ok (.iload_n 3, 1) := by decide +kernel
theorem dX11_watch_99 : decode (mB 158) 99 = .ok (.ifCond .ge 8, 3) := by decide +kernel
theorem dX11_watch_102 : decode (mB 158) 102 = .ok (.bipush (-2), 2) := by decide +kernel
theorem dX11_watch_104 : decode (mB 158) 104 = .ok (.goto 10, 3) := by decide +kernel
theorem dX11_watch_107 : decode (mB 158) 107 = .ok (.bipush 100, 2) := by decide +kernel
theorem dX11_watch_109 : decode (mB 158) 109 = .ok (.iload_n 3, 1) := by decide +kernel
theorem dX11_watch_110 : decode (mB 158) 110 = .ok (.imul, 1) := by decide +kernel
theorem dX11_watch_111 : decode (mB 158) 111 = .ok (.iload 4, 2) := by decide +kernel
theorem dX11_watch_113 : decode (mB 158) 113 = .ok (.iadd, 1) := by decide +kernel
theorem dX11_watch_114 : decode (mB 158) 114 = .ok (.ireturn, 1) := by decide +kernel
theorem dX11_rid_0 : decode (mB 159) 0 = .ok (.aload_n 0, 1) := by decide +kernel
theorem dX11_rid_1 : decode (mB 159) 1 = .ok (.getfield 10, 3) := by decide +kernel
theorem dX11_rid_4 : decode (mB 159) 4 = .ok (.iload_n 1, 1) := by decide +kernel
theorem dX11_rid_5 : decode (mB 159) 5 = .ok (.invokevirtual 140, 3) := by decide +kernel
theorem dX11_rid_8 : decode (mB 159) 8 = .ok (.ifCond .eq 19, 3) := by decide +kernel
theorem dX11_rid_11 : decode (mB 159) 11 = .ok (.iload_n 2, 1) := by decide +kernel
theorem dX11_rid_12 : decode (mB 159) 12 = .ok (.ifCond .lt 15, 3) := by decide +kernel
theorem dX11_rid_15 : decode (mB 159) 15 = .ok (.iload_n 2, 1) := by decide +kernel
theorem dX11_rid_16 : decode (mB 159) 16 = .ok (.iconst 3, 1) := by decide +kernel
theorem dX11_rid_17 : decode (mB 159) 17 = .ok (.if_icmp .gt 10, 3) := by decide +kernel
theorem dX11_rid_20 : decode (mB 159) 20 = .ok (.iload_n 3, 1) := by decide +kernel
theorem dX11_rid_21 : decode (mB 159) 21 = .ok (.invokestatic 199, 3) := by decide +kernel
theorem dX11_rid_24 : decode (mB 159) 24 = .ok (.ifCond .ne 7, 3) := by decide +kernel
theorem dX11_rid_27 : decode (mB 159) 27 = .ok (.ldc2_w 204, 3) := by decide +kernel
theorem dX11_rid_30 : decode (mB 159) 30 = .ok (.lreturn, 1) := by decide +kernel
theorem dX11_rid_31 : decode (mB 159) 31 = .ok (.aload_n 0, 1) := by decide +kernel
theorem dX11_rid_32 : decode (mB 159) 32 = .ok (.getfield 67, 3) := by decide +kernel
theorem dX11_rid_35 : decode (mB 159) 35 = .ok (.iload_n 1, 1) := by decide +kernel
theorem dX11_rid_36 : decode (mB 159) 36 = .ok (.iload_n 2, 1) := by decide +kernel
theorem dX11_rid_37 : decode (mB 159) 37 = .ok (.invokevirtual 235, 3) := by decide +kernel
theorem dX11_rid_40 : decode (mB 159) 40 = .ok (.aload_n 0, 1) := by decide +kernel
theorem dX11_rid_41 : decode (mB 159) 41 = .ok (.getfield 67, 3) := by decide +kernel
theorem dX11_rid_44 : decode (mB 159) 44 = .ok (.invokevirtual 238, 3) := by decide +kernel
theorem dX11_rid_47 : decode (mB 159) 47 = .ok (.i2l, 1) := by decide +kernel
theorem dX11_rid_48 : decode (mB 159) 48 = .ok (.aload_n 0, 1) := by decide +kernel
theorem dX11_rid_49 : decode (mB 159) 49 = .ok (.getfield 67, 3) := by decide +kernel
theorem dX11_rid_52 : decode (mB 159) 52 = .ok (.invokevirtual 241, 3) := by decide +kernel
theorem dX11_rid_55 : decode (mB 159) 55 = .ok (.i2l, 1) := by decide +kernel
theorem dX11_rid_56 : decode (mB 159) 56 = .ok (.iload_n 3, 1) := by decide +kernel
theorem dX11_rid_57 : decode (mB 159) 57 = .ok (.invokestatic 216, 3) := by decide +kernel
theorem dX11_rid_60 : decode (mB 159) 60 = .ok (.lreturn, 1) := by decide +kernel
theorem dX11_first_0 : decode (mB 160) 0 = .ok (.aload_n 0, 1) := by decide +kernel
theorem dX11_first_1 : decode (mB 160) 1 = .ok (.getfield 10, 3) := by decide +kernel
theorem dX11_first_4 : decode (mB 160) 4 = .ok (.iload_n 1, 1) := by decide +kernel
theorem dX11_first_5 : decode (mB 160) 5 = .ok (.invokevirtual 140, 3) := by decide +kernel
theorem dX11_first_8 : decode (mB 160) 8 = .ok (.ifCond .eq 12, 3) := by decide +kernel
theorem dX11_first_11 : decode (mB 160) 11 = .ok (.iload_n 2, 1) := by decide +kernel
theorem dX11_first_12 : decode (mB 160) 12 = .ok (.ifCond .lt 8, 3) := by decide +kernel
theorem dX11_first_15 : decode (mB 160) 15 = .ok (.iload_n 2, 1) := by decide +kernel
theorem dX11_first_16 : decode (mB 160) 16 = .ok (.iconst 3, 1) := by decide +kernel
theorem dX11_first_17 : decode (mB 160) 17 = .ok (.if_icmp .le 5, 3) := by decide +kernel
theorem dX11_first_20 : decode (mB 160) 20 = .ok (.iconst (-1), 1) := by decide +kernel
theorem dX11_first_21 : decode (mB 160) 21 = .ok (.ireturn, 1) := by decide +kernel
theorem dX11_first_22 : decode (mB 160) 22 = .ok (.aload_n 0, 1) := by decide +kernel
theorem dX11_first_23 : decode (mB 160) 23 = .ok (.getfield 67, 3) := by decide +kernel
theorem dX11_first_26 : decode (mB 160) 26 = .ok (.iload_n 1, 1) := by decide +kernel
theorem dX11_first_27 : decode (mB 160) 27 = .ok (.iload_n 2, 1) := by decide +kernel
theorem dX11_first_28 : decode (mB 160) 28 = .ok (.invokevirtual 235, 3) := by decide +kernel
theorem dX11_first_31 : decode (mB 160) 31 = .ok (.aload_n 0, 1) := by decide +kernel
theorem dX11_first_32 : decode (mB 160) 32 = .ok (.getfield 67, 3) := by decide +kernel
theorem dX11_first_35 : decode (mB 160) 35 = .ok (.invokevirtual 244, 3) := by decide +kernel
theorem dX11_first_38 : decode (mB 160) 38 = .ok (.ireturn, 1) := by decide +kernel
theorem dX11_hire_0 : decode (mB 161) 0 = .ok (.aload_n 0, 1) := by decide +kernel
theorem dX11_hire_1 : decode (mB 161) 1 = .ok (.getfield 10, 3) := by decide +kernel
theorem dX11_hire_4 : decode (mB 161) 4 = .ok (.iload_n 1, 1) := by decide +kernel
theorem dX11_hire_5 : decode (mB 161) 5 = .ok (.invokevirtual 140, 3) := by decide +kernel
theorem dX11_hire_8 : decode (mB 161) 8 = .ok (.ifCond .eq 22, 3) := by decide +kernel
theorem dX11_hire_11 : decode (mB 161) 11 = .ok (.iload_n 2, 1) := by decide +kernel
theorem dX11_hire_12 : decode (mB 161) 12 = .ok (.ifCond .lt 18, 3) := by decide +kernel
theorem dX11_hire_15 : decode (mB 161) 15 = .ok (.iload_n 2, 1) := by decide +kernel
theorem dX11_hire_16 : decode (mB 161) 16 = .ok (.bipush 12, 2) := by decide +kernel
theorem dX11_hire_18 : decode (mB 161) 18 = .ok (.if_icmp .gt 12, 3) := by decide +kernel
theorem dX11_hire_21 : decode (mB 161) 21 = .ok (.iload_n 3, 1) := by decide +kernel
theorem dX11_hire_22 : decode (mB 161) 22 = .ok (.ifCond .lt 8, 3) := by decide +kernel
theorem dX11_hire_25 : decode (mB 161) 25 = .ok (.iload_n 3, 1) := by decide +kernel
theorem dX11_hire_26 : decode (mB 161) 26 = .ok (.iconst 1, 1) := by decide +kernel
theorem dX11_hire_27 : decode (mB 161) 27 = .ok (.if_icmp .le 5, 3) := by decide +kernel
theorem dX11_hire_30 : decode (mB 161) 30 = .ok (.iconst (-1), 1) := by decide +kernel
theorem dX11_hire_31 : decode (mB 161) 31 = .ok (.ireturn, 1) := by decide +kernel
theorem dX11_hire_32 : decode (mB 161) 32 = .ok (.aload_n 0, 1) := by decide +kernel
theorem dX11_hire_33 : decode (mB 161) 33 = .ok (.invokevirtual 143, 3) := by decide +kernel
theorem dX11_hire_36 : decode (mB 161) 36 = .ok (.iload_n 1, 1) := by decide +kernel
theorem dX11_hire_37 : decode (mB 161) 37 = .ok (.invokevirtual 247, 3) := by decide +kernel
theorem dX11_hire_40 : decode (mB 161) 40 = .ok (.iload_n 2, 1) := by decide +kernel
theorem dX11_hire_41 : decode (mB 161) 41 = .ok (.if_icmp .ge 6, 3) := by decide +kernel
theorem dX11_hire_44 : decode (mB 161) 44 = .ok (.bipush (-2), 2) := by decide +kernel
theorem dX11_hire_46 : decode (mB 161) 46 = .ok (.ireturn, 1) := by decide +kernel
theorem dX11_hire_47 : decode (mB 161) 47 = .ok (.iload_n 2, 1) := by decide +kernel
theorem dX11_hire_48 : decode (mB 161) 48 = .ok (.istore 4, 2) := by decide +kernel
theorem dX11_hire_50 : decode (mB 161) 50 = .ok (.iconst 0, 1) := by decide +kernel
theorem dX11_hire_51 : decode (mB 161) 51 = .ok (.istore 5, 2) := by decide +kernel
theorem dX11_hire_53 : decode (mB 161) 53 = .ok (.bipush (-2), 2) := by decide +kernel
theorem dX11_hire_55 : decode (mB 161) 55 = .ok (.istore 6, 2) := by decide +kernel
theorem dX11_hire_57 : decode (mB 161) 57 = .ok (.iconst 0, 1) := by decide +kernel
theorem dX11_hire_58 : decode (mB 161) 58 = .ok (.istore 7, 2) := by decide +kernel
theorem dX11_hire_60 : decode (mB 161) 60 = .ok (.iload 7, 2) := by decide +kernel
theorem dX11_hire_62 : decode (mB 161) 62 = .ok (.bipush 99, 2) := by decide +kernel
theorem dX11_hire_64 : decode (mB 161) 64 = .ok (.if_icmp .gt 82, 3) := by decide +kernel
theorem dX11_hire_67 : decode (mB 161) 67 = .ok (.iload 4, 2) := by decide +kernel
theorem dX11_hire_69 : decode (mB 161) 69 = .ok (.ifCond .le 77, 3) := by decide +kernel
theorem dX11_hire_72 : decode (mB 161) 72 = .ok (.iconst 0, 1) := by decide +kernel
theorem dX11_hire_73 : decode (mB 161) 73 = .ok (.istore 8, 2) := by decide +kernel
theorem dX11_hire_75 : decode (mB 161) 75 = .ok (.iload 8, 2) := by decide +kernel
theorem dX11_hire_77 : decode (mB 161) 77 = .ok (.aload_n 0, 1) := by decide +kernel
theorem dX11_hire_78 : decode (mB 161) 78 = .ok (.getfield 10, 3) := by decide +kernel
theorem dX11_hire_81 : decode (mB 161) 81 = .ok (.invokevirtual 226, 3) := by decide +kernel
theorem dX11_hire_84 : decode (mB 161) 84 = .ok (.if_icmp .ge 56, 3) := by decide +kernel
theorem dX11_hire_87 : decode (mB 161) 87 = .ok (.iload 4, 2) := by decide +kernel
theorem dX11_hire_89 : decode (mB 161) 89 = .ok (.ifCond .le 51, 3) := by decide +kernel
theorem dX11_hire_92 : decode (mB 161) 92 = .ok (.iload 4, 2) := by decide +kernel
theorem dX11_hire_94 : decode (mB 161) 94 = .ok (.aload_n 0, 1) := by decide +kernel
theorem dX11_hire_95 : decode (mB 161) 95 = .ok (.iload_n 1, 1) := by decide +kernel
theorem dX11_hire_96 : decode (mB 161) 96 = .ok (.iload 8, 2) := by decide +kernel
theorem dX11_hire_98 : decode (mB 161) 98 = .ok (.iload 7, 2) := by decide +kernel
theorem dX11_hire_100 : decode (mB 161) 100 = .ok (.invokevirtual 250, 3) := by decide +kernel
theorem dX11_hire_103 : decode (mB 161) 103 = .ok (.invokestatic 253, 3) := by decide +kernel
theorem dX11_hire_106 : decode (mB 161) 106 = .ok (.istore 9, 2) := by decide +kernel
theorem dX11_hire_108 : decode (mB 161) 108 = .ok (.iload 9, 2) := by decide +kernel
theorem dX11_hire_110 : decode (mB 161) 110 = .ok (.ifCond .le 24, 3) := by decide +kernel
theorem dX11_hire_113 : decode (mB 161) 113 = .ok (.iload 4, 2) := by decide +kernel
theorem dX11_hire_115 : decode (mB 161) 115 = .ok (.iload 9, 2) := by decide +kernel
theorem dX11_hire_117 : decode (mB 161) 117 = .ok (.isub, 1) := by decide +kernel
theorem dX11_hire_118 : decode (mB 161) 118 = .ok (.istore 4, 2) := by decide +kernel
theorem dX11_hire_120 : decode (mB 161) 120 = .ok (.iload 5, 2) := by decide +kernel
theorem dX11_hire_122 : decode (mB 161) 122 = .ok (.iload 9, 2) := by decide +kernel
theorem dX11_hire_124 : decode (mB 161) 124 = .ok (.iload 7, 2) := by decide +kernel
theorem dX11_hire_126 : decode (mB 161) 126 = .ok (.imul, 1) := by decide +kernel
theorem dX11_hire_127 : decode (mB 161) 127 = .ok (.iadd, 1) := by decide +kernel
theorem dX11_hire_128 : decode (mB 161) 128 = .ok (.istore 5, 2) := by decide +kernel
theorem dX11_hire_130 : decode (mB 161) 130 = .ok (.iload 8, 2) := by decide +kernel
theorem dX11_hire_132 : decode (mB 161) 132 = .ok (.istore 6, 2) := by decide +kernel
theorem dX11_hire_134 : decode (mB 161) 134 = .ok (.iinc 8 1, 3) := by decide +kernel
theorem dX11_hire_137 : decode (mB 161) 137 = .ok (.goto (-62), 3) := by decide +kernel
theorem dX11_hire_140 : decode (mB 161) 140 = .ok (.iinc 7 1, 3) := by decide +kernel
theorem dX11_hire_143 : decode (mB 161) 143 = .ok (.goto (-83), 3) := by decide +kernel
theorem dX11_hire_146 : decode (mB 161) 146 = .ok (.iload 4, 2) := by decide +kernel
theorem dX11_hire_148 : decode (mB 161) 148 = .ok (.ifCond .le 6, 3) := by decide +kernel
theorem dX11_hire_151 : decode (mB 161) 151 = .ok (.bipush (-2), 2) := by decide +kernel
theorem dX11_hire_153 : decode (mB 161) 153 = .ok (.ireturn, 1) := by decide +kernel
theorem dX11_hire_154 : decode (mB 161) 154 = .ok (.iload_n 3, 1) := by decide +kernel
theorem dX11_hire_155 : decode (mB 161) 155 = .ok (.ifCond .ne 8, 3) := by decide +kernel
theorem dX11_hire_158 : decode (mB 161) 158 = .ok (.iload 5, 2) := by decide +kernel
theorem dX11_hire_160 : decode (mB 161) 160 = .ok (.goto 5, 3) := by decide +kernel
theorem dX11_hire_163 : decode (mB 161) 163 = .ok (.iload 6, 2) := by decide +kernel
theorem dX11_hire_165 : decode (mB 161) 165 = .ok (.ireturn, 1) := by decide +kernel
theorem dX11_takesFor_0 : decode (mB 162) 0 = .ok (.iload_n 2, 1) := by decide +kernel
theorem dX11_takesFor_1 : decode (mB 162) 1 = .ok (.iload_n 1, 1) := by decide +kernel
theorem dX11_takesFor_2 : decode (mB 162) 2 = .ok (.if_icmp .eq 32, 3) := by decide +kernel
theorem dX11_takesFor_5 : decode (mB 162) 5 = .ok (.aload_n 0, 1) := by decide +kernel
theorem dX11_takesFor_6 : decode (mB 162) 6 = .ok (.getfield 10, 3) := by decide +kernel
theorem dX11_takesFor_9 : decode (mB 162) 9 = .ok (.iconst 1, 1) := by decide +kernel
theorem dX11_takesFor_10 : decode (mB 162) 10 = .ok (.iload_n 2, 1) := by decide +kernel
theorem dX11_takesFor_11 : decode (mB 162) 11 = .ok (.invokevirtual 129, 3) := by decide +kernel
theorem dX11_takesFor_14 : decode (mB 162) 14 = .ok (.ifCond .ne 20, 3) := by decide +kernel
theorem dX11_takesFor_17 : decode (mB 162) 17 = .ok (.aload_n 0, 1) := by decide +kernel
theorem dX11_takesFor_18 : decode (mB 162) 18 = .ok (.getfield 10, 3) := by decide +kernel
theorem dX11_takesFor_21 : decode (mB 162) 21 = .ok (.iconst 2, 1) := by decide +kernel
theorem dX11_takesFor_22 : decode (mB 162) 22 = .ok (.iload_n 2, 1) := by decide +kernel
theorem dX11_takesFor_23 : decode (mB 162) 23 = .ok (.invokevirtual 129, 3) := by decide +kernel
theorem dX11_takesFor_26 : decode (mB 162) 26 = .ok (.iload_n 3, 1) := by decide +kernel
theorem dX11_takesFor_27 : decode (mB 162) 27 = .ok (.if_icmp .ne 7, 3) := by decide +kernel
theorem dX11_takesFor_30 : decode (mB 162) 30 = .ok (.iconst 1, 1) := by decide +kernel
theorem dX11_takesFor_31 : decode (mB 162) 31 = .ok (.goto 4, 3) := by decide +kernel
theorem dX11_takesFor_34 : decode (mB 162) 34 = .ok (.iconst 0, 1) := by decide +kernel
theorem dX11_takesFor_35 : decode (mB 162) 35 = .ok (.istore 4, 2) := by decide +kernel
theorem dX11_takesFor_37 : decode (mB 162) 37 = .ok (.iload 4, 2) := by decide +kernel
theorem dX11_takesFor_39 : decode (mB 162) 39 = .ok (.ifCond .eq 15, 3) := by decide +kernel
theorem dX11_takesFor_42 : decode (mB 162) 42 = .ok (.aload_n 0, 1) := by decide +kernel
theorem dX11_takesFor_43 : decode (mB 162) 43 = .ok (.getfield 10, 3) := by decide +kernel
theorem dX11_takesFor_46 : decode (mB 162) 46 = .ok (.iconst 3, 1) := by decide +kernel
theorem dX11_takesFor_47 : decode (mB 162) 47 = .ok (.iload_n 2, 1) := by decide +kernel
theorem dX11_takesFor_48 : decode (mB 162) 48 = .ok (.invokevirtual 129, 3) := by decide +kernel
theorem dX11_takesFor_51 : decode (mB 162) 51 = .ok (.goto 4, 3) := by decide +kernel
theorem dX11_takesFor_54 : decode (mB 162) 54 = .ok (.iconst 0, 1) := by decide +kernel
theorem dX11_takesFor_55 : decode (mB 162) 55 = .ok (.ireturn, 1) := by decide +kernel
theorem dX11_friend_0 : decode (mB 163) 0 = .ok (.aload_n 0, 1) := by decide +kernel
theorem dX11_friend_1 : decode (mB 163) 1 = .ok (.getfield 10, 3) := by decide +kernel
theorem dX11_friend_4 : decode (mB 163) 4 = .ok (.iload_n 1, 1) := by decide +kernel
theorem dX11_friend_5 : decode (mB 163) 5 = .ok (.invokevirtual 140, 3) := by decide +kernel
theorem dX11_friend_8 : decode (mB 163) 8 = .ok (.ifCond .eq 13, 3) := by decide +kernel
theorem dX11_friend_11 : decode (mB 163) 11 = .ok (.iload_n 2, 1) := by decide +kernel
theorem dX11_friend_12 : decode (mB 163) 12 = .ok (.ifCond .lt 9, 3) := by decide +kernel
theorem dX11_friend_15 : decode (mB 163) 15 = .ok (.iload_n 2, 1) := by decide +kernel
theorem dX11_friend_16 : decode (mB 163) 16 = .ok (.bipush 12, 2) := by decide +kernel
theorem dX11_friend_18 : decode (mB 163) 18 = .ok (.if_icmp .le 5, 3) := by decide +kernel
theorem dX11_friend_21 : decode (mB 163) 21 = .ok (.iconst (-1), 1) := by decide +kernel
theorem dX11_friend_22 : decode (mB 163) 22 = .ok (.ireturn, 1) := by decide +kernel
theorem dX11_friend_23 : decode (mB 163) 23 = .ok (.aload_n 0, 1) := by decide +kernel
theorem dX11_friend_24 : decode (mB 163) 24 = .ok (.invokevirtual 143, 3) := by decide +kernel
theorem dX11_friend_27 : decode (mB 163) 27 = .ok (.astore_n 3, 1) := by decide +kernel
theorem dX11_friend_28 : decode (mB 163) 28 = .ok (.aload_n 3, 1) := by decide +kernel
theorem dX11_friend_29 : decode (mB 163) 29 = .ok (.invokevirtual 223, 3) := by decide +kernel
theorem dX11_friend_32 : decode (mB 163) 32 = .ok (.istore 4, 2) := by decide +kernel
theorem dX11_friend_34 : decode (mB 163) 34 = .ok (.iload 4, 2) := by decide +kernel
theorem dX11_friend_36 : decode (mB 163) 36 = .ok (.ifCond .ne 14, 3) := by decide +kernel
theorem dX11_friend_39 : decode (mB 163) 39 = .ok (.iload_n 2, 1) := by decide +kernel
theorem dX11_friend_40 : decode (mB 163) 40 = .ok (.ifCond .ne 7, 3) := by decide +kernel
theorem dX11_friend_43 : decode (mB 163) 43 = .ok (.iconst 0, 1) := by decide +kernel
theorem dX11_friend_44 : decode (mB 163) 44 = .ok (.goto 5, 3) := by decide +kernel
theorem dX11_friend_47 : decode (mB 163) 47 = .ok (.bipush (-2), 2) := by decide +kernel
theorem dX11_friend_49 : decode (mB 163) 49 = .ok (.ireturn, 1) := by decide +kernel
theorem dX11_friend_50 : decode (mB 163) 50 = .ok (.aload_n 3, 1) := by decide +kernel
theorem dX11_friend_51 : decode (mB 163) 51 = .ok (.iload_n 1, 1) := by decide +kernel
theorem dX11_friend_52 : decode (mB 163) 52 = .ok (.invokevirtual 150, 3) := by decide +kernel
theorem dX11_friend_55 : decode (mB 163) 55 = .ok (.istore 5, 2) := by decide +kernel
theorem dX11_friend_57 : decode (mB 163) 57 = .ok (.aload_n 0, 1) := by decide +kernel
theorem dX11_friend_58 : decode (mB 163) 58 = .ok (.getfield 10, 3) := by decide +kernel
theorem dX11_friend_61 : decode (mB 163) 61 = .ok (.iconst 1, 1) := by decide +kernel
theorem dX11_friend_62 : decode (mB 163) 62 = .ok (.iload_n 1, 1) := by decide +kernel
theorem dX11_friend_63 : decode (mB 163) 63 = .ok (.invokevirtual 129, 3) := by decide +kernel
theorem dX11_friend_66 : decode (mB 163) 66 = .ok (.iconst 1, 1) := by decide +kernel
theorem dX11_friend_67 : decode (mB 163) 67 = .ok (.if_icmp .ne 7, 3) := by decide +kernel
theorem dX11_friend_70 : decode (mB 163) 70 = .ok (.iconst 0, 1) := by decide +kernel
theorem dX11_friend_71 : decode (mB 163) 71 = .ok (.goto 13, 3) := by decide +kernel
theorem dX11_friend_74 : decode (mB 163) 74 = .ok (.aload_n 3, 1) := by decide +kernel
theorem dX11_friend_75 : decode (mB 163) 75 = .ok (.invokevirtual 258, 3) := by decide +kernel
theorem dX11_friend_78 : decode (mB 163) 78 = .ok (.aload_n 3, 1) := by decide +kernel
theorem dX11_friend_79 : decode (mB 163) 79 = .ok (.iload_n 1, 1) := by decide +kernel
theorem dX11_friend_80 : decode (mB 163) 80 = .ok (.invokevirtual 261, 3) := by decide +kernel
theorem dX11_friend_83 : decode (mB 163) 83 = .ok (.isub, 1) := by decide +kernel
theorem dX11_friend_84 : decode (mB 163) 84 = .ok (.istore 6, 2) := by decide +kernel
theorem dX11_friend_86 : decode (mB 163) 86 = .ok (.iconst 0, 1) := by decide +kernel
theorem dX11_friend_87 : decode (mB 163) 87 = .ok (.istore 7, 2) := by decide +kernel
theorem dX11_friend_89 : decode (mB 163) 89 = .ok (.iload 7, 2) := by decide +kernel
theorem dX11_friend_91 : decode (mB 163) 91 = .ok (.iload 6, 2) := by decide +kernel
theorem dX11_friend_93 : decode (mB 163) 93 = .ok (.if_icmp .gt 27, 3) := by decide +kernel
theorem dX11_friend_96 : decode (mB 163) 96 = .ok (.bipush 12, 2) := by decide +kernel
theorem dX11_friend_98 : decode (mB 163) 98 = .ok (.iload 5, 2) := by decide +kernel
theorem dX11_friend_100 : decode (mB 163) 100 = .ok (.iload 7, 2) := by decide +kernel
theorem dX11_friend_102 : decode (mB 163) 102 = .ok (.iadd, 1) := by decide +kernel
theorem dX11_friend_103 : decode (mB 163) 103 = .ok (.imul, 1) := by decide +kernel
theorem dX11_friend_104 : decode (mB 163) 104 = .ok (.iload_n 2, 1) := by decide +kernel
theorem dX11_friend_105 : decode (mB 163) 105 = .ok (.iload 4, 2) := by decide +kernel
theorem dX11_friend_107 : decode (mB 163) 107 = .ok (.imul, 1) := by decide +kernel
theorem dX11_friend_108 : decode (mB 163) 108 = .ok (.if_icmp .lt 6, 3) := by decide +kernel
theorem dX11_friend_111 : decode (mB 163) 111 = .ok (.iload 7, 2) := by decide +kernel
theorem dX11_friend_113 : decode (mB 163) 113 = .ok (.ireturn, 1) := by decide +kernel
theorem dX11_friend_114 : decode (mB 163) 114 = .ok (.iinc 7 1, 3) := by decide +kernel
theorem dX11_friend_117 : decode (mB 163) 117 = .ok (.goto (-28), 3) := by decide +kernel
theorem dX11_friend_120 : decode (mB 163) 120 = .ok (.bipush (-2), 2) := by decide +kernel
theorem dX11_friend_122 : decode (mB 163) 122 = .ok (.ireturn, 1) := by decide +kernel
theorem dX11_share_0 : decode (mB 164) 0 = .ok (.aload_n 0, 1) := by decide +kernel
theorem dX11_share_1 : decode (mB 164) 1 = .ok (.getfield 10, 3) := by decide +kernel
theorem dX11_share_4 : decode (mB 164) 4 = .ok (.iload_n 1, 1) := by decide +kernel
theorem dX11_share_5 : decode (mB 164) 5 = .ok (.invokevirtual 140, 3) := by decide +kernel
theorem dX11_share_8 : decode (mB 164) 8 = .ok (.ifCond .eq 14, 3) := by decide +kernel
theorem dX11_share_11 : decode (mB 164) 11 = .ok (.iload_n 2, 1) := by decide +kernel
theorem dX11_share_12 : decode (mB 164) 12 = .ok (.ifCond .lt 10, 3) := by decide +kernel
theorem dX11_share_15 : decode (mB 164) 15 = .ok (.iload_n 2, 1) := by decide +kernel
theorem dX11_share_16 : decode (mB 164) 16 = .ok (.sipush 9999, 3) := by decide +kernel
theorem dX11_share_19 : decode (mB 164) 19 = .ok (.if_icmp .le 5, 3) := by decide +kernel
theorem dX11_share_22 : decode (mB 164) 22 = .ok (.iconst (-1), 1) := by decide +kernel
theorem dX11_share_23 : decode (mB 164) 23 = .ok (.ireturn, 1) := by decide +kernel
theorem dX11_share_24 : decode (mB 164) 24 = .ok (.aload_n 0, 1) := by decide +kernel
theorem dX11_share_25 : decode (mB 164) 25 = .ok (.invokevirtual 143, 3) := by decide +kernel
theorem dX11_share_28 : decode (mB 164) 28 = .ok (.astore_n 3, 1) := by decide +kernel
theorem dX11_share_29 : decode (mB 164) 29 = .ok (.aload_n 3, 1) := by decide +kernel
theorem dX11_share_30 : decode (mB 164) 30 = .ok (.invokevirtual 223, 3) := by decide +kernel
theorem dX11_share_33 : decode (mB 164) 33 = .ok (.istore 4, 2) := by decide +kernel
theorem dX11_share_35 : decode (mB 164) 35 = .ok (.iload 4, 2) := by decide +kernel
theorem dX11_share_37 : decode (mB 164) 37 = .ok (.ifCond .ne 7, 3) := by decide +kernel
theorem dX11_share_40 : decode (mB 164) 40 = .ok (.iconst 0, 1) := by decide +kernel
theorem dX11_share_41 : decode (mB 164) 41 = .ok (.goto 13, 3) := by decide +kernel
theorem dX11_share_44 : decode (mB 164) 44 = .ok (.iload_n 2, 1) := by decide +kernel
theorem dX11_share_45 : decode (mB 164) 45 = .ok (.aload_n 3, 1) := by decide +kernel
theorem dX11_share_46 : decode (mB 164) 46 = .ok (.iload_n 1, 1) := by decide +kernel
theorem dX11_share_47 : decode (mB 164) 47 = .ok (.invokevirtual 150, 3) := by decide +kernel
theorem dX11_share_50 : decode (mB 164) 50 = .ok (.imul, 1) := by decide +kernel
theorem dX11_share_51 : decode (mB 164) 51 = .ok (.iload 4, 2) := by decide +kernel
theorem dX11_share_53 : decode (mB 164) 53 = .ok (.idiv, 1) := by decide +kernel
theorem dX11_share_54 : decode (mB 164) 54 = .ok (.ireturn, 1) := by decide +kernel
theorem dX11_half_0 : decode (mB 165) 0 = .ok (.aload_n 0, 1) := by decide +kernel
theorem dX11_half_1 : decode (mB 165) 1 = .ok (.invokevirtual 143, 3) := by decide +kernel
theorem dX11_half_4 : decode (mB 165) 4 = .ok (.astore_n 1, 1) := by decide +kernel
theorem dX11_half_5 : decode (mB 165) 5 = .ok (.aload_n 1, 1) := by decide +kernel
theorem dX11_half_6 : decode (mB 165) 6 = .ok (.invokevirtual 223, 3) := by decide +kernel
theorem dX11_half_9 : decode (mB 165) 9 = .ok (.istore_n 2, 1) := by decide +kernel
theorem dX11_half_10 : decode (mB 165) 10 = .ok (.iload_n 2, 1) := by decide +kernel
theorem dX11_half_11 : decode (mB 165) 11 = .ok (.ifCond .ne 6, 3) := by decide +kernel
theorem dX11_half_14 : decode (mB 165) 14 = .ok (.bipush (-2), 2) := by decide +kernel
theorem dX11_half_16 : decode (mB 165) 16 = .ok (.ireturn, 1) := by decide +kernel
theorem dX11_half_17 : decode (mB 165) 17 = .ok (.bipush (-2), 2) := by decide +kernel
theorem dX11_half_19 : decode (mB 165) 19 = .ok (.istore_n 3, 1) := by decide +kernel
theorem dX11_half_20 : decode (mB 165) 20 = .ok (.bipush 7, 2) := by decide +kernel
theorem dX11_half_22 : decode (mB 165) 22 = .ok (.istore 4, 2) := by decide +kernel
theorem dX11_half_24 : decode (mB 165) 24 = .ok (.iconst 0, 1) := by decide +kernel
theorem dX11_half_25 : decode (mB 165) 25 = .ok (.istore 5, 2) := by decide +kernel
theorem dX11_half_27 : decode (mB 165) 27 = .ok (.iload 5, 2) := by decide +kernel
theorem dX11_half_29 : decode (mB 165) 29 = .ok (.iconst 1, 1) := by decide +kernel
theorem dX11_half_30 : decode (mB 165) 30 = .ok (.aload_n 0, 1) := by decide +kernel
theorem dX11_half_31 : decode (mB 165) 31 = .ok (.getfield 10, 3) := by decide +kernel
theorem dX11_half_34 : decode (mB 165) 34 = .ok (.invokevirtual 226, 3) := by decide +kernel
theorem dX11_half_37 : decode (mB 165) 37 = .ok (.ishl, 1) := by decide +kernel
theorem dX11_half_38 : decode (mB 165) 38 = .ok (.if_icmp .ge 43, 3) := by decide +kernel
theorem dX11_half_41 : decode (mB 165) 41 = .ok (.iload 5, 2) := by decide +kernel
theorem dX11_half_43 : decode (mB 165) 43 = .ok (.invokestatic 264, 3) := by decide +kernel
theorem dX11_half_46 : decode (mB 165) 46 = .ok (.istore 6, 2) := by decide +kernel
theorem dX11_half_48 : decode (mB 165) 48 = .ok (.iload 6, 2) := by decide +kernel
theorem dX11_half_50 : decode (mB 165) 50 = .ok (.iload 4, 2) := by decide +kernel
theorem dX11_half_52 : decode (mB 165) 52 = .ok (.if_icmp .ge 23, 3) := by decide +kernel
theorem dX11_half_55 : decode (mB 165) 55 = .ok (.iconst 2, 1) := by decide +kernel
theorem dX11_half_56 : decode (mB 165) 56 = .ok (.aload_n 0, 1) := by decide +kernel
theorem dX11_half_57 : decode (mB 165) 57 = .ok (.aload_n 1, 1) := by decide +kernel
theorem dX11_half_58 : decode (mB 165) 58 = .ok (.iload 5, 2) := by decide +kernel
theorem dX11_half_60 : decode (mB 165) 60 = .ok (.invokevirtual 269, 3) := by decide +kernel
theorem dX11_half_63 : decode (mB 165) 63 = .ok (.imul, 1) := by decide +kernel
theorem dX11_half_64 : decode (mB 165) 64 = .ok (.iload_n 2, 1) := by decide +kernel
theorem dX11_half_65 : decode (mB 165) 65 = .ok (.if_icmp .lt 10, 3) := by decide +kernel
theorem dX11_half_68 : decode (mB 165) 68 = .ok (.iload 6, 2) := by decide +kernel
theorem dX11_half_70 : decode (mB 165) 70 = .ok (.istore 4, 2) := by decide +kernel
theorem dX11_half_72 : decode (mB 165) 72 = .ok (.iload 5, 2) := by decide +kernel
theorem dX11_half_74 : decode (mB 165) 74 = .ok (.istore_n 3, 1) := by decide +kernel
theorem dX11_half_75 : decode (mB 165) 75 = .ok (.iinc 5 1, 3) := by decide +kernel
theorem dX11_half_78 : decode (mB 165) 78 = .ok (.goto (-51), 3) := by decide +kernel
theorem dX11_half_81 : decode (mB 165) 81 = .ok (.iload_n 3, 1) := by decide +kernel
theorem dX11_half_82 : decode (mB 165) 82 = .ok (.ireturn, 1) := by decide +kernel
theorem dX11_realsOfSet_0 : decode (mB 166) 0 = .ok (.iconst 0, 1) := by decide +kernel
theorem dX11_realsOfSet_1 : decode (mB 166) 1 = .ok (.istore_n 3, 1) := by decide +kernel
theorem dX11_realsOfSet_2 : decode (mB 166) 2 = .ok (.iconst 0, 1) := by decide +kernel
theorem dX11_realsOfSet_3 : decode (mB 166) 3 = .ok (.istore 4, 2) := by decide +kernel
theorem dX11_realsOfSet_5 : decode (mB 166) 5 = .ok (.iload 4, 2) := by decide +kernel
theorem dX11_realsOfSet_7 : decode (mB 166) 7 = .ok (.aload_n 0, 1) := by decide +kernel
theorem dX11_realsOfSet_8 : decode (mB 166) 8 = .ok (.getfield 10, 3) := by decide +kernel
theorem dX11_realsOfSet_11 : decode (mB 166) 11 = .ok (.invokevirtual 226, 3) := by decide +kernel
theorem dX11_realsOfSet_14 : decode (mB 166) 14 = .ok (.if_icmp .ge 28, 3) := by decide +kernel
theorem dX11_realsOfSet_17 : decode (mB 166) 17 = .ok (.iload_n 2, 1) := by decide +kernel
theorem dX11_realsOfSet_18 : decode (mB 166) 18 = .ok (.iload 4, 2) := by decide +kernel
theorem dX11_realsOfSet_20 : decode (mB 166) 20 = .ok (.ishr, 1) := by decide +kernel
theorem dX11_realsOfSet_21 : decode (mB 166) 21 = .ok (.iconst 1, 1) := by decide +kernel
theorem dX11_realsOfSet_22 : decode (mB 166) 22 = .ok (.iand, 1) := by decide +kernel
theorem dX11_realsOfSet_23 : decode (mB 166) 23 = .ok (.iconst 1, 1) := by decide +kernel
theorem dX11_realsOfSet_24 : decode (mB 166) 24 = .ok (.if_icmp .ne 12, 3) := by decide +kernel
theorem dX11_realsOfSet_27 : decode (mB 166) 27 = .ok (.iload_n 3, 1) := by decide +kernel
theorem dX11_realsOfSet_28 : decode (mB 166) 28 = .ok (.aload_n 1, 1) := by decide +kernel
theorem dX11_realsOfSet_29 : decode (mB 166) 29 = .ok (.iload 4, 2) := by decide +kernel
theorem dX11_realsOfSet_31 : decode (mB 166) 31 = .ok (.invokevirtual 150, 3) := by decide +kernel
theorem dX11_realsOfSet_34 : decode (mB 166) 34 = .ok (.iadd, 1) := by decide +kernel
theorem dX11_realsOfSet_35 : decode (mB 166) 35 = .ok (.istore_n 3, 1) := by decide +kernel
theorem dX11_realsOfSet_36 : decode (mB 166) 36 = .ok (.iinc 4 1, 3) := by decide +kernel
theorem dX11_realsOfSet_39 : decode (mB 166) 39 = .ok (.goto (-34), 3) := by decide +kernel
theorem dX11_realsOfSet_42 : decode (mB 166) 42 = .ok (.iload_n 3, 1) := by decide +kernel
theorem dX11_realsOfSet_43 : decode (mB 166) 43 = .ok (.ireturn, 1) := by decide +kernel
theorem dX11_behind_0 : decode (mB 167) 0 = .ok (.aload_n 0, 1) := by decide +kernel
theorem dX11_behind_1 : decode (mB 167) 1 = .ok (.getfield 42, 3) := by decide +kernel
theorem dX11_behind_4 : decode (mB 167) 4 = .ok (.iload_n 1, 1) := by decide +kernel
theorem dX11_behind_5 : decode (mB 167) 5 = .ok (.invokevirtual 106, 3) := by decide +kernel
theorem dX11_behind_8 : decode (mB 167) 8 = .ok (.ifCond .eq 23, 3) := by decide +kernel
theorem dX11_behind_11 : decode (mB 167) 11 = .ok (.aload_n 0, 1) := by decide +kernel
theorem dX11_behind_12 : decode (mB 167) 12 = .ok (.getfield 42, 3) := by decide +kernel
theorem dX11_behind_15 : decode (mB 167) 15 = .ok (.iload_n 2, 1) := by decide +kernel
theorem dX11_behind_16 : decode (mB 167) 16 = .ok (.invokevirtual 106, 3) := by decide +kernel
theorem dX11_behind_19 : decode (mB 167) 19 = .ok (.ifCond .eq 12, 3) := by decide +kernel
theorem dX11_behind_22 : decode (mB 167) 22 = .ok (.iload_n 3, 1) := by decide +kernel
theorem dX11_behind_23 : decode (mB 167) 23 = .ok (.ifCond .lt 8, 3) := by decide +kernel
theorem dX11_behind_26 : decode (mB 167) 26 = .ok (.iload_n 3, 1) := by decide +kernel
theorem dX11_behind_27 : decode (mB 167) 27 = .ok (.iconst 4, 1) := by decide +kernel
theorem dX11_behind_28 : decode (mB 167) 28 = .ok (.if_icmp .le 5, 3) := by decide +kernel
theorem dX11_behind_31 : decode (mB 167) 31 = .ok (.iconst (-1), 1) := by decide +kernel
theorem dX11_behind_32 : decode (mB 167) 32 = .ok (.ireturn, 1) := by decide +kernel
theorem dX11_behind_33 : decode (mB 167) 33 = .ok (.aload_n 0, 1) := by decide +kernel
theorem dX11_behind_34 : decode (mB 167) 34 = .ok (.getfield 42, 3) := by decide +kernel
theorem dX11_behind_37 : decode (mB 167) 37 = .ok (.iload_n 1, 1) := by decide +kernel
theorem dX11_behind_38 : decode (mB 167) 38 = .ok (.invokevirtual 273, 3) := by decide +kernel
theorem dX11_behind_41 : decode (mB 167) 41 = .ok (.ifCond .ne 14, 3) := by decide +kernel
theorem dX11_behind_44 : decode (mB 167) 44 = .ok (.aload_n 0, 1) := by decide +kernel
theorem dX11_behind_45 : decode (mB 167) 45 = .ok (.getfield 42, 3) := by decide +kernel
theorem dX11_behind_48 : decode (mB 167) 48 = .ok (.iload_n 2, 1) := by decide +kernel
theorem dX11_behind_49 : decode (mB 167) 49 = .ok (.invokevirtual 273, 3) := by decide +kernel
theorem dX11_behind_52 : decode (mB 167) 52 = .ok (.ifCond .eq 6, 3) := by decide +kernel
theorem dX11_behind_55 : decode (mB 167) 55 = .ok (.bipush (-11), 2) := by decide +kernel
theorem dX11_behind_57 : decode (mB 167) 57 = .ok (.ireturn, 1) := by decide +kernel
theorem dX11_behind_58 : decode (mB 167) 58 = .ok (.aload_n 0, 1) := by decide +kernel
theorem dX11_behind_59 : decode (mB 167) 59 = .ok (.getfield 42, 3) := by decide +kernel
theorem dX11_behind_62 : decode (mB 167) 62 = .ok (.iload_n 1, 1) := by decide +kernel
theorem dX11_behind_63 : decode (mB 167) 63 = .ok (.invokevirtual 110, 3) := by decide +kernel
theorem dX11_behind_66 : decode (mB 167) 66 = .ok (.ifCond .ne 14, 3) := by decide +kernel
theorem dX11_behind_69 : decode (mB 167) 69 = .ok (.aload_n 0, 1) := by decide +kernel
theorem dX11_behind_70 : decode (mB 167) 70 = .ok (.getfield 42, 3) := by decide +kernel
theorem dX11_behind_73 : decode (mB 167) 73 = .ok (.iload_n 2, 1) := by decide +kernel
theorem dX11_behind_74 : decode (mB 167) 74 = .ok (.invokevirtual 110, 3) := by decide +kernel
theorem dX11_behind_77 : decode (mB 167) 77 = .ok (.ifCond .eq 6, 3) := by decide +kernel
theorem dX11_behind_80 : decode (mB 167) 80 = .ok (.bipush (-12), 2) := by decide +kernel
theorem dX11_behind_82 : decode (mB 167) 82 = .ok (.ireturn, 1) := by decide +kernel
theorem dX11_behind_83 : decode (mB 167) 83 = .ok (.aload_n 0, 1) := by decide +kernel
theorem dX11_behind_84 : decode (mB 167) 84 = .ok (.getfield 51, 3) := by decide +kernel
theorem dX11_behind_87 : decode (mB 167) 87 = .ok (.aload_n 0, 1) := by decide +kernel
theorem dX11_behind_88 : decode (mB 167) 88 = .ok (.getfield 42, 3) := by decide +kernel
theorem dX11_behind_91 : decode (mB 167) 91 = .ok (.iload_n 1, 1) := by decide +kernel
theorem dX11_behind_92 : decode (mB 167) 92 = .ok (.invokevirtual 183, 3) := by decide +kernel
theorem dX11_behind_95 : decode (mB 167) 95 = .ok (.aload_n 0, 1) := by decide +kernel
theorem dX11_behind_96 : decode (mB 167) 96 = .ok (.getfield 60, 3) := by decide +kernel
theorem dX11_behind_99 : decode (mB 167) 99 = .ok (.aload_n 0, 1) := by decide +kernel
theorem dX11_behind_100 : decode (mB 167) 100 = .ok (.getfield 42, 3) := by decide +kernel
theorem dX11_behind_103 : decode (mB 167) 103 = .ok (.iload_n 2, 1) := by decide +kernel
theorem dX11_behind_104 : decode (mB 167) 104 = .ok (.iload_n 3, 1) := by decide +kernel
theorem dX11_behind_105 : decode (mB 167) 105 = .ok (.iconst 4, 1) := by decide +kernel
theorem dX11_behind_106 : decode (mB 167) 106 = .ok (.if_icmp .ne 7, 3) := by decide +kernel
theorem dX11_behind_109 : decode (mB 167) 109 = .ok (.iconst 1, 1) := by decide +kernel
theorem dX11_behind_110 : decode (mB 167) 110 = .ok (.goto 4, 3) := by decide +kernel
theorem dX11_behind_113 : decode (mB 167) 113 = .ok (.iconst 0, 1) := by decide +kernel
theorem dX11_behind_114 : decode (mB 167) 114 = .ok (.invokevirtual 276, 3) := by decide +kernel
theorem dX11_behind_117 : decode (mB 167) 117 = .ok (.iload_n 3, 1) := by decide +kernel
theorem dX11_behind_118 : decode (mB 167) 118 = .ok (.tableswitch 62 0 3 #[30, 38, 46, 54], 30) := by decide +kernel
theorem dX11_behind_148 : decode (mB 167) 148 = .ok (.aload_n 0, 1) := by decide +kernel
theorem dX11_behind_149 : decode (mB 167) 149 = .ok (.getfield 60, 3) := by decide +kernel
theorem dX11_behind_152 : decode (mB 167) 152 = .ok (.invokevirtual 280, 3) := by decide +kernel
theorem dX11_behind_155 : decode (mB 167) 155 = .ok (.ireturn, 1) := by decide +kernel
theorem dX11_behind_156 : decode (mB 167) 156 = .ok (.aload_n 0, 1) := by decide +kernel
theorem dX11_behind_157 : decode (mB 167) 157 = .ok (.getfield 60, 3) := by decide +kernel
theorem dX11_behind_160 : decode (mB 167) 160 = .ok (.invokevirtual 283, 3) := by decide +kernel
theorem dX11_behind_163 : decode (mB 167) 163 = .ok (.ireturn, 1) := by decide +kernel
theorem dX11_behind_164 : decode (mB 167) 164 = .ok (.aload_n 0, 1) := by decide +kernel
theorem dX11_behind_165 : decode (mB 167) 165 = .ok (.getfield 60, 3) := by decide +kernel
theorem dX11_behind_168 : decode (mB 167) 168 = .ok (.invokevirtual 286, 3) := by decide +kernel
theorem dX11_behind_171 : decode (mB 167) 171 = .ok (.ireturn, 1) := by decide +kernel
theorem dX11_behind_172 : decode (mB 167) 172 = .ok (.aload_n 0, 1) := by decide +kernel
theorem dX11_behind_173 : decode (mB 167) 173 = .ok (.getfield 60, 3) := by decide +kernel
theorem dX11_behind_176 : decode (mB 167) 176 = .ok (.invokevirtual 289, 3) := by decide +kernel
theorem dX11_behind_179 : decode (mB 167) 179 = .ok (.ireturn, 1) := by decide +kernel
theorem dX11_behind_180 : decode (mB 167) 180 = .ok (.aload_n 0, 1) := by decide +kernel
theorem dX11_behind_181 : decode (mB 167) 181 = .ok (.getfield 60, 3) := by decide +kernel
theorem dX11_behind_184 : decode (mB 167) 184 = .ok (.invokevirtual 292, 3) := by decide +kernel
theorem dX11_behind_187 : decode (mB 167) 187 = .ok (.ireturn, 1) := by decide +kernel
theorem dX11_drawn_0 : decode (mB 168) 0 = .ok (.iload_n 2, 1) := by decide +kernel
theorem dX11_drawn_1 : decode (mB 168) 1 = .ok (.bipush 100, 2) := by decide +kernel
theorem dX11_drawn_3 : decode (mB 168) 3 = .ok (.idiv, 1) := by decide +kernel
theorem dX11_drawn_4 : decode (mB 168) 4 = .ok (.istore 4, 2) := by decide +kernel
theorem dX11_drawn_6 : decode (mB 168) 6 = .ok (.iload_n 2, 1) := by decide +kernel
theorem dX11_drawn_7 : decode (mB 168) 7 = .ok (.bipush 100, 2) := by decide +kernel
theorem dX11_drawn_9 : decode (mB 168) 9 = .ok (.irem, 1) := by decide +kernel
theorem dX11_drawn_10 : decode (mB 168) 10 = .ok (.istore 5, 2) := by decide +kernel
theorem dX11_drawn_12 : decode (mB 168) 12 = .ok (.iload 4, 2) := by decide +kernel
theorem dX11_drawn_14 : decode (mB 168) 14 = .ok (.iconst 1, 1) := by decide +kernel
theorem dX11_drawn_15 : decode (mB 168) 15 = .ok (.if_icmp .lt 23, 3) := by decide +kernel
theorem dX11_drawn_18 : decode (mB 168) 18 = .ok (.iload 4, 2) := by decide +kernel
theorem dX11_drawn_20 : decode (mB 168) 20 = .ok (.bipush 30, 2) := by decide +kernel
theorem dX11_drawn_22 : decode (mB 168) 22 = .ok (.if_icmp .gt 16, 3) := by decide +kernel
theorem dX11_drawn_25 : decode (mB 168) 25 = .ok (.iload 5, 2) := by decide +kernel
theorem dX11_drawn_27 : decode (mB 168) 27 = .ok (.iconst 1, 1) := by decide +kernel
theorem dX11_drawn_28 : decode (mB 168) 28 = .ok (.if_icmp .lt 10, 3) := by decide +kernel
theorem dX11_drawn_31 : decode (mB 168) 31 = .ok (.iload 5, 2) := by decide +kernel
theorem dX11_drawn_33 : decode (mB 168) 33 = .ok (.bipush 30, 2) := by decide +kernel
theorem dX11_drawn_35 : decode (mB 168) 35 = .ok (.if_icmp .le 5, 3) := by decide +kernel
theorem dX11_drawn_38 : decode (mB 168) 38 = .ok (.iconst (-1), 1) := by decide +kernel
theorem dX11_drawn_39 : decode (mB 168) 39 = .ok (.ireturn, 1) := by decide +kernel
theorem dX11_drawn_40 : decode (mB 168) 40 = .ok (.iload_n 3, 1) := by decide +kernel
theorem dX11_drawn_41 : decode (mB 168) 41 = .ok (.iconst (-1), 1) := by decide +kernel
theorem dX11_drawn_42 : decode (mB 168) 42 = .ok (.if_icmp .eq 16, 3) := by decide +kernel
theorem dX11_drawn_45 : decode (mB 168) 45 = .ok (.aload_n 0, 1) := by decide +kernel
theorem dX11_drawn_46 : decode (mB 168) 46 = .ok (.getfield 10, 3) := by decide +kernel
theorem dX11_drawn_49 : decode (mB 168) 49 = .ok (.iload_n 3, 1) := by decide +kernel
theorem dX11_drawn_50 : decode (mB 168) 50 = .ok (.invokevirtual 140, 3) := by decide +kernel
theorem dX11_drawn_53 : decode (mB 168) 53 = .ok (.ifCond .ne 5, 3) := by decide +kernel
theorem dX11_drawn_56 : decode (mB 168) 56 = .ok (.iconst (-1), 1) := by decide +kernel
theorem dX11_drawn_57 : decode (mB 168) 57 = .ok (.ireturn, 1) := by decide +kernel
theorem dX11_drawn_58 : decode (mB 168) 58 = .ok (.iload_n 1, 1) := by decide +kernel
theorem dX11_drawn_59 : decode (mB 168) 59 = .ok (.istore 6, 2) := by decide +kernel
theorem dX11_drawn_61 : decode (mB 168) 61 = .ok (.iconst 0, 1) := by decide +kernel
theorem dX11_drawn_62 : decode (mB 168) 62 = .ok (.istore 7, 2) := by decide +kernel
theorem dX11_drawn_64 : decode (mB 168) 64 = .ok (.iconst 0, 1) := by decide +kernel
theorem dX11_drawn_65 : decode (mB 168) 65 = .ok (.istore 8, 2) := by decide +kernel
theorem dX11_drawn_67 : decode (mB 168) 67 = .ok (.iconst 0, 1) := by decide +kernel
theorem dX11_drawn_68 : decode (mB 168) 68 = .ok (.istore 9, 2) := by decide +kernel
theorem dX11_drawn_70 : decode (mB 168) 70 = .ok (.iload 9, 2) := by decide +kernel
theorem dX11_drawn_72 : decode (mB 168) 72 = .ok (.iload 4, 2) := by decide +kernel
theorem dX11_drawn_74 : decode (mB 168) 74 = .ok (.if_icmp .ge 91, 3) := by decide +kernel
theorem dX11_drawn_77 : decode (mB 168) 77 = .ok (.aload_n 0, 1) := by decide +kernel
theorem dX11_drawn_78 : decode (mB 168) 78 = .ok (.getfield 35, 3) := by decide +kernel
theorem dX11_drawn_81 : decode (mB 168) 81 = .ok (.invokevirtual 177, 3) := by decide +kernel
theorem dX11_drawn_84 : decode (mB 168) 84 = .ok (.iconst 0, 1) := by decide +kernel
theorem dX11_drawn_85 : decode (mB 168) 85 = .ok (.istore 10, 2) := by decide +kernel
theorem dX11_drawn_87 : decode (mB 168) 87 = .ok (.iload 10, 2) := by decide +kernel
theorem dX11_drawn_89 : decode (mB 168) 89 = .ok (.iload 5, 2) := by decide +kernel
theorem dX11_drawn_91 : decode (mB 168) 91 = .ok (.if_icmp .ge 38, 3) := by decide +kernel
theorem dX11_drawn_94 : decode (mB 168) 94 = .ok (.iload 6, 2) := by decide +kernel
theorem dX11_drawn_96 : decode (mB 168) 96 = .ok (.invokestatic 295, 3) := by decide +kernel
theorem dX11_drawn_99 : decode (mB 168) 99 = .ok (.istore 6, 2) := by decide +kernel
theorem dX11_drawn_101 : decode (mB 168) 101 = .ok (.iload 7, 2) := by decide +kernel
theorem dX11_drawn_103 : decode (mB 168) 103 = .ok (.aload_n 0, 1) := by decide +kernel
theorem dX11_drawn_104 : decode (mB 168) 104 = .ok (.getfield 35, 3) := by decide +kernel
theorem dX11_drawn_107 : decode (mB 168) 107 = .ok (.iload 6, 2) := by decide +kernel
theorem dX11_drawn_109 : decode (mB 168) 109 = .ok (.invokevirtual 298, 3) := by decide +kernel
theorem dX11_drawn_112 : decode (mB 168) 112 = .ok (.ifCond .eq 7, 3) := by decide +kernel
theorem dX11_drawn_115 : decode (mB 168) 115 = .ok (.iconst 1, 1) := by decide +kernel
theorem dX11_drawn_116 : decode (mB 168) 116 = .ok (.goto 4, 3) := by decide +kernel
theorem dX11_drawn_119 : decode (mB 168) 119 = .ok (.iconst 0, 1) := by decide +kernel
theorem dX11_drawn_120 : decode (mB 168) 120 = .ok (.iadd, 1) := by decide +kernel
theorem dX11_drawn_121 : decode (mB 168) 121 = .ok (.istore 7, 2) := by decide +kernel
theorem dX11_drawn_123 : decode (mB 168) 123 = .ok (.iinc 10 1, 3) := by decide +kernel
theorem dX11_drawn_126 : decode (mB 168) 126 = .ok (.goto (-39), 3) := by decide +kernel
theorem dX11_drawn_129 : decode (mB 168) 129 = .ok (.iload 6, 2) := by decide +kernel
theorem dX11_drawn_131 : decode (mB 168) 131 = .ok (.invokestatic 295, 3) := by decide +kernel
theorem dX11_drawn_134 : decode (mB 168) 134 = .ok (.istore 6, 2) := by decide +kernel
theorem dX11_drawn_136 : decode (mB 168) 136 = .ok (.iload 8, 2) := by decide +kernel
theorem dX11_drawn_138 : decode (mB 168) 138 = .ok (.aload_n 0, 1) := by decide +kernel
theorem dX11_drawn_139 : decode (mB 168) 139 = .ok (.getfield 35, 3) := by decide +kernel
theorem dX11_drawn_142 : decode (mB 168) 142 = .ok (.iload 6, 2) := by decide +kernel
theorem dX11_drawn_144 : decode (mB 168) 144 = .ok (.invokevirtual 301, 3) := by decide +kernel
theorem dX11_drawn_147 : decode (mB 168) 147 = .ok (.iload_n 3, 1) := by decide +kernel
theorem dX11_drawn_148 : decode (mB 168) 148 = .ok (.if_icmp .ne 7, 3) := by decide +kernel
theorem dX11_drawn_151 : decode (mB 168) 151 = .ok (.iconst 1, 1) := by decide +kernel
theorem dX11_drawn_152 : decode (mB 168) 152 = .ok (.goto 4, 3) := by decide +kernel
theorem dX11_drawn_155 : decode (mB 168) 155 = .ok (.iconst 0, 1) := by decide +kernel
theorem dX11_drawn_156 : decode (mB 168) 156 = .ok (.iadd, 1) := by decide +kernel
theorem dX11_drawn_157 : decode (mB 168) 157 = .ok (.istore 8, 2) := by decide +kernel
theorem dX11_drawn_159 : decode (mB 168) 159 = .ok (.iinc 9 1, 3) := by decide +kernel
theorem dX11_drawn_162 : decode (mB 168) 162 = .ok (.goto (-92), 3) := by decide +kernel
theorem dX11_drawn_165 : decode (mB 168) 165 = .ok (.iload_n 3, 1) := by decide +kernel
theorem dX11_drawn_166 : decode (mB 168) 166 = .ok (.iconst (-1), 1) := by decide +kernel
theorem dX11_drawn_167 : decode (mB 168) 167 = .ok (.if_icmp .ne 8, 3) := by decide +kernel
theorem dX11_drawn_170 : decode (mB 168) 170 = .ok (.iload 7, 2) := by decide +kernel
theorem dX11_drawn_172 : decode (mB 168) 172 = .ok (.goto 5, 3) := by decide +kernel
theorem dX11_drawn_175 : decode (mB 168) 175 = .ok (.iload 8, 2) := by decide +kernel
theorem dX11_drawn_177 : decode (mB 168) 177 = .ok (.ireturn, 1) := by decide +kernel
theorem dX11_nextDraw_0 : decode (mB 169) 0 = .ok (.iload_n 0, 1) := by decide +kernel
theorem dX11_nextDraw_1 : decode (mB 169) 1 = .ok (.ldc_w 304, 3) := by decide +kernel
theorem dX11_nextDraw_4 : decode (mB 169) 4 = .ok (.imul, 1) := by decide +kernel
theorem dX11_nextDraw_5 : decode (mB 169) 5 = .ok (.sipush 12345, 3) := by decide +kernel
theorem dX11_nextDraw_8 : decode (mB 169) 8 = .ok (.iadd, 1) := by decide +kernel
theorem dX11_nextDraw_9 : decode (mB 169) 9 = .ok (.ireturn, 1) := by decide +kernel
theorem dX11_slip_0 : decode (mB 170) 0 = .ok (.aload_n 0, 1) := by decide +kernel
theorem dX11_slip_1 : decode (mB 170) 1 = .ok (.getfield 10, 3) := by decide +kernel
theorem dX11_slip_4 : decode (mB 170) 4 = .ok (.iload_n 1, 1) := by decide +kernel
theorem dX11_slip_5 : decode (mB 170) 5 = .ok (.invokevirtual 171, 3) := by decide +kernel
theorem dX11_slip_8 : decode (mB 170) 8 = .ok (.ifCond .eq 12, 3) := by decide +kernel
theorem dX11_slip_11 : decode (mB 170) 11 = .ok (.iload_n 2, 1) := by decide +kernel
theorem dX11_slip_12 : decode (mB 170) 12 = .ok (.ifCond .lt 8, 3) := by decide +kernel
theorem dX11_slip_15 : decode (mB 170) 15 = .ok (.iload_n 2, 1) := by decide +kernel
theorem dX11_slip_16 : decode (mB 170) 16 = .ok (.iconst 1, 1) := by decide +kernel
theorem dX11_slip_17 : decode (mB 170) 17 = .ok (.if_icmp .le 5, 3) := by decide +kernel
theorem dX11_slip_20 : decode (mB 170) 20 = .ok (.iconst (-1), 1) := by decide +kernel
theorem dX11_slip_21 : decode (mB 170) 21 = .ok (.ireturn, 1) := by decide +kernel
theorem dX11_slip_22 : decode (mB 170) 22 = .ok (.iload_n 1, 1) := by decide +kernel
theorem dX11_slip_23 : decode (mB 170) 23 = .ok (.iconst 3, 1) := by decide +kernel
theorem dX11_slip_24 : decode (mB 170) 24 = .ok (.ishr, 1) := by decide +kernel
theorem dX11_slip_25 : decode (mB 170) 25 = .ok (.istore_n 3, 1) := by decide +kernel
theorem dX11_slip_26 : decode (mB 170) 26 = .ok (.iload_n 1, 1) := by decide +kernel
theorem dX11_slip_27 : decode (mB 170) 27 = .ok (.bipush 7, 2) := by decide +kernel
theorem dX11_slip_29 : decode (mB 170) 29 = .ok (.iand, 1) := by decide +kernel
theorem dX11_slip_30 : decode (mB 170) 30 = .ok (.istore 4, 2) := by decide +kernel
theorem dX11_slip_32 : decode (mB 170) 32 = .ok (.aload_n 0, 1) := by decide +kernel
theorem dX11_slip_33 : decode (mB 170) 33 = .ok (.invokevirtual 143, 3) := by decide +kernel
theorem dX11_slip_36 : decode (mB 170) 36 = .ok (.iload_n 3, 1) := by decide +kernel
theorem dX11_slip_37 : decode (mB 170) 37 = .ok (.iload 4, 2) := by decide +kernel
theorem dX11_slip_39 : decode (mB 170) 39 = .ok (.invokevirtual 232, 3) := by decide +kernel
theorem dX11_slip_42 : decode (mB 170) 42 = .ok (.ifCond .ne 6, 3) := by decide +kernel
theorem dX11_slip_45 : decode (mB 170) 45 = .ok (.bipush (-5), 2) := by decide +kernel
theorem dX11_slip_47 : decode (mB 170) 47 = .ok (.ireturn, 1) := by decide +kernel
theorem dX11_slip_48 : decode (mB 170) 48 = .ok (.aload_n 0, 1) := by decide +kernel
theorem dX11_slip_49 : decode (mB 170) 49 = .ok (.getfield 76, 3) := by decide +kernel
theorem dX11_slip_52 : decode (mB 170) 52 = .ok (.iconst 0, 1) := by decide +kernel
theorem dX11_slip_53 : decode (mB 170) 53 = .ok (.invokevirtual 305, 3) := by decide +kernel
theorem dX11_slip_56 : decode (mB 170) 56 = .ok (.iload_n 2, 1) := by decide +kernel
theorem dX11_slip_57 : decode (mB 170) 57 = .ok (.iconst 1, 1) := by decide +kernel
theorem dX11_slip_58 : decode (mB 170) 58 = .ok (.if_icmp .ne 22, 3) := by decide +kernel
theorem dX11_slip_61 : decode (mB 170) 61 = .ok (.aload_n 0, 1) := by decide +kernel
theorem dX11_slip_62 : decode (mB 170) 62 = .ok (.getfield 76, 3) := by decide +kernel
theorem dX11_slip_65 : decode (mB 170) 65 = .ok (.iconst 1, 1) := by decide +kernel
theorem dX11_slip_66 : decode (mB 170) 66 = .ok (.invokevirtual 305, 3) := by decide +kernel
theorem dX11_slip_69 : decode (mB 170) 69 = .ok (.aload_n 0, 1) := by decide +kernel
theorem dX11_slip_70 : decode (mB 170) 70 = .ok (.getfield 10, 3) := by decide +kernel
theorem dX11_slip_73 : decode (mB 170) 73 = .ok (.iconst 4, 1) := by decide +kernel
theorem dX11_slip_74 : decode (mB 170) 74 = .ok (.iload_n 3, 1) := by decide +kernel
theorem dX11_slip_75 : decode (mB 170) 75 = .ok (.iload 4, 2) := by decide +kernel
theorem dX11_slip_77 : decode (mB 170) 77 = .ok (.invokevirtual 136, 3) := by decide +kernel
theorem dX11_slip_80 : decode (mB 170) 80 = .ok (.aload_n 0, 1) := by decide +kernel
theorem dX11_slip_81 : decode (mB 170) 81 = .ok (.getfield 10, 3) := by decide +kernel
theorem dX11_slip_84 : decode (mB 170) 84 = .ok (.iconst 4, 1) := by decide +kernel
theorem dX11_slip_85 : decode (mB 170) 85 = .ok (.iload_n 3, 1) := by decide +kernel
theorem dX11_slip_86 : decode (mB 170) 86 = .ok (.invokevirtual 129, 3) := by decide +kernel
theorem dX11_slip_89 : decode (mB 170) 89 = .ok (.ireturn, 1) := by decide +kernel
theorem dX11_fold_0 : decode (mB 171) 0 = .ok (.aload_n 0, 1) := by decide +kernel
theorem dX11_fold_1 : decode (mB 171) 1 = .ok (.getfield 10, 3) := by decide +kernel
theorem dX11_fold_4 : decode (mB 171) 4 = .ok (.iload_n 1, 1) := by decide +kernel
theorem dX11_fold_5 : decode (mB 171) 5 = .ok (.invokevirtual 180, 3) := by decide +kernel
theorem dX11_fold_8 : decode (mB 171) 8 = .ok (.ifCond .ne 5, 3) := by decide +kernel
theorem dX11_fold_11 : decode (mB 171) 11 = .ok (.iconst (-1), 1) := by decide +kernel
theorem dX11_fold_12 : decode (mB 171) 12 = .ok (.ireturn, 1) := by decide +kernel
theorem dX11_fold_13 : decode (mB 171) 13 = .ok (.aload_n 0, 1) := by decide +kernel
theorem dX11_fold_14 : decode (mB 171) 14 = .ok (.getfield 10, 3) := by decide +kernel
theorem dX11_fold_17 : decode (mB 171) 17 = .ok (.bipush 6, 2) := by decide +kernel
theorem dX11_fold_19 : decode (mB 171) 19 = .ok (.iload_n 1, 1) := by decide +kernel
theorem dX11_fold_20 : decode (mB 171) 20 = .ok (.invokevirtual 129, 3) := by decide +kernel
theorem dX11_fold_23 : decode (mB 171) 23 = .ok (.istore_n 2, 1) := by decide +kernel
theorem dX11_fold_24 : decode (mB 171) 24 = .ok (.iload_n 2, 1) := by decide +kernel
theorem dX11_fold_25 : decode (mB 171) 25 = .ok (.iconst 4, 1) := by decide +kernel
theorem dX11_fold_26 : decode (mB 171) 26 = .ok (.if_icmp .lt 6, 3) := by decide +kernel
theorem dX11_fold_29 : decode (mB 171) 29 = .ok (.bipush (-5), 2) := by decide +kernel
theorem dX11_fold_31 : decode (mB 171) 31 = .ok (.ireturn, 1) := by decide +kernel
theorem dX11_fold_32 : decode (mB 171) 32 = .ok (.aload_n 0, 1) := by decide +kernel
theorem dX11_fold_33 : decode (mB 171) 33 = .ok (.getfield 76, 3) := by decide +kernel
theorem dX11_fold_36 : decode (mB 171) 36 = .ok (.iconst 2, 1) := by decide +kernel
theorem dX11_fold_37 : decode (mB 171) 37 = .ok (.invokevirtual 305, 3) := by decide +kernel
theorem dX11_fold_40 : decode (mB 171) 40 = .ok (.aload_n 0, 1) := by decide +kernel
theorem dX11_fold_41 : decode (mB 171) 41 = .ok (.getfield 10, 3) := by decide +kernel
theorem dX11_fold_44 : decode (mB 171) 44 = .ok (.bipush 6, 2) := by decide +kernel
theorem dX11_fold_46 : decode (mB 171) 46 = .ok (.iload_n 1, 1) := by decide +kernel
theorem dX11_fold_47 : decode (mB 171) 47 = .ok (.iload_n 2, 1) := by decide +kernel
theorem dX11_fold_48 : decode (mB 171) 48 = .ok (.iconst 1, 1) := by decide +kernel
theorem dX11_fold_49 : decode (mB 171) 49 = .ok (.iadd, 1) := by decide +kernel
theorem dX11_fold_50 : decode (mB 171) 50 = .ok (.invokevirtual 136, 3) := by decide +kernel
theorem dX11_fold_53 : decode (mB 171) 53 = .ok (.iload_n 2, 1) := by decide +kernel
theorem dX11_fold_54 : decode (mB 171) 54 = .ok (.iconst 1, 1) := by decide +kernel
theorem dX11_fold_55 : decode (mB 171) 55 = .ok (.iadd, 1) := by decide +kernel
theorem dX11_fold_56 : decode (mB 171) 56 = .ok (.ireturn, 1) := by decide +kernel
theorem dX11_hour_0 : decode (mB 172) 0 = .ok (.aload_n 0, 1) := by decide +kernel
theorem dX11_hour_1 : decode (mB 172) 1 = .ok (.getfield 10, 3) := by decide +kernel
theorem dX11_hour_4 : decode (mB 172) 4 = .ok (.invokevirtual 308, 3) := by decide +kernel
theorem dX11_hour_7 : decode (mB 172) 7 = .ok (.bipush 11, 2) := by decide +kernel
theorem dX11_hour_9 : decode (mB 172) 9 = .ok (.if_icmp .lt 7, 3) := by decide +kernel
theorem dX11_hour_12 : decode (mB 172) 12 = .ok (.iconst 0, 1) := by decide +kernel
theorem dX11_hour_13 : decode (mB 172) 13 = .ok (.goto 12, 3) := by decide +kernel
theorem dX11_hour_16 : decode (mB 172) 16 = .ok (.aload_n 0, 1) := by decide +kernel
theorem dX11_hour_17 : decode (mB 172) 17 = .ok (.getfield 10, 3) := by decide +kernel
theorem dX11_hour_20 : decode (mB 172) 20 = .ok (.invokevirtual 308, 3) := by decide +kernel
theorem dX11_hour_23 : decode (mB 172) 23 = .ok (.iconst 1, 1) := by decide +kernel
theorem dX11_hour_24 : decode (mB 172) 24 = .ok (.iadd, 1) := by decide +kernel
theorem dX11_hour_25 : decode (mB 172) 25 = .ok (.istore_n 1, 1) := by decide +kernel
theorem dX11_hour_26 : decode (mB 172) 26 = .ok (.aload_n 0, 1) := by decide +kernel
theorem dX11_hour_27 : decode (mB 172) 27 = .ok (.getfield 76, 3) := by decide +kernel
theorem dX11_hour_30 : decode (mB 172) 30 = .ok (.iconst 3, 1) := by decide +kernel
theorem dX11_hour_31 : decode (mB 172) 31 = .ok (.invokevirtual 305, 3) := by decide +kernel
theorem dX11_hour_34 : decode (mB 172) 34 = .ok (.aload_n 0, 1) := by decide +kernel
theorem dX11_hour_35 : decode (mB 172) 35 = .ok (.getfield 10, 3) := by decide +kernel
theorem dX11_hour_38 : decode (mB 172) 38 = .ok (.bipush 7, 2) := by decide +kernel
theorem dX11_hour_40 : decode (mB 172) 40 = .ok (.iconst 0, 1) := by decide +kernel
theorem dX11_hour_41 : decode (mB 172) 41 = .ok (.iload_n 1, 1) := by decide +kernel
theorem dX11_hour_42 : decode (mB 172) 42 = .ok (.invokevirtual 136, 3) := by decide +kernel
theorem dX11_hour_45 : decode (mB 172) 45 = .ok (.iload_n 1, 1) := by decide +kernel
theorem dX11_hour_46 : decode (mB 172) 46 = .ok (.ireturn, 1) := by decide +kernel
theorem dX11_led_0 : decode (mB 173) 0 = .ok (.iload_n 1, 1) := by decide +kernel
theorem dX11_led_1 : decode (mB 173) 1 = .ok (.ifCond .lt 8, 3) := by decide +kernel
theorem dX11_led_4 : decode (mB 173) 4 = .ok (.iload_n 1, 1) := by decide +kernel
theorem dX11_led_5 : decode (mB 173) 5 = .ok (.iconst 4, 1) := by decide +kernel
theorem dX11_led_6 : decode (mB 173) 6 = .ok (.if_icmp .lt 7, 3) := by decide +kernel
theorem dX11_led_9 : decode (mB 173) 9 = .ok (.iconst (-1), 1) := by decide +kernel
theorem dX11_led_10 : decode (mB 173) 10 = .ok (.goto 11, 3) := by decide +kernel
theorem dX11_led_13 : decode (mB 173) 13 = .ok (.aload_n 0, 1) := by decide +kernel
theorem dX11_led_14 : decode (mB 173) 14 = .ok (.getfield 76, 3) := by decide +kernel
theorem dX11_led_17 : decode (mB 173) 17 = .ok (.iload_n 1, 1) := by decide +kernel
theorem dX11_led_18 : decode (mB 173) 18 = .ok (.invokevirtual 311, 3) := by decide +kernel
theorem dX11_led_21 : decode (mB 173) 21 = .ok (.ireturn, 1) := by decide +kernel
theorem dX11_image_0 : decode (mB 174) 0 = .ok (.aload_n 0, 1) := by decide +kernel
theorem dX11_image_1 : decode (mB 174) 1 = .ok (.getfield 76, 3) := by decide +kernel
theorem dX11_image_4 : decode (mB 174) 4 = .ok (.invokevirtual 314, 3) := by decide +kernel
theorem dX11_image_7 : decode (mB 174) 7 = .ok (.aload_n 0, 1) := by decide +kernel
theorem dX11_image_8 : decode (mB 174) 8 = .ok (.getfield 76, 3) := by decide +kernel
theorem dX11_image_11 : decode (mB 174) 11 = .ok (.iconst 0, 1) := by decide +kernel
theorem dX11_image_12 : decode (mB 174) 12 = .ok (.invokevirtual 311, 3) := by decide +kernel
theorem dX11_image_15 : decode (mB 174) 15 = .ok (.ireturn, 1) := by decide +kernel
theorem dX11_back_0 : decode (mB 175) 0 = .ok (.aload_n 0, 1) := by decide +kernel
theorem dX11_back_1 : decode (mB 175) 1 = .ok (.getfield 76, 3) := by decide +kernel
theorem dX11_back_4 : decode (mB 175) 4 = .ok (.invokevirtual 317, 3) := by decide +kernel
theorem dX11_back_7 : decode (mB 175) 7 = .ok (.ifCond .ne 6, 3) := by decide +kernel
theorem dX11_back_10 : decode (mB 175) 10 = .ok (.bipush (-5), 2) := by decide +kernel
theorem dX11_back_12 : decode (mB 175) 12 = .ok (.ireturn, 1) := by decide +kernel
theorem dX11_back_13 : decode (mB 175) 13 = .ok (.aload_n 0, 1) := by decide +kernel
theorem dX11_back_14 : decode (mB 175) 14 = .ok (.getfield 76, 3) := by decide +kernel
theorem dX11_back_17 : decode (mB 175) 17 = .ok (.invokevirtual 321, 3) := by decide +kernel
theorem dX11_back_20 : decode (mB 175) 20 = .ok (.aload_n 0, 1) := by decide +kernel
theorem dX11_back_21 : decode (mB 175) 21 = .ok (.getfield 76, 3) := by decide +kernel
theorem dX11_back_24 : decode (mB 175) 24 = .ok (.iconst 0, 1) := by decide +kernel
theorem dX11_back_25 : decode (mB 175) 25 = .ok (.invokevirtual 311, 3) := by decide +kernel
theorem dX11_back_28 : decode (mB 175) 28 = .ok (.ireturn, 1) := by decide +kernel
theorem dX11_undo_0 : decode (mB 176) 0 = .ok (.aload_n 0, 1) := by decide +kernel
theorem dX11_undo_1 : decode (mB 176) 1 = .ok (.getfield 83, 3) := by decide +kernel
theorem dX11_undo_4 : decode (mB 176) 4 = .ok (.invokevirtual 324, 3) := by decide +kernel
theorem dX11_undo_7 : decode (mB 176) 7 = .ok (.ifCond .ne 6, 3) := by decide +kernel
theorem dX11_undo_10 : decode (mB 176) 10 = .ok (.bipush (-5), 2) := by decide +kernel
theorem dX11_undo_12 : decode (mB 176) 12 = .ok (.ireturn, 1) := by decide +kernel
theorem dX11_undo_13 : decode (mB 176) 13 = .ok (.aload_n 0, 1) := by decide +kernel
theorem dX11_undo_14 : decode (mB 176) 14 = .ok (.getfield 83, 3) := by decide +kernel
theorem dX11_undo_17 : decode (mB 176) 17 = .ok (.invokevirtual 327, 3) := by decide +kernel
theorem dX11_undo_20 : decode (mB 176) 20 = .ok (.aload_n 0, 1) := by decide +kernel
theorem dX11_undo_21 : decode (mB 176) 21 = .ok (.getfield 83, 3) := by decide +kernel
theorem dX11_undo_24 : decode (mB 176) 24 = .ok (.invokevirtual 324, 3) := by decide +kernel
theorem dX11_undo_27 : decode (mB 176) 27 = .ok (.ireturn, 1) := by decide +kernel
theorem dX11_redo_0 : decode (mB 177) 0 = .ok (.aload_n 0, 1) := by decide +kernel
theorem dX11_redo_1 : decode (mB 177) 1 = .ok (.getfield 83, 3) := by decide +kernel
theorem dX11_redo_4 : decode (mB 177) 4 = .ok (.invokevirtual 330, 3) := by decide +kernel
theorem dX11_redo_7 : decode (mB 177) 7 = .ok (.ifCond .ne 6, 3) := by decide +kernel
theorem dX11_redo_10 : decode (mB 177) 10 = .ok (.bipush (-5), 2) := by decide +kernel
theorem dX11_redo_12 : decode (mB 177) 12 = .ok (.ireturn, 1) := by decide +kernel
theorem dX11_redo_13 : decode (mB 177) 13 = .ok (.aload_n 0, 1) := by decide +kernel
theorem dX11_redo_14 : decode (mB 177) 14 = .ok (.getfield 83, 3) := by decide +kernel
theorem dX11_redo_17 : decode (mB 177) 17 = .ok (.invokevirtual 333, 3) := by decide +kernel
theorem dX11_redo_20 : decode (mB 177) 20 = .ok (.aload_n 0, 1) := by decide +kernel
theorem dX11_redo_21 : decode (mB 177) 21 = .ok (.getfield 83, 3) := by decide +kernel
theorem dX11_redo_24 : decode (mB 177) 24 = .ok (.invokevirtual 330, 3) := by decide +kernel
theorem dX11_redo_27 : decode (mB 177) 27 = .ok (.ireturn, 1) := by decide +kernel
theorem dX11_body_0 : decode (mB 178) 0 = .ok (.iload_n 1, 1) := by decide +kernel
theorem dX11_body_1 : decode (mB 178) 1 = .ok (.invokestatic 336, 3) := by decide +kernel
theorem dX11_body_4 : decode (mB 178) 4 = .ok (.ifCond .eq 14, 3) := by decide +kernel
theorem dX11_body_7 : decode (mB 178) 7 = .ok (.aload_n 0, 1) := by decide +kernel
theorem dX11_body_8 : decode (mB 178) 8 = .ok (.getfield 90, 3) := by decide +kernel
theorem dX11_body_11 : decode (mB 178) 11 = .ok (.iload_n 1, 1) := by decide +kernel
theorem dX11_body_12 : decode (mB 178) 12 = .ok (.invokevirtual 339, 3) := by decide +kernel
theorem dX11_body_15 : decode (mB 178) 15 = .ok (.goto 4, 3) := by decide +kernel
theorem dX11_body_18 : decode (mB 178) 18 = .ok (.iconst (-1), 1) := by decide +kernel
theorem dX11_body_19 : decode (mB 178) 19 = .ok (.ireturn, 1) := by decide +kernel
theorem dX11_act_0 : decode (mB 179) 0 = .ok (.aload_n 0, 1) := by decide +kernel
theorem dX11_act_1 : decode (mB 179) 1 = .ok (.getfield 90, 3) := by decide +kernel
theorem dX11_act_4 : decode (mB 179) 4 = .ok (.iload_n 1, 1) := by decide +kernel
theorem dX11_act_5 : decode (mB 179) 5 = .ok (.iload_n 2, 1) := by decide +kernel
theorem dX11_act_6 : decode (mB 179) 6 = .ok (.iload_n 3, 1) := by decide +kernel
theorem dX11_act_7 : decode (mB 179) 7 = .ok (.invokevirtual 342, 3) := by decide +kernel
theorem dX11_act_10 : decode (mB 179) 10 = .ok (.ireturn, 1) := by decide +kernel
theorem dX11_trace_0 : decode (mB 180) 0 = .ok (.iload_n 1, 1) := by decide +kernel
theorem dX11_trace_1 : decode (mB 180) 1 = .ok (.ifCond .lt 14, 3) := by decide +kernel
theorem dX11_trace_4 : decode (mB 180) 4 = .ok (.iload_n 1, 1) := by decide +kernel
theorem dX11_trace_5 : decode (mB 180) 5 = .ok (.aload_n 0, 1) := by decide +kernel
theorem dX11_trace_6 : decode (mB 180) 6 = .ok (.getfield 90, 3) := by decide +kernel
theorem dX11_trace_9 : decode (mB 180) 9 = .ok (.invokevirtual 344, 3) := by decide +kernel
theorem dX11_trace_12 : decode (mB 180) 12 = .ok (.if_icmp .lt 7, 3) := by decide +kernel
theorem dX11_trace_15 : decode (mB 180) 15 = .ok (.iconst (-1), 1) := by decide +kernel
theorem dX11_trace_16 : decode (mB 180) 16 = .ok (.goto 11, 3) := by decide +kernel
theorem dX11_trace_19 : decode (mB 180) 19 = .ok (.aload_n 0, 1) := by decide +kernel
theorem dX11_trace_20 : decode (mB 180) 20 = .ok (.getfield 90, 3) := by decide +kernel
theorem dX11_trace_23 : decode (mB 180) 23 = .ok (.iload_n 1, 1) := by decide +kernel
theorem dX11_trace_24 : decode (mB 180) 24 = .ok (.invokevirtual 347, 3) := by decide +kernel
theorem dX11_trace_27 : decode (mB 180) 27 = .ok (.ireturn, 1) := by decide +kernel
theorem dX11_keep_0 : decode (mB 181) 0 = .ok (.aload_n 0, 1) := by decide +kernel
theorem dX11_keep_1 : decode (mB 181) 1 = .ok (.getfield 42, 3) := by decide +kernel
theorem dX11_keep_4 : decode (mB 181) 4 = .ok (.iload_n 1, 1) := by decide +kernel
theorem dX11_keep_5 : decode (mB 181) 5 = .ok (.invokevirtual 106, 3) := by decide +kernel
theorem dX11_keep_8 : decode (mB 181) 8 = .ok (.ifCond .eq 19, 3) := by decide +kernel
theorem dX11_keep_11 : decode (mB 181) 11 = .ok (.iload_n 2, 1) := by decide +kernel
theorem dX11_keep_12 : decode (mB 181) 12 = .ok (.iconst (-1), 1) := by decide +kernel
theorem dX11_keep_13 : decode (mB 181) 13 = .ok (.if_icmp .eq 16, 3) := by decide +kernel
theorem dX11_keep_16 : decode (mB 181) 16 = .ok (.aload_n 0, 1) := by decide +kernel
theorem dX11_keep_17 : decode (mB 181) 17 = .ok (.getfield 90, 3) := by decide +kernel
theorem dX11_keep_20 : decode (mB 181) 20 = .ok (.iload_n 2, 1) := by decide +kernel
theorem dX11_keep_21 : decode (mB 181) 21 = .ok (.invokevirtual 350, 3) := by decide +kernel
theorem dX11_keep_24 : decode (mB 181) 24 = .ok (.ifCond .ne 5, 3) := by decide +kernel
theorem dX11_keep_27 : decode (mB 181) 27 = .ok (.iconst (-1), 1) := by decide +kernel
theorem dX11_keep_28 : decode (mB 181) 28 = .ok (.ireturn, 1) := by decide +kernel
theorem dX11_keep_29 : decode (mB 181) 29 = .ok (.iload_n 2, 1) := by decide +kernel
theorem dX11_keep_30 : decode (mB 181) 30 = .ok (.iconst (-1), 1) := by decide +kernel
theorem dX11_keep_31 : decode (mB 181) 31 = .ok (.if_icmp .ne 14, 3) := by decide +kernel
theorem dX11_keep_34 : decode (mB 181) 34 = .ok (.aload_n 0, 1) := by decide +kernel
theorem dX11_keep_35 : decode (mB 181) 35 = .ok (.getfield 42, 3) := by decide +kernel
theorem dX11_keep_38 : decode (mB 181) 38 = .ok (.iload_n 1, 1) := by decide +kernel
theorem dX11_keep_39 : decode (mB 181) 39 = .ok (.invokevirtual 353, 3) := by decide +kernel
theorem dX11_keep_42 : decode (mB 181) 42 = .ok (.goto 12, 3) := by decide +kernel
theorem dX11_keep_45 : decode (mB 181) 45 = .ok (.aload_n 0, 1) := by decide +kernel
theorem dX11_keep_46 : decode (mB 181) 46 = .ok (.getfield 42, 3) := by decide +kernel
theorem dX11_keep_49 : decode (mB 181) 49 = .ok (.iload_n 1, 1) := by decide +kernel
theorem dX11_keep_50 : decode (mB 181) 50 = .ok (.iload_n 2, 1) := by decide +kernel
theorem dX11_keep_51 : decode (mB 181) 51 = .ok (.invokevirtual 356, 3) := by decide +kernel
theorem dX11_keep_54 : decode (mB 181) 54 = .ok (.iconst 1, 1) := by decide +kernel
theorem dX11_keep_55 : decode (mB 181) 55 = .ok (.ireturn, 1) := by decide +kernel
theorem dX11_row_0 : decode (mB 182) 0 = .ok (.aload_n 0, 1) := by decide +kernel
theorem dX11_row_1 : decode (mB 182) 1 = .ok (.getfield 42, 3) := by decide +kernel
theorem dX11_row_4 : decode (mB 182) 4 = .ok (.iload_n 1, 1) := by decide +kernel
theorem dX11_row_5 : decode (mB 182) 5 = .ok (.invokevirtual 106, 3) := by decide +kernel
theorem dX11_row_8 : decode (mB 182) 8 = .ok (.ifCond .eq 16, 3) := by decide +kernel
theorem dX11_row_11 : decode (mB 182) 11 = .ok (.iload_n 2, 1) := by decide +kernel
theorem dX11_row_12 : decode (mB 182) 12 = .ok (.invokestatic 359, 3) := by decide +kernel
theorem dX11_row_15 : decode (mB 182) 15 = .ok (.ifCond .eq 9, 3) := by decide +kernel
theorem dX11_row_18 : decode (mB 182) 18 = .ok (.iload_n 3, 1) := by decide +kernel
theorem dX11_row_19 : decode (mB 182) 19 = .ok (.bipush 60, 2) := by decide +kernel
theorem dX11_row_21 : decode (mB 182) 21 = .ok (.if_icmp .le 5, 3) := by decide +kernel
theorem dX11_row_24 : decode (mB 182) 24 = .ok (.iconst (-1), 1) := by decide +kernel
theorem dX11_row_25 : decode (mB 182) 25 = .ok (.ireturn, 1) := by decide +kernel
theorem dX11_row_26 : decode (mB 182) 26 = .ok (.iload_n 3, 1) := by decide +kernel
theorem dX11_row_27 : decode (mB 182) 27 = .ok (.ifCond .ge 6, 3) := by decide +kernel
theorem dX11_row_30 : decode (mB 182) 30 = .ok (.bipush (-14), 2) := by decide +kernel
theorem dX11_row_32 : decode (mB 182) 32 = .ok (.ireturn, 1) := by decide +kernel
theorem dX11_row_33 : decode (mB 182) 33 = .ok (.aload_n 0, 1) := by decide +kernel
theorem dX11_row_34 : decode (mB 182) 34 = .ok (.getfield 42, 3) := by decide +kernel
theorem dX11_row_37 : decode (mB 182) 37 = .ok (.iload_n 1, 1) := by decide +kernel
theorem dX11_row_38 : decode (mB 182) 38 = .ok (.iload_n 2, 1) := by decide +kernel
theorem dX11_row_39 : decode (mB 182) 39 = .ok (.iload_n 3, 1) := by decide +kernel
theorem dX11_row_40 : decode (mB 182) 40 = .ok (.invokevirtual 362, 3) := by decide +kernel
theorem dX11_row_43 : decode (mB 182) 43 = .ok (.iconst 1, 1) := by decide +kernel
theorem dX11_row_44 : decode (mB 182) 44 = .ok (.ireturn, 1) := by decide +kernel
theorem dX11_put_0 : decode (mB 183) 0 = .ok (.aload_n 0, 1) := by decide +kernel
theorem dX11_put_1 : decode (mB 183) 1 = .ok (.getfield 42, 3) := by decide +kernel
theorem dX11_put_4 : decode (mB 183) 4 = .ok (.iload_n 1, 1) := by decide +kernel
theorem dX11_put_5 : decode (mB 183) 5 = .ok (.iload_n 2, 1) := by decide +kernel
theorem dX11_put_6 : decode (mB 183) 6 = .ok (.invokevirtual 365, 3) := by decide +kernel
theorem dX11_put_9 : decode (mB 183) 9 = .ok (.istore 5, 2) := by decide +kernel
theorem dX11_put_11 : decode (mB 183) 11 = .ok (.iload 5, 2) := by decide +kernel
theorem dX11_put_13 : decode (mB 183) 13 = .ok (.ifCond .eq 6, 3) := by decide +kernel
theorem dX11_put_16 : decode (mB 183) 16 = .ok (.iload 5, 2) := by decide +kernel
theorem dX11_put_18 : decode (mB 183) 18 = .ok (.ireturn, 1) := by decide +kernel
theorem dX11_put_19 : decode (mB 183) 19 = .ok (.aload_n 0, 1) := by decide +kernel
theorem dX11_put_20 : decode (mB 183) 20 = .ok (.getfield 42, 3) := by decide +kernel
theorem dX11_put_23 : decode (mB 183) 23 = .ok (.iload_n 1, 1) := by decide +kernel
theorem dX11_put_24 : decode (mB 183) 24 = .ok (.iload_n 2, 1) := by decide +kernel
theorem dX11_put_25 : decode (mB 183) 25 = .ok (.lload_n 3, 1) := by decide +kernel
theorem dX11_put_26 : decode (mB 183) 26 = .ok (.invokevirtual 368, 3) := by decide +kernel
theorem dX11_put_29 : decode (mB 183) 29 = .ok (.iconst 1, 1) := by decide +kernel
theorem dX11_put_30 : decode (mB 183) 30 = .ok (.ireturn, 1) := by decide +kernel
theorem dX11_element_0 : decode (mB 184) 0 = .ok (.aload_n 0, 1) := by decide +kernel
theorem dX11_element_1 : decode (mB 184) 1 = .ok (.getfield 42, 3) := by decide +kernel
theorem dX11_element_4 : decode (mB 184) 4 = .ok (.iload_n 1, 1) := by decide +kernel
theorem dX11_element_5 : decode (mB 184) 5 = .ok (.iload_n 2, 1) := by decide +kernel
theorem dX11_element_6 : decode (mB 184) 6 = .ok (.invokevirtual 365, 3) := by decide +kernel
theorem dX11_element_9 : decode (mB 184) 9 = .ok (.ifCond .eq 9, 3) := by decide +kernel
theorem dX11_element_12 : decode (mB 184) 12 = .ok (.ldc2_w 204, 3) := by decide +kernel
theorem dX11_element_15 : decode (mB 184) 15 = .ok (.goto 12, 3) := by decide +kernel
theorem dX11_element_18 : decode (mB 184) 18 = .ok (.aload_n 0, 1) := by decide +kernel
theorem dX11_element_19 : decode (mB 184) 19 = .ok (.getfield 42, 3) := by decide +kernel
theorem dX11_element_22 : decode (mB 184) 22 = .ok (.iload_n 1, 1) := by decide +kernel
theorem dX11_element_23 : decode (mB 184) 23 = .ok (.iload_n 2, 1) := by decide +kernel
theorem dX11_element_24 : decode (mB 184) 24 = .ok (.invokevirtual 122, 3) := by decide +kernel
theorem dX11_element_27 : decode (mB 184) 27 = .ok (.lreturn, 1) := by decide +kernel
theorem dX11_shift_0 : decode (mB 185) 0 = .ok (.aload_n 0, 1) := by decide +kernel
theorem dX11_shift_1 : decode (mB 185) 1 = .ok (.getfield 42, 3) := by decide +kernel
theorem dX11_shift_4 : decode (mB 185) 4 = .ok (.iload_n 1, 1) := by decide +kernel
theorem dX11_shift_5 : decode (mB 185) 5 = .ok (.iload_n 3, 1) := by decide +kernel
theorem dX11_shift_6 : decode (mB 185) 6 = .ok (.invokevirtual 371, 3) := by decide +kernel
theorem dX11_shift_9 : decode (mB 185) 9 = .ok (.istore 6, 2) := by decide +kernel
theorem dX11_shift_11 : decode (mB 185) 11 = .ok (.iload 6, 2) := by decide +kernel
theorem dX11_shift_13 : decode (mB 185) 13 = .ok (.ifCond .eq 6, 3) := by decide +kernel
theorem dX11_shift_16 : decode (mB 185) 16 = .ok (.iload 6, 2) := by decide +kernel
theorem dX11_shift_18 : decode (mB 185) 18 = .ok (.ireturn, 1) := by decide +kernel
theorem dX11_shift_19 : decode (mB 185) 19 = .ok (.iload 5, 2) := by decide +kernel
theorem dX11_shift_21 : decode (mB 185) 21 = .ok (.ifCond .lt 32, 3) := by decide +kernel
theorem dX11_shift_24 : decode (mB 185) 24 = .ok (.aload_n 0, 1) := by decide +kernel
theorem dX11_shift_25 : decode (mB 185) 25 = .ok (.getfield 42, 3) := by decide +kernel
theorem dX11_shift_28 : decode (mB 185) 28 = .ok (.iload_n 1, 1) := by decide +kernel
theorem dX11_shift_29 : decode (mB 185) 29 = .ok (.iload_n 2, 1) := by decide +kernel
theorem dX11_shift_30 : decode (mB 185) 30 = .ok (.iload 5, 2) := by decide +kernel
theorem dX11_shift_32 : decode (mB 185) 32 = .ok (.invokevirtual 374, 3) := by decide +kernel
theorem dX11_shift_35 : decode (mB 185) 35 = .ok (.ifCond .eq 18, 3) := by decide +kernel
theorem dX11_shift_38 : decode (mB 185) 38 = .ok (.aload_n 0, 1) := by decide +kernel
theorem dX11_shift_39 : decode (mB 185) 39 = .ok (.getfield 42, 3) := by decide +kernel
theorem dX11_shift_42 : decode (mB 185) 42 = .ok (.iload_n 3, 1) := by decide +kernel
theorem dX11_shift_43 : decode (mB 185) 43 = .ok (.iload 4, 2) := by decide +kernel
theorem dX11_shift_45 : decode (mB 185) 45 = .ok (.iload 5, 2) := by decide +kernel
theorem dX11_shift_47 : decode (mB 185) 47 = .ok (.invokevirtual 374, 3) := by decide +kernel
theorem dX11_shift_50 : decode (mB 185) 50 = .ok (.ifCond .ne 6, 3) := by decide +kernel
theorem dX11_shift_53 : decode (mB 185) 53 = .ok (.bipush (-13), 2) := by decide +kernel
theorem dX11_shift_55 : decode (mB 185) 55 = .ok (.ireturn, 1) := by decide +kernel
theorem dX11_shift_56 : decode (mB 185) 56 = .ok (.aload_n 0, 1) := by decide +kernel
theorem dX11_shift_57 : decode (mB 185) 57 = .ok (.getfield 42, 3) := by decide +kernel
theorem dX11_shift_60 : decode (mB 185) 60 = .ok (.iload_n 1, 1) := by decide +kernel
theorem dX11_shift_61 : decode (mB 185) 61 = .ok (.iload_n 2, 1) := by decide +kernel
theorem dX11_shift_62 : decode (mB 185) 62 = .ok (.iload_n 3, 1) := by decide +kernel
theorem dX11_shift_63 : decode (mB 185) 63 = .ok (.iload 4, 2) := by decide +kernel
theorem dX11_shift_65 : decode (mB 185) 65 = .ok (.iload 5, 2) := by decide +kernel
theorem dX11_shift_67 : decode (mB 185) 67 = .ok (.invokevirtual 377, 3) := by decide +kernel
theorem dX11_shift_70 : decode (mB 185) 70 = .ok (.iload 5, 2) := by decide +kernel
theorem dX11_shift_72 : decode (mB 185) 72 = .ok (.ireturn, 1) := by decide +kernel
theorem dX11_taken_0 : decode (mB 186) 0 = .ok (.aload_n 0, 1) := by decide +kernel
theorem dX11_taken_1 : decode (mB 186) 1 = .ok (.getfield 42, 3) := by decide +kernel
theorem dX11_taken_4 : decode (mB 186) 4 = .ok (.iload_n 1, 1) := by decide +kernel
theorem dX11_taken_5 : decode (mB 186) 5 = .ok (.invokevirtual 106, 3) := by decide +kernel
theorem dX11_taken_8 : decode (mB 186) 8 = .ok (.ifCond .eq 10, 3) := by decide +kernel
theorem dX11_taken_11 : decode (mB 186) 11 = .ok (.iload_n 2, 1) := by decide +kernel
theorem dX11_taken_12 : decode (mB 186) 12 = .ok (.invokestatic 336, 3) := by decide +kernel
theorem dX11_taken_15 : decode (mB 186) 15 = .ok (.ifCond .ne 5, 3) := by decide +kernel
theorem dX11_taken_18 : decode (mB 186) 18 = .ok (.iconst (-1), 1) := by decide +kernel
theorem dX11_taken_19 : decode (mB 186) 19 = .ok (.ireturn, 1) := by decide +kernel
theorem dX11_taken_20 : decode (mB 186) 20 = .ok (.aload_n 0, 1) := by decide +kernel
theorem dX11_taken_21 : decode (mB 186) 21 = .ok (.getfield 42, 3) := by decide +kernel
theorem dX11_taken_24 : decode (mB 186) 24 = .ok (.iload_n 1, 1) := by decide +kernel
theorem dX11_taken_25 : decode (mB 186) 25 = .ok (.invokevirtual 273, 3) := by decide +kernel
theorem dX11_taken_28 : decode (mB 186) 28 = .ok (.ifCond .eq 6, 3) := by decide +kernel
theorem dX11_taken_31 : decode (mB 186) 31 = .ok (.bipush (-11), 2) := by decide +kernel
theorem dX11_taken_33 : decode (mB 186) 33 = .ok (.ireturn, 1) := by decide +kernel
theorem dX11_taken_34 : decode (mB 186) 34 = .ok (.aload_n 0, 1) := by decide +kernel
theorem dX11_taken_35 : decode (mB 186) 35 = .ok (.getfield 42, 3) := by decide +kernel
theorem dX11_taken_38 : decode (mB 186) 38 = .ok (.iload_n 1, 1) := by decide +kernel
theorem dX11_taken_39 : decode (mB 186) 39 = .ok (.invokevirtual 381, 3) := by decide +kernel
theorem dX11_taken_42 : decode (mB 186) 42 = .ok (.ifCond .eq 7, 3) := by decide +kernel
theorem dX11_taken_45 : decode (mB 186) 45 = .ok (.iconst (-1), 1) := by decide +kernel
theorem dX11_taken_46 : decode (mB 186) 46 = .ok (.goto 18, 3) := by decide +kernel
theorem dX11_taken_49 : decode (mB 186) 49 = .ok (.aload_n 0, 1) := by decide +kernel
theorem dX11_taken_50 : decode (mB 186) 50 = .ok (.getfield 90, 3) := by decide +kernel
theorem dX11_taken_53 : decode (mB 186) 53 = .ok (.aload_n 0, 1) := by decide +kernel
theorem dX11_taken_54 : decode (mB 186) 54 = .ok (.getfield 42, 3) := by decide +kernel
theorem dX11_taken_57 : decode (mB 186) 57 = .ok (.iload_n 1, 1) := by decide +kernel
theorem dX11_taken_58 : decode (mB 186) 58 = .ok (.invokevirtual 384, 3) := by decide +kernel
theorem dX11_taken_61 : decode (mB 186) 61 = .ok (.invokevirtual 387, 3) := by decide +kernel
theorem dX11_taken_64 : decode (mB 186) 64 = .ok (.istore_n 3, 1) := by decide +kernel
theorem dX11_taken_65 : decode (mB 186) 65 = .ok (.iload_n 3, 1) := by decide +kernel
theorem dX11_taken_66 : decode (mB 186) 66 = .ok (.iload_n 2, 1) := by decide +kernel
theorem dX11_taken_67 : decode (mB 186) 67 = .ok (.invokestatic 390, 3) := by decide +kernel
theorem dX11_taken_70 : decode (mB 186) 70 = .ok (.ifCond .eq 7, 3) := by decide +kernel
theorem dX11_taken_73 : decode (mB 186) 73 = .ok (.iload_n 3, 1) := by decide +kernel
theorem dX11_taken_74 : decode (mB 186) 74 = .ok (.goto 5, 3) := by decide +kernel
theorem dX11_taken_77 : decode (mB 186) 77 = .ok (.bipush (-12), 2) := by decide +kernel
theorem dX11_taken_79 : decode (mB 186) 79 = .ok (.ireturn, 1) := by decide +kernel
theorem dX11_count_0 : decode (mB 187) 0 = .ok (.iload_n 1, 1) := by decide +kernel
theorem dX11_count_1 : decode (mB 187) 1 = .ok (.tableswitch 87 0 5 #[39, 47, 55, 63, 71, 79], 39) := by decide +kernel
theorem dX11_count_40 : decode (mB 187) 40 = .ok (.aload_n 0, 1) := by decide +kernel
theorem dX11_count_41 : decode (mB 187) 41 = .ok (.getfield 10, 3) := by decide +kernel
theorem dX11_count_44 : decode (mB 187) 44 = .ok (.invokevirtual 226, 3) := by decide +kernel
theorem dX11_count_47 : decode (mB 187) 47 = .ok (.ireturn, 1) := by decide +kernel
theorem dX11_count_48 : decode (mB 187) 48 = .ok (.aload_n 0, 1) := by decide +kernel
theorem dX11_count_49 : decode (mB 187) 49 = .ok (.getfield 10, 3) := by decide +kernel
theorem dX11_count_52 : decode (mB 187) 52 = .ok (.invokevirtual 229, 3) := by decide +kernel
theorem dX11_count_55 : decode (mB 187) 55 = .ok (.ireturn, 1) := by decide +kernel
theorem dX11_count_56 : decode (mB 187) 56 = .ok (.aload_n 0, 1) := by decide +kernel
theorem dX11_count_57 : decode (mB 187) 57 = .ok (.getfield 26, 3) := by decide +kernel
theorem dX11_count_60 : decode (mB 187) 60 = .ok (.invokevirtual 393, 3) := by decide +kernel
theorem dX11_count_63 : decode (mB 187) 63 = .ok (.ireturn, 1) := by decide +kernel
theorem dX11_count_64 : decode (mB 187) 64 = .ok (.aload_n 0, 1) := by decide +kernel
theorem dX11_count_65 : decode (mB 187) 65 = .ok (.getfield 83, 3) := by decide +kernel
theorem dX11_count_68 : decode (mB 187) 68 = .ok (.invokevirtual 324, 3) := by decide +kernel
theorem dX11_count_71 : decode (mB 187) 71 = .ok (.ireturn, 1) := by decide +kernel
theorem dX11_count_72 : decode (mB 187) 72 = .ok (.aload_n 0, 1) := by decide +kernel
theorem dX11_count_73 : decode (mB 187) 73 = .ok (.getfield 90, 3) := by decide +kernel
theorem dX11_count_76 : decode (mB 187) 76 = .ok (.invokevirtual 396, 3) := by decide +kernel
theorem dX11_count_79 : decode (mB 187) 79 = .ok (.ireturn, 1) := by decide +kernel
theorem dX11_count_80 : decode (mB 187) 80 = .ok (.aload_n 0, 1) := by decide +kernel
theorem dX11_count_81 : decode (mB 187) 81 = .ok (.getfield 90, 3) := by decide +kernel
theorem dX11_count_84 : decode (mB 187) 84 = .ok (.invokevirtual 399, 3) := by decide +kernel
theorem dX11_count_87 : decode (mB 187) 87 = .ok (.ireturn, 1) := by decide +kernel
theorem dX11_count_88 : decode (mB 187) 88 = .ok (.iconst (-1), 1) := by decide +kernel
theorem dX11_count_89 : decode (mB 187) 89 = .ok (.ireturn, 1) := by decide +kernel
theorem dX12_init_0 : decode (mB 188) 0 = .ok (.aload_n 0, 1) := by decide +kernel
theorem dX12_init_1 : decode (mB 188) 1 = .ok (.invokespecial 3, 3) := by decide +kernel
theorem dX12_init_4 : decode (mB 188) 4 = .ok (.aload_n 0, 1) := by decide +kernel
theorem dX12_init_5 : decode (mB 188) 5 = .ok (.bipush 6, 2) := by decide +kernel
theorem dX12_init_7 : decode (mB 188) 7 = .ok (.newarray .int, 2) := by decide +kernel
theorem dX12_init_9 : decode (mB 188) 9 = .ok (.putfield 9, 3) := by decide +kernel
theorem dX12_init_12 : decode (mB 188) 12 = .ok (.aload_n 0, 1) := by decide +kernel
theorem dX12_init_13 : decode (mB 188) 13 = .ok (.bipush 6, 2) := by decide +kernel
theorem dX12_init_15 : decode (mB 188) 15 = .ok (.newarray .int, 2) := by decide +kernel
theorem dX12_init_17 : decode (mB 188) 17 = .ok (.putfield 15, 3) := by decide +kernel
theorem dX12_init_20 : decode (mB 188) 20 = .ok (.aload_n 0, 1) := by decide +kernel
theorem dX12_init_21 : decode (mB 188) 21 = .ok (.bipush 6, 2) := by decide +kernel
theorem dX12_init_23 : decode (mB 188) 23 = .ok (.newarray .int, 2) := by decide +kernel
theorem dX12_init_25 : decode (mB 188) 25 = .ok (.putfield 18, 3) := by decide +kernel
theorem dX12_init_28 : decode (mB 188) 28 = .ok (.aload_n 0, 1) := by decide +kernel
theorem dX12_init_29 : decode (mB 188) 29 = .ok (.bipush 6, 2) := by decide +kernel
theorem dX12_init_31 : decode (mB 188) 31 = .ok (.newarray .int, 2) := by decide +kernel
theorem dX12_init_33 : decode (mB 188) 33 = .ok (.putfield 21, 3) := by decide +kernel
theorem dX12_init_36 : decode (mB 188) 36 = .ok (.aload_n 0, 1) := by decide +kernel
theorem dX12_init_37 : decode (mB 188) 37 = .ok (.bipush 12, 2) := by decide +kernel
theorem dX12_init_39 : decode (mB 188) 39 = .ok (.newarray .int, 2) := by decide +kernel
theorem dX12_init_41 : decode (mB 188) 41 = .ok (.putfield 24, 3) := by decide +kernel
theorem dX12_init_44 : decode (mB 188) 44 = .ok (.aload_n 0, 1) := by decide +kernel
theorem dX12_init_45 : decode (mB 188) 45 = .ok (.bipush 12, 2) := by decide +kernel
theorem dX12_init_47 : decode (mB 188) 47 = .ok (.newarray .int, 2) := by decide +kernel
theorem dX12_init_49 : decode (mB 188) 49 = .ok (.putfield 27, 3) := by decide +kernel
theorem dX12_init_52 : decode (mB 188) 52 = .ok (.aload_n 0, 1) := by decide +kernel
theorem dX12_init_53 : decode (mB 188) 53 = .ok (.bipush 12, 2) := by decide +kernel
theorem dX12_init_55 : decode (mB 188) 55 = .ok (.newarray .int, 2) := by decide +kernel
theorem dX12_init_57 : decode (mB 188) 57 = .ok (.putfield 30, 3) := by decide +kernel
theorem dX12_init_60 : decode (mB 188) 60 = .ok (.aload_n 0, 1) := by decide +kernel
theorem dX12_init_61 : decode (mB 188) 61 = .ok (.iconst 2, 1) := by decide +kernel
theorem dX12_init_62 : decode (mB 188) 62 = .ok (.newarray .int, 2) := by decide +kernel
theorem dX12_init_64 : decode (mB 188) 64 = .ok (.dup, 1) := by decide +kernel
theorem dX12_init_65 : decode (mB 188) 65 = .ok (.iconst 0, 1) := by decide +kernel
theorem dX12_init_66 : decode (mB 188) 66 = .ok (.iconst 0, 1) := by decide +kernel
theorem dX12_init_67 : decode (mB 188) 67 = .ok (.iastore, 1) := by decide +kernel
theorem dX12_init_68 : decode (mB 188) 68 = .ok (.dup, 1) := by decide +kernel
theorem dX12_init_69 : decode (mB 188) 69 = .ok (.iconst 1, 1) := by decide +kernel
theorem dX12_init_70 : decode (mB 188) 70 = .ok (.iconst 0, 1) := by decide +kernel
theorem dX12_init_71 : decode (mB 188) 71 = .ok (.iastore, 1) := by decide +kernel
theorem dX12_init_72 : decode (mB 188) 72 = .ok (.putfield 33, 3) := by decide +kernel
theorem dX12_init_75 : decode (mB 188) 75 = .ok (.aload_n 0, 1) := by decide +kernel
theorem dX12_init_76 : decode (mB 188) 76 = .ok (.bipush 40, 2) := by decide +kernel
theorem dX12_init_78 : decode (mB 188) 78 = .ok (.newarray .int, 2) := by decide +kernel
theorem dX12_init_80 : decode (mB 188) 80 = .ok (.putfield 36, 3) := by decide +kernel
theorem dX12_init_83 : decode (mB 188) 83 = .ok (.aload_n 0, 1) := by decide +kernel
theorem dX12_init_84 : decode (mB 188) 84 = .ok (.bipush 40, 2) := by decide +kernel
theorem dX12_init_86 : decode (mB 188) 86 = .ok (.newarray .int, 2) := by decide +kernel
theorem dX12_init_88 : decode (mB 188) 88 = .ok (.putfield 39, 3) := by decide +kernel
theorem dX12_init_91 : decode (mB 188) 91 = .ok (.aload_n 0, 1) := by decide +kernel
theorem dX12_init_92 : decode (mB 188) 92 = .ok (.bipush 40, 2) := by decide +kernel
theorem dX12_init_94 : decode (mB 188) 94 = .ok (.newarray .int, 2) := by decide +kernel
theorem dX12_init_96 : decode (mB 188) 96 = .ok (.putfield 42, 3) := by decide +kernel
theorem dX12_init_99 : decode (mB 188) 99 = .ok (.aload_n 0, 1) := by decide +kernel
theorem dX12_init_100 : decode (mB 188) 100 = .ok (.bipush 40, 2) := by decide +kernel
theorem dX12_init_102 : decode (mB 188) 102 = .ok (.newarray .int, 2) := by decide +kernel
theorem dX12_init_104 : decode (mB 188) 104 = .ok (.putfield 45, 3) := by decide +kernel
theorem dX12_init_107 : decode (mB 188) 107 = .ok (.aload_n 0, 1) := by decide +kernel
theorem dX12_init_108 : decode (mB 188) 108 = .ok (.bipush 120, 2) := by decide +kernel
theorem dX12_init_110 : decode (mB 188) 110 = .ok (.newarray .byte, 2) := by decide +kernel
theorem dX12_init_112 : decode (mB 188) 112 = .ok (.putfield 48, 3) := by decide +kernel
theorem dX12_init_115 : decode (mB 188) 115 = .ok (.aload_n 0, 1) := by decide +kernel
theorem dX12_init_116 : decode (mB 188) 116 = .ok (.sipush 260, 3) := by decide +kernel
theorem dX12_init_119 : decode (mB 188) 119 = .ok (.newarray .byte, 2) := by decide +kernel
theorem dX12_init_121 : decode (mB 188) 121 = .ok (.putfield 52, 3) := by decide +kernel
theorem dX12_init_124 : decode (mB 188) 124 = .ok (.aload_n 0, 1) := by decide +kernel
theorem dX12_init_125 : decode (mB 188) 125 = .ok (.sipush 260, 3) := by decide +kernel
theorem dX12_init_128 : decode (mB 188) 128 = .ok (.newarray .int, 2) := by decide +kernel
theorem dX12_init_130 : decode (mB 188) 130 = .ok (.putfield 55, 3) := by decide +kernel
theorem dX12_init_133 : decode (mB 188) 133 = .ok (.aload_n 0, 1) := by decide +kernel
theorem dX12_init_134 : decode (mB 188) 134 = .ok (.iconst 2, 1) := by decide +kernel
theorem dX12_init_135 : decode (mB 188) 135 = .ok (.newarray .int, 2) := by decide +kernel
theorem dX12_init_137 : decode (mB 188) 137 = .ok (.putfield 58, 3) := by decide +kernel
theorem dX12_init_140 : decode (mB 188) 140 = .ok (.aload_n 0, 1) := by decide +kernel
theorem dX12_init_141 : decode (mB 188) 141 = .ok (.bipush 122, 2) := by decide +kernel
theorem dX12_init_143 : decode (mB 188) 143 = .ok (.newarray .short, 2) := by decide +kernel
theorem dX12_init_145 : decode (mB 188) 145 = .ok (.putfield 61, 3) := by decide +kernel
theorem dX12_init_148 : decode (mB 188) 148 = .ok (.aload_n 0, 1) := by decide +kernel
theorem dX12_init_149 : decode (mB 188) 149 = .ok (.bipush 122, 2) := by decide +kernel
theorem dX12_init_151 : decode (mB 188) 151 = .ok (.newarray .short, 2) := by decide +kernel
theorem dX12_init_153 : decode (mB 188) 153 = .ok (.putfield 65, 3) := by decide +kernel
theorem dX12_init_156 : decode (mB 188) 156 = .ok (.aload_n 0, 1) := by decide +kernel
theorem dX12_init_157 : decode (mB 188) 157 = .ok (.bipush 6, 2) := by decide +kernel
theorem dX12_init_159 : decode (mB 188) 159 = .ok (.newarray .int, 2) := by decide +kernel
theorem dX12_init_161 : decode (mB 188) 161 = .ok (.putfield 68, 3) := by decide +kernel
theorem dX12_init_164 : decode (mB 188) 164 = .ok (.aload_n 0, 1) := by decide +kernel
theorem dX12_init_165 : decode (mB 188) 165 = .ok (.sipush 130, 3) := by decide +kernel
theorem dX12_init_168 : decode (mB 188) 168 = .ok (.newarray .int, 2) := by decide +kernel
theorem dX12_init_170 : decode (mB 188) 170 = .ok (.putfield 71, 3) := by decide +kernel
theorem dX12_init_173 : decode (mB 188) 173 = .ok (.aload_n 0, 1) := by decide +kernel
theorem dX12_init_174 : decode (mB 188) 174 = .ok (.bipush 12, 2) := by decide +kernel
theorem dX12_init_176 : decode (mB 188) 176 = .ok (.newarray .int, 2) := by decide +kernel
theorem dX12_init_178 : decode (mB 188) 178 = .ok (.putfield 74, 3) := by decide +kernel
theorem dX12_init_181 : decode (mB 188) 181 = .ok (.aload_n 0, 1) := by decide +kernel
theorem dX12_init_182 : decode (mB 188) 182 = .ok (.bipush 6, 2) := by decide +kernel
theorem dX12_init_184 : decode (mB 188) 184 = .ok (.newarray .int, 2) := by decide +kernel
theorem dX12_init_186 : decode (mB 188) 186 = .ok (.putfield 77, 3) := by decide +kernel
theorem dX12_init_189 : decode (mB 188) 189 = .ok (.aload_n 0, 1) := by decide +kernel
theorem dX12_init_190 : decode (mB 188) 190 = .ok (.iconst 4, 1) := by decide +kernel
theorem dX12_init_191 : decode (mB 188) 191 = .ok (.newarray .int, 2) := by decide +kernel
theorem dX12_init_193 : decode (mB 188) 193 = .ok (.putfield 80, 3) := by decide +kernel
theorem dX12_init_196 : decode (mB 188) 196 = .ok (.aload_n 0, 1) := by decide +kernel
theorem dX12_init_197 : decode (mB 188) 197 = .ok (.bipush 12, 2) := by decide +kernel
theorem dX12_init_199 : decode (mB 188) 199 = .ok (.newarray .int, 2) := by decide +kernel
theorem dX12_init_201 : decode (mB 188) 201 = .ok (.putfield 83, 3) := by decide +kernel
theorem dX12_init_204 : decode (mB 188) 204 = .ok (.aload_n 0, 1) := by decide +kernel
theorem dX12_init_205 : decode (mB 188) 205 = .ok (.bipush 12, 2) := by decide +kernel
theorem dX12_init_207 : decode (mB 188) 207 = .ok (.newarray .int, 2) := by decide +kernel
theorem dX12_init_209 : decode (mB 188) 209 = .ok (.putfield 86, 3) := by decide +kernel
theorem dX12_init_212 : decode (mB 188) 212 = .ok (.aload_n 0, 1) := by decide +kernel
theorem dX12_init_213 : decode (mB 188) 213 = .ok (.iconst 4, 1) := by decide +kernel
theorem dX12_init_214 : decode (mB 188) 214 = .ok (.newarray .int, 2) := by decide +kernel
theorem dX12_init_216 : decode (mB 188) 216 = .ok (.putfield 89, 3) := by decide +kernel
theorem dX12_init_219 : decode (mB 188) 219 = .ok (.aload_n 0, 1) := by decide +kernel
theorem dX12_init_220 : decode (mB 188) 220 = .ok (.bipush 50, 2) := by decide +kernel
theorem dX12_init_222 : decode (mB 188) 222 = .ok (.newarray .int, 2) := by decide +kernel
theorem dX12_init_224 : decode (mB 188) 224 = .ok (.putfield 92, 3) := by decide +kernel
theorem dX12_init_227 : decode (mB 188) 227 = .ok (.aload_n 0, 1) := by decide +kernel
theorem dX12_init_228 : decode (mB 188) 228 = .ok (.bipush 24, 2) := by decide +kernel
theorem dX12_init_230 : decode (mB 188) 230 = .ok (.newarray .int, 2) := by decide +kernel
theorem dX12_init_232 : decode (mB 188) 232 = .ok (.putfield 95, 3) := by decide +kernel
theorem dX12_init_235 : decode (mB 188) 235 = .ok (.aload_n 0, 1) := by decide +kernel
theorem dX12_init_236 : decode (mB 188) 236 = .ok (.bipush 6, 2) := by decide +kernel
theorem dX12_init_238 : decode (mB 188) 238 = .ok (.newarray .int, 2) := by decide +kernel
theorem dX12_init_240 : decode (mB 188) 240 = .ok (.dup, 1) := by decide +kernel
theorem dX12_init_241 : decode (mB 188) 241 = .ok (.iconst 0, 1) := by decide +kernel
theorem dX12_init_242 : decode (mB 188) 242 = .ok (.iconst (-1), 1) := by decide +kernel
theorem dX12_init_243 : decode (mB 188) 243 = .ok (.iastore, 1) := by decide +kernel
theorem dX12_init_244 : decode (mB 188) 244 = .ok (.dup, 1) := by decide +kernel
theorem dX12_init_245 : decode (mB 188) 245 = .ok (.iconst 1, 1) := by decide +kernel
theorem dX12_init_246 : decode (mB 188) 246 = .ok (.iconst (-1), 1) := by decide +kernel
theorem dX12_init_247 : decode (mB 188) 247 = .ok (.iastore, 1) := by decide +kernel
theorem dX12_init_248 : decode (mB 188) 248 = .ok (.dup, 1) := by decide +kernel
theorem dX12_init_249 : decode (mB 188) 249 = .ok (.iconst 2, 1) := by decide +kernel
theorem dX12_init_250 : decode (mB 188) 250 = .ok (.iconst (-1), 1) := by decide +kernel
theorem dX12_init_251 : decode (mB 188) 251 = .ok (.iastore, 1) := by decide +kernel
theorem dX12_init_252 : decode (mB 188) 252 = .ok (.dup, 1) := by decide +kernel
theorem dX12_init_253 : decode (mB 188) 253 = .ok (.iconst 3, 1) := by decide +kernel
theorem dX12_init_254 : decode (mB 188) 254 = .ok (.iconst (-1), 1) := by decide +kernel
theorem dX12_init_255 : decode (mB 188) 255 = .ok (.iastore, 1) := by decide +kernel
theorem dX12_init_256 : decode (mB 188) 256 = .ok (.dup, 1) := by decide +kernel
theorem dX12_init_257 : decode (mB 188) 257 = .ok (.iconst 4, 1) := by decide +kernel
theorem dX12_init_258 : decode (mB 188) 258 = .ok (.iconst (-1), 1) := by decide +kernel
theorem dX12_init_259 : decode (mB 188) 259 = .ok (.iastore, 1) := by decide +kernel
theorem dX12_init_260 : decode (mB 188) 260 = .ok (.dup, 1) := by decide +kernel
theorem dX12_init_261 : decode (mB 188) 261 = .ok (.iconst 5, 1) := by decide +kernel
theorem dX12_init_262 : decode (mB 188) 262 = .ok (.iconst (-1), 1) := by decide +kernel
theorem dX12_init_263 : decode (mB 188) 263 = .ok (.iastore, 1) := by decide +kernel
theorem dX12_init_264 : decode (mB 188) 264 = .ok (.putfield 98, 3) := by decide +kernel
theorem dX12_init_267 : decode (mB 188) 267 = .ok (.aload_n 0, 1) := by decide +kernel
theorem dX12_init_268 : decode (mB 188) 268 = .ok (.bipush 6, 2) := by decide +kernel
theorem dX12_init_270 : decode (mB 188) 270 = .ok (.newarray .int, 2) := by decide +kernel
theorem dX12_init_272 : decode (mB 188) 272 = .ok (.putfield 101, 3) := by decide +kernel
theorem dX12_init_275 : decode (mB 188) 275 = .ok (.aload_n 0, 1) := by decide +kernel
theorem dX12_init_276 : decode (mB 188) 276 = .ok (.sipush 360, 3) := by decide +kernel
theorem dX12_init_279 : decode (mB 188) 279 = .ok (.newarray .long, 2) := by decide +kernel
theorem dX12_init_281 : decode (mB 188) 281 = .ok (.putfield 104, 3) := by decide +kernel
theorem dX12_init_284 : decode (mB 188) 284 = .ok (.aload_n 0, 1) := by decide +kernel
theorem dX12_init_285 : decode (mB 188) 285 = .ok (.bipush 60, 2) := by decide +kernel
theorem dX12_init_287 : decode (mB 188) 287 = .ok (.newarray .long, 2) := by decide +kernel
theorem dX12_init_289 : decode (mB 188) 289 = .ok (.putfield 108, 3) := by decide +kernel
theorem dX12_init_292 : decode (mB 188) 292 = .ok (.return_, 1) := by decide +kernel
