theorem gX8_reals_0 : dq 102 0 (.iconst 0) 1 = true ∧ dq 102 1 (.istore_n 1) 1 = true ∧ dq 102 2 (.iconst 0) 1 = true ∧ dq 102 3 (.istore_n 2) 1 = true ∧ dq 102 4 (.iload_n 2) 1 = true ∧ dq 102 5 (.aload_n 0) 1 = true ∧ dq 102 6 (.getfield 9) 3 = true ∧ dq 102 9 (.invokevirtual 33) 3 = true ∧ dq 102 12 (.if_icmp .ge 28) 3 = true ∧ dq 102 15 (.iload_n 1) 1 = true ∧ dq 102 16 (.aload_n 0) 1 = true ∧ dq 102 17 (.getfield 9) 3 = true ∧ dq 102 20 (.iload_n 2) 1 = true ∧ dq 102 21 (.invokevirtual 41) 3 = true ∧ dq 102 24 (.ifCond .eq 7) 3 = true ∧ dq 102 27 (.iconst 1) 1 = true := by decide +kernel
theorem dX8_reals_0 : decode (mB 102) 0 = .ok (.iconst 0, 1) := dqo gX8_reals_0.1
theorem dX8_reals_1 : decode (mB 102) 1 = .ok (.istore_n 1, 1) := dqo gX8_reals_0.2.1
theorem dX8_reals_2 : decode (mB 102) 2 = .ok (.iconst 0, 1) := dqo gX8_reals_0.2.2.1
theorem dX8_reals_3 : decode (mB 102) 3 = .ok (.istore_n 2, 1) := dqo gX8_reals_0.2.2.2.1
theorem dX8_reals_4 : decode (mB 102) 4 = .ok (.iload_n 2, 1) := dqo gX8_reals_0.2.2.2.2.1
theorem dX8_reals_5 : decode (mB 102) 5 = .ok (.aload_n 0, 1) := dqo gX8_reals_0.2.2.2.2.2.1
theorem dX8_reals_6 : decode (mB 102) 6 = .ok (.getfield 9, 3) := dqo gX8_reals_0.2.2.2.2.2.2.1
theorem dX8_reals_9 : decode (mB 102) 9 = .ok (.invokevirtual 33, 3) := dqo gX8_reals_0.2.2.2.2.2.2.2.1
theorem dX8_reals_12 : decode (mB 102) 12 = .ok (.if_icmp .ge 28, 3) := dqo gX8_reals_0.2.2.2.2.2.2.2.2.1
theorem dX8_reals_15 : decode (mB 102) 15 = .ok (.iload_n 1, 1) := dqo gX8_reals_0.2.2.2.2.2.2.2.2.2.1
theorem dX8_reals_16 : decode (mB 102) 16 = .ok (.aload_n 0, 1) := dqo gX8_reals_0.2.2.2.2.2.2.2.2.2.2.1
theorem dX8_reals_17 : decode (mB 102) 17 = .ok (.getfield 9, 3) := dqo gX8_reals_0.2.2.2.2.2.2.2.2.2.2.2.1
theorem dX8_reals_20 : decode (mB 102) 20 = .ok (.iload_n 2, 1) := dqo gX8_reals_0.2.2.2.2.2.2.2.2.2.2.2.2.1
theorem dX8_reals_21 : decode (mB 102) 21 = .ok (.invokevirtual 41, 3) := dqo gX8_reals_0.2.2.2.2.2.2.2.2.2.2.2.2.2.1
theorem dX8_reals_24 : decode (mB 102) 24 = .ok (.ifCond .eq 7, 3) := dqo gX8_reals_0.2.2.2.2.2.2.2.2.2.2.2.2.2.2.1
theorem dX8_reals_27 : decode (mB 102) 27 = .ok (.iconst 1, 1) := dqo gX8_reals_0.2.2.2.2.2.2.2.2.2.2.2.2.2.2.2
theorem gX8_reals_28 : dq 102 28 (.goto 4) 3 = true ∧ dq 102 31 (.iconst 0) 1 = true ∧ dq 102 32 (.iadd) 1 = true ∧ dq 102 33 (.istore_n 1) 1 = true ∧ dq 102 34 (.iinc 2 1) 3 = true ∧ dq 102 37 (.goto (-33)) 3 = true ∧ dq 102 40 (.iload_n 1) 1 = true ∧ dq 102 41 (.ireturn) 1 = true := by decide +kernel
theorem dX8_reals_28 : decode (mB 102) 28 = .ok (.goto 4, 3) := dqo gX8_reals_28.1
theorem dX8_reals_31 : decode (mB 102) 31 = .ok (.iconst 0, 1) := dqo gX8_reals_28.2.1
theorem dX8_reals_32 : decode (mB 102) 32 = .ok (.iadd, 1) := dqo gX8_reals_28.2.2.1
theorem dX8_reals_33 : decode (mB 102) 33 = .ok (.istore_n 1, 1) := dqo gX8_reals_28.2.2.2.1
theorem dX8_reals_34 : decode (mB 102) 34 = .ok (.iinc 2 1, 3) := dqo gX8_reals_28.2.2.2.2.1
theorem dX8_reals_37 : decode (mB 102) 37 = .ok (.goto (-33), 3) := dqo gX8_reals_28.2.2.2.2.2.1
theorem dX8_reals_40 : decode (mB 102) 40 = .ok (.iload_n 1, 1) := dqo gX8_reals_28.2.2.2.2.2.2.1
theorem dX8_reals_41 : decode (mB 102) 41 = .ok (.ireturn, 1) := dqo gX8_reals_28.2.2.2.2.2.2.2
theorem gX8_looseOf_0 : dq 103 0 (.iconst 0) 1 = true ∧ dq 103 1 (.istore_n 2) 1 = true ∧ dq 103 2 (.iconst 0) 1 = true ∧ dq 103 3 (.istore_n 3) 1 = true ∧ dq 103 4 (.iload_n 3) 1 = true ∧ dq 103 5 (.aload_n 0) 1 = true ∧ dq 103 6 (.getfield 9) 3 = true ∧ dq 103 9 (.invokevirtual 33) 3 = true ∧ dq 103 12 (.if_icmp .ge 34) 3 = true ∧ dq 103 15 (.iload_n 2) 1 = true ∧ dq 103 16 (.aload_n 0) 1 = true ∧ dq 103 17 (.iload_n 3) 1 = true ∧ dq 103 18 (.invokevirtual 37) 3 = true ∧ dq 103 21 (.iload_n 1) 1 = true ∧ dq 103 22 (.if_icmp .ne 15) 3 = true ∧ dq 103 25 (.aload_n 0) 1 = true := by decide +kernel
theorem dX8_looseOf_0 : decode (mB 103) 0 = .ok (.iconst 0, 1) := dqo gX8_looseOf_0.1
theorem dX8_looseOf_1 : decode (mB 103) 1 = .ok (.istore_n 2, 1) := dqo gX8_looseOf_0.2.1
theorem dX8_looseOf_2 : decode (mB 103) 2 = .ok (.iconst 0, 1) := dqo gX8_looseOf_0.2.2.1
theorem dX8_looseOf_3 : decode (mB 103) 3 = .ok (.istore_n 3, 1) := dqo gX8_looseOf_0.2.2.2.1
theorem dX8_looseOf_4 : decode (mB 103) 4 = .ok (.iload_n 3, 1) := dqo gX8_looseOf_0.2.2.2.2.1
theorem dX8_looseOf_5 : decode (mB 103) 5 = .ok (.aload_n 0, 1) := dqo gX8_looseOf_0.2.2.2.2.2.1
theorem dX8_looseOf_6 : decode (mB 103) 6 = .ok (.getfield 9, 3) := dqo gX8_looseOf_0.2.2.2.2.2.2.1
theorem dX8_looseOf_9 : decode (mB 103) 9 = .ok (.invokevirtual 33, 3) := dqo gX8_looseOf_0.2.2.2.2.2.2.2.1
theorem dX8_looseOf_12 : decode (mB 103) 12 = .ok (.if_icmp .ge 34, 3) := dqo gX8_looseOf_0.2.2.2.2.2.2.2.2.1
theorem dX8_looseOf_15 : decode (mB 103) 15 = .ok (.iload_n 2, 1) := dqo gX8_looseOf_0.2.2.2.2.2.2.2.2.2.1
theorem dX8_looseOf_16 : decode (mB 103) 16 = .ok (.aload_n 0, 1) := dqo gX8_looseOf_0.2.2.2.2.2.2.2.2.2.2.1
theorem dX8_looseOf_17 : decode (mB 103) 17 = .ok (.iload_n 3, 1) := dqo gX8_looseOf_0.2.2.2.2.2.2.2.2.2.2.2.1
theorem dX8_looseOf_18 : decode (mB 103) 18 = .ok (.invokevirtual 37, 3) := dqo gX8_looseOf_0.2.2.2.2.2.2.2.2.2.2.2.2.1
theorem dX8_looseOf_21 : decode (mB 103) 21 = .ok (.iload_n 1, 1) := dqo gX8_looseOf_0.2.2.2.2.2.2.2.2.2.2.2.2.2.1
theorem dX8_looseOf_22 : decode (mB 103) 22 = .ok (.if_icmp .ne 15, 3) := dqo gX8_looseOf_0.2.2.2.2.2.2.2.2.2.2.2.2.2.2.1
theorem dX8_looseOf_25 : decode (mB 103) 25 = .ok (.aload_n 0, 1) := dqo gX8_looseOf_0.2.2.2.2.2.2.2.2.2.2.2.2.2.2.2
theorem gX8_looseOf_26 : dq 103 26 (.iload_n 3) 1 = true ∧ dq 103 27 (.invokevirtual 44) 3 = true ∧ dq 103 30 (.ifCond .eq 7) 3 = true ∧ dq 103 33 (.iconst 1) 1 = true ∧ dq 103 34 (.goto 4) 3 = true ∧ dq 103 37 (.iconst 0) 1 = true ∧ dq 103 38 (.iadd) 1 = true ∧ dq 103 39 (.istore_n 2) 1 = true ∧ dq 103 40 (.iinc 3 1) 3 = true ∧ dq 103 43 (.goto (-39)) 3 = true ∧ dq 103 46 (.iload_n 2) 1 = true ∧ dq 103 47 (.ireturn) 1 = true := by decide +kernel
theorem dX8_looseOf_26 : decode (mB 103) 26 = .ok (.iload_n 3, 1) := dqo gX8_looseOf_26.1
theorem dX8_looseOf_27 : decode (mB 103) 27 = .ok (.invokevirtual 44, 3) := dqo gX8_looseOf_26.2.1
theorem dX8_looseOf_30 : decode (mB 103) 30 = .ok (.ifCond .eq 7, 3) := dqo gX8_looseOf_26.2.2.1
theorem dX8_looseOf_33 : decode (mB 103) 33 = .ok (.iconst 1, 1) := dqo gX8_looseOf_26.2.2.2.1
theorem dX8_looseOf_34 : decode (mB 103) 34 = .ok (.goto 4, 3) := dqo gX8_looseOf_26.2.2.2.2.1
theorem dX8_looseOf_37 : decode (mB 103) 37 = .ok (.iconst 0, 1) := dqo gX8_looseOf_26.2.2.2.2.2.1
theorem dX8_looseOf_38 : decode (mB 103) 38 = .ok (.iadd, 1) := dqo gX8_looseOf_26.2.2.2.2.2.2.1
theorem dX8_looseOf_39 : decode (mB 103) 39 = .ok (.istore_n 2, 1) := dqo gX8_looseOf_26.2.2.2.2.2.2.2.1
theorem dX8_looseOf_40 : decode (mB 103) 40 = .ok (.iinc 3 1, 3) := dqo gX8_looseOf_26.2.2.2.2.2.2.2.2.1
theorem dX8_looseOf_43 : decode (mB 103) 43 = .ok (.goto (-39), 3) := dqo gX8_looseOf_26.2.2.2.2.2.2.2.2.2.1
theorem dX8_looseOf_46 : decode (mB 103) 46 = .ok (.iload_n 2, 1) := dqo gX8_looseOf_26.2.2.2.2.2.2.2.2.2.2.1
theorem dX8_looseOf_47 : decode (mB 103) 47 = .ok (.ireturn, 1) := dqo gX8_looseOf_26.2.2.2.2.2.2.2.2.2.2.2
theorem gX8_looseRealsOf_0 : dq 104 0 (.iconst 0) 1 = true ∧ dq 104 1 (.istore_n 2) 1 = true ∧ dq 104 2 (.iconst 0) 1 = true ∧ dq 104 3 (.istore_n 3) 1 = true ∧ dq 104 4 (.iload_n 3) 1 = true ∧ dq 104 5 (.aload_n 0) 1 = true ∧ dq 104 6 (.getfield 9) 3 = true ∧ dq 104 9 (.invokevirtual 33) 3 = true ∧ dq 104 12 (.if_icmp .ge 45) 3 = true ∧ dq 104 15 (.iload_n 2) 1 = true ∧ dq 104 16 (.aload_n 0) 1 = true ∧ dq 104 17 (.iload_n 3) 1 = true ∧ dq 104 18 (.invokevirtual 37) 3 = true ∧ dq 104 21 (.iload_n 1) 1 = true ∧ dq 104 22 (.if_icmp .ne 26) 3 = true ∧ dq 104 25 (.aload_n 0) 1 = true := by decide +kernel
theorem dX8_looseRealsOf_0 : decode (mB 104) 0 = .ok (.iconst 0, 1) := dqo gX8_looseRealsOf_0.1
theorem dX8_looseRealsOf_1 : decode (mB 104) 1 = .ok (.istore_n 2, 1) := dqo gX8_looseRealsOf_0.2.1
theorem dX8_looseRealsOf_2 : decode (mB 104) 2 = .ok (.iconst 0, 1) := dqo gX8_looseRealsOf_0.2.2.1
theorem dX8_looseRealsOf_3 : decode (mB 104) 3 = .ok (.istore_n 3, 1) := dqo gX8_looseRealsOf_0.2.2.2.1
theorem dX8_looseRealsOf_4 : decode (mB 104) 4 = .ok (.iload_n 3, 1) := dqo gX8_looseRealsOf_0.2.2.2.2.1
theorem dX8_looseRealsOf_5 : decode (mB 104) 5 = .ok (.aload_n 0, 1) := dqo gX8_looseRealsOf_0.2.2.2.2.2.1
theorem dX8_looseRealsOf_6 : decode (mB 104) 6 = .ok (.getfield 9, 3) := dqo gX8_looseRealsOf_0.2.2.2.2.2.2.1
theorem dX8_looseRealsOf_9 : decode (mB 104) 9 = .ok (.invokevirtual 33, 3) := dqo gX8_looseRealsOf_0.2.2.2.2.2.2.2.1
theorem dX8_looseRealsOf_12 : decode (mB 104) 12 = .ok (.if_icmp .ge 45, 3) := dqo gX8_looseRealsOf_0.2.2.2.2.2.2.2.2.1
theorem dX8_looseRealsOf_15 : decode (mB 104) 15 = .ok (.iload_n 2, 1) := dqo gX8_looseRealsOf_0.2.2.2.2.2.2.2.2.2.1
theorem dX8_looseRealsOf_16 : decode (mB 104) 16 = .ok (.aload_n 0, 1) := dqo gX8_looseRealsOf_0.2.2.2.2.2.2.2.2.2.2.1
theorem dX8_looseRealsOf_17 : decode (mB 104) 17 = .ok (.iload_n 3, 1) := dqo gX8_looseRealsOf_0.2.2.2.2.2.2.2.2.2.2.2.1
theorem dX8_looseRealsOf_18 : decode (mB 104) 18 = .ok (.invokevirtual 37, 3) := dqo gX8_looseRealsOf_0.2.2.2.2.2.2.2.2.2.2.2.2.1
theorem dX8_looseRealsOf_21 : decode (mB 104) 21 = .ok (.iload_n 1, 1) := dqo gX8_looseRealsOf_0.2.2.2.2.2.2.2.2.2.2.2.2.2.1
theorem dX8_looseRealsOf_22 : decode (mB 104) 22 = .ok (.if_icmp .ne 26, 3) := dqo gX8_looseRealsOf_0.2.2.2.2.2.2.2.2.2.2.2.2.2.2.1
theorem dX8_looseRealsOf_25 : decode (mB 104) 25 = .ok (.aload_n 0, 1) := dqo gX8_looseRealsOf_0.2.2.2.2.2.2.2.2.2.2.2.2.2.2.2
theorem gX8_looseRealsOf_26 : dq 104 26 (.iload_n 3) 1 = true ∧ dq 104 27 (.invokevirtual 44) 3 = true ∧ dq 104 30 (.ifCond .eq 18) 3 = true ∧ dq 104 33 (.aload_n 0) 1 = true ∧ dq 104 34 (.getfield 9) 3 = true ∧ dq 104 37 (.iload_n 3) 1 = true ∧ dq 104 38 (.invokevirtual 41) 3 = true ∧ dq 104 41 (.ifCond .eq 7) 3 = true ∧ dq 104 44 (.iconst 1) 1 = true ∧ dq 104 45 (.goto 4) 3 = true ∧ dq 104 48 (.iconst 0) 1 = true ∧ dq 104 49 (.iadd) 1 = true ∧ dq 104 50 (.istore_n 2) 1 = true ∧ dq 104 51 (.iinc 3 1) 3 = true ∧ dq 104 54 (.goto (-50)) 3 = true ∧ dq 104 57 (.iload_n 2) 1 = true := by decide +kernel
theorem dX8_looseRealsOf_26 : decode (mB 104) 26 = .ok (.iload_n 3, 1) := dqo gX8_looseRealsOf_26.1
theorem dX8_looseRealsOf_27 : decode (mB 104) 27 = .ok (.invokevirtual 44, 3) := dqo gX8_looseRealsOf_26.2.1
theorem dX8_looseRealsOf_30 : decode (mB 104) 30 = .ok (.ifCond .eq 18, 3) := dqo gX8_looseRealsOf_26.2.2.1
theorem dX8_looseRealsOf_33 : decode (mB 104) 33 = .ok (.aload_n 0, 1) := dqo gX8_looseRealsOf_26.2.2.2.1
theorem dX8_looseRealsOf_34 : decode (mB 104) 34 = .ok (.getfield 9, 3) := dqo gX8_looseRealsOf_26.2.2.2.2.1
theorem dX8_looseRealsOf_37 : decode (mB 104) 37 = .ok (.iload_n 3, 1) := dqo gX8_looseRealsOf_26.2.2.2.2.2.1
theorem dX8_looseRealsOf_38 : decode (mB 104) 38 = .ok (.invokevirtual 41, 3) := dqo gX8_looseRealsOf_26.2.2.2.2.2.2.1
theorem dX8_looseRealsOf_41 : decode (mB 104) 41 = .ok (.ifCond .eq 7, 3) := dqo gX8_looseRealsOf_26.2.2.2.2.2.2.2.1
theorem dX8_looseRealsOf_44 : decode (mB 104) 44 = .ok (.iconst 1, 1) := dqo gX8_looseRealsOf_26.2.2.2.2.2.2.2.2.1
theorem dX8_looseRealsOf_45 : decode (mB 104) 45 = .ok (.goto 4, 3) := dqo gX8_looseRealsOf_26.2.2.2.2.2.2.2.2.2.1
theorem dX8_looseRealsOf_48 : decode (mB 104) 48 = .ok (.iconst 0, 1) := dqo gX8_looseRealsOf_26.2.2.2.2.2.2.2.2.2.2.1
theorem dX8_looseRealsOf_49 : decode (mB 104) 49 = .ok (.iadd, 1) := dqo gX8_looseRealsOf_26.2.2.2.2.2.2.2.2.2.2.2.1
theorem dX8_looseRealsOf_50 : decode (mB 104) 50 = .ok (.istore_n 2, 1) := dqo gX8_looseRealsOf_26.2.2.2.2.2.2.2.2.2.2.2.2.1
theorem dX8_looseRealsOf_51 : decode (mB 104) 51 = .ok (.iinc 3 1, 3) := dqo gX8_looseRealsOf_26.2.2.2.2.2.2.2.2.2.2.2.2.2.1
theorem dX8_looseRealsOf_54 : decode (mB 104) 54 = .ok (.goto (-50), 3) := dqo gX8_looseRealsOf_26.2.2.2.2.2.2.2.2.2.2.2.2.2.2.1
theorem dX8_looseRealsOf_57 : decode (mB 104) 57 = .ok (.iload_n 2, 1) := dqo gX8_looseRealsOf_26.2.2.2.2.2.2.2.2.2.2.2.2.2.2.2
theorem dX8_looseRealsOf_58 : decode (mB 104) 58 = .ok (.ireturn, 1) := dqo (by decide +kernel)
theorem gX8_looseReals_0 : dq 105 0 (.iconst 0) 1 = true ∧ dq 105 1 (.istore_n 1) 1 = true ∧ dq 105 2 (.iconst 0) 1 = true ∧ dq 105 3 (.istore_n 2) 1 = true ∧ dq 105 4 (.iload_n 2) 1 = true ∧ dq 105 5 (.aload_n 0) 1 = true ∧ dq 105 6 (.getfield 9) 3 = true ∧ dq 105 9 (.invokevirtual 33) 3 = true ∧ dq 105 12 (.if_icmp .ge 36) 3 = true ∧ dq 105 15 (.iload_n 1) 1 = true ∧ dq 105 16 (.aload_n 0) 1 = true ∧ dq 105 17 (.iload_n 2) 1 = true ∧ dq 105 18 (.invokevirtual 44) 3 = true ∧ dq 105 21 (.ifCond .eq 18) 3 = true ∧ dq 105 24 (.aload_n 0) 1 = true ∧ dq 105 25 (.getfield 9) 3 = true := by decide +kernel
theorem dX8_looseReals_0 : decode (mB 105) 0 = .ok (.iconst 0, 1) := dqo gX8_looseReals_0.1
theorem dX8_looseReals_1 : decode (mB 105) 1 = .ok (.istore_n 1, 1) := dqo gX8_looseReals_0.2.1
theorem dX8_looseReals_2 : decode (mB 105) 2 = .ok (.iconst 0, 1) := dqo gX8_looseReals_0.2.2.1
theorem dX8_looseReals_3 : decode (mB 105) 3 = .ok (.istore_n 2, 1) := dqo gX8_looseReals_0.2.2.2.1
theorem dX8_looseReals_4 : decode (mB 105) 4 = .ok (.iload_n 2, 1) := dqo gX8_looseReals_0.2.2.2.2.1
theorem dX8_looseReals_5 : decode (mB 105) 5 = .ok (.aload_n 0, 1) := dqo gX8_looseReals_0.2.2.2.2.2.1
theorem dX8_looseReals_6 : decode (mB 105) 6 = .ok (.getfield 9, 3) := dqo gX8_looseReals_0.2.2.2.2.2.2.1
theorem dX8_looseReals_9 : decode (mB 105) 9 = .ok (.invokevirtual 33, 3) := dqo gX8_looseReals_0.2.2.2.2.2.2.2.1
theorem dX8_looseReals_12 : decode (mB 105) 12 = .ok (.if_icmp .ge 36, 3) := dqo gX8_looseReals_0.2.2.2.2.2.2.2.2.1
theorem dX8_looseReals_15 : decode (mB 105) 15 = .ok (.iload_n 1, 1) := dqo gX8_looseReals_0.2.2.2.2.2.2.2.2.2.1
theorem dX8_looseReals_16 : decode (mB 105) 16 = .ok (.aload_n 0, 1) := dqo gX8_looseReals_0.2.2.2.2.2.2.2.2.2.2.1
theorem dX8_looseReals_17 : decode (mB 105) 17 = .ok (.iload_n 2, 1) := dqo gX8_looseReals_0.2.2.2.2.2.2.2.2.2.2.2.1
theorem dX8_looseReals_18 : decode (mB 105) 18 = .ok (.invokevirtual 44, 3) := dqo gX8_looseReals_0.2.2.2.2.2.2.2.2.2.2.2.2.1
theorem dX8_looseReals_21 : decode (mB 105) 21 = .ok (.ifCond .eq 18, 3) := dqo gX8_looseReals_0.2.2.2.2.2.2.2.2.2.2.2.2.2.1
theorem dX8_looseReals_24 : decode (mB 105) 24 = .ok (.aload_n 0, 1) := dqo gX8_looseReals_0.2.2.2.2.2.2.2.2.2.2.2.2.2.2.1
theorem dX8_looseReals_25 : decode (mB 105) 25 = .ok (.getfield 9, 3) := dqo gX8_looseReals_0.2.2.2.2.2.2.2.2.2.2.2.2.2.2.2
theorem gX8_looseReals_28 : dq 105 28 (.iload_n 2) 1 = true ∧ dq 105 29 (.invokevirtual 41) 3 = true ∧ dq 105 32 (.ifCond .eq 7) 3 = true ∧ dq 105 35 (.iconst 1) 1 = true ∧ dq 105 36 (.goto 4) 3 = true ∧ dq 105 39 (.iconst 0) 1 = true ∧ dq 105 40 (.iadd) 1 = true ∧ dq 105 41 (.istore_n 1) 1 = true ∧ dq 105 42 (.iinc 2 1) 3 = true ∧ dq 105 45 (.goto (-41)) 3 = true ∧ dq 105 48 (.iload_n 1) 1 = true ∧ dq 105 49 (.ireturn) 1 = true := by decide +kernel
theorem dX8_looseReals_28 : decode (mB 105) 28 = .ok (.iload_n 2, 1) := dqo gX8_looseReals_28.1
theorem dX8_looseReals_29 : decode (mB 105) 29 = .ok (.invokevirtual 41, 3) := dqo gX8_looseReals_28.2.1
theorem dX8_looseReals_32 : decode (mB 105) 32 = .ok (.ifCond .eq 7, 3) := dqo gX8_looseReals_28.2.2.1
theorem dX8_looseReals_35 : decode (mB 105) 35 = .ok (.iconst 1, 1) := dqo gX8_looseReals_28.2.2.2.1
theorem dX8_looseReals_36 : decode (mB 105) 36 = .ok (.goto 4, 3) := dqo gX8_looseReals_28.2.2.2.2.1
theorem dX8_looseReals_39 : decode (mB 105) 39 = .ok (.iconst 0, 1) := dqo gX8_looseReals_28.2.2.2.2.2.1
theorem dX8_looseReals_40 : decode (mB 105) 40 = .ok (.iadd, 1) := dqo gX8_looseReals_28.2.2.2.2.2.2.1
theorem dX8_looseReals_41 : decode (mB 105) 41 = .ok (.istore_n 1, 1) := dqo gX8_looseReals_28.2.2.2.2.2.2.2.1
theorem dX8_looseReals_42 : decode (mB 105) 42 = .ok (.iinc 2 1, 3) := dqo gX8_looseReals_28.2.2.2.2.2.2.2.2.1
theorem dX8_looseReals_45 : decode (mB 105) 45 = .ok (.goto (-41), 3) := dqo gX8_looseReals_28.2.2.2.2.2.2.2.2.2.1
theorem dX8_looseReals_48 : decode (mB 105) 48 = .ok (.iload_n 1, 1) := dqo gX8_looseReals_28.2.2.2.2.2.2.2.2.2.2.1
theorem dX8_looseReals_49 : decode (mB 105) 49 = .ok (.ireturn, 1) := dqo gX8_looseReals_28.2.2.2.2.2.2.2.2.2.2.2
theorem gX8_isLoose_0 : dq 106 0 (.aload_n 0) 1 = true ∧ dq 106 1 (.getfield 9) 3 = true ∧ dq 106 4 (.bipush 6) 2 = true ∧ dq 106 6 (.iload_n 1) 1 = true ∧ dq 106 7 (.invokevirtual 23) 3 = true ∧ dq 106 10 (.iconst 4) 1 = true ∧ dq 106 11 (.if_icmp .ge 7) 3 = true ∧ dq 106 14 (.iconst 1) 1 = true ∧ dq 106 15 (.goto 4) 3 = true ∧ dq 106 18 (.iconst 0) 1 = true ∧ dq 106 19 (.ireturn) 1 = true := by decide +kernel
theorem dX8_isLoose_0 : decode (mB 106) 0 = .ok (.aload_n 0, 1) := dqo gX8_isLoose_0.1
theorem dX8_isLoose_1 : decode (mB 106) 1 = .ok (.getfield 9, 3) := dqo gX8_isLoose_0.2.1
theorem dX8_isLoose_4 : decode (mB 106) 4 = .ok (.bipush 6, 2) := dqo gX8_isLoose_0.2.2.1
theorem dX8_isLoose_6 : decode (mB 106) 6 = .ok (.iload_n 1, 1) := dqo gX8_isLoose_0.2.2.2.1
theorem dX8_isLoose_7 : decode (mB 106) 7 = .ok (.invokevirtual 23, 3) := dqo gX8_isLoose_0.2.2.2.2.1
theorem dX8_isLoose_10 : decode (mB 106) 10 = .ok (.iconst 4, 1) := dqo gX8_isLoose_0.2.2.2.2.2.1
theorem dX8_isLoose_11 : decode (mB 106) 11 = .ok (.if_icmp .ge 7, 3) := dqo gX8_isLoose_0.2.2.2.2.2.2.1
theorem dX8_isLoose_14 : decode (mB 106) 14 = .ok (.iconst 1, 1) := dqo gX8_isLoose_0.2.2.2.2.2.2.2.1
theorem dX8_isLoose_15 : decode (mB 106) 15 = .ok (.goto 4, 3) := dqo gX8_isLoose_0.2.2.2.2.2.2.2.2.1
theorem dX8_isLoose_18 : decode (mB 106) 18 = .ok (.iconst 0, 1) := dqo gX8_isLoose_0.2.2.2.2.2.2.2.2.2.1
theorem dX8_isLoose_19 : decode (mB 106) 19 = .ok (.ireturn, 1) := dqo gX8_isLoose_0.2.2.2.2.2.2.2.2.2.2
theorem gX8_canSlip_0 : dq 107 0 (.aload_n 0) 1 = true ∧ dq 107 1 (.getfield 9) 3 = true ∧ dq 107 4 (.iload_n 1) 1 = true ∧ dq 107 5 (.invokevirtual 29) 3 = true ∧ dq 107 8 (.ifCond .eq 28) 3 = true ∧ dq 107 11 (.aload_n 0) 1 = true ∧ dq 107 12 (.iload_n 1) 1 = true ∧ dq 107 13 (.invokevirtual 44) 3 = true ∧ dq 107 16 (.ifCond .eq 20) 3 = true ∧ dq 107 19 (.aload_n 0) 1 = true ∧ dq 107 20 (.aload_n 0) 1 = true ∧ dq 107 21 (.iload_n 1) 1 = true ∧ dq 107 22 (.invokevirtual 37) 3 = true ∧ dq 107 25 (.iload_n 2) 1 = true ∧ dq 107 26 (.invokevirtual 47) 3 = true ∧ dq 107 29 (.ifCond .eq 7) 3 = true := by decide +kernel
theorem dX8_canSlip_0 : decode (mB 107) 0 = .ok (.aload_n 0, 1) := dqo gX8_canSlip_0.1
theorem dX8_canSlip_1 : decode (mB 107) 1 = .ok (.getfield 9, 3) := dqo gX8_canSlip_0.2.1
theorem dX8_canSlip_4 : decode (mB 107) 4 = .ok (.iload_n 1, 1) := dqo gX8_canSlip_0.2.2.1
theorem dX8_canSlip_5 : decode (mB 107) 5 = .ok (.invokevirtual 29, 3) := dqo gX8_canSlip_0.2.2.2.1
theorem dX8_canSlip_8 : decode (mB 107) 8 = .ok (.ifCond .eq 28, 3) := dqo gX8_canSlip_0.2.2.2.2.1
theorem dX8_canSlip_11 : decode (mB 107) 11 = .ok (.aload_n 0, 1) := dqo gX8_canSlip_0.2.2.2.2.2.1
theorem dX8_canSlip_12 : decode (mB 107) 12 = .ok (.iload_n 1, 1) := dqo gX8_canSlip_0.2.2.2.2.2.2.1
theorem dX8_canSlip_13 : decode (mB 107) 13 = .ok (.invokevirtual 44, 3) := dqo gX8_canSlip_0.2.2.2.2.2.2.2.1
theorem dX8_canSlip_16 : decode (mB 107) 16 = .ok (.ifCond .eq 20, 3) := dqo gX8_canSlip_0.2.2.2.2.2.2.2.2.1
theorem dX8_canSlip_19 : decode (mB 107) 19 = .ok (.aload_n 0, 1) := dqo gX8_canSlip_0.2.2.2.2.2.2.2.2.2.1
theorem dX8_canSlip_20 : decode (mB 107) 20 = .ok (.aload_n 0, 1) := dqo gX8_canSlip_0.2.2.2.2.2.2.2.2.2.2.1
theorem dX8_canSlip_21 : decode (mB 107) 21 = .ok (.iload_n 1, 1) := dqo gX8_canSlip_0.2.2.2.2.2.2.2.2.2.2.2.1
theorem dX8_canSlip_22 : decode (mB 107) 22 = .ok (.invokevirtual 37, 3) := dqo gX8_canSlip_0.2.2.2.2.2.2.2.2.2.2.2.2.1
theorem dX8_canSlip_25 : decode (mB 107) 25 = .ok (.iload_n 2, 1) := dqo gX8_canSlip_0.2.2.2.2.2.2.2.2.2.2.2.2.2.1
theorem dX8_canSlip_26 : decode (mB 107) 26 = .ok (.invokevirtual 47, 3) := dqo gX8_canSlip_0.2.2.2.2.2.2.2.2.2.2.2.2.2.2.1
theorem dX8_canSlip_29 : decode (mB 107) 29 = .ok (.ifCond .eq 7, 3) := dqo gX8_canSlip_0.2.2.2.2.2.2.2.2.2.2.2.2.2.2.2
theorem gX8_canSlip_32 : dq 107 32 (.iconst 1) 1 = true ∧ dq 107 33 (.goto 4) 3 = true ∧ dq 107 36 (.iconst 0) 1 = true ∧ dq 107 37 (.ireturn) 1 = true := by decide +kernel
theorem dX8_canSlip_32 : decode (mB 107) 32 = .ok (.iconst 1, 1) := dqo gX8_canSlip_32.1
theorem dX8_canSlip_33 : decode (mB 107) 33 = .ok (.goto 4, 3) := dqo gX8_canSlip_32.2.1
theorem dX8_canSlip_36 : decode (mB 107) 36 = .ok (.iconst 0, 1) := dqo gX8_canSlip_32.2.2.1
theorem dX8_canSlip_37 : decode (mB 107) 37 = .ok (.ireturn, 1) := dqo gX8_canSlip_32.2.2.2
theorem gX8_canGive_0 : dq 108 0 (.iload_n 1) 1 = true ∧ dq 108 1 (.iload_n 2) 1 = true ∧ dq 108 2 (.if_icmp .eq 30) 3 = true ∧ dq 108 5 (.aload_n 0) 1 = true ∧ dq 108 6 (.getfield 9) 3 = true ∧ dq 108 9 (.iload_n 2) 1 = true ∧ dq 108 10 (.invokevirtual 51) 3 = true ∧ dq 108 13 (.ifCond .eq 19) 3 = true ∧ dq 108 16 (.aload_n 0) 1 = true ∧ dq 108 17 (.getfield 9) 3 = true ∧ dq 108 20 (.iconst 1) 1 = true ∧ dq 108 21 (.iload_n 2) 1 = true ∧ dq 108 22 (.invokevirtual 23) 3 = true ∧ dq 108 25 (.ifCond .ne 7) 3 = true ∧ dq 108 28 (.iconst 1) 1 = true ∧ dq 108 29 (.goto 4) 3 = true := by decide +kernel
theorem dX8_canGive_0 : decode (mB 108) 0 = .ok (.iload_n 1, 1) := dqo gX8_canGive_0.1
theorem dX8_canGive_1 : decode (mB 108) 1 = .ok (.iload_n 2, 1) := dqo gX8_canGive_0.2.1
theorem dX8_canGive_2 : decode (mB 108) 2 = .ok (.if_icmp .eq 30, 3) := dqo gX8_canGive_0.2.2.1
theorem dX8_canGive_5 : decode (mB 108) 5 = .ok (.aload_n 0, 1) := dqo gX8_canGive_0.2.2.2.1
theorem dX8_canGive_6 : decode (mB 108) 6 = .ok (.getfield 9, 3) := dqo gX8_canGive_0.2.2.2.2.1
theorem dX8_canGive_9 : decode (mB 108) 9 = .ok (.iload_n 2, 1) := dqo gX8_canGive_0.2.2.2.2.2.1
theorem dX8_canGive_10 : decode (mB 108) 10 = .ok (.invokevirtual 51, 3) := dqo gX8_canGive_0.2.2.2.2.2.2.1
theorem dX8_canGive_13 : decode (mB 108) 13 = .ok (.ifCond .eq 19, 3) := dqo gX8_canGive_0.2.2.2.2.2.2.2.1
theorem dX8_canGive_16 : decode (mB 108) 16 = .ok (.aload_n 0, 1) := dqo gX8_canGive_0.2.2.2.2.2.2.2.2.1
theorem dX8_canGive_17 : decode (mB 108) 17 = .ok (.getfield 9, 3) := dqo gX8_canGive_0.2.2.2.2.2.2.2.2.2.1
theorem dX8_canGive_20 : decode (mB 108) 20 = .ok (.iconst 1, 1) := dqo gX8_canGive_0.2.2.2.2.2.2.2.2.2.2.1
theorem dX8_canGive_21 : decode (mB 108) 21 = .ok (.iload_n 2, 1) := dqo gX8_canGive_0.2.2.2.2.2.2.2.2.2.2.2.1
theorem dX8_canGive_22 : decode (mB 108) 22 = .ok (.invokevirtual 23, 3) := dqo gX8_canGive_0.2.2.2.2.2.2.2.2.2.2.2.2.1
theorem dX8_canGive_25 : decode (mB 108) 25 = .ok (.ifCond .ne 7, 3) := dqo gX8_canGive_0.2.2.2.2.2.2.2.2.2.2.2.2.2.1
theorem dX8_canGive_28 : decode (mB 108) 28 = .ok (.iconst 1, 1) := dqo gX8_canGive_0.2.2.2.2.2.2.2.2.2.2.2.2.2.2.1
theorem dX8_canGive_29 : decode (mB 108) 29 = .ok (.goto 4, 3) := dqo gX8_canGive_0.2.2.2.2.2.2.2.2.2.2.2.2.2.2.2
theorem gX8_canGive_32 : dq 108 32 (.iconst 0) 1 = true ∧ dq 108 33 (.ireturn) 1 = true := by decide +kernel
theorem dX8_canGive_32 : decode (mB 108) 32 = .ok (.iconst 0, 1) := dqo gX8_canGive_32.1
theorem dX8_canGive_33 : decode (mB 108) 33 = .ok (.ireturn, 1) := dqo gX8_canGive_32.2
theorem gX8_oddsOf_0 : dq 109 0 (.aload_n 0) 1 = true ∧ dq 109 1 (.iload_n 1) 1 = true ∧ dq 109 2 (.iload_n 2) 1 = true ∧ dq 109 3 (.invokevirtual 54) 3 = true ∧ dq 109 6 (.ifCond .ne 5) 3 = true ∧ dq 109 9 (.iconst 0) 1 = true ∧ dq 109 10 (.ireturn) 1 = true ∧ dq 109 11 (.aload_n 0) 1 = true ∧ dq 109 12 (.aload_n 0) 1 = true ∧ dq 109 13 (.iload_n 1) 1 = true ∧ dq 109 14 (.invokevirtual 37) 3 = true ∧ dq 109 17 (.iload_n 2) 1 = true ∧ dq 109 18 (.aload_n 0) 1 = true ∧ dq 109 19 (.iload_n 2) 1 = true ∧ dq 109 20 (.invokevirtual 57) 3 = true ∧ dq 109 23 (.aload_n 0) 1 = true := by decide +kernel
theorem dX8_oddsOf_0 : decode (mB 109) 0 = .ok (.aload_n 0, 1) := dqo gX8_oddsOf_0.1
theorem dX8_oddsOf_1 : decode (mB 109) 1 = .ok (.iload_n 1, 1) := dqo gX8_oddsOf_0.2.1
theorem dX8_oddsOf_2 : decode (mB 109) 2 = .ok (.iload_n 2, 1) := dqo gX8_oddsOf_0.2.2.1
theorem dX8_oddsOf_3 : decode (mB 109) 3 = .ok (.invokevirtual 54, 3) := dqo gX8_oddsOf_0.2.2.2.1
theorem dX8_oddsOf_6 : decode (mB 109) 6 = .ok (.ifCond .ne 5, 3) := dqo gX8_oddsOf_0.2.2.2.2.1
theorem dX8_oddsOf_9 : decode (mB 109) 9 = .ok (.iconst 0, 1) := dqo gX8_oddsOf_0.2.2.2.2.2.1
theorem dX8_oddsOf_10 : decode (mB 109) 10 = .ok (.ireturn, 1) := dqo gX8_oddsOf_0.2.2.2.2.2.2.1
theorem dX8_oddsOf_11 : decode (mB 109) 11 = .ok (.aload_n 0, 1) := dqo gX8_oddsOf_0.2.2.2.2.2.2.2.1
theorem dX8_oddsOf_12 : decode (mB 109) 12 = .ok (.aload_n 0, 1) := dqo gX8_oddsOf_0.2.2.2.2.2.2.2.2.1
theorem dX8_oddsOf_13 : decode (mB 109) 13 = .ok (.iload_n 1, 1) := dqo gX8_oddsOf_0.2.2.2.2.2.2.2.2.2.1
theorem dX8_oddsOf_14 : decode (mB 109) 14 = .ok (.invokevirtual 37, 3) := dqo gX8_oddsOf_0.2.2.2.2.2.2.2.2.2.2.1
theorem dX8_oddsOf_17 : decode (mB 109) 17 = .ok (.iload_n 2, 1) := dqo gX8_oddsOf_0.2.2.2.2.2.2.2.2.2.2.2.1
theorem dX8_oddsOf_18 : decode (mB 109) 18 = .ok (.aload_n 0, 1) := dqo gX8_oddsOf_0.2.2.2.2.2.2.2.2.2.2.2.2.1
theorem dX8_oddsOf_19 : decode (mB 109) 19 = .ok (.iload_n 2, 1) := dqo gX8_oddsOf_0.2.2.2.2.2.2.2.2.2.2.2.2.2.1
theorem dX8_oddsOf_20 : decode (mB 109) 20 = .ok (.invokevirtual 57, 3) := dqo gX8_oddsOf_0.2.2.2.2.2.2.2.2.2.2.2.2.2.2.1
theorem dX8_oddsOf_23 : decode (mB 109) 23 = .ok (.aload_n 0, 1) := dqo gX8_oddsOf_0.2.2.2.2.2.2.2.2.2.2.2.2.2.2.2
theorem gX8_oddsOf_24 : dq 109 24 (.getfield 9) 3 = true ∧ dq 109 27 (.bipush 6) 2 = true ∧ dq 109 29 (.iload_n 1) 1 = true ∧ dq 109 30 (.invokevirtual 23) 3 = true ∧ dq 109 33 (.aload_n 0) 1 = true ∧ dq 109 34 (.getfield 9) 3 = true ∧ dq 109 37 (.invokevirtual 60) 3 = true ∧ dq 109 40 (.invokevirtual 63) 3 = true ∧ dq 109 43 (.ireturn) 1 = true := by decide +kernel
theorem dX8_oddsOf_24 : decode (mB 109) 24 = .ok (.getfield 9, 3) := dqo gX8_oddsOf_24.1
theorem dX8_oddsOf_27 : decode (mB 109) 27 = .ok (.bipush 6, 2) := dqo gX8_oddsOf_24.2.1
theorem dX8_oddsOf_29 : decode (mB 109) 29 = .ok (.iload_n 1, 1) := dqo gX8_oddsOf_24.2.2.1
theorem dX8_oddsOf_30 : decode (mB 109) 30 = .ok (.invokevirtual 23, 3) := dqo gX8_oddsOf_24.2.2.2.1
theorem dX8_oddsOf_33 : decode (mB 109) 33 = .ok (.aload_n 0, 1) := dqo gX8_oddsOf_24.2.2.2.2.1
theorem dX8_oddsOf_34 : decode (mB 109) 34 = .ok (.getfield 9, 3) := dqo gX8_oddsOf_24.2.2.2.2.2.1
theorem dX8_oddsOf_37 : decode (mB 109) 37 = .ok (.invokevirtual 60, 3) := dqo gX8_oddsOf_24.2.2.2.2.2.2.1
theorem dX8_oddsOf_40 : decode (mB 109) 40 = .ok (.invokevirtual 63, 3) := dqo gX8_oddsOf_24.2.2.2.2.2.2.2.1
theorem dX8_oddsOf_43 : decode (mB 109) 43 = .ok (.ireturn, 1) := dqo gX8_oddsOf_24.2.2.2.2.2.2.2.2
theorem gX8_oddsBy_0 : dq 110 0 (.aload_n 0) 1 = true ∧ dq 110 1 (.iload_n 1) 1 = true ∧ dq 110 2 (.iload_n 2) 1 = true ∧ dq 110 3 (.invokevirtual 47) 3 = true ∧ dq 110 6 (.ifCond .eq 9) 3 = true ∧ dq 110 9 (.iload 4) 2 = true ∧ dq 110 11 (.iconst 4) 1 = true ∧ dq 110 12 (.if_icmp .lt 5) 3 = true ∧ dq 110 15 (.iconst 0) 1 = true ∧ dq 110 16 (.ireturn) 1 = true ∧ dq 110 17 (.aload_n 0) 1 = true ∧ dq 110 18 (.getfield 9) 3 = true ∧ dq 110 21 (.iconst 0) 1 = true ∧ dq 110 22 (.iload_n 2) 1 = true ∧ dq 110 23 (.invokevirtual 23) 3 = true ∧ dq 110 26 (.istore 6) 2 = true := by decide +kernel
theorem dX8_oddsBy_0 : decode (mB 110) 0 = .ok (.aload_n 0, 1) := dqo gX8_oddsBy_0.1
theorem dX8_oddsBy_1 : decode (mB 110) 1 = .ok (.iload_n 1, 1) := dqo gX8_oddsBy_0.2.1
theorem dX8_oddsBy_2 : decode (mB 110) 2 = .ok (.iload_n 2, 1) := dqo gX8_oddsBy_0.2.2.1
theorem dX8_oddsBy_3 : decode (mB 110) 3 = .ok (.invokevirtual 47, 3) := dqo gX8_oddsBy_0.2.2.2.1
theorem dX8_oddsBy_6 : decode (mB 110) 6 = .ok (.ifCond .eq 9, 3) := dqo gX8_oddsBy_0.2.2.2.2.1
theorem dX8_oddsBy_9 : decode (mB 110) 9 = .ok (.iload 4, 2) := dqo gX8_oddsBy_0.2.2.2.2.2.1
theorem dX8_oddsBy_11 : decode (mB 110) 11 = .ok (.iconst 4, 1) := dqo gX8_oddsBy_0.2.2.2.2.2.2.1
theorem dX8_oddsBy_12 : decode (mB 110) 12 = .ok (.if_icmp .lt 5, 3) := dqo gX8_oddsBy_0.2.2.2.2.2.2.2.1
theorem dX8_oddsBy_15 : decode (mB 110) 15 = .ok (.iconst 0, 1) := dqo gX8_oddsBy_0.2.2.2.2.2.2.2.2.1
theorem dX8_oddsBy_16 : decode (mB 110) 16 = .ok (.ireturn, 1) := dqo gX8_oddsBy_0.2.2.2.2.2.2.2.2.2.1
theorem dX8_oddsBy_17 : decode (mB 110) 17 = .ok (.aload_n 0, 1) := dqo gX8_oddsBy_0.2.2.2.2.2.2.2.2.2.2.1
theorem dX8_oddsBy_18 : decode (mB 110) 18 = .ok (.getfield 9, 3) := dqo gX8_oddsBy_0.2.2.2.2.2.2.2.2.2.2.2.1
theorem dX8_oddsBy_21 : decode (mB 110) 21 = .ok (.iconst 0, 1) := dqo gX8_oddsBy_0.2.2.2.2.2.2.2.2.2.2.2.2.1
theorem dX8_oddsBy_22 : decode (mB 110) 22 = .ok (.iload_n 2, 1) := dqo gX8_oddsBy_0.2.2.2.2.2.2.2.2.2.2.2.2.2.1
theorem dX8_oddsBy_23 : decode (mB 110) 23 = .ok (.invokevirtual 23, 3) := dqo gX8_oddsBy_0.2.2.2.2.2.2.2.2.2.2.2.2.2.2.1
theorem dX8_oddsBy_26 : decode (mB 110) 26 = .ok (.istore 6, 2) := dqo gX8_oddsBy_0.2.2.2.2.2.2.2.2.2.2.2.2.2.2.2
theorem gX8_oddsBy_28 : dq 110 28 (.aload_n 0) 1 = true ∧ dq 110 29 (.getfield 9) 3 = true ∧ dq 110 32 (.bipush 8) 2 = true ∧ dq 110 34 (.iconst 0) 1 = true ∧ dq 110 35 (.invokevirtual 23) 3 = true ∧ dq 110 38 (.istore 7) 2 = true ∧ dq 110 40 (.bipush 12) 2 = true ∧ dq 110 42 (.iload 6) 2 = true ∧ dq 110 44 (.isub) 1 = true ∧ dq 110 45 (.iload 7) 2 = true ∧ dq 110 47 (.isub) 1 = true ∧ dq 110 48 (.istore 8) 2 = true ∧ dq 110 50 (.aload_n 0) 1 = true ∧ dq 110 51 (.getfield 15) 3 = true ∧ dq 110 54 (.invokevirtual 67) 3 = true ∧ dq 110 57 (.ifCond .eq 30) 3 = true := by decide +kernel
theorem dX8_oddsBy_28 : decode (mB 110) 28 = .ok (.aload_n 0, 1) := dqo gX8_oddsBy_28.1
theorem dX8_oddsBy_29 : decode (mB 110) 29 = .ok (.getfield 9, 3) := dqo gX8_oddsBy_28.2.1
theorem dX8_oddsBy_32 : decode (mB 110) 32 = .ok (.bipush 8, 2) := dqo gX8_oddsBy_28.2.2.1
theorem dX8_oddsBy_34 : decode (mB 110) 34 = .ok (.iconst 0, 1) := dqo gX8_oddsBy_28.2.2.2.1
theorem dX8_oddsBy_35 : decode (mB 110) 35 = .ok (.invokevirtual 23, 3) := dqo gX8_oddsBy_28.2.2.2.2.1
theorem dX8_oddsBy_38 : decode (mB 110) 38 = .ok (.istore 7, 2) := dqo gX8_oddsBy_28.2.2.2.2.2.1
theorem dX8_oddsBy_40 : decode (mB 110) 40 = .ok (.bipush 12, 2) := dqo gX8_oddsBy_28.2.2.2.2.2.2.1
theorem dX8_oddsBy_42 : decode (mB 110) 42 = .ok (.iload 6, 2) := dqo gX8_oddsBy_28.2.2.2.2.2.2.2.1
theorem dX8_oddsBy_44 : decode (mB 110) 44 = .ok (.isub, 1) := dqo gX8_oddsBy_28.2.2.2.2.2.2.2.2.1
theorem dX8_oddsBy_45 : decode (mB 110) 45 = .ok (.iload 7, 2) := dqo gX8_oddsBy_28.2.2.2.2.2.2.2.2.2.1
theorem dX8_oddsBy_47 : decode (mB 110) 47 = .ok (.isub, 1) := dqo gX8_oddsBy_28.2.2.2.2.2.2.2.2.2.2.1
theorem dX8_oddsBy_48 : decode (mB 110) 48 = .ok (.istore 8, 2) := dqo gX8_oddsBy_28.2.2.2.2.2.2.2.2.2.2.2.1
theorem dX8_oddsBy_50 : decode (mB 110) 50 = .ok (.aload_n 0, 1) := dqo gX8_oddsBy_28.2.2.2.2.2.2.2.2.2.2.2.2.1
theorem dX8_oddsBy_51 : decode (mB 110) 51 = .ok (.getfield 15, 3) := dqo gX8_oddsBy_28.2.2.2.2.2.2.2.2.2.2.2.2.2.1
theorem dX8_oddsBy_54 : decode (mB 110) 54 = .ok (.invokevirtual 67, 3) := dqo gX8_oddsBy_28.2.2.2.2.2.2.2.2.2.2.2.2.2.2.1
theorem dX8_oddsBy_57 : decode (mB 110) 57 = .ok (.ifCond .eq 30, 3) := dqo gX8_oddsBy_28.2.2.2.2.2.2.2.2.2.2.2.2.2.2.2
theorem gX8_oddsBy_60 : dq 110 60 (.aload_n 0) 1 = true ∧ dq 110 61 (.getfield 15) 3 = true ∧ dq 110 64 (.iload 6) 2 = true ∧ dq 110 66 (.aload_n 0) 1 = true ∧ dq 110 67 (.getfield 9) 3 = true ∧ dq 110 70 (.iconst 0) 1 = true ∧ dq 110 71 (.iload_n 1) 1 = true ∧ dq 110 72 (.invokevirtual 23) 3 = true ∧ dq 110 75 (.iload_n 3) 1 = true ∧ dq 110 76 (.iload 4) 2 = true ∧ dq 110 78 (.iload 5) 2 = true ∧ dq 110 80 (.iload 7) 2 = true ∧ dq 110 82 (.invokevirtual 73) 3 = true ∧ dq 110 85 (.istore 8) 2 = true ∧ dq 110 87 (.iconst 0) 1 = true ∧ dq 110 88 (.bipush 12) 2 = true := by decide +kernel
theorem dX8_oddsBy_60 : decode (mB 110) 60 = .ok (.aload_n 0, 1) := dqo gX8_oddsBy_60.1
theorem dX8_oddsBy_61 : decode (mB 110) 61 = .ok (.getfield 15, 3) := dqo gX8_oddsBy_60.2.1
theorem dX8_oddsBy_64 : decode (mB 110) 64 = .ok (.iload 6, 2) := dqo gX8_oddsBy_60.2.2.1
theorem dX8_oddsBy_66 : decode (mB 110) 66 = .ok (.aload_n 0, 1) := dqo gX8_oddsBy_60.2.2.2.1
theorem dX8_oddsBy_67 : decode (mB 110) 67 = .ok (.getfield 9, 3) := dqo gX8_oddsBy_60.2.2.2.2.1
theorem dX8_oddsBy_70 : decode (mB 110) 70 = .ok (.iconst 0, 1) := dqo gX8_oddsBy_60.2.2.2.2.2.1
theorem dX8_oddsBy_71 : decode (mB 110) 71 = .ok (.iload_n 1, 1) := dqo gX8_oddsBy_60.2.2.2.2.2.2.1
theorem dX8_oddsBy_72 : decode (mB 110) 72 = .ok (.invokevirtual 23, 3) := dqo gX8_oddsBy_60.2.2.2.2.2.2.2.1
theorem dX8_oddsBy_75 : decode (mB 110) 75 = .ok (.iload_n 3, 1) := dqo gX8_oddsBy_60.2.2.2.2.2.2.2.2.1
theorem dX8_oddsBy_76 : decode (mB 110) 76 = .ok (.iload 4, 2) := dqo gX8_oddsBy_60.2.2.2.2.2.2.2.2.2.1
theorem dX8_oddsBy_78 : decode (mB 110) 78 = .ok (.iload 5, 2) := dqo gX8_oddsBy_60.2.2.2.2.2.2.2.2.2.2.1
theorem dX8_oddsBy_80 : decode (mB 110) 80 = .ok (.iload 7, 2) := dqo gX8_oddsBy_60.2.2.2.2.2.2.2.2.2.2.2.1
theorem dX8_oddsBy_82 : decode (mB 110) 82 = .ok (.invokevirtual 73, 3) := dqo gX8_oddsBy_60.2.2.2.2.2.2.2.2.2.2.2.2.1
theorem dX8_oddsBy_85 : decode (mB 110) 85 = .ok (.istore 8, 2) := dqo gX8_oddsBy_60.2.2.2.2.2.2.2.2.2.2.2.2.2.1
theorem dX8_oddsBy_87 : decode (mB 110) 87 = .ok (.iconst 0, 1) := dqo gX8_oddsBy_60.2.2.2.2.2.2.2.2.2.2.2.2.2.2.1
theorem dX8_oddsBy_88 : decode (mB 110) 88 = .ok (.bipush 12, 2) := dqo gX8_oddsBy_60.2.2.2.2.2.2.2.2.2.2.2.2.2.2.2
theorem gX8_oddsBy_90 : dq 110 90 (.iload 8) 2 = true ∧ dq 110 92 (.invokestatic 77) 3 = true ∧ dq 110 95 (.invokestatic 82) 3 = true ∧ dq 110 98 (.ireturn) 1 = true := by decide +kernel
theorem dX8_oddsBy_90 : decode (mB 110) 90 = .ok (.iload 8, 2) := dqo gX8_oddsBy_90.1
theorem dX8_oddsBy_92 : decode (mB 110) 92 = .ok (.invokestatic 77, 3) := dqo gX8_oddsBy_90.2.1
theorem dX8_oddsBy_95 : decode (mB 110) 95 = .ok (.invokestatic 82, 3) := dqo gX8_oddsBy_90.2.2.1
theorem dX8_oddsBy_98 : decode (mB 110) 98 = .ok (.ireturn, 1) := dqo gX8_oddsBy_90.2.2.2
theorem gX8_slipDrawn_0 : dq 111 0 (.aload_n 0) 1 = true ∧ dq 111 1 (.getfield 9) 3 = true ∧ dq 111 4 (.invokevirtual 33) 3 = true ∧ dq 111 7 (.istore_n 2) 1 = true ∧ dq 111 8 (.aload_n 0) 1 = true ∧ dq 111 9 (.getfield 9) 3 = true ∧ dq 111 12 (.invokevirtual 85) 3 = true ∧ dq 111 15 (.istore_n 3) 1 = true ∧ dq 111 16 (.iload_n 2) 1 = true ∧ dq 111 17 (.ifCond .le 7) 3 = true ∧ dq 111 20 (.iload_n 3) 1 = true ∧ dq 111 21 (.ifCond .gt 5) 3 = true ∧ dq 111 24 (.iconst 0) 1 = true ∧ dq 111 25 (.ireturn) 1 = true ∧ dq 111 26 (.iload_n 1) 1 = true ∧ dq 111 27 (.bipush 8) 2 = true := by decide +kernel
theorem dX8_slipDrawn_0 : decode (mB 111) 0 = .ok (.aload_n 0, 1) := dqo gX8_slipDrawn_0.1
theorem dX8_slipDrawn_1 : decode (mB 111) 1 = .ok (.getfield 9, 3) := dqo gX8_slipDrawn_0.2.1
theorem dX8_slipDrawn_4 : decode (mB 111) 4 = .ok (.invokevirtual 33, 3) := dqo gX8_slipDrawn_0.2.2.1
theorem dX8_slipDrawn_7 : decode (mB 111) 7 = .ok (.istore_n 2, 1) := dqo gX8_slipDrawn_0.2.2.2.1
theorem dX8_slipDrawn_8 : decode (mB 111) 8 = .ok (.aload_n 0, 1) := dqo gX8_slipDrawn_0.2.2.2.2.1
theorem dX8_slipDrawn_9 : decode (mB 111) 9 = .ok (.getfield 9, 3) := dqo gX8_slipDrawn_0.2.2.2.2.2.1
theorem dX8_slipDrawn_12 : decode (mB 111) 12 = .ok (.invokevirtual 85, 3) := dqo gX8_slipDrawn_0.2.2.2.2.2.2.1
theorem dX8_slipDrawn_15 : decode (mB 111) 15 = .ok (.istore_n 3, 1) := dqo gX8_slipDrawn_0.2.2.2.2.2.2.2.1
theorem dX8_slipDrawn_16 : decode (mB 111) 16 = .ok (.iload_n 2, 1) := dqo gX8_slipDrawn_0.2.2.2.2.2.2.2.2.1
theorem dX8_slipDrawn_17 : decode (mB 111) 17 = .ok (.ifCond .le 7, 3) := dqo gX8_slipDrawn_0.2.2.2.2.2.2.2.2.2.1
theorem dX8_slipDrawn_20 : decode (mB 111) 20 = .ok (.iload_n 3, 1) := dqo gX8_slipDrawn_0.2.2.2.2.2.2.2.2.2.2.1
theorem dX8_slipDrawn_21 : decode (mB 111) 21 = .ok (.ifCond .gt 5, 3) := dqo gX8_slipDrawn_0.2.2.2.2.2.2.2.2.2.2.2.1
theorem dX8_slipDrawn_24 : decode (mB 111) 24 = .ok (.iconst 0, 1) := dqo gX8_slipDrawn_0.2.2.2.2.2.2.2.2.2.2.2.2.1
theorem dX8_slipDrawn_25 : decode (mB 111) 25 = .ok (.ireturn, 1) := dqo gX8_slipDrawn_0.2.2.2.2.2.2.2.2.2.2.2.2.2.1
theorem dX8_slipDrawn_26 : decode (mB 111) 26 = .ok (.iload_n 1, 1) := dqo gX8_slipDrawn_0.2.2.2.2.2.2.2.2.2.2.2.2.2.2.1
theorem dX8_slipDrawn_27 : decode (mB 111) 27 = .ok (.bipush 8, 2) := dqo gX8_slipDrawn_0.2.2.2.2.2.2.2.2.2.2.2.2.2.2.2
theorem gX8_slipDrawn_29 : dq 111 29 (.iushr) 1 = true ∧ dq 111 30 (.iload_n 2) 1 = true ∧ dq 111 31 (.irem) 1 = true ∧ dq 111 32 (.istore 4) 2 = true ∧ dq 111 34 (.iload_n 1) 1 = true ∧ dq 111 35 (.bipush 12) 2 = true ∧ dq 111 37 (.iushr) 1 = true ∧ dq 111 38 (.iload_n 3) 1 = true ∧ dq 111 39 (.irem) 1 = true ∧ dq 111 40 (.istore 5) 2 = true ∧ dq 111 42 (.iload_n 1) 1 = true ∧ dq 111 43 (.bipush 20) 2 = true ∧ dq 111 45 (.iushr) 1 = true ∧ dq 111 46 (.bipush 12) 2 = true ∧ dq 111 48 (.irem) 1 = true ∧ dq 111 49 (.aload_n 0) 1 = true := by decide +kernel
theorem dX8_slipDrawn_29 : decode (mB 111) 29 = .ok (.iushr, 1) := dqo gX8_slipDrawn_29.1
theorem dX8_slipDrawn_30 : decode (mB 111) 30 = .ok (.iload_n 2, 1) := dqo gX8_slipDrawn_29.2.1
theorem dX8_slipDrawn_31 : decode (mB 111) 31 = .ok (.irem, 1) := dqo gX8_slipDrawn_29.2.2.1
theorem dX8_slipDrawn_32 : decode (mB 111) 32 = .ok (.istore 4, 2) := dqo gX8_slipDrawn_29.2.2.2.1
theorem dX8_slipDrawn_34 : decode (mB 111) 34 = .ok (.iload_n 1, 1) := dqo gX8_slipDrawn_29.2.2.2.2.1
theorem dX8_slipDrawn_35 : decode (mB 111) 35 = .ok (.bipush 12, 2) := dqo gX8_slipDrawn_29.2.2.2.2.2.1
theorem dX8_slipDrawn_37 : decode (mB 111) 37 = .ok (.iushr, 1) := dqo gX8_slipDrawn_29.2.2.2.2.2.2.1
theorem dX8_slipDrawn_38 : decode (mB 111) 38 = .ok (.iload_n 3, 1) := dqo gX8_slipDrawn_29.2.2.2.2.2.2.2.1
theorem dX8_slipDrawn_39 : decode (mB 111) 39 = .ok (.irem, 1) := dqo gX8_slipDrawn_29.2.2.2.2.2.2.2.2.1
theorem dX8_slipDrawn_40 : decode (mB 111) 40 = .ok (.istore 5, 2) := dqo gX8_slipDrawn_29.2.2.2.2.2.2.2.2.2.1
theorem dX8_slipDrawn_42 : decode (mB 111) 42 = .ok (.iload_n 1, 1) := dqo gX8_slipDrawn_29.2.2.2.2.2.2.2.2.2.2.1
theorem dX8_slipDrawn_43 : decode (mB 111) 43 = .ok (.bipush 20, 2) := dqo gX8_slipDrawn_29.2.2.2.2.2.2.2.2.2.2.2.1
theorem dX8_slipDrawn_45 : decode (mB 111) 45 = .ok (.iushr, 1) := dqo gX8_slipDrawn_29.2.2.2.2.2.2.2.2.2.2.2.2.1
theorem dX8_slipDrawn_46 : decode (mB 111) 46 = .ok (.bipush 12, 2) := dqo gX8_slipDrawn_29.2.2.2.2.2.2.2.2.2.2.2.2.2.1
theorem dX8_slipDrawn_48 : decode (mB 111) 48 = .ok (.irem, 1) := dqo gX8_slipDrawn_29.2.2.2.2.2.2.2.2.2.2.2.2.2.2.1
theorem dX8_slipDrawn_49 : decode (mB 111) 49 = .ok (.aload_n 0, 1) := dqo gX8_slipDrawn_29.2.2.2.2.2.2.2.2.2.2.2.2.2.2.2
theorem gX8_slipDrawn_50 : dq 111 50 (.iload 4) 2 = true ∧ dq 111 52 (.iload 5) 2 = true ∧ dq 111 54 (.invokevirtual 88) 3 = true ∧ dq 111 57 (.if_icmp .ge 7) 3 = true ∧ dq 111 60 (.iconst 1) 1 = true ∧ dq 111 61 (.goto 4) 3 = true ∧ dq 111 64 (.iconst 0) 1 = true ∧ dq 111 65 (.istore 6) 2 = true ∧ dq 111 67 (.iload 6) 2 = true ∧ dq 111 69 (.ifCond .eq 11) 3 = true ∧ dq 111 72 (.aload_n 0) 1 = true ∧ dq 111 73 (.iload 4) 2 = true ∧ dq 111 75 (.iload 5) 2 = true ∧ dq 111 77 (.invokevirtual 91) 3 = true ∧ dq 111 80 (.iload 6) 2 = true ∧ dq 111 82 (.ireturn) 1 = true := by decide +kernel
theorem dX8_slipDrawn_50 : decode (mB 111) 50 = .ok (.iload 4, 2) := dqo gX8_slipDrawn_50.1
theorem dX8_slipDrawn_52 : decode (mB 111) 52 = .ok (.iload 5, 2) := dqo gX8_slipDrawn_50.2.1
theorem dX8_slipDrawn_54 : decode (mB 111) 54 = .ok (.invokevirtual 88, 3) := dqo gX8_slipDrawn_50.2.2.1
theorem dX8_slipDrawn_57 : decode (mB 111) 57 = .ok (.if_icmp .ge 7, 3) := dqo gX8_slipDrawn_50.2.2.2.1
theorem dX8_slipDrawn_60 : decode (mB 111) 60 = .ok (.iconst 1, 1) := dqo gX8_slipDrawn_50.2.2.2.2.1
theorem dX8_slipDrawn_61 : decode (mB 111) 61 = .ok (.goto 4, 3) := dqo gX8_slipDrawn_50.2.2.2.2.2.1
theorem dX8_slipDrawn_64 : decode (mB 111) 64 = .ok (.iconst 0, 1) := dqo gX8_slipDrawn_50.2.2.2.2.2.2.1
theorem dX8_slipDrawn_65 : decode (mB 111) 65 = .ok (.istore 6, 2) := dqo gX8_slipDrawn_50.2.2.2.2.2.2.2.1
theorem dX8_slipDrawn_67 : decode (mB 111) 67 = .ok (.iload 6, 2) := dqo gX8_slipDrawn_50.2.2.2.2.2.2.2.2.1
theorem dX8_slipDrawn_69 : decode (mB 111) 69 = .ok (.ifCond .eq 11, 3) := dqo gX8_slipDrawn_50.2.2.2.2.2.2.2.2.2.1
theorem dX8_slipDrawn_72 : decode (mB 111) 72 = .ok (.aload_n 0, 1) := dqo gX8_slipDrawn_50.2.2.2.2.2.2.2.2.2.2.1
theorem dX8_slipDrawn_73 : decode (mB 111) 73 = .ok (.iload 4, 2) := dqo gX8_slipDrawn_50.2.2.2.2.2.2.2.2.2.2.2.1
theorem dX8_slipDrawn_75 : decode (mB 111) 75 = .ok (.iload 5, 2) := dqo gX8_slipDrawn_50.2.2.2.2.2.2.2.2.2.2.2.2.1
theorem dX8_slipDrawn_77 : decode (mB 111) 77 = .ok (.invokevirtual 91, 3) := dqo gX8_slipDrawn_50.2.2.2.2.2.2.2.2.2.2.2.2.2.1
theorem dX8_slipDrawn_80 : decode (mB 111) 80 = .ok (.iload 6, 2) := dqo gX8_slipDrawn_50.2.2.2.2.2.2.2.2.2.2.2.2.2.2.1
theorem dX8_slipDrawn_82 : decode (mB 111) 82 = .ok (.ireturn, 1) := dqo gX8_slipDrawn_50.2.2.2.2.2.2.2.2.2.2.2.2.2.2.2
theorem gX8_kingDrawn_0 : dq 112 0 (.aload_n 0) 1 = true ∧ dq 112 1 (.invokevirtual 95) 3 = true ∧ dq 112 4 (.istore_n 2) 1 = true ∧ dq 112 5 (.iload_n 2) 1 = true ∧ dq 112 6 (.ifCond .gt 6) 3 = true ∧ dq 112 9 (.bipush (-2)) 2 = true ∧ dq 112 11 (.ireturn) 1 = true ∧ dq 112 12 (.iload_n 1) 1 = true ∧ dq 112 13 (.bipush 8) 2 = true ∧ dq 112 15 (.iushr) 1 = true ∧ dq 112 16 (.iload_n 2) 1 = true ∧ dq 112 17 (.irem) 1 = true ∧ dq 112 18 (.istore_n 3) 1 = true ∧ dq 112 19 (.iconst 0) 1 = true ∧ dq 112 20 (.istore 4) 2 = true ∧ dq 112 22 (.iload 4) 2 = true := by decide +kernel
theorem dX8_kingDrawn_0 : decode (mB 112) 0 = .ok (.aload_n 0, 1) := dqo gX8_kingDrawn_0.1
theorem dX8_kingDrawn_1 : decode (mB 112) 1 = .ok (.invokevirtual 95, 3) := dqo gX8_kingDrawn_0.2.1
theorem dX8_kingDrawn_4 : decode (mB 112) 4 = .ok (.istore_n 2, 1) := dqo gX8_kingDrawn_0.2.2.1
theorem dX8_kingDrawn_5 : decode (mB 112) 5 = .ok (.iload_n 2, 1) := dqo gX8_kingDrawn_0.2.2.2.1
theorem dX8_kingDrawn_6 : decode (mB 112) 6 = .ok (.ifCond .gt 6, 3) := dqo gX8_kingDrawn_0.2.2.2.2.1
theorem dX8_kingDrawn_9 : decode (mB 112) 9 = .ok (.bipush (-2), 2) := dqo gX8_kingDrawn_0.2.2.2.2.2.1
theorem dX8_kingDrawn_11 : decode (mB 112) 11 = .ok (.ireturn, 1) := dqo gX8_kingDrawn_0.2.2.2.2.2.2.1
theorem dX8_kingDrawn_12 : decode (mB 112) 12 = .ok (.iload_n 1, 1) := dqo gX8_kingDrawn_0.2.2.2.2.2.2.2.1
theorem dX8_kingDrawn_13 : decode (mB 112) 13 = .ok (.bipush 8, 2) := dqo gX8_kingDrawn_0.2.2.2.2.2.2.2.2.1
theorem dX8_kingDrawn_15 : decode (mB 112) 15 = .ok (.iushr, 1) := dqo gX8_kingDrawn_0.2.2.2.2.2.2.2.2.2.1
theorem dX8_kingDrawn_16 : decode (mB 112) 16 = .ok (.iload_n 2, 1) := dqo gX8_kingDrawn_0.2.2.2.2.2.2.2.2.2.2.1
theorem dX8_kingDrawn_17 : decode (mB 112) 17 = .ok (.irem, 1) := dqo gX8_kingDrawn_0.2.2.2.2.2.2.2.2.2.2.2.1
theorem dX8_kingDrawn_18 : decode (mB 112) 18 = .ok (.istore_n 3, 1) := dqo gX8_kingDrawn_0.2.2.2.2.2.2.2.2.2.2.2.2.1
theorem dX8_kingDrawn_19 : decode (mB 112) 19 = .ok (.iconst 0, 1) := dqo gX8_kingDrawn_0.2.2.2.2.2.2.2.2.2.2.2.2.2.1
theorem dX8_kingDrawn_20 : decode (mB 112) 20 = .ok (.istore 4, 2) := dqo gX8_kingDrawn_0.2.2.2.2.2.2.2.2.2.2.2.2.2.2.1
theorem dX8_kingDrawn_22 : decode (mB 112) 22 = .ok (.iload 4, 2) := dqo gX8_kingDrawn_0.2.2.2.2.2.2.2.2.2.2.2.2.2.2.2
theorem gX8_kingDrawn_24 : dq 112 24 (.aload_n 0) 1 = true ∧ dq 112 25 (.getfield 9) 3 = true ∧ dq 112 28 (.invokevirtual 33) 3 = true ∧ dq 112 31 (.if_icmp .ge 35) 3 = true ∧ dq 112 34 (.aload_n 0) 1 = true ∧ dq 112 35 (.getfield 9) 3 = true ∧ dq 112 38 (.iload 4) 2 = true ∧ dq 112 40 (.invokevirtual 41) 3 = true ∧ dq 112 43 (.ifCond .eq 17) 3 = true ∧ dq 112 46 (.iload_n 3) 1 = true ∧ dq 112 47 (.ifCond .ne 10) 3 = true ∧ dq 112 50 (.aload_n 0) 1 = true ∧ dq 112 51 (.iload 4) 2 = true ∧ dq 112 53 (.invokevirtual 37) 3 = true ∧ dq 112 56 (.ireturn) 1 = true ∧ dq 112 57 (.iinc 3 (-1)) 3 = true := by decide +kernel
theorem dX8_kingDrawn_24 : decode (mB 112) 24 = .ok (.aload_n 0, 1) := dqo gX8_kingDrawn_24.1
theorem dX8_kingDrawn_25 : decode (mB 112) 25 = .ok (.getfield 9, 3) := dqo gX8_kingDrawn_24.2.1
theorem dX8_kingDrawn_28 : decode (mB 112) 28 = .ok (.invokevirtual 33, 3) := dqo gX8_kingDrawn_24.2.2.1
theorem dX8_kingDrawn_31 : decode (mB 112) 31 = .ok (.if_icmp .ge 35, 3) := dqo gX8_kingDrawn_24.2.2.2.1
theorem dX8_kingDrawn_34 : decode (mB 112) 34 = .ok (.aload_n 0, 1) := dqo gX8_kingDrawn_24.2.2.2.2.1
theorem dX8_kingDrawn_35 : decode (mB 112) 35 = .ok (.getfield 9, 3) := dqo gX8_kingDrawn_24.2.2.2.2.2.1
theorem dX8_kingDrawn_38 : decode (mB 112) 38 = .ok (.iload 4, 2) := dqo gX8_kingDrawn_24.2.2.2.2.2.2.1
theorem dX8_kingDrawn_40 : decode (mB 112) 40 = .ok (.invokevirtual 41, 3) := dqo gX8_kingDrawn_24.2.2.2.2.2.2.2.1
theorem dX8_kingDrawn_43 : decode (mB 112) 43 = .ok (.ifCond .eq 17, 3) := dqo gX8_kingDrawn_24.2.2.2.2.2.2.2.2.1
theorem dX8_kingDrawn_46 : decode (mB 112) 46 = .ok (.iload_n 3, 1) := dqo gX8_kingDrawn_24.2.2.2.2.2.2.2.2.2.1
theorem dX8_kingDrawn_47 : decode (mB 112) 47 = .ok (.ifCond .ne 10, 3) := dqo gX8_kingDrawn_24.2.2.2.2.2.2.2.2.2.2.1
theorem dX8_kingDrawn_50 : decode (mB 112) 50 = .ok (.aload_n 0, 1) := dqo gX8_kingDrawn_24.2.2.2.2.2.2.2.2.2.2.2.1
theorem dX8_kingDrawn_51 : decode (mB 112) 51 = .ok (.iload 4, 2) := dqo gX8_kingDrawn_24.2.2.2.2.2.2.2.2.2.2.2.2.1
theorem dX8_kingDrawn_53 : decode (mB 112) 53 = .ok (.invokevirtual 37, 3) := dqo gX8_kingDrawn_24.2.2.2.2.2.2.2.2.2.2.2.2.2.1
theorem dX8_kingDrawn_56 : decode (mB 112) 56 = .ok (.ireturn, 1) := dqo gX8_kingDrawn_24.2.2.2.2.2.2.2.2.2.2.2.2.2.2.1
theorem dX8_kingDrawn_57 : decode (mB 112) 57 = .ok (.iinc 3 (-1), 3) := dqo gX8_kingDrawn_24.2.2.2.2.2.2.2.2.2.2.2.2.2.2.2
theorem gX8_kingDrawn_60 : dq 112 60 (.iinc 4 1) 3 = true ∧ dq 112 63 (.goto (-41)) 3 = true ∧ dq 112 66 (.bipush (-2)) 2 = true ∧ dq 112 68 (.ireturn) 1 = true := by decide +kernel
theorem dX8_kingDrawn_60 : decode (mB 112) 60 = .ok (.iinc 4 1, 3) := dqo gX8_kingDrawn_60.1
theorem dX8_kingDrawn_63 : decode (mB 112) 63 = .ok (.goto (-41), 3) := dqo gX8_kingDrawn_60.2.1
theorem dX8_kingDrawn_66 : decode (mB 112) 66 = .ok (.bipush (-2), 2) := dqo gX8_kingDrawn_60.2.2.1
theorem dX8_kingDrawn_68 : decode (mB 112) 68 = .ok (.ireturn, 1) := dqo gX8_kingDrawn_60.2.2.2
theorem gX9_init_0 : dq 113 0 (.aload_n 0) 1 = true ∧ dq 113 1 (.invokespecial 3) 3 = true ∧ dq 113 4 (.aload_n 0) 1 = true ∧ dq 113 5 (.aload_n 1) 1 = true ∧ dq 113 6 (.putfield 9) 3 = true ∧ dq 113 9 (.aload_n 0) 1 = true ∧ dq 113 10 (.aload_n 2) 1 = true ∧ dq 113 11 (.putfield 15) 3 = true ∧ dq 113 14 (.aload_n 0) 1 = true ∧ dq 113 15 (.aload_n 3) 1 = true ∧ dq 113 16 (.putfield 19) 3 = true ∧ dq 113 19 (.aload_n 0) 1 = true ∧ dq 113 20 (.bipush 12) 2 = true ∧ dq 113 22 (.newarray .int) 2 = true ∧ dq 113 24 (.putfield 23) 3 = true ∧ dq 113 27 (.aload_n 0) 1 = true := by decide +kernel
theorem dX9_init_0 : decode (mB 113) 0 = .ok (.aload_n 0, 1) := dqo gX9_init_0.1
theorem dX9_init_1 : decode (mB 113) 1 = .ok (.invokespecial 3, 3) := dqo gX9_init_0.2.1
theorem dX9_init_4 : decode (mB 113) 4 = .ok (.aload_n 0, 1) := dqo gX9_init_0.2.2.1
theorem dX9_init_5 : decode (mB 113) 5 = .ok (.aload_n 1, 1) := dqo gX9_init_0.2.2.2.1
theorem dX9_init_6 : decode (mB 113) 6 = .ok (.putfield 9, 3) := dqo gX9_init_0.2.2.2.2.1
theorem dX9_init_9 : decode (mB 113) 9 = .ok (.aload_n 0, 1) := dqo gX9_init_0.2.2.2.2.2.1
theorem dX9_init_10 : decode (mB 113) 10 = .ok (.aload_n 2, 1) := dqo gX9_init_0.2.2.2.2.2.2.1
theorem dX9_init_11 : decode (mB 113) 11 = .ok (.putfield 15, 3) := dqo gX9_init_0.2.2.2.2.2.2.2.1
theorem dX9_init_14 : decode (mB 113) 14 = .ok (.aload_n 0, 1) := dqo gX9_init_0.2.2.2.2.2.2.2.2.1
theorem dX9_init_15 : decode (mB 113) 15 = .ok (.aload_n 3, 1) := dqo gX9_init_0.2.2.2.2.2.2.2.2.2.1
theorem dX9_init_16 : decode (mB 113) 16 = .ok (.putfield 19, 3) := dqo gX9_init_0.2.2.2.2.2.2.2.2.2.2.1
theorem dX9_init_19 : decode (mB 113) 19 = .ok (.aload_n 0, 1) := dqo gX9_init_0.2.2.2.2.2.2.2.2.2.2.2.1
theorem dX9_init_20 : decode (mB 113) 20 = .ok (.bipush 12, 2) := dqo gX9_init_0.2.2.2.2.2.2.2.2.2.2.2.2.1
theorem dX9_init_22 : decode (mB 113) 22 = .ok (.newarray .int, 2) := dqo gX9_init_0.2.2.2.2.2.2.2.2.2.2.2.2.2.1
theorem dX9_init_24 : decode (mB 113) 24 = .ok (.putfield 23, 3) := dqo gX9_init_0.2.2.2.2.2.2.2.2.2.2.2.2.2.2.1
theorem dX9_init_27 : decode (mB 113) 27 = .ok (.aload_n 0, 1) := dqo gX9_init_0.2.2.2.2.2.2.2.2.2.2.2.2.2.2.2
theorem gX9_init_28 : dq 113 28 (.sipush 864) 3 = true ∧ dq 113 31 (.newarray .int) 2 = true ∧ dq 113 33 (.putfield 27) 3 = true ∧ dq 113 36 (.return_) 1 = true := by decide +kernel
theorem dX9_init_28 : decode (mB 113) 28 = .ok (.sipush 864, 3) := dqo gX9_init_28.1
theorem dX9_init_31 : decode (mB 113) 31 = .ok (.newarray .int, 2) := dqo gX9_init_28.2.1
theorem dX9_init_33 : decode (mB 113) 33 = .ok (.putfield 27, 3) := dqo gX9_init_28.2.2.1
theorem dX9_init_36 : decode (mB 113) 36 = .ok (.return_, 1) := dqo gX9_init_28.2.2.2
theorem gX9_goThrough_0 : dq 114 0 (.iconst 0) 1 = true ∧ dq 114 1 (.istore 4) 2 = true ∧ dq 114 3 (.iload 4) 2 = true ∧ dq 114 5 (.bipush 12) 2 = true ∧ dq 114 7 (.if_icmp .ge 38) 3 = true ∧ dq 114 10 (.aload_n 0) 1 = true ∧ dq 114 11 (.getfield 23) 3 = true ∧ dq 114 14 (.iload 4) 2 = true ∧ dq 114 16 (.iload 4) 2 = true ∧ dq 114 18 (.aload_n 1) 1 = true ∧ dq 114 19 (.iload_n 2) 1 = true ∧ dq 114 20 (.invokevirtual 30) 3 = true ∧ dq 114 23 (.if_icmp .ge 14) 3 = true ∧ dq 114 26 (.aload_n 1) 1 = true ∧ dq 114 27 (.iload_n 2) 1 = true ∧ dq 114 28 (.iload 4) 2 = true := by decide +kernel
theorem dX9_goThrough_0 : decode (mB 114) 0 = .ok (.iconst 0, 1) := dqo gX9_goThrough_0.1
theorem dX9_goThrough_1 : decode (mB 114) 1 = .ok (.istore 4, 2) := dqo gX9_goThrough_0.2.1
theorem dX9_goThrough_3 : decode (mB 114) 3 = .ok (.iload 4, 2) := dqo gX9_goThrough_0.2.2.1
theorem dX9_goThrough_5 : decode (mB 114) 5 = .ok (.bipush 12, 2) := dqo gX9_goThrough_0.2.2.2.1
theorem dX9_goThrough_7 : decode (mB 114) 7 = .ok (.if_icmp .ge 38, 3) := dqo gX9_goThrough_0.2.2.2.2.1
theorem dX9_goThrough_10 : decode (mB 114) 10 = .ok (.aload_n 0, 1) := dqo gX9_goThrough_0.2.2.2.2.2.1
theorem dX9_goThrough_11 : decode (mB 114) 11 = .ok (.getfield 23, 3) := dqo gX9_goThrough_0.2.2.2.2.2.2.1
theorem dX9_goThrough_14 : decode (mB 114) 14 = .ok (.iload 4, 2) := dqo gX9_goThrough_0.2.2.2.2.2.2.2.1
theorem dX9_goThrough_16 : decode (mB 114) 16 = .ok (.iload 4, 2) := dqo gX9_goThrough_0.2.2.2.2.2.2.2.2.1
theorem dX9_goThrough_18 : decode (mB 114) 18 = .ok (.aload_n 1, 1) := dqo gX9_goThrough_0.2.2.2.2.2.2.2.2.2.1
theorem dX9_goThrough_19 : decode (mB 114) 19 = .ok (.iload_n 2, 1) := dqo gX9_goThrough_0.2.2.2.2.2.2.2.2.2.2.1
theorem dX9_goThrough_20 : decode (mB 114) 20 = .ok (.invokevirtual 30, 3) := dqo gX9_goThrough_0.2.2.2.2.2.2.2.2.2.2.2.1
theorem dX9_goThrough_23 : decode (mB 114) 23 = .ok (.if_icmp .ge 14, 3) := dqo gX9_goThrough_0.2.2.2.2.2.2.2.2.2.2.2.2.1
theorem dX9_goThrough_26 : decode (mB 114) 26 = .ok (.aload_n 1, 1) := dqo gX9_goThrough_0.2.2.2.2.2.2.2.2.2.2.2.2.2.1
theorem dX9_goThrough_27 : decode (mB 114) 27 = .ok (.iload_n 2, 1) := dqo gX9_goThrough_0.2.2.2.2.2.2.2.2.2.2.2.2.2.2.1
theorem dX9_goThrough_28 : decode (mB 114) 28 = .ok (.iload 4, 2) := dqo gX9_goThrough_0.2.2.2.2.2.2.2.2.2.2.2.2.2.2.2
theorem gX9_goThrough_30 : dq 114 30 (.invokevirtual 36) 3 = true ∧ dq 114 33 (.l2i) 1 = true ∧ dq 114 34 (.goto 4) 3 = true ∧ dq 114 37 (.iconst (-1)) 1 = true ∧ dq 114 38 (.iastore) 1 = true ∧ dq 114 39 (.iinc 4 1) 3 = true ∧ dq 114 42 (.goto (-39)) 3 = true ∧ dq 114 45 (.iconst 0) 1 = true ∧ dq 114 46 (.istore 4) 2 = true ∧ dq 114 48 (.iload 4) 2 = true ∧ dq 114 50 (.aload_n 0) 1 = true ∧ dq 114 51 (.getfield 27) 3 = true ∧ dq 114 54 (.arraylength) 1 = true ∧ dq 114 55 (.if_icmp .ge 21) 3 = true ∧ dq 114 58 (.iload_n 3) 1 = true ∧ dq 114 59 (.ifCond .eq 17) 3 = true := by decide +kernel
theorem dX9_goThrough_30 : decode (mB 114) 30 = .ok (.invokevirtual 36, 3) := dqo gX9_goThrough_30.1
theorem dX9_goThrough_33 : decode (mB 114) 33 = .ok (.l2i, 1) := dqo gX9_goThrough_30.2.1
theorem dX9_goThrough_34 : decode (mB 114) 34 = .ok (.goto 4, 3) := dqo gX9_goThrough_30.2.2.1
theorem dX9_goThrough_37 : decode (mB 114) 37 = .ok (.iconst (-1), 1) := dqo gX9_goThrough_30.2.2.2.1
theorem dX9_goThrough_38 : decode (mB 114) 38 = .ok (.iastore, 1) := dqo gX9_goThrough_30.2.2.2.2.1
theorem dX9_goThrough_39 : decode (mB 114) 39 = .ok (.iinc 4 1, 3) := dqo gX9_goThrough_30.2.2.2.2.2.1
theorem dX9_goThrough_42 : decode (mB 114) 42 = .ok (.goto (-39), 3) := dqo gX9_goThrough_30.2.2.2.2.2.2.1
theorem dX9_goThrough_45 : decode (mB 114) 45 = .ok (.iconst 0, 1) := dqo gX9_goThrough_30.2.2.2.2.2.2.2.1
theorem dX9_goThrough_46 : decode (mB 114) 46 = .ok (.istore 4, 2) := dqo gX9_goThrough_30.2.2.2.2.2.2.2.2.1
theorem dX9_goThrough_48 : decode (mB 114) 48 = .ok (.iload 4, 2) := dqo gX9_goThrough_30.2.2.2.2.2.2.2.2.2.1
theorem dX9_goThrough_50 : decode (mB 114) 50 = .ok (.aload_n 0, 1) := dqo gX9_goThrough_30.2.2.2.2.2.2.2.2.2.2.1
theorem dX9_goThrough_51 : decode (mB 114) 51 = .ok (.getfield 27, 3) := dqo gX9_goThrough_30.2.2.2.2.2.2.2.2.2.2.2.1
theorem dX9_goThrough_54 : decode (mB 114) 54 = .ok (.arraylength, 1) := dqo gX9_goThrough_30.2.2.2.2.2.2.2.2.2.2.2.2.1
theorem dX9_goThrough_55 : decode (mB 114) 55 = .ok (.if_icmp .ge 21, 3) := dqo gX9_goThrough_30.2.2.2.2.2.2.2.2.2.2.2.2.2.1
theorem dX9_goThrough_58 : decode (mB 114) 58 = .ok (.iload_n 3, 1) := dqo gX9_goThrough_30.2.2.2.2.2.2.2.2.2.2.2.2.2.2.1
theorem dX9_goThrough_59 : decode (mB 114) 59 = .ok (.ifCond .eq 17, 3) := dqo gX9_goThrough_30.2.2.2.2.2.2.2.2.2.2.2.2.2.2.2
theorem gX9_goThrough_62 : dq 114 62 (.aload_n 0) 1 = true ∧ dq 114 63 (.getfield 27) 3 = true ∧ dq 114 66 (.iload 4) 2 = true ∧ dq 114 68 (.iconst (-1)) 1 = true ∧ dq 114 69 (.iastore) 1 = true ∧ dq 114 70 (.iinc 4 1) 3 = true ∧ dq 114 73 (.goto (-25)) 3 = true ∧ dq 114 76 (.aload_n 0) 1 = true ∧ dq 114 77 (.iload_n 3) 1 = true ∧ dq 114 78 (.putfield 40) 3 = true ∧ dq 114 81 (.aload_n 0) 1 = true ∧ dq 114 82 (.iconst 0) 1 = true ∧ dq 114 83 (.putfield 44) 3 = true ∧ dq 114 86 (.aload_n 0) 1 = true ∧ dq 114 87 (.bipush (-2)) 2 = true ∧ dq 114 89 (.putfield 48) 3 = true := by decide +kernel
theorem dX9_goThrough_62 : decode (mB 114) 62 = .ok (.aload_n 0, 1) := dqo gX9_goThrough_62.1
theorem dX9_goThrough_63 : decode (mB 114) 63 = .ok (.getfield 27, 3) := dqo gX9_goThrough_62.2.1
theorem dX9_goThrough_66 : decode (mB 114) 66 = .ok (.iload 4, 2) := dqo gX9_goThrough_62.2.2.1
theorem dX9_goThrough_68 : decode (mB 114) 68 = .ok (.iconst (-1), 1) := dqo gX9_goThrough_62.2.2.2.1
theorem dX9_goThrough_69 : decode (mB 114) 69 = .ok (.iastore, 1) := dqo gX9_goThrough_62.2.2.2.2.1
theorem dX9_goThrough_70 : decode (mB 114) 70 = .ok (.iinc 4 1, 3) := dqo gX9_goThrough_62.2.2.2.2.2.1
theorem dX9_goThrough_73 : decode (mB 114) 73 = .ok (.goto (-25), 3) := dqo gX9_goThrough_62.2.2.2.2.2.2.1
theorem dX9_goThrough_76 : decode (mB 114) 76 = .ok (.aload_n 0, 1) := dqo gX9_goThrough_62.2.2.2.2.2.2.2.1
theorem dX9_goThrough_77 : decode (mB 114) 77 = .ok (.iload_n 3, 1) := dqo gX9_goThrough_62.2.2.2.2.2.2.2.2.1
theorem dX9_goThrough_78 : decode (mB 114) 78 = .ok (.putfield 40, 3) := dqo gX9_goThrough_62.2.2.2.2.2.2.2.2.2.1
theorem dX9_goThrough_81 : decode (mB 114) 81 = .ok (.aload_n 0, 1) := dqo gX9_goThrough_62.2.2.2.2.2.2.2.2.2.2.1
theorem dX9_goThrough_82 : decode (mB 114) 82 = .ok (.iconst 0, 1) := dqo gX9_goThrough_62.2.2.2.2.2.2.2.2.2.2.2.1
theorem dX9_goThrough_83 : decode (mB 114) 83 = .ok (.putfield 44, 3) := dqo gX9_goThrough_62.2.2.2.2.2.2.2.2.2.2.2.2.1
theorem dX9_goThrough_86 : decode (mB 114) 86 = .ok (.aload_n 0, 1) := dqo gX9_goThrough_62.2.2.2.2.2.2.2.2.2.2.2.2.2.1
theorem dX9_goThrough_87 : decode (mB 114) 87 = .ok (.bipush (-2), 2) := dqo gX9_goThrough_62.2.2.2.2.2.2.2.2.2.2.2.2.2.2.1
theorem dX9_goThrough_89 : decode (mB 114) 89 = .ok (.putfield 48, 3) := dqo gX9_goThrough_62.2.2.2.2.2.2.2.2.2.2.2.2.2.2.2
theorem gX9_goThrough_92 : dq 114 92 (.aload_n 0) 1 = true ∧ dq 114 93 (.bipush (-2)) 2 = true ∧ dq 114 95 (.putfield 51) 3 = true ∧ dq 114 98 (.aload_n 0) 1 = true ∧ dq 114 99 (.sipush 4095) 3 = true ∧ dq 114 102 (.putfield 54) 3 = true ∧ dq 114 105 (.aload_n 0) 1 = true ∧ dq 114 106 (.lconst 0) 1 = true ∧ dq 114 107 (.putfield 57) 3 = true ∧ dq 114 110 (.aload_n 0) 1 = true ∧ dq 114 111 (.bipush (-2)) 2 = true ∧ dq 114 113 (.putfield 61) 3 = true ∧ dq 114 116 (.aload_n 0) 1 = true ∧ dq 114 117 (.iconst 0) 1 = true ∧ dq 114 118 (.iconst 0) 1 = true ∧ dq 114 119 (.lconst 1) 1 = true := by decide +kernel
theorem dX9_goThrough_92 : decode (mB 114) 92 = .ok (.aload_n 0, 1) := dqo gX9_goThrough_92.1
theorem dX9_goThrough_93 : decode (mB 114) 93 = .ok (.bipush (-2), 2) := dqo gX9_goThrough_92.2.1
theorem dX9_goThrough_95 : decode (mB 114) 95 = .ok (.putfield 51, 3) := dqo gX9_goThrough_92.2.2.1
theorem dX9_goThrough_98 : decode (mB 114) 98 = .ok (.aload_n 0, 1) := dqo gX9_goThrough_92.2.2.2.1
theorem dX9_goThrough_99 : decode (mB 114) 99 = .ok (.sipush 4095, 3) := dqo gX9_goThrough_92.2.2.2.2.1
theorem dX9_goThrough_102 : decode (mB 114) 102 = .ok (.putfield 54, 3) := dqo gX9_goThrough_92.2.2.2.2.2.1
theorem dX9_goThrough_105 : decode (mB 114) 105 = .ok (.aload_n 0, 1) := dqo gX9_goThrough_92.2.2.2.2.2.2.1
theorem dX9_goThrough_106 : decode (mB 114) 106 = .ok (.lconst 0, 1) := dqo gX9_goThrough_92.2.2.2.2.2.2.2.1
theorem dX9_goThrough_107 : decode (mB 114) 107 = .ok (.putfield 57, 3) := dqo gX9_goThrough_92.2.2.2.2.2.2.2.2.1
theorem dX9_goThrough_110 : decode (mB 114) 110 = .ok (.aload_n 0, 1) := dqo gX9_goThrough_92.2.2.2.2.2.2.2.2.2.1
theorem dX9_goThrough_111 : decode (mB 114) 111 = .ok (.bipush (-2), 2) := dqo gX9_goThrough_92.2.2.2.2.2.2.2.2.2.2.1
theorem dX9_goThrough_113 : decode (mB 114) 113 = .ok (.putfield 61, 3) := dqo gX9_goThrough_92.2.2.2.2.2.2.2.2.2.2.2.1
theorem dX9_goThrough_116 : decode (mB 114) 116 = .ok (.aload_n 0, 1) := dqo gX9_goThrough_92.2.2.2.2.2.2.2.2.2.2.2.2.1
theorem dX9_goThrough_117 : decode (mB 114) 117 = .ok (.iconst 0, 1) := dqo gX9_goThrough_92.2.2.2.2.2.2.2.2.2.2.2.2.2.1
theorem dX9_goThrough_118 : decode (mB 114) 118 = .ok (.iconst 0, 1) := dqo gX9_goThrough_92.2.2.2.2.2.2.2.2.2.2.2.2.2.2.1
theorem dX9_goThrough_119 : decode (mB 114) 119 = .ok (.lconst 1, 1) := dqo gX9_goThrough_92.2.2.2.2.2.2.2.2.2.2.2.2.2.2.2
theorem gX9_goThrough_120 : dq 114 120 (.invokestatic 64) 3 = true ∧ dq 114 123 (.return_) 1 = true := by decide +kernel
theorem dX9_goThrough_120 : decode (mB 114) 120 = .ok (.invokestatic 64, 3) := dqo gX9_goThrough_120.1
theorem dX9_goThrough_123 : decode (mB 114) 123 = .ok (.return_, 1) := dqo gX9_goThrough_120.2
theorem gX9_spread_0 : dq 115 0 (.iload_n 1) 1 = true ∧ dq 115 1 (.aload_n 0) 1 = true ∧ dq 115 2 (.getfield 19) 3 = true ∧ dq 115 5 (.invokevirtual 68) 3 = true ∧ dq 115 8 (.if_icmp .lt 10) 3 = true ∧ dq 115 11 (.aload_n 0) 1 = true ∧ dq 115 12 (.iload_n 2) 1 = true ∧ dq 115 13 (.lload_n 3) 1 = true ∧ dq 115 14 (.invokevirtual 74) 3 = true ∧ dq 115 17 (.return_) 1 = true ∧ dq 115 18 (.aload_n 0) 1 = true ∧ dq 115 19 (.getfield 15) 3 = true ∧ dq 115 22 (.astore 5) 2 = true ∧ dq 115 24 (.aload_n 0) 1 = true ∧ dq 115 25 (.getfield 19) 3 = true ∧ dq 115 28 (.iload_n 1) 1 = true := by decide +kernel
theorem dX9_spread_0 : decode (mB 115) 0 = .ok (.iload_n 1, 1) := dqo gX9_spread_0.1
theorem dX9_spread_1 : decode (mB 115) 1 = .ok (.aload_n 0, 1) := dqo gX9_spread_0.2.1
theorem dX9_spread_2 : decode (mB 115) 2 = .ok (.getfield 19, 3) := dqo gX9_spread_0.2.2.1
theorem dX9_spread_5 : decode (mB 115) 5 = .ok (.invokevirtual 68, 3) := dqo gX9_spread_0.2.2.2.1
theorem dX9_spread_8 : decode (mB 115) 8 = .ok (.if_icmp .lt 10, 3) := dqo gX9_spread_0.2.2.2.2.1
theorem dX9_spread_11 : decode (mB 115) 11 = .ok (.aload_n 0, 1) := dqo gX9_spread_0.2.2.2.2.2.1
theorem dX9_spread_12 : decode (mB 115) 12 = .ok (.iload_n 2, 1) := dqo gX9_spread_0.2.2.2.2.2.2.1
theorem dX9_spread_13 : decode (mB 115) 13 = .ok (.lload_n 3, 1) := dqo gX9_spread_0.2.2.2.2.2.2.2.1
theorem dX9_spread_14 : decode (mB 115) 14 = .ok (.invokevirtual 74, 3) := dqo gX9_spread_0.2.2.2.2.2.2.2.2.1
theorem dX9_spread_17 : decode (mB 115) 17 = .ok (.return_, 1) := dqo gX9_spread_0.2.2.2.2.2.2.2.2.2.1
theorem dX9_spread_18 : decode (mB 115) 18 = .ok (.aload_n 0, 1) := dqo gX9_spread_0.2.2.2.2.2.2.2.2.2.2.1
theorem dX9_spread_19 : decode (mB 115) 19 = .ok (.getfield 15, 3) := dqo gX9_spread_0.2.2.2.2.2.2.2.2.2.2.2.1
theorem dX9_spread_22 : decode (mB 115) 22 = .ok (.astore 5, 2) := dqo gX9_spread_0.2.2.2.2.2.2.2.2.2.2.2.2.1
theorem dX9_spread_24 : decode (mB 115) 24 = .ok (.aload_n 0, 1) := dqo gX9_spread_0.2.2.2.2.2.2.2.2.2.2.2.2.2.1
theorem dX9_spread_25 : decode (mB 115) 25 = .ok (.getfield 19, 3) := dqo gX9_spread_0.2.2.2.2.2.2.2.2.2.2.2.2.2.2.1
theorem dX9_spread_28 : decode (mB 115) 28 = .ok (.iload_n 1, 1) := dqo gX9_spread_0.2.2.2.2.2.2.2.2.2.2.2.2.2.2.2
theorem gX9_spread_29 : dq 115 29 (.invokevirtual 78) 3 = true ∧ dq 115 32 (.istore 6) 2 = true ∧ dq 115 34 (.aload_n 0) 1 = true ∧ dq 115 35 (.getfield 19) 3 = true ∧ dq 115 38 (.iload_n 1) 1 = true ∧ dq 115 39 (.invokevirtual 81) 3 = true ∧ dq 115 42 (.istore 7) 2 = true ∧ dq 115 44 (.aload 5) 2 = true ∧ dq 115 46 (.iload 6) 2 = true ∧ dq 115 48 (.iload 7) 2 = true ∧ dq 115 50 (.invokevirtual 84) 3 = true ∧ dq 115 53 (.ifCond .ne 17) 3 = true ∧ dq 115 56 (.aload_n 0) 1 = true ∧ dq 115 57 (.iload_n 1) 1 = true ∧ dq 115 58 (.iconst 1) 1 = true ∧ dq 115 59 (.iadd) 1 = true := by decide +kernel
theorem dX9_spread_29 : decode (mB 115) 29 = .ok (.invokevirtual 78, 3) := dqo gX9_spread_29.1
theorem dX9_spread_32 : decode (mB 115) 32 = .ok (.istore 6, 2) := dqo gX9_spread_29.2.1
theorem dX9_spread_34 : decode (mB 115) 34 = .ok (.aload_n 0, 1) := dqo gX9_spread_29.2.2.1
theorem dX9_spread_35 : decode (mB 115) 35 = .ok (.getfield 19, 3) := dqo gX9_spread_29.2.2.2.1
theorem dX9_spread_38 : decode (mB 115) 38 = .ok (.iload_n 1, 1) := dqo gX9_spread_29.2.2.2.2.1
theorem dX9_spread_39 : decode (mB 115) 39 = .ok (.invokevirtual 81, 3) := dqo gX9_spread_29.2.2.2.2.2.1
theorem dX9_spread_42 : decode (mB 115) 42 = .ok (.istore 7, 2) := dqo gX9_spread_29.2.2.2.2.2.2.1
theorem dX9_spread_44 : decode (mB 115) 44 = .ok (.aload 5, 2) := dqo gX9_spread_29.2.2.2.2.2.2.2.1
theorem dX9_spread_46 : decode (mB 115) 46 = .ok (.iload 6, 2) := dqo gX9_spread_29.2.2.2.2.2.2.2.2.1
theorem dX9_spread_48 : decode (mB 115) 48 = .ok (.iload 7, 2) := dqo gX9_spread_29.2.2.2.2.2.2.2.2.2.1
theorem dX9_spread_50 : decode (mB 115) 50 = .ok (.invokevirtual 84, 3) := dqo gX9_spread_29.2.2.2.2.2.2.2.2.2.2.1
theorem dX9_spread_53 : decode (mB 115) 53 = .ok (.ifCond .ne 17, 3) := dqo gX9_spread_29.2.2.2.2.2.2.2.2.2.2.2.1
theorem dX9_spread_56 : decode (mB 115) 56 = .ok (.aload_n 0, 1) := dqo gX9_spread_29.2.2.2.2.2.2.2.2.2.2.2.2.1
theorem dX9_spread_57 : decode (mB 115) 57 = .ok (.iload_n 1, 1) := dqo gX9_spread_29.2.2.2.2.2.2.2.2.2.2.2.2.2.1
theorem dX9_spread_58 : decode (mB 115) 58 = .ok (.iconst 1, 1) := dqo gX9_spread_29.2.2.2.2.2.2.2.2.2.2.2.2.2.2.1
theorem dX9_spread_59 : decode (mB 115) 59 = .ok (.iadd, 1) := dqo gX9_spread_29.2.2.2.2.2.2.2.2.2.2.2.2.2.2.2
theorem gX9_spread_60 : dq 115 60 (.iload_n 2) 1 = true ∧ dq 115 61 (.ldc2_w 90) 3 = true ∧ dq 115 64 (.lload_n 3) 1 = true ∧ dq 115 65 (.lmul) 1 = true ∧ dq 115 66 (.invokestatic 64) 3 = true ∧ dq 115 69 (.return_) 1 = true ∧ dq 115 70 (.aload_n 0) 1 = true ∧ dq 115 71 (.getfield 40) 3 = true ∧ dq 115 74 (.ifCond .eq 15) 3 = true ∧ dq 115 77 (.aload_n 0) 1 = true ∧ dq 115 78 (.iload_n 1) 1 = true ∧ dq 115 79 (.iload 6) 2 = true ∧ dq 115 81 (.iload 7) 2 = true ∧ dq 115 83 (.invokevirtual 92) 3 = true ∧ dq 115 86 (.goto 4) 3 = true ∧ dq 115 89 (.iconst 0) 1 = true := by decide +kernel
theorem dX9_spread_60 : decode (mB 115) 60 = .ok (.iload_n 2, 1) := dqo gX9_spread_60.1
theorem dX9_spread_61 : decode (mB 115) 61 = .ok (.ldc2_w 90, 3) := dqo gX9_spread_60.2.1
theorem dX9_spread_64 : decode (mB 115) 64 = .ok (.lload_n 3, 1) := dqo gX9_spread_60.2.2.1
theorem dX9_spread_65 : decode (mB 115) 65 = .ok (.lmul, 1) := dqo gX9_spread_60.2.2.2.1
theorem dX9_spread_66 : decode (mB 115) 66 = .ok (.invokestatic 64, 3) := dqo gX9_spread_60.2.2.2.2.1
theorem dX9_spread_69 : decode (mB 115) 69 = .ok (.return_, 1) := dqo gX9_spread_60.2.2.2.2.2.1
theorem dX9_spread_70 : decode (mB 115) 70 = .ok (.aload_n 0, 1) := dqo gX9_spread_60.2.2.2.2.2.2.1
theorem dX9_spread_71 : decode (mB 115) 71 = .ok (.getfield 40, 3) := dqo gX9_spread_60.2.2.2.2.2.2.2.1
theorem dX9_spread_74 : decode (mB 115) 74 = .ok (.ifCond .eq 15, 3) := dqo gX9_spread_60.2.2.2.2.2.2.2.2.1
theorem dX9_spread_77 : decode (mB 115) 77 = .ok (.aload_n 0, 1) := dqo gX9_spread_60.2.2.2.2.2.2.2.2.2.1
theorem dX9_spread_78 : decode (mB 115) 78 = .ok (.iload_n 1, 1) := dqo gX9_spread_60.2.2.2.2.2.2.2.2.2.2.1
theorem dX9_spread_79 : decode (mB 115) 79 = .ok (.iload 6, 2) := dqo gX9_spread_60.2.2.2.2.2.2.2.2.2.2.2.1
theorem dX9_spread_81 : decode (mB 115) 81 = .ok (.iload 7, 2) := dqo gX9_spread_60.2.2.2.2.2.2.2.2.2.2.2.2.1
theorem dX9_spread_83 : decode (mB 115) 83 = .ok (.invokevirtual 92, 3) := dqo gX9_spread_60.2.2.2.2.2.2.2.2.2.2.2.2.2.1
theorem dX9_spread_86 : decode (mB 115) 86 = .ok (.goto 4, 3) := dqo gX9_spread_60.2.2.2.2.2.2.2.2.2.2.2.2.2.2.1
theorem dX9_spread_89 : decode (mB 115) 89 = .ok (.iconst 0, 1) := dqo gX9_spread_60.2.2.2.2.2.2.2.2.2.2.2.2.2.2.2
theorem gX9_spread_90 : dq 115 90 (.istore 8) 2 = true ∧ dq 115 92 (.aload 5) 2 = true ∧ dq 115 94 (.iload 6) 2 = true ∧ dq 115 96 (.invokevirtual 96) 3 = true ∧ dq 115 99 (.istore 9) 2 = true ∧ dq 115 101 (.aload_n 0) 1 = true ∧ dq 115 102 (.iload_n 1) 1 = true ∧ dq 115 103 (.iconst 1) 1 = true ∧ dq 115 104 (.iadd) 1 = true ∧ dq 115 105 (.iload_n 2) 1 = true ∧ dq 115 106 (.bipush 12) 2 = true ∧ dq 115 108 (.iload 8) 2 = true ∧ dq 115 110 (.isub) 1 = true ∧ dq 115 111 (.i2l) 1 = true ∧ dq 115 112 (.lload_n 3) 1 = true ∧ dq 115 113 (.lmul) 1 = true := by decide +kernel
theorem dX9_spread_90 : decode (mB 115) 90 = .ok (.istore 8, 2) := dqo gX9_spread_90.1
theorem dX9_spread_92 : decode (mB 115) 92 = .ok (.aload 5, 2) := dqo gX9_spread_90.2.1
theorem dX9_spread_94 : decode (mB 115) 94 = .ok (.iload 6, 2) := dqo gX9_spread_90.2.2.1
theorem dX9_spread_96 : decode (mB 115) 96 = .ok (.invokevirtual 96, 3) := dqo gX9_spread_90.2.2.2.1
theorem dX9_spread_99 : decode (mB 115) 99 = .ok (.istore 9, 2) := dqo gX9_spread_90.2.2.2.2.1
theorem dX9_spread_101 : decode (mB 115) 101 = .ok (.aload_n 0, 1) := dqo gX9_spread_90.2.2.2.2.2.1
theorem dX9_spread_102 : decode (mB 115) 102 = .ok (.iload_n 1, 1) := dqo gX9_spread_90.2.2.2.2.2.2.1
theorem dX9_spread_103 : decode (mB 115) 103 = .ok (.iconst 1, 1) := dqo gX9_spread_90.2.2.2.2.2.2.2.1
theorem dX9_spread_104 : decode (mB 115) 104 = .ok (.iadd, 1) := dqo gX9_spread_90.2.2.2.2.2.2.2.2.1
theorem dX9_spread_105 : decode (mB 115) 105 = .ok (.iload_n 2, 1) := dqo gX9_spread_90.2.2.2.2.2.2.2.2.2.1
theorem dX9_spread_106 : decode (mB 115) 106 = .ok (.bipush 12, 2) := dqo gX9_spread_90.2.2.2.2.2.2.2.2.2.2.1
theorem dX9_spread_108 : decode (mB 115) 108 = .ok (.iload 8, 2) := dqo gX9_spread_90.2.2.2.2.2.2.2.2.2.2.2.1
theorem dX9_spread_110 : decode (mB 115) 110 = .ok (.isub, 1) := dqo gX9_spread_90.2.2.2.2.2.2.2.2.2.2.2.2.1
theorem dX9_spread_111 : decode (mB 115) 111 = .ok (.i2l, 1) := dqo gX9_spread_90.2.2.2.2.2.2.2.2.2.2.2.2.2.1
theorem dX9_spread_112 : decode (mB 115) 112 = .ok (.lload_n 3, 1) := dqo gX9_spread_90.2.2.2.2.2.2.2.2.2.2.2.2.2.2.1
theorem dX9_spread_113 : decode (mB 115) 113 = .ok (.lmul, 1) := dqo gX9_spread_90.2.2.2.2.2.2.2.2.2.2.2.2.2.2.2
theorem gX9_spread_114 : dq 115 114 (.invokestatic 64) 3 = true ∧ dq 115 117 (.aload 5) 2 = true ∧ dq 115 119 (.iload 6) 2 = true ∧ dq 115 121 (.iload 7) 2 = true ∧ dq 115 123 (.invokevirtual 99) 3 = true ∧ dq 115 126 (.aload_n 0) 1 = true ∧ dq 115 127 (.iload_n 1) 1 = true ∧ dq 115 128 (.iconst 1) 1 = true ∧ dq 115 129 (.iadd) 1 = true ∧ dq 115 130 (.iload_n 2) 1 = true ∧ dq 115 131 (.iconst 1) 1 = true ∧ dq 115 132 (.iload_n 1) 1 = true ∧ dq 115 133 (.ishl) 1 = true ∧ dq 115 134 (.ior) 1 = true ∧ dq 115 135 (.iload 8) 2 = true ∧ dq 115 137 (.i2l) 1 = true := by decide +kernel
theorem dX9_spread_114 : decode (mB 115) 114 = .ok (.invokestatic 64, 3) := dqo gX9_spread_114.1
theorem dX9_spread_117 : decode (mB 115) 117 = .ok (.aload 5, 2) := dqo gX9_spread_114.2.1
theorem dX9_spread_119 : decode (mB 115) 119 = .ok (.iload 6, 2) := dqo gX9_spread_114.2.2.1
theorem dX9_spread_121 : decode (mB 115) 121 = .ok (.iload 7, 2) := dqo gX9_spread_114.2.2.2.1
theorem dX9_spread_123 : decode (mB 115) 123 = .ok (.invokevirtual 99, 3) := dqo gX9_spread_114.2.2.2.2.1
theorem dX9_spread_126 : decode (mB 115) 126 = .ok (.aload_n 0, 1) := dqo gX9_spread_114.2.2.2.2.2.1
theorem dX9_spread_127 : decode (mB 115) 127 = .ok (.iload_n 1, 1) := dqo gX9_spread_114.2.2.2.2.2.2.1
theorem dX9_spread_128 : decode (mB 115) 128 = .ok (.iconst 1, 1) := dqo gX9_spread_114.2.2.2.2.2.2.2.1
theorem dX9_spread_129 : decode (mB 115) 129 = .ok (.iadd, 1) := dqo gX9_spread_114.2.2.2.2.2.2.2.2.1
theorem dX9_spread_130 : decode (mB 115) 130 = .ok (.iload_n 2, 1) := dqo gX9_spread_114.2.2.2.2.2.2.2.2.2.1
theorem dX9_spread_131 : decode (mB 115) 131 = .ok (.iconst 1, 1) := dqo gX9_spread_114.2.2.2.2.2.2.2.2.2.2.1
theorem dX9_spread_132 : decode (mB 115) 132 = .ok (.iload_n 1, 1) := dqo gX9_spread_114.2.2.2.2.2.2.2.2.2.2.2.1
theorem dX9_spread_133 : decode (mB 115) 133 = .ok (.ishl, 1) := dqo gX9_spread_114.2.2.2.2.2.2.2.2.2.2.2.2.1
theorem dX9_spread_134 : decode (mB 115) 134 = .ok (.ior, 1) := dqo gX9_spread_114.2.2.2.2.2.2.2.2.2.2.2.2.2.1
theorem dX9_spread_135 : decode (mB 115) 135 = .ok (.iload 8, 2) := dqo gX9_spread_114.2.2.2.2.2.2.2.2.2.2.2.2.2.2.1
theorem dX9_spread_137 : decode (mB 115) 137 = .ok (.i2l, 1) := dqo gX9_spread_114.2.2.2.2.2.2.2.2.2.2.2.2.2.2.2
theorem gX9_spread_138 : dq 115 138 (.lload_n 3) 1 = true ∧ dq 115 139 (.lmul) 1 = true ∧ dq 115 140 (.invokestatic 64) 3 = true ∧ dq 115 143 (.aload 5) 2 = true ∧ dq 115 145 (.iload 6) 2 = true ∧ dq 115 147 (.iload 9) 2 = true ∧ dq 115 149 (.invokevirtual 99) 3 = true ∧ dq 115 152 (.return_) 1 = true := by decide +kernel
theorem dX9_spread_138 : decode (mB 115) 138 = .ok (.lload_n 3, 1) := dqo gX9_spread_138.1
theorem dX9_spread_139 : decode (mB 115) 139 = .ok (.lmul, 1) := dqo gX9_spread_138.2.1
theorem dX9_spread_140 : decode (mB 115) 140 = .ok (.invokestatic 64, 3) := dqo gX9_spread_138.2.2.1
theorem dX9_spread_143 : decode (mB 115) 143 = .ok (.aload 5, 2) := dqo gX9_spread_138.2.2.2.1
theorem dX9_spread_145 : decode (mB 115) 145 = .ok (.iload 6, 2) := dqo gX9_spread_138.2.2.2.2.1
theorem dX9_spread_147 : decode (mB 115) 147 = .ok (.iload 9, 2) := dqo gX9_spread_138.2.2.2.2.2.1
theorem dX9_spread_149 : decode (mB 115) 149 = .ok (.invokevirtual 99, 3) := dqo gX9_spread_138.2.2.2.2.2.2.1
theorem dX9_spread_152 : decode (mB 115) 152 = .ok (.return_, 1) := dqo gX9_spread_138.2.2.2.2.2.2.2
theorem gX9_oddsAt_0 : dq 116 0 (.aload_n 0) 1 = true ∧ dq 116 1 (.getfield 15) 3 = true ∧ dq 116 4 (.iload_n 2) 1 = true ∧ dq 116 5 (.invokevirtual 96) 3 = true ∧ dq 116 8 (.istore 4) 2 = true ∧ dq 116 10 (.aload_n 0) 1 = true ∧ dq 116 11 (.getfield 15) 3 = true ∧ dq 116 14 (.iload_n 3) 1 = true ∧ dq 116 15 (.invokevirtual 103) 3 = true ∧ dq 116 18 (.istore 5) 2 = true ∧ dq 116 20 (.iload_n 1) 1 = true ∧ dq 116 21 (.bipush 6) 2 = true ∧ dq 116 23 (.imul) 1 = true ∧ dq 116 24 (.iload 4) 2 = true ∧ dq 116 26 (.iadd) 1 = true ∧ dq 116 27 (.bipush 12) 2 = true := by decide +kernel
theorem dX9_oddsAt_0 : decode (mB 116) 0 = .ok (.aload_n 0, 1) := dqo gX9_oddsAt_0.1
theorem dX9_oddsAt_1 : decode (mB 116) 1 = .ok (.getfield 15, 3) := dqo gX9_oddsAt_0.2.1
theorem dX9_oddsAt_4 : decode (mB 116) 4 = .ok (.iload_n 2, 1) := dqo gX9_oddsAt_0.2.2.1
theorem dX9_oddsAt_5 : decode (mB 116) 5 = .ok (.invokevirtual 96, 3) := dqo gX9_oddsAt_0.2.2.2.1
theorem dX9_oddsAt_8 : decode (mB 116) 8 = .ok (.istore 4, 2) := dqo gX9_oddsAt_0.2.2.2.2.1
theorem dX9_oddsAt_10 : decode (mB 116) 10 = .ok (.aload_n 0, 1) := dqo gX9_oddsAt_0.2.2.2.2.2.1
theorem dX9_oddsAt_11 : decode (mB 116) 11 = .ok (.getfield 15, 3) := dqo gX9_oddsAt_0.2.2.2.2.2.2.1
theorem dX9_oddsAt_14 : decode (mB 116) 14 = .ok (.iload_n 3, 1) := dqo gX9_oddsAt_0.2.2.2.2.2.2.2.1
theorem dX9_oddsAt_15 : decode (mB 116) 15 = .ok (.invokevirtual 103, 3) := dqo gX9_oddsAt_0.2.2.2.2.2.2.2.2.1
theorem dX9_oddsAt_18 : decode (mB 116) 18 = .ok (.istore 5, 2) := dqo gX9_oddsAt_0.2.2.2.2.2.2.2.2.2.1
theorem dX9_oddsAt_20 : decode (mB 116) 20 = .ok (.iload_n 1, 1) := dqo gX9_oddsAt_0.2.2.2.2.2.2.2.2.2.2.1
theorem dX9_oddsAt_21 : decode (mB 116) 21 = .ok (.bipush 6, 2) := dqo gX9_oddsAt_0.2.2.2.2.2.2.2.2.2.2.2.1
theorem dX9_oddsAt_23 : decode (mB 116) 23 = .ok (.imul, 1) := dqo gX9_oddsAt_0.2.2.2.2.2.2.2.2.2.2.2.2.1
theorem dX9_oddsAt_24 : decode (mB 116) 24 = .ok (.iload 4, 2) := dqo gX9_oddsAt_0.2.2.2.2.2.2.2.2.2.2.2.2.2.1
theorem dX9_oddsAt_26 : decode (mB 116) 26 = .ok (.iadd, 1) := dqo gX9_oddsAt_0.2.2.2.2.2.2.2.2.2.2.2.2.2.2.1
theorem dX9_oddsAt_27 : decode (mB 116) 27 = .ok (.bipush 12, 2) := dqo gX9_oddsAt_0.2.2.2.2.2.2.2.2.2.2.2.2.2.2.2
theorem gX9_oddsAt_29 : dq 116 29 (.imul) 1 = true ∧ dq 116 30 (.iload 5) 2 = true ∧ dq 116 32 (.iadd) 1 = true ∧ dq 116 33 (.istore 6) 2 = true ∧ dq 116 35 (.iload 6) 2 = true ∧ dq 116 37 (.ifCond .lt 13) 3 = true ∧ dq 116 40 (.iload 6) 2 = true ∧ dq 116 42 (.aload_n 0) 1 = true ∧ dq 116 43 (.getfield 27) 3 = true ∧ dq 116 46 (.arraylength) 1 = true ∧ dq 116 47 (.if_icmp .lt 5) 3 = true ∧ dq 116 50 (.iconst 0) 1 = true ∧ dq 116 51 (.ireturn) 1 = true ∧ dq 116 52 (.aload_n 0) 1 = true ∧ dq 116 53 (.getfield 27) 3 = true ∧ dq 116 56 (.iload 6) 2 = true := by decide +kernel
theorem dX9_oddsAt_29 : decode (mB 116) 29 = .ok (.imul, 1) := dqo gX9_oddsAt_29.1
theorem dX9_oddsAt_30 : decode (mB 116) 30 = .ok (.iload 5, 2) := dqo gX9_oddsAt_29.2.1
theorem dX9_oddsAt_32 : decode (mB 116) 32 = .ok (.iadd, 1) := dqo gX9_oddsAt_29.2.2.1
theorem dX9_oddsAt_33 : decode (mB 116) 33 = .ok (.istore 6, 2) := dqo gX9_oddsAt_29.2.2.2.1
theorem dX9_oddsAt_35 : decode (mB 116) 35 = .ok (.iload 6, 2) := dqo gX9_oddsAt_29.2.2.2.2.1
theorem dX9_oddsAt_37 : decode (mB 116) 37 = .ok (.ifCond .lt 13, 3) := dqo gX9_oddsAt_29.2.2.2.2.2.1
theorem dX9_oddsAt_40 : decode (mB 116) 40 = .ok (.iload 6, 2) := dqo gX9_oddsAt_29.2.2.2.2.2.2.1
theorem dX9_oddsAt_42 : decode (mB 116) 42 = .ok (.aload_n 0, 1) := dqo gX9_oddsAt_29.2.2.2.2.2.2.2.1
theorem dX9_oddsAt_43 : decode (mB 116) 43 = .ok (.getfield 27, 3) := dqo gX9_oddsAt_29.2.2.2.2.2.2.2.2.1
theorem dX9_oddsAt_46 : decode (mB 116) 46 = .ok (.arraylength, 1) := dqo gX9_oddsAt_29.2.2.2.2.2.2.2.2.2.1
theorem dX9_oddsAt_47 : decode (mB 116) 47 = .ok (.if_icmp .lt 5, 3) := dqo gX9_oddsAt_29.2.2.2.2.2.2.2.2.2.2.1
theorem dX9_oddsAt_50 : decode (mB 116) 50 = .ok (.iconst 0, 1) := dqo gX9_oddsAt_29.2.2.2.2.2.2.2.2.2.2.2.1
theorem dX9_oddsAt_51 : decode (mB 116) 51 = .ok (.ireturn, 1) := dqo gX9_oddsAt_29.2.2.2.2.2.2.2.2.2.2.2.2.1
theorem dX9_oddsAt_52 : decode (mB 116) 52 = .ok (.aload_n 0, 1) := dqo gX9_oddsAt_29.2.2.2.2.2.2.2.2.2.2.2.2.2.1
theorem dX9_oddsAt_53 : decode (mB 116) 53 = .ok (.getfield 27, 3) := dqo gX9_oddsAt_29.2.2.2.2.2.2.2.2.2.2.2.2.2.2.1
theorem dX9_oddsAt_56 : decode (mB 116) 56 = .ok (.iload 6, 2) := dqo gX9_oddsAt_29.2.2.2.2.2.2.2.2.2.2.2.2.2.2.2
theorem gX9_oddsAt_58 : dq 116 58 (.iaload) 1 = true ∧ dq 116 59 (.iconst (-1)) 1 = true ∧ dq 116 60 (.if_icmp .ne 39) 3 = true ∧ dq 116 63 (.aload_n 0) 1 = true ∧ dq 116 64 (.getfield 27) 3 = true ∧ dq 116 67 (.iload 6) 2 = true ∧ dq 116 69 (.aload_n 0) 1 = true ∧ dq 116 70 (.getfield 15) 3 = true ∧ dq 116 73 (.iload 4) 2 = true ∧ dq 116 75 (.iload_n 3) 1 = true ∧ dq 116 76 (.iload 5) 2 = true ∧ dq 116 78 (.aload_n 0) 1 = true ∧ dq 116 79 (.getfield 9) 3 = true ∧ dq 116 82 (.bipush 6) 2 = true ∧ dq 116 84 (.iload_n 2) 1 = true ∧ dq 116 85 (.invokevirtual 106) 3 = true := by decide +kernel
theorem dX9_oddsAt_58 : decode (mB 116) 58 = .ok (.iaload, 1) := dqo gX9_oddsAt_58.1
theorem dX9_oddsAt_59 : decode (mB 116) 59 = .ok (.iconst (-1), 1) := dqo gX9_oddsAt_58.2.1
theorem dX9_oddsAt_60 : decode (mB 116) 60 = .ok (.if_icmp .ne 39, 3) := dqo gX9_oddsAt_58.2.2.1
theorem dX9_oddsAt_63 : decode (mB 116) 63 = .ok (.aload_n 0, 1) := dqo gX9_oddsAt_58.2.2.2.1
theorem dX9_oddsAt_64 : decode (mB 116) 64 = .ok (.getfield 27, 3) := dqo gX9_oddsAt_58.2.2.2.2.1
theorem dX9_oddsAt_67 : decode (mB 116) 67 = .ok (.iload 6, 2) := dqo gX9_oddsAt_58.2.2.2.2.2.1
theorem dX9_oddsAt_69 : decode (mB 116) 69 = .ok (.aload_n 0, 1) := dqo gX9_oddsAt_58.2.2.2.2.2.2.1
theorem dX9_oddsAt_70 : decode (mB 116) 70 = .ok (.getfield 15, 3) := dqo gX9_oddsAt_58.2.2.2.2.2.2.2.1
theorem dX9_oddsAt_73 : decode (mB 116) 73 = .ok (.iload 4, 2) := dqo gX9_oddsAt_58.2.2.2.2.2.2.2.2.1
theorem dX9_oddsAt_75 : decode (mB 116) 75 = .ok (.iload_n 3, 1) := dqo gX9_oddsAt_58.2.2.2.2.2.2.2.2.2.1
theorem dX9_oddsAt_76 : decode (mB 116) 76 = .ok (.iload 5, 2) := dqo gX9_oddsAt_58.2.2.2.2.2.2.2.2.2.2.1
theorem dX9_oddsAt_78 : decode (mB 116) 78 = .ok (.aload_n 0, 1) := dqo gX9_oddsAt_58.2.2.2.2.2.2.2.2.2.2.2.1
theorem dX9_oddsAt_79 : decode (mB 116) 79 = .ok (.getfield 9, 3) := dqo gX9_oddsAt_58.2.2.2.2.2.2.2.2.2.2.2.2.1
theorem dX9_oddsAt_82 : decode (mB 116) 82 = .ok (.bipush 6, 2) := dqo gX9_oddsAt_58.2.2.2.2.2.2.2.2.2.2.2.2.2.1
theorem dX9_oddsAt_84 : decode (mB 116) 84 = .ok (.iload_n 2, 1) := dqo gX9_oddsAt_58.2.2.2.2.2.2.2.2.2.2.2.2.2.2.1
theorem dX9_oddsAt_85 : decode (mB 116) 85 = .ok (.invokevirtual 106, 3) := dqo gX9_oddsAt_58.2.2.2.2.2.2.2.2.2.2.2.2.2.2.2
theorem gX9_oddsAt_88 : dq 116 88 (.aload_n 0) 1 = true ∧ dq 116 89 (.getfield 9) 3 = true ∧ dq 116 92 (.invokevirtual 111) 3 = true ∧ dq 116 95 (.invokevirtual 114) 3 = true ∧ dq 116 98 (.iastore) 1 = true ∧ dq 116 99 (.aload_n 0) 1 = true ∧ dq 116 100 (.getfield 27) 3 = true ∧ dq 116 103 (.iload 6) 2 = true ∧ dq 116 105 (.iaload) 1 = true ∧ dq 116 106 (.ireturn) 1 = true := by decide +kernel
theorem dX9_oddsAt_88 : decode (mB 116) 88 = .ok (.aload_n 0, 1) := dqo gX9_oddsAt_88.1
theorem dX9_oddsAt_89 : decode (mB 116) 89 = .ok (.getfield 9, 3) := dqo gX9_oddsAt_88.2.1
theorem dX9_oddsAt_92 : decode (mB 116) 92 = .ok (.invokevirtual 111, 3) := dqo gX9_oddsAt_88.2.2.1
theorem dX9_oddsAt_95 : decode (mB 116) 95 = .ok (.invokevirtual 114, 3) := dqo gX9_oddsAt_88.2.2.2.1
theorem dX9_oddsAt_98 : decode (mB 116) 98 = .ok (.iastore, 1) := dqo gX9_oddsAt_88.2.2.2.2.1
theorem dX9_oddsAt_99 : decode (mB 116) 99 = .ok (.aload_n 0, 1) := dqo gX9_oddsAt_88.2.2.2.2.2.1
theorem dX9_oddsAt_100 : decode (mB 116) 100 = .ok (.getfield 27, 3) := dqo gX9_oddsAt_88.2.2.2.2.2.2.1
theorem dX9_oddsAt_103 : decode (mB 116) 103 = .ok (.iload 6, 2) := dqo gX9_oddsAt_88.2.2.2.2.2.2.2.1
theorem dX9_oddsAt_105 : decode (mB 116) 105 = .ok (.iaload, 1) := dqo gX9_oddsAt_88.2.2.2.2.2.2.2.2.1
theorem dX9_oddsAt_106 : decode (mB 116) 106 = .ok (.ireturn, 1) := dqo gX9_oddsAt_88.2.2.2.2.2.2.2.2.2
theorem gX9_arrive_0 : dq 117 0 (.aload_n 0) 1 = true ∧ dq 117 1 (.invokevirtual 118) 3 = true ∧ dq 117 4 (.ifCond .ne 4) 3 = true ∧ dq 117 7 (.return_) 1 = true ∧ dq 117 8 (.iload_n 1) 1 = true ∧ dq 117 9 (.invokestatic 122) 3 = true ∧ dq 117 12 (.istore 4) 2 = true ∧ dq 117 14 (.aload_n 0) 1 = true ∧ dq 117 15 (.getfield 44) 3 = true ∧ dq 117 18 (.ifCond .eq 29) 3 = true ∧ dq 117 21 (.iload 4) 2 = true ∧ dq 117 23 (.aload_n 0) 1 = true ∧ dq 117 24 (.getfield 48) 3 = true ∧ dq 117 27 (.if_icmp .lt 20) 3 = true ∧ dq 117 30 (.iload 4) 2 = true ∧ dq 117 32 (.aload_n 0) 1 = true := by decide +kernel
theorem dX9_arrive_0 : decode (mB 117) 0 = .ok (.aload_n 0, 1) := dqo gX9_arrive_0.1
theorem dX9_arrive_1 : decode (mB 117) 1 = .ok (.invokevirtual 118, 3) := dqo gX9_arrive_0.2.1
theorem dX9_arrive_4 : decode (mB 117) 4 = .ok (.ifCond .ne 4, 3) := dqo gX9_arrive_0.2.2.1
theorem dX9_arrive_7 : decode (mB 117) 7 = .ok (.return_, 1) := dqo gX9_arrive_0.2.2.2.1
theorem dX9_arrive_8 : decode (mB 117) 8 = .ok (.iload_n 1, 1) := dqo gX9_arrive_0.2.2.2.2.1
theorem dX9_arrive_9 : decode (mB 117) 9 = .ok (.invokestatic 122, 3) := dqo gX9_arrive_0.2.2.2.2.2.1
theorem dX9_arrive_12 : decode (mB 117) 12 = .ok (.istore 4, 2) := dqo gX9_arrive_0.2.2.2.2.2.2.1
theorem dX9_arrive_14 : decode (mB 117) 14 = .ok (.aload_n 0, 1) := dqo gX9_arrive_0.2.2.2.2.2.2.2.1
theorem dX9_arrive_15 : decode (mB 117) 15 = .ok (.getfield 44, 3) := dqo gX9_arrive_0.2.2.2.2.2.2.2.2.1
theorem dX9_arrive_18 : decode (mB 117) 18 = .ok (.ifCond .eq 29, 3) := dqo gX9_arrive_0.2.2.2.2.2.2.2.2.2.1
theorem dX9_arrive_21 : decode (mB 117) 21 = .ok (.iload 4, 2) := dqo gX9_arrive_0.2.2.2.2.2.2.2.2.2.2.1
theorem dX9_arrive_23 : decode (mB 117) 23 = .ok (.aload_n 0, 1) := dqo gX9_arrive_0.2.2.2.2.2.2.2.2.2.2.2.1
theorem dX9_arrive_24 : decode (mB 117) 24 = .ok (.getfield 48, 3) := dqo gX9_arrive_0.2.2.2.2.2.2.2.2.2.2.2.2.1
theorem dX9_arrive_27 : decode (mB 117) 27 = .ok (.if_icmp .lt 20, 3) := dqo gX9_arrive_0.2.2.2.2.2.2.2.2.2.2.2.2.2.1
theorem dX9_arrive_30 : decode (mB 117) 30 = .ok (.iload 4, 2) := dqo gX9_arrive_0.2.2.2.2.2.2.2.2.2.2.2.2.2.2.1
theorem dX9_arrive_32 : decode (mB 117) 32 = .ok (.aload_n 0, 1) := dqo gX9_arrive_0.2.2.2.2.2.2.2.2.2.2.2.2.2.2.2
theorem gX9_arrive_33 : dq 117 33 (.getfield 48) 3 = true ∧ dq 117 36 (.if_icmp .ne 22) 3 = true ∧ dq 117 39 (.iload_n 1) 1 = true ∧ dq 117 40 (.aload_n 0) 1 = true ∧ dq 117 41 (.getfield 51) 3 = true ∧ dq 117 44 (.if_icmp .ge 14) 3 = true ∧ dq 117 47 (.aload_n 0) 1 = true ∧ dq 117 48 (.iload 4) 2 = true ∧ dq 117 50 (.putfield 48) 3 = true ∧ dq 117 53 (.aload_n 0) 1 = true ∧ dq 117 54 (.iload_n 1) 1 = true ∧ dq 117 55 (.putfield 51) 3 = true ∧ dq 117 58 (.lload_n 2) 1 = true ∧ dq 117 59 (.aload_n 0) 1 = true ∧ dq 117 60 (.getfield 57) 3 = true ∧ dq 117 63 (.lcmp) 1 = true := by decide +kernel
theorem dX9_arrive_33 : decode (mB 117) 33 = .ok (.getfield 48, 3) := dqo gX9_arrive_33.1
theorem dX9_arrive_36 : decode (mB 117) 36 = .ok (.if_icmp .ne 22, 3) := dqo gX9_arrive_33.2.1
theorem dX9_arrive_39 : decode (mB 117) 39 = .ok (.iload_n 1, 1) := dqo gX9_arrive_33.2.2.1
theorem dX9_arrive_40 : decode (mB 117) 40 = .ok (.aload_n 0, 1) := dqo gX9_arrive_33.2.2.2.1
theorem dX9_arrive_41 : decode (mB 117) 41 = .ok (.getfield 51, 3) := dqo gX9_arrive_33.2.2.2.2.1
theorem dX9_arrive_44 : decode (mB 117) 44 = .ok (.if_icmp .ge 14, 3) := dqo gX9_arrive_33.2.2.2.2.2.1
theorem dX9_arrive_47 : decode (mB 117) 47 = .ok (.aload_n 0, 1) := dqo gX9_arrive_33.2.2.2.2.2.2.1
theorem dX9_arrive_48 : decode (mB 117) 48 = .ok (.iload 4, 2) := dqo gX9_arrive_33.2.2.2.2.2.2.2.1
theorem dX9_arrive_50 : decode (mB 117) 50 = .ok (.putfield 48, 3) := dqo gX9_arrive_33.2.2.2.2.2.2.2.2.1
theorem dX9_arrive_53 : decode (mB 117) 53 = .ok (.aload_n 0, 1) := dqo gX9_arrive_33.2.2.2.2.2.2.2.2.2.1
theorem dX9_arrive_54 : decode (mB 117) 54 = .ok (.iload_n 1, 1) := dqo gX9_arrive_33.2.2.2.2.2.2.2.2.2.2.1
theorem dX9_arrive_55 : decode (mB 117) 55 = .ok (.putfield 51, 3) := dqo gX9_arrive_33.2.2.2.2.2.2.2.2.2.2.2.1
theorem dX9_arrive_58 : decode (mB 117) 58 = .ok (.lload_n 2, 1) := dqo gX9_arrive_33.2.2.2.2.2.2.2.2.2.2.2.2.1
theorem dX9_arrive_59 : decode (mB 117) 59 = .ok (.aload_n 0, 1) := dqo gX9_arrive_33.2.2.2.2.2.2.2.2.2.2.2.2.2.1
theorem dX9_arrive_60 : decode (mB 117) 60 = .ok (.getfield 57, 3) := dqo gX9_arrive_33.2.2.2.2.2.2.2.2.2.2.2.2.2.2.1
theorem dX9_arrive_63 : decode (mB 117) 63 = .ok (.lcmp, 1) := dqo gX9_arrive_33.2.2.2.2.2.2.2.2.2.2.2.2.2.2.2
theorem gX9_arrive_64 : dq 117 64 (.ifCond .gt 26) 3 = true ∧ dq 117 67 (.lload_n 2) 1 = true ∧ dq 117 68 (.lconst 0) 1 = true ∧ dq 117 69 (.lcmp) 1 = true ∧ dq 117 70 (.ifCond .le 30) 3 = true ∧ dq 117 73 (.lload_n 2) 1 = true ∧ dq 117 74 (.aload_n 0) 1 = true ∧ dq 117 75 (.getfield 57) 3 = true ∧ dq 117 78 (.lcmp) 1 = true ∧ dq 117 79 (.ifCond .ne 21) 3 = true ∧ dq 117 82 (.iload_n 1) 1 = true ∧ dq 117 83 (.aload_n 0) 1 = true ∧ dq 117 84 (.getfield 61) 3 = true ∧ dq 117 87 (.if_icmp .ge 13) 3 = true ∧ dq 117 90 (.aload_n 0) 1 = true ∧ dq 117 91 (.lload_n 2) 1 = true := by decide +kernel
theorem dX9_arrive_64 : decode (mB 117) 64 = .ok (.ifCond .gt 26, 3) := dqo gX9_arrive_64.1
theorem dX9_arrive_67 : decode (mB 117) 67 = .ok (.lload_n 2, 1) := dqo gX9_arrive_64.2.1
theorem dX9_arrive_68 : decode (mB 117) 68 = .ok (.lconst 0, 1) := dqo gX9_arrive_64.2.2.1
theorem dX9_arrive_69 : decode (mB 117) 69 = .ok (.lcmp, 1) := dqo gX9_arrive_64.2.2.2.1
theorem dX9_arrive_70 : decode (mB 117) 70 = .ok (.ifCond .le 30, 3) := dqo gX9_arrive_64.2.2.2.2.1
theorem dX9_arrive_73 : decode (mB 117) 73 = .ok (.lload_n 2, 1) := dqo gX9_arrive_64.2.2.2.2.2.1
theorem dX9_arrive_74 : decode (mB 117) 74 = .ok (.aload_n 0, 1) := dqo gX9_arrive_64.2.2.2.2.2.2.1
theorem dX9_arrive_75 : decode (mB 117) 75 = .ok (.getfield 57, 3) := dqo gX9_arrive_64.2.2.2.2.2.2.2.1
theorem dX9_arrive_78 : decode (mB 117) 78 = .ok (.lcmp, 1) := dqo gX9_arrive_64.2.2.2.2.2.2.2.2.1
theorem dX9_arrive_79 : decode (mB 117) 79 = .ok (.ifCond .ne 21, 3) := dqo gX9_arrive_64.2.2.2.2.2.2.2.2.2.1
theorem dX9_arrive_82 : decode (mB 117) 82 = .ok (.iload_n 1, 1) := dqo gX9_arrive_64.2.2.2.2.2.2.2.2.2.2.1
theorem dX9_arrive_83 : decode (mB 117) 83 = .ok (.aload_n 0, 1) := dqo gX9_arrive_64.2.2.2.2.2.2.2.2.2.2.2.1
theorem dX9_arrive_84 : decode (mB 117) 84 = .ok (.getfield 61, 3) := dqo gX9_arrive_64.2.2.2.2.2.2.2.2.2.2.2.2.1
theorem dX9_arrive_87 : decode (mB 117) 87 = .ok (.if_icmp .ge 13, 3) := dqo gX9_arrive_64.2.2.2.2.2.2.2.2.2.2.2.2.2.1
theorem dX9_arrive_90 : decode (mB 117) 90 = .ok (.aload_n 0, 1) := dqo gX9_arrive_64.2.2.2.2.2.2.2.2.2.2.2.2.2.2.1
theorem dX9_arrive_91 : decode (mB 117) 91 = .ok (.lload_n 2, 1) := dqo gX9_arrive_64.2.2.2.2.2.2.2.2.2.2.2.2.2.2.2
theorem gX9_arrive_92 : dq 117 92 (.putfield 57) 3 = true ∧ dq 117 95 (.aload_n 0) 1 = true ∧ dq 117 96 (.iload_n 1) 1 = true ∧ dq 117 97 (.putfield 61) 3 = true ∧ dq 117 100 (.aload_n 0) 1 = true ∧ dq 117 101 (.dup) 1 = true ∧ dq 117 102 (.getfield 44) 3 = true ∧ dq 117 105 (.iconst 1) 1 = true ∧ dq 117 106 (.iadd) 1 = true ∧ dq 117 107 (.putfield 44) 3 = true ∧ dq 117 110 (.aload_n 0) 1 = true ∧ dq 117 111 (.dup) 1 = true ∧ dq 117 112 (.getfield 54) 3 = true ∧ dq 117 115 (.iload_n 1) 1 = true ∧ dq 117 116 (.iand) 1 = true ∧ dq 117 117 (.putfield 54) 3 = true := by decide +kernel
theorem dX9_arrive_92 : decode (mB 117) 92 = .ok (.putfield 57, 3) := dqo gX9_arrive_92.1
theorem dX9_arrive_95 : decode (mB 117) 95 = .ok (.aload_n 0, 1) := dqo gX9_arrive_92.2.1
theorem dX9_arrive_96 : decode (mB 117) 96 = .ok (.iload_n 1, 1) := dqo gX9_arrive_92.2.2.1
theorem dX9_arrive_97 : decode (mB 117) 97 = .ok (.putfield 61, 3) := dqo gX9_arrive_92.2.2.2.1
theorem dX9_arrive_100 : decode (mB 117) 100 = .ok (.aload_n 0, 1) := dqo gX9_arrive_92.2.2.2.2.1
theorem dX9_arrive_101 : decode (mB 117) 101 = .ok (.dup, 1) := dqo gX9_arrive_92.2.2.2.2.2.1
theorem dX9_arrive_102 : decode (mB 117) 102 = .ok (.getfield 44, 3) := dqo gX9_arrive_92.2.2.2.2.2.2.1
theorem dX9_arrive_105 : decode (mB 117) 105 = .ok (.iconst 1, 1) := dqo gX9_arrive_92.2.2.2.2.2.2.2.1
theorem dX9_arrive_106 : decode (mB 117) 106 = .ok (.iadd, 1) := dqo gX9_arrive_92.2.2.2.2.2.2.2.2.1
theorem dX9_arrive_107 : decode (mB 117) 107 = .ok (.putfield 44, 3) := dqo gX9_arrive_92.2.2.2.2.2.2.2.2.2.1
theorem dX9_arrive_110 : decode (mB 117) 110 = .ok (.aload_n 0, 1) := dqo gX9_arrive_92.2.2.2.2.2.2.2.2.2.2.1
theorem dX9_arrive_111 : decode (mB 117) 111 = .ok (.dup, 1) := dqo gX9_arrive_92.2.2.2.2.2.2.2.2.2.2.2.1
theorem dX9_arrive_112 : decode (mB 117) 112 = .ok (.getfield 54, 3) := dqo gX9_arrive_92.2.2.2.2.2.2.2.2.2.2.2.2.1
theorem dX9_arrive_115 : decode (mB 117) 115 = .ok (.iload_n 1, 1) := dqo gX9_arrive_92.2.2.2.2.2.2.2.2.2.2.2.2.2.1
theorem dX9_arrive_116 : decode (mB 117) 116 = .ok (.iand, 1) := dqo gX9_arrive_92.2.2.2.2.2.2.2.2.2.2.2.2.2.2.1
theorem dX9_arrive_117 : decode (mB 117) 117 = .ok (.putfield 54, 3) := dqo gX9_arrive_92.2.2.2.2.2.2.2.2.2.2.2.2.2.2.2
theorem dX9_arrive_120 : decode (mB 117) 120 = .ok (.return_, 1) := dqo (by decide +kernel)
theorem gX9_isAsTold_0 : dq 118 0 (.iconst 0) 1 = true ∧ dq 118 1 (.istore_n 1) 1 = true ∧ dq 118 2 (.iload_n 1) 1 = true ∧ dq 118 3 (.aload_n 0) 1 = true ∧ dq 118 4 (.getfield 9) 3 = true ∧ dq 118 7 (.invokevirtual 127) 3 = true ∧ dq 118 10 (.if_icmp .ge 44) 3 = true ∧ dq 118 13 (.iload_n 1) 1 = true ∧ dq 118 14 (.bipush 12) 2 = true ∧ dq 118 16 (.if_icmp .ge 38) 3 = true ∧ dq 118 19 (.aload_n 0) 1 = true ∧ dq 118 20 (.getfield 23) 3 = true ∧ dq 118 23 (.iload_n 1) 1 = true ∧ dq 118 24 (.iaload) 1 = true ∧ dq 118 25 (.iconst (-1)) 1 = true ∧ dq 118 26 (.if_icmp .eq 22) 3 = true := by decide +kernel
theorem dX9_isAsTold_0 : decode (mB 118) 0 = .ok (.iconst 0, 1) := dqo gX9_isAsTold_0.1
theorem dX9_isAsTold_1 : decode (mB 118) 1 = .ok (.istore_n 1, 1) := dqo gX9_isAsTold_0.2.1
theorem dX9_isAsTold_2 : decode (mB 118) 2 = .ok (.iload_n 1, 1) := dqo gX9_isAsTold_0.2.2.1
theorem dX9_isAsTold_3 : decode (mB 118) 3 = .ok (.aload_n 0, 1) := dqo gX9_isAsTold_0.2.2.2.1
theorem dX9_isAsTold_4 : decode (mB 118) 4 = .ok (.getfield 9, 3) := dqo gX9_isAsTold_0.2.2.2.2.1
theorem dX9_isAsTold_7 : decode (mB 118) 7 = .ok (.invokevirtual 127, 3) := dqo gX9_isAsTold_0.2.2.2.2.2.1
theorem dX9_isAsTold_10 : decode (mB 118) 10 = .ok (.if_icmp .ge 44, 3) := dqo gX9_isAsTold_0.2.2.2.2.2.2.1
theorem dX9_isAsTold_13 : decode (mB 118) 13 = .ok (.iload_n 1, 1) := dqo gX9_isAsTold_0.2.2.2.2.2.2.2.1
theorem dX9_isAsTold_14 : decode (mB 118) 14 = .ok (.bipush 12, 2) := dqo gX9_isAsTold_0.2.2.2.2.2.2.2.2.1
theorem dX9_isAsTold_16 : decode (mB 118) 16 = .ok (.if_icmp .ge 38, 3) := dqo gX9_isAsTold_0.2.2.2.2.2.2.2.2.2.1
theorem dX9_isAsTold_19 : decode (mB 118) 19 = .ok (.aload_n 0, 1) := dqo gX9_isAsTold_0.2.2.2.2.2.2.2.2.2.2.1
theorem dX9_isAsTold_20 : decode (mB 118) 20 = .ok (.getfield 23, 3) := dqo gX9_isAsTold_0.2.2.2.2.2.2.2.2.2.2.2.1
theorem dX9_isAsTold_23 : decode (mB 118) 23 = .ok (.iload_n 1, 1) := dqo gX9_isAsTold_0.2.2.2.2.2.2.2.2.2.2.2.2.1
theorem dX9_isAsTold_24 : decode (mB 118) 24 = .ok (.iaload, 1) := dqo gX9_isAsTold_0.2.2.2.2.2.2.2.2.2.2.2.2.2.1
theorem dX9_isAsTold_25 : decode (mB 118) 25 = .ok (.iconst (-1), 1) := dqo gX9_isAsTold_0.2.2.2.2.2.2.2.2.2.2.2.2.2.2.1
theorem dX9_isAsTold_26 : decode (mB 118) 26 = .ok (.if_icmp .eq 22, 3) := dqo gX9_isAsTold_0.2.2.2.2.2.2.2.2.2.2.2.2.2.2.2
theorem gX9_isAsTold_29 : dq 118 29 (.aload_n 0) 1 = true ∧ dq 118 30 (.getfield 23) 3 = true ∧ dq 118 33 (.iload_n 1) 1 = true ∧ dq 118 34 (.iaload) 1 = true ∧ dq 118 35 (.aload_n 0) 1 = true ∧ dq 118 36 (.getfield 15) 3 = true ∧ dq 118 39 (.iload_n 1) 1 = true ∧ dq 118 40 (.invokevirtual 96) 3 = true ∧ dq 118 43 (.if_icmp .eq 5) 3 = true ∧ dq 118 46 (.iconst 0) 1 = true ∧ dq 118 47 (.ireturn) 1 = true ∧ dq 118 48 (.iinc 1 1) 3 = true ∧ dq 118 51 (.goto (-49)) 3 = true ∧ dq 118 54 (.iconst 1) 1 = true ∧ dq 118 55 (.ireturn) 1 = true := by decide +kernel
theorem dX9_isAsTold_29 : decode (mB 118) 29 = .ok (.aload_n 0, 1) := dqo gX9_isAsTold_29.1
theorem dX9_isAsTold_30 : decode (mB 118) 30 = .ok (.getfield 23, 3) := dqo gX9_isAsTold_29.2.1
theorem dX9_isAsTold_33 : decode (mB 118) 33 = .ok (.iload_n 1, 1) := dqo gX9_isAsTold_29.2.2.1
theorem dX9_isAsTold_34 : decode (mB 118) 34 = .ok (.iaload, 1) := dqo gX9_isAsTold_29.2.2.2.1
theorem dX9_isAsTold_35 : decode (mB 118) 35 = .ok (.aload_n 0, 1) := dqo gX9_isAsTold_29.2.2.2.2.1
theorem dX9_isAsTold_36 : decode (mB 118) 36 = .ok (.getfield 15, 3) := dqo gX9_isAsTold_29.2.2.2.2.2.1
theorem dX9_isAsTold_39 : decode (mB 118) 39 = .ok (.iload_n 1, 1) := dqo gX9_isAsTold_29.2.2.2.2.2.2.1
theorem dX9_isAsTold_40 : decode (mB 118) 40 = .ok (.invokevirtual 96, 3) := dqo gX9_isAsTold_29.2.2.2.2.2.2.2.1
theorem dX9_isAsTold_43 : decode (mB 118) 43 = .ok (.if_icmp .eq 5, 3) := dqo gX9_isAsTold_29.2.2.2.2.2.2.2.2.1
theorem dX9_isAsTold_46 : decode (mB 118) 46 = .ok (.iconst 0, 1) := dqo gX9_isAsTold_29.2.2.2.2.2.2.2.2.2.1
theorem dX9_isAsTold_47 : decode (mB 118) 47 = .ok (.ireturn, 1) := dqo gX9_isAsTold_29.2.2.2.2.2.2.2.2.2.2.1
theorem dX9_isAsTold_48 : decode (mB 118) 48 = .ok (.iinc 1 1, 3) := dqo gX9_isAsTold_29.2.2.2.2.2.2.2.2.2.2.2.1
theorem dX9_isAsTold_51 : decode (mB 118) 51 = .ok (.goto (-49), 3) := dqo gX9_isAsTold_29.2.2.2.2.2.2.2.2.2.2.2.2.1
theorem dX9_isAsTold_54 : decode (mB 118) 54 = .ok (.iconst 1, 1) := dqo gX9_isAsTold_29.2.2.2.2.2.2.2.2.2.2.2.2.2.1
theorem dX9_isAsTold_55 : decode (mB 118) 55 = .ok (.ireturn, 1) := dqo gX9_isAsTold_29.2.2.2.2.2.2.2.2.2.2.2.2.2.2
theorem gX9_howMany_0 : dq 119 0 (.aload_n 0) 1 = true ∧ dq 119 1 (.getfield 44) 3 = true ∧ dq 119 4 (.ireturn) 1 = true := by decide +kernel
theorem dX9_howMany_0 : decode (mB 119) 0 = .ok (.aload_n 0, 1) := dqo gX9_howMany_0.1
theorem dX9_howMany_1 : decode (mB 119) 1 = .ok (.getfield 44, 3) := dqo gX9_howMany_0.2.1
theorem dX9_howMany_4 : decode (mB 119) 4 = .ok (.ireturn, 1) := dqo gX9_howMany_0.2.2
theorem gX9_fewest_0 : dq 120 0 (.aload_n 0) 1 = true ∧ dq 120 1 (.getfield 48) 3 = true ∧ dq 120 4 (.ireturn) 1 = true := by decide +kernel
theorem dX9_fewest_0 : decode (mB 120) 0 = .ok (.aload_n 0, 1) := dqo gX9_fewest_0.1
theorem dX9_fewest_1 : decode (mB 120) 1 = .ok (.getfield 48, 3) := dqo gX9_fewest_0.2.1
theorem dX9_fewest_4 : decode (mB 120) 4 = .ok (.ireturn, 1) := dqo gX9_fewest_0.2.2
theorem gX9_fewestBits_0 : dq 121 0 (.aload_n 0) 1 = true ∧ dq 121 1 (.getfield 51) 3 = true ∧ dq 121 4 (.ireturn) 1 = true := by decide +kernel
theorem dX9_fewestBits_0 : decode (mB 121) 0 = .ok (.aload_n 0, 1) := dqo gX9_fewestBits_0.1
theorem dX9_fewestBits_1 : decode (mB 121) 1 = .ok (.getfield 51, 3) := dqo gX9_fewestBits_0.2.1
theorem dX9_fewestBits_4 : decode (mB 121) 4 = .ok (.ireturn, 1) := dqo gX9_fewestBits_0.2.2
theorem gX9_certain_0 : dq 122 0 (.aload_n 0) 1 = true ∧ dq 122 1 (.getfield 44) 3 = true ∧ dq 122 4 (.ifCond .ne 7) 3 = true ∧ dq 122 7 (.iconst 0) 1 = true ∧ dq 122 8 (.goto 7) 3 = true ∧ dq 122 11 (.aload_n 0) 1 = true ∧ dq 122 12 (.getfield 54) 3 = true ∧ dq 122 15 (.ireturn) 1 = true := by decide +kernel
theorem dX9_certain_0 : decode (mB 122) 0 = .ok (.aload_n 0, 1) := dqo gX9_certain_0.1
theorem dX9_certain_1 : decode (mB 122) 1 = .ok (.getfield 44, 3) := dqo gX9_certain_0.2.1
theorem dX9_certain_4 : decode (mB 122) 4 = .ok (.ifCond .ne 7, 3) := dqo gX9_certain_0.2.2.1
theorem dX9_certain_7 : decode (mB 122) 7 = .ok (.iconst 0, 1) := dqo gX9_certain_0.2.2.2.1
theorem dX9_certain_8 : decode (mB 122) 8 = .ok (.goto 7, 3) := dqo gX9_certain_0.2.2.2.2.1
theorem dX9_certain_11 : decode (mB 122) 11 = .ok (.aload_n 0, 1) := dqo gX9_certain_0.2.2.2.2.2.1
theorem dX9_certain_12 : decode (mB 122) 12 = .ok (.getfield 54, 3) := dqo gX9_certain_0.2.2.2.2.2.2.1
theorem dX9_certain_15 : decode (mB 122) 15 = .ok (.ireturn, 1) := dqo gX9_certain_0.2.2.2.2.2.2.2
theorem gX9_likeliestBits_0 : dq 123 0 (.aload_n 0) 1 = true ∧ dq 123 1 (.getfield 61) 3 = true ∧ dq 123 4 (.ireturn) 1 = true := by decide +kernel
theorem dX9_likeliestBits_0 : decode (mB 123) 0 = .ok (.aload_n 0, 1) := dqo gX9_likeliestBits_0.1
theorem dX9_likeliestBits_1 : decode (mB 123) 1 = .ok (.getfield 61, 3) := dqo gX9_likeliestBits_0.2.1
theorem dX9_likeliestBits_4 : decode (mB 123) 4 = .ok (.ireturn, 1) := dqo gX9_likeliestBits_0.2.2
theorem gX10_init_0 : dq 124 0 (.aload_n 0) 1 = true ∧ dq 124 1 (.invokespecial 3) 3 = true ∧ dq 124 4 (.aload_n 0) 1 = true ∧ dq 124 5 (.bipush 9) 2 = true ∧ dq 124 7 (.bipush 12) 2 = true ∧ dq 124 9 (.multianewarray 9 2) 4 = true ∧ dq 124 13 (.putfield 11) 3 = true ∧ dq 124 16 (.iconst 0) 1 = true ∧ dq 124 17 (.istore_n 1) 1 = true ∧ dq 124 18 (.iload_n 1) 1 = true ∧ dq 124 19 (.bipush 6) 2 = true ∧ dq 124 21 (.if_icmp .ge 19) 3 = true ∧ dq 124 24 (.aload_n 0) 1 = true ∧ dq 124 25 (.getfield 11) 3 = true ∧ dq 124 28 (.iconst 2) 1 = true ∧ dq 124 29 (.aaload) 1 = true := by decide +kernel
theorem dX10_init_0 : decode (mB 124) 0 = .ok (.aload_n 0, 1) := dqo gX10_init_0.1
theorem dX10_init_1 : decode (mB 124) 1 = .ok (.invokespecial 3, 3) := dqo gX10_init_0.2.1
theorem dX10_init_4 : decode (mB 124) 4 = .ok (.aload_n 0, 1) := dqo gX10_init_0.2.2.1
theorem dX10_init_5 : decode (mB 124) 5 = .ok (.bipush 9, 2) := dqo gX10_init_0.2.2.2.1
theorem dX10_init_7 : decode (mB 124) 7 = .ok (.bipush 12, 2) := dqo gX10_init_0.2.2.2.2.1
theorem dX10_init_9 : decode (mB 124) 9 = .ok (.multianewarray 9 2, 4) := dqo gX10_init_0.2.2.2.2.2.1
theorem dX10_init_13 : decode (mB 124) 13 = .ok (.putfield 11, 3) := dqo gX10_init_0.2.2.2.2.2.2.1
theorem dX10_init_16 : decode (mB 124) 16 = .ok (.iconst 0, 1) := dqo gX10_init_0.2.2.2.2.2.2.2.1
theorem dX10_init_17 : decode (mB 124) 17 = .ok (.istore_n 1, 1) := dqo gX10_init_0.2.2.2.2.2.2.2.2.1
theorem dX10_init_18 : decode (mB 124) 18 = .ok (.iload_n 1, 1) := dqo gX10_init_0.2.2.2.2.2.2.2.2.2.1
theorem dX10_init_19 : decode (mB 124) 19 = .ok (.bipush 6, 2) := dqo gX10_init_0.2.2.2.2.2.2.2.2.2.2.1
theorem dX10_init_21 : decode (mB 124) 21 = .ok (.if_icmp .ge 19, 3) := dqo gX10_init_0.2.2.2.2.2.2.2.2.2.2.2.1
theorem dX10_init_24 : decode (mB 124) 24 = .ok (.aload_n 0, 1) := dqo gX10_init_0.2.2.2.2.2.2.2.2.2.2.2.2.1
theorem dX10_init_25 : decode (mB 124) 25 = .ok (.getfield 11, 3) := dqo gX10_init_0.2.2.2.2.2.2.2.2.2.2.2.2.2.1
theorem dX10_init_28 : decode (mB 124) 28 = .ok (.iconst 2, 1) := dqo gX10_init_0.2.2.2.2.2.2.2.2.2.2.2.2.2.2.1
theorem dX10_init_29 : decode (mB 124) 29 = .ok (.aaload, 1) := dqo gX10_init_0.2.2.2.2.2.2.2.2.2.2.2.2.2.2.2
theorem gX10_init_30 : dq 124 30 (.iload_n 1) 1 = true ∧ dq 124 31 (.bipush 10) 2 = true ∧ dq 124 33 (.iastore) 1 = true ∧ dq 124 34 (.iinc 1 1) 3 = true ∧ dq 124 37 (.goto (-19)) 3 = true ∧ dq 124 40 (.return_) 1 = true := by decide +kernel
theorem dX10_init_30 : decode (mB 124) 30 = .ok (.iload_n 1, 1) := dqo gX10_init_30.1
theorem dX10_init_31 : decode (mB 124) 31 = .ok (.bipush 10, 2) := dqo gX10_init_30.2.1
theorem dX10_init_33 : decode (mB 124) 33 = .ok (.iastore, 1) := dqo gX10_init_30.2.2.1
theorem dX10_init_34 : decode (mB 124) 34 = .ok (.iinc 1 1, 3) := dqo gX10_init_30.2.2.2.1
theorem dX10_init_37 : decode (mB 124) 37 = .ok (.goto (-19), 3) := dqo gX10_init_30.2.2.2.2.1
theorem dX10_init_40 : decode (mB 124) 40 = .ok (.return_, 1) := dqo gX10_init_30.2.2.2.2.2
theorem gX10_people_0 : dq 125 0 (.aload_n 0) 1 = true ∧ dq 125 1 (.getfield 16) 3 = true ∧ dq 125 4 (.ireturn) 1 = true := by decide +kernel
theorem dX10_people_0 : decode (mB 125) 0 = .ok (.aload_n 0, 1) := dqo gX10_people_0.1
theorem dX10_people_1 : decode (mB 125) 1 = .ok (.getfield 16, 3) := dqo gX10_people_0.2.1
theorem dX10_people_4 : decode (mB 125) 4 = .ok (.ireturn, 1) := dqo gX10_people_0.2.2
theorem gX10_tickets_0 : dq 126 0 (.aload_n 0) 1 = true ∧ dq 126 1 (.getfield 20) 3 = true ∧ dq 126 4 (.ireturn) 1 = true := by decide +kernel
theorem dX10_tickets_0 : decode (mB 126) 0 = .ok (.aload_n 0, 1) := dqo gX10_tickets_0.1
theorem dX10_tickets_1 : decode (mB 126) 1 = .ok (.getfield 20, 3) := dqo gX10_tickets_0.2.1
theorem dX10_tickets_4 : decode (mB 126) 4 = .ok (.ireturn, 1) := dqo gX10_tickets_0.2.2
theorem gX10_hourNow_0 : dq 127 0 (.aload_n 0) 1 = true ∧ dq 127 1 (.bipush 7) 2 = true ∧ dq 127 3 (.iconst 0) 1 = true ∧ dq 127 4 (.invokevirtual 23) 3 = true ∧ dq 127 7 (.ireturn) 1 = true := by decide +kernel
theorem dX10_hourNow_0 : decode (mB 127) 0 = .ok (.aload_n 0, 1) := dqo gX10_hourNow_0.1
theorem dX10_hourNow_1 : decode (mB 127) 1 = .ok (.bipush 7, 2) := dqo gX10_hourNow_0.2.1
theorem dX10_hourNow_3 : decode (mB 127) 3 = .ok (.iconst 0, 1) := dqo gX10_hourNow_0.2.2.1
theorem dX10_hourNow_4 : decode (mB 127) 4 = .ok (.invokevirtual 23, 3) := dqo gX10_hourNow_0.2.2.2.1
theorem dX10_hourNow_7 : decode (mB 127) 7 = .ok (.ireturn, 1) := dqo gX10_hourNow_0.2.2.2.2
theorem gX10_isPerson_0 : dq 128 0 (.iload_n 1) 1 = true ∧ dq 128 1 (.ifCond .lt 15) 3 = true ∧ dq 128 4 (.iload_n 1) 1 = true ∧ dq 128 5 (.aload_n 0) 1 = true ∧ dq 128 6 (.getfield 16) 3 = true ∧ dq 128 9 (.if_icmp .ge 7) 3 = true ∧ dq 128 12 (.iconst 1) 1 = true ∧ dq 128 13 (.goto 4) 3 = true ∧ dq 128 16 (.iconst 0) 1 = true ∧ dq 128 17 (.ireturn) 1 = true := by decide +kernel
theorem dX10_isPerson_0 : decode (mB 128) 0 = .ok (.iload_n 1, 1) := dqo gX10_isPerson_0.1
theorem dX10_isPerson_1 : decode (mB 128) 1 = .ok (.ifCond .lt 15, 3) := dqo gX10_isPerson_0.2.1
theorem dX10_isPerson_4 : decode (mB 128) 4 = .ok (.iload_n 1, 1) := dqo gX10_isPerson_0.2.2.1
theorem dX10_isPerson_5 : decode (mB 128) 5 = .ok (.aload_n 0, 1) := dqo gX10_isPerson_0.2.2.2.1
theorem dX10_isPerson_6 : decode (mB 128) 6 = .ok (.getfield 16, 3) := dqo gX10_isPerson_0.2.2.2.2.1
theorem dX10_isPerson_9 : decode (mB 128) 9 = .ok (.if_icmp .ge 7, 3) := dqo gX10_isPerson_0.2.2.2.2.2.1
theorem dX10_isPerson_12 : decode (mB 128) 12 = .ok (.iconst 1, 1) := dqo gX10_isPerson_0.2.2.2.2.2.2.1
theorem dX10_isPerson_13 : decode (mB 128) 13 = .ok (.goto 4, 3) := dqo gX10_isPerson_0.2.2.2.2.2.2.2.1
theorem dX10_isPerson_16 : decode (mB 128) 16 = .ok (.iconst 0, 1) := dqo gX10_isPerson_0.2.2.2.2.2.2.2.2.1
theorem dX10_isPerson_17 : decode (mB 128) 17 = .ok (.ireturn, 1) := dqo gX10_isPerson_0.2.2.2.2.2.2.2.2.2
theorem gX10_isTicket_0 : dq 129 0 (.iload_n 1) 1 = true ∧ dq 129 1 (.ifCond .lt 15) 3 = true ∧ dq 129 4 (.iload_n 1) 1 = true ∧ dq 129 5 (.aload_n 0) 1 = true ∧ dq 129 6 (.getfield 20) 3 = true ∧ dq 129 9 (.if_icmp .ge 7) 3 = true ∧ dq 129 12 (.iconst 1) 1 = true ∧ dq 129 13 (.goto 4) 3 = true ∧ dq 129 16 (.iconst 0) 1 = true ∧ dq 129 17 (.ireturn) 1 = true := by decide +kernel
theorem dX10_isTicket_0 : decode (mB 129) 0 = .ok (.iload_n 1, 1) := dqo gX10_isTicket_0.1
theorem dX10_isTicket_1 : decode (mB 129) 1 = .ok (.ifCond .lt 15, 3) := dqo gX10_isTicket_0.2.1
theorem dX10_isTicket_4 : decode (mB 129) 4 = .ok (.iload_n 1, 1) := dqo gX10_isTicket_0.2.2.1
theorem dX10_isTicket_5 : decode (mB 129) 5 = .ok (.aload_n 0, 1) := dqo gX10_isTicket_0.2.2.2.1
theorem dX10_isTicket_6 : decode (mB 129) 6 = .ok (.getfield 20, 3) := dqo gX10_isTicket_0.2.2.2.2.1
theorem dX10_isTicket_9 : decode (mB 129) 9 = .ok (.if_icmp .ge 7, 3) := dqo gX10_isTicket_0.2.2.2.2.2.1
theorem dX10_isTicket_12 : decode (mB 129) 12 = .ok (.iconst 1, 1) := dqo gX10_isTicket_0.2.2.2.2.2.2.1
theorem dX10_isTicket_13 : decode (mB 129) 13 = .ok (.goto 4, 3) := dqo gX10_isTicket_0.2.2.2.2.2.2.2.1
theorem dX10_isTicket_16 : decode (mB 129) 16 = .ok (.iconst 0, 1) := dqo gX10_isTicket_0.2.2.2.2.2.2.2.2.1
theorem dX10_isTicket_17 : decode (mB 129) 17 = .ok (.ireturn, 1) := dqo gX10_isTicket_0.2.2.2.2.2.2.2.2.2
theorem gX10_isSlipping_0 : dq 130 0 (.aload_n 0) 1 = true ∧ dq 130 1 (.iload_n 1) 1 = true ∧ dq 130 2 (.iconst 3) 1 = true ∧ dq 130 3 (.ishr) 1 = true ∧ dq 130 4 (.invokevirtual 27) 3 = true ∧ dq 130 7 (.ifCond .eq 18) 3 = true ∧ dq 130 10 (.aload_n 0) 1 = true ∧ dq 130 11 (.iload_n 1) 1 = true ∧ dq 130 12 (.bipush 7) 2 = true ∧ dq 130 14 (.iand) 1 = true ∧ dq 130 15 (.invokevirtual 31) 3 = true ∧ dq 130 18 (.ifCond .eq 7) 3 = true ∧ dq 130 21 (.iconst 1) 1 = true ∧ dq 130 22 (.goto 4) 3 = true ∧ dq 130 25 (.iconst 0) 1 = true ∧ dq 130 26 (.ireturn) 1 = true := by decide +kernel
theorem dX10_isSlipping_0 : decode (mB 130) 0 = .ok (.aload_n 0, 1) := dqo gX10_isSlipping_0.1
theorem dX10_isSlipping_1 : decode (mB 130) 1 = .ok (.iload_n 1, 1) := dqo gX10_isSlipping_0.2.1
theorem dX10_isSlipping_2 : decode (mB 130) 2 = .ok (.iconst 3, 1) := dqo gX10_isSlipping_0.2.2.1
theorem dX10_isSlipping_3 : decode (mB 130) 3 = .ok (.ishr, 1) := dqo gX10_isSlipping_0.2.2.2.1
theorem dX10_isSlipping_4 : decode (mB 130) 4 = .ok (.invokevirtual 27, 3) := dqo gX10_isSlipping_0.2.2.2.2.1
theorem dX10_isSlipping_7 : decode (mB 130) 7 = .ok (.ifCond .eq 18, 3) := dqo gX10_isSlipping_0.2.2.2.2.2.1
theorem dX10_isSlipping_10 : decode (mB 130) 10 = .ok (.aload_n 0, 1) := dqo gX10_isSlipping_0.2.2.2.2.2.2.1
theorem dX10_isSlipping_11 : decode (mB 130) 11 = .ok (.iload_n 1, 1) := dqo gX10_isSlipping_0.2.2.2.2.2.2.2.1
theorem dX10_isSlipping_12 : decode (mB 130) 12 = .ok (.bipush 7, 2) := dqo gX10_isSlipping_0.2.2.2.2.2.2.2.2.1
theorem dX10_isSlipping_14 : decode (mB 130) 14 = .ok (.iand, 1) := dqo gX10_isSlipping_0.2.2.2.2.2.2.2.2.2.1
theorem dX10_isSlipping_15 : decode (mB 130) 15 = .ok (.invokevirtual 31, 3) := dqo gX10_isSlipping_0.2.2.2.2.2.2.2.2.2.2.1
theorem dX10_isSlipping_18 : decode (mB 130) 18 = .ok (.ifCond .eq 7, 3) := dqo gX10_isSlipping_0.2.2.2.2.2.2.2.2.2.2.2.1
theorem dX10_isSlipping_21 : decode (mB 130) 21 = .ok (.iconst 1, 1) := dqo gX10_isSlipping_0.2.2.2.2.2.2.2.2.2.2.2.2.1
theorem dX10_isSlipping_22 : decode (mB 130) 22 = .ok (.goto 4, 3) := dqo gX10_isSlipping_0.2.2.2.2.2.2.2.2.2.2.2.2.2.1
theorem dX10_isSlipping_25 : decode (mB 130) 25 = .ok (.iconst 0, 1) := dqo gX10_isSlipping_0.2.2.2.2.2.2.2.2.2.2.2.2.2.2.1
theorem dX10_isSlipping_26 : decode (mB 130) 26 = .ok (.ireturn, 1) := dqo gX10_isSlipping_0.2.2.2.2.2.2.2.2.2.2.2.2.2.2.2
theorem gX10_isReal_0 : dq 131 0 (.aload_n 0) 1 = true ∧ dq 131 1 (.iload_n 1) 1 = true ∧ dq 131 2 (.invokevirtual 27) 3 = true ∧ dq 131 5 (.ifCond .eq 16) 3 = true ∧ dq 131 8 (.aload_n 0) 1 = true ∧ dq 131 9 (.iconst 5) 1 = true ∧ dq 131 10 (.iload_n 1) 1 = true ∧ dq 131 11 (.invokevirtual 23) 3 = true ∧ dq 131 14 (.ifCond .ne 7) 3 = true ∧ dq 131 17 (.iconst 1) 1 = true ∧ dq 131 18 (.goto 4) 3 = true ∧ dq 131 21 (.iconst 0) 1 = true ∧ dq 131 22 (.ireturn) 1 = true := by decide +kernel
theorem dX10_isReal_0 : decode (mB 131) 0 = .ok (.aload_n 0, 1) := dqo gX10_isReal_0.1
theorem dX10_isReal_1 : decode (mB 131) 1 = .ok (.iload_n 1, 1) := dqo gX10_isReal_0.2.1
theorem dX10_isReal_2 : decode (mB 131) 2 = .ok (.invokevirtual 27, 3) := dqo gX10_isReal_0.2.2.1
theorem dX10_isReal_5 : decode (mB 131) 5 = .ok (.ifCond .eq 16, 3) := dqo gX10_isReal_0.2.2.2.1
theorem dX10_isReal_8 : decode (mB 131) 8 = .ok (.aload_n 0, 1) := dqo gX10_isReal_0.2.2.2.2.1
theorem dX10_isReal_9 : decode (mB 131) 9 = .ok (.iconst 5, 1) := dqo gX10_isReal_0.2.2.2.2.2.1
theorem dX10_isReal_10 : decode (mB 131) 10 = .ok (.iload_n 1, 1) := dqo gX10_isReal_0.2.2.2.2.2.2.1
theorem dX10_isReal_11 : decode (mB 131) 11 = .ok (.invokevirtual 23, 3) := dqo gX10_isReal_0.2.2.2.2.2.2.2.1
theorem dX10_isReal_14 : decode (mB 131) 14 = .ok (.ifCond .ne 7, 3) := dqo gX10_isReal_0.2.2.2.2.2.2.2.2.1
theorem dX10_isReal_17 : decode (mB 131) 17 = .ok (.iconst 1, 1) := dqo gX10_isReal_0.2.2.2.2.2.2.2.2.2.1
theorem dX10_isReal_18 : decode (mB 131) 18 = .ok (.goto 4, 3) := dqo gX10_isReal_0.2.2.2.2.2.2.2.2.2.2.1
theorem dX10_isReal_21 : decode (mB 131) 21 = .ok (.iconst 0, 1) := dqo gX10_isReal_0.2.2.2.2.2.2.2.2.2.2.2.1
theorem dX10_isReal_22 : decode (mB 131) 22 = .ok (.ireturn, 1) := dqo gX10_isReal_0.2.2.2.2.2.2.2.2.2.2.2.2
theorem gX10_hasNumber_0 : dq 132 0 (.iload_n 1) 1 = true ∧ dq 132 1 (.ifCond .lt 13) 3 = true ∧ dq 132 4 (.iload_n 1) 1 = true ∧ dq 132 5 (.bipush 8) 2 = true ∧ dq 132 7 (.if_icmp .gt 7) 3 = true ∧ dq 132 10 (.iload_n 2) 1 = true ∧ dq 132 11 (.ifCond .ge 5) 3 = true ∧ dq 132 14 (.iconst 0) 1 = true ∧ dq 132 15 (.ireturn) 1 = true ∧ dq 132 16 (.iload_n 1) 1 = true ∧ dq 132 17 (.bipush 7) 2 = true ∧ dq 132 19 (.if_icmp .lt 13) 3 = true ∧ dq 132 22 (.iload_n 2) 1 = true ∧ dq 132 23 (.ifCond .ne 7) 3 = true ∧ dq 132 26 (.iconst 1) 1 = true ∧ dq 132 27 (.goto 4) 3 = true := by decide +kernel
theorem dX10_hasNumber_0 : decode (mB 132) 0 = .ok (.iload_n 1, 1) := dqo gX10_hasNumber_0.1
theorem dX10_hasNumber_1 : decode (mB 132) 1 = .ok (.ifCond .lt 13, 3) := dqo gX10_hasNumber_0.2.1
theorem dX10_hasNumber_4 : decode (mB 132) 4 = .ok (.iload_n 1, 1) := dqo gX10_hasNumber_0.2.2.1
theorem dX10_hasNumber_5 : decode (mB 132) 5 = .ok (.bipush 8, 2) := dqo gX10_hasNumber_0.2.2.2.1
theorem dX10_hasNumber_7 : decode (mB 132) 7 = .ok (.if_icmp .gt 7, 3) := dqo gX10_hasNumber_0.2.2.2.2.1
theorem dX10_hasNumber_10 : decode (mB 132) 10 = .ok (.iload_n 2, 1) := dqo gX10_hasNumber_0.2.2.2.2.2.1
theorem dX10_hasNumber_11 : decode (mB 132) 11 = .ok (.ifCond .ge 5, 3) := dqo gX10_hasNumber_0.2.2.2.2.2.2.1
theorem dX10_hasNumber_14 : decode (mB 132) 14 = .ok (.iconst 0, 1) := dqo gX10_hasNumber_0.2.2.2.2.2.2.2.1
theorem dX10_hasNumber_15 : decode (mB 132) 15 = .ok (.ireturn, 1) := dqo gX10_hasNumber_0.2.2.2.2.2.2.2.2.1
theorem dX10_hasNumber_16 : decode (mB 132) 16 = .ok (.iload_n 1, 1) := dqo gX10_hasNumber_0.2.2.2.2.2.2.2.2.2.1
theorem dX10_hasNumber_17 : decode (mB 132) 17 = .ok (.bipush 7, 2) := dqo gX10_hasNumber_0.2.2.2.2.2.2.2.2.2.2.1
theorem dX10_hasNumber_19 : decode (mB 132) 19 = .ok (.if_icmp .lt 13, 3) := dqo gX10_hasNumber_0.2.2.2.2.2.2.2.2.2.2.2.1
theorem dX10_hasNumber_22 : decode (mB 132) 22 = .ok (.iload_n 2, 1) := dqo gX10_hasNumber_0.2.2.2.2.2.2.2.2.2.2.2.2.1
theorem dX10_hasNumber_23 : decode (mB 132) 23 = .ok (.ifCond .ne 7, 3) := dqo gX10_hasNumber_0.2.2.2.2.2.2.2.2.2.2.2.2.2.1
theorem dX10_hasNumber_26 : decode (mB 132) 26 = .ok (.iconst 1, 1) := dqo gX10_hasNumber_0.2.2.2.2.2.2.2.2.2.2.2.2.2.2.1
theorem dX10_hasNumber_27 : decode (mB 132) 27 = .ok (.goto 4, 3) := dqo gX10_hasNumber_0.2.2.2.2.2.2.2.2.2.2.2.2.2.2.2
theorem gX10_hasNumber_30 : dq 132 30 (.iconst 0) 1 = true ∧ dq 132 31 (.ireturn) 1 = true ∧ dq 132 32 (.iload_n 2) 1 = true ∧ dq 132 33 (.iload_n 1) 1 = true ∧ dq 132 34 (.iconst 4) 1 = true ∧ dq 132 35 (.if_icmp .lt 10) 3 = true ∧ dq 132 38 (.aload_n 0) 1 = true ∧ dq 132 39 (.getfield 20) 3 = true ∧ dq 132 42 (.goto 7) 3 = true ∧ dq 132 45 (.aload_n 0) 1 = true ∧ dq 132 46 (.getfield 16) 3 = true ∧ dq 132 49 (.if_icmp .ge 7) 3 = true ∧ dq 132 52 (.iconst 1) 1 = true ∧ dq 132 53 (.goto 4) 3 = true ∧ dq 132 56 (.iconst 0) 1 = true ∧ dq 132 57 (.ireturn) 1 = true := by decide +kernel
theorem dX10_hasNumber_30 : decode (mB 132) 30 = .ok (.iconst 0, 1) := dqo gX10_hasNumber_30.1
theorem dX10_hasNumber_31 : decode (mB 132) 31 = .ok (.ireturn, 1) := dqo gX10_hasNumber_30.2.1
theorem dX10_hasNumber_32 : decode (mB 132) 32 = .ok (.iload_n 2, 1) := dqo gX10_hasNumber_30.2.2.1
theorem dX10_hasNumber_33 : decode (mB 132) 33 = .ok (.iload_n 1, 1) := dqo gX10_hasNumber_30.2.2.2.1
theorem dX10_hasNumber_34 : decode (mB 132) 34 = .ok (.iconst 4, 1) := dqo gX10_hasNumber_30.2.2.2.2.1
theorem dX10_hasNumber_35 : decode (mB 132) 35 = .ok (.if_icmp .lt 10, 3) := dqo gX10_hasNumber_30.2.2.2.2.2.1
theorem dX10_hasNumber_38 : decode (mB 132) 38 = .ok (.aload_n 0, 1) := dqo gX10_hasNumber_30.2.2.2.2.2.2.1
theorem dX10_hasNumber_39 : decode (mB 132) 39 = .ok (.getfield 20, 3) := dqo gX10_hasNumber_30.2.2.2.2.2.2.2.1
theorem dX10_hasNumber_42 : decode (mB 132) 42 = .ok (.goto 7, 3) := dqo gX10_hasNumber_30.2.2.2.2.2.2.2.2.1
theorem dX10_hasNumber_45 : decode (mB 132) 45 = .ok (.aload_n 0, 1) := dqo gX10_hasNumber_30.2.2.2.2.2.2.2.2.2.1
theorem dX10_hasNumber_46 : decode (mB 132) 46 = .ok (.getfield 16, 3) := dqo gX10_hasNumber_30.2.2.2.2.2.2.2.2.2.2.1
theorem dX10_hasNumber_49 : decode (mB 132) 49 = .ok (.if_icmp .ge 7, 3) := dqo gX10_hasNumber_30.2.2.2.2.2.2.2.2.2.2.2.1
theorem dX10_hasNumber_52 : decode (mB 132) 52 = .ok (.iconst 1, 1) := dqo gX10_hasNumber_30.2.2.2.2.2.2.2.2.2.2.2.2.1
theorem dX10_hasNumber_53 : decode (mB 132) 53 = .ok (.goto 4, 3) := dqo gX10_hasNumber_30.2.2.2.2.2.2.2.2.2.2.2.2.2.1
theorem dX10_hasNumber_56 : decode (mB 132) 56 = .ok (.iconst 0, 1) := dqo gX10_hasNumber_30.2.2.2.2.2.2.2.2.2.2.2.2.2.2.1
theorem dX10_hasNumber_57 : decode (mB 132) 57 = .ok (.ireturn, 1) := dqo gX10_hasNumber_30.2.2.2.2.2.2.2.2.2.2.2.2.2.2.2
theorem gX10_mayBe_0 : dq 133 0 (.iload_n 1) 1 = true ∧ dq 133 1 (.ifCond .lt 9) 3 = true ∧ dq 133 4 (.iload_n 1) 1 = true ∧ dq 133 5 (.bipush 8) 2 = true ∧ dq 133 7 (.if_icmp .le 5) 3 = true ∧ dq 133 10 (.iconst 0) 1 = true ∧ dq 133 11 (.ireturn) 1 = true ∧ dq 133 12 (.iload_n 1) 1 = true ∧ dq 133 13 (.iconst 4) 1 = true ∧ dq 133 14 (.if_icmp .ne 11) 3 = true ∧ dq 133 17 (.aload_n 0) 1 = true ∧ dq 133 18 (.iload_n 2) 1 = true ∧ dq 133 19 (.invokevirtual 31) 3 = true ∧ dq 133 22 (.goto 21) 3 = true ∧ dq 133 25 (.iload_n 2) 1 = true ∧ dq 133 26 (.ifCond .lt 16) 3 = true := by decide +kernel
theorem dX10_mayBe_0 : decode (mB 133) 0 = .ok (.iload_n 1, 1) := dqo gX10_mayBe_0.1
theorem dX10_mayBe_1 : decode (mB 133) 1 = .ok (.ifCond .lt 9, 3) := dqo gX10_mayBe_0.2.1
theorem dX10_mayBe_4 : decode (mB 133) 4 = .ok (.iload_n 1, 1) := dqo gX10_mayBe_0.2.2.1
theorem dX10_mayBe_5 : decode (mB 133) 5 = .ok (.bipush 8, 2) := dqo gX10_mayBe_0.2.2.2.1
theorem dX10_mayBe_7 : decode (mB 133) 7 = .ok (.if_icmp .le 5, 3) := dqo gX10_mayBe_0.2.2.2.2.1
theorem dX10_mayBe_10 : decode (mB 133) 10 = .ok (.iconst 0, 1) := dqo gX10_mayBe_0.2.2.2.2.2.1
theorem dX10_mayBe_11 : decode (mB 133) 11 = .ok (.ireturn, 1) := dqo gX10_mayBe_0.2.2.2.2.2.2.1
theorem dX10_mayBe_12 : decode (mB 133) 12 = .ok (.iload_n 1, 1) := dqo gX10_mayBe_0.2.2.2.2.2.2.2.1
theorem dX10_mayBe_13 : decode (mB 133) 13 = .ok (.iconst 4, 1) := dqo gX10_mayBe_0.2.2.2.2.2.2.2.2.1
theorem dX10_mayBe_14 : decode (mB 133) 14 = .ok (.if_icmp .ne 11, 3) := dqo gX10_mayBe_0.2.2.2.2.2.2.2.2.2.1
theorem dX10_mayBe_17 : decode (mB 133) 17 = .ok (.aload_n 0, 1) := dqo gX10_mayBe_0.2.2.2.2.2.2.2.2.2.2.1
theorem dX10_mayBe_18 : decode (mB 133) 18 = .ok (.iload_n 2, 1) := dqo gX10_mayBe_0.2.2.2.2.2.2.2.2.2.2.2.1
theorem dX10_mayBe_19 : decode (mB 133) 19 = .ok (.invokevirtual 31, 3) := dqo gX10_mayBe_0.2.2.2.2.2.2.2.2.2.2.2.2.1
theorem dX10_mayBe_22 : decode (mB 133) 22 = .ok (.goto 21, 3) := dqo gX10_mayBe_0.2.2.2.2.2.2.2.2.2.2.2.2.2.1
theorem dX10_mayBe_25 : decode (mB 133) 25 = .ok (.iload_n 2, 1) := dqo gX10_mayBe_0.2.2.2.2.2.2.2.2.2.2.2.2.2.2.1
theorem dX10_mayBe_26 : decode (mB 133) 26 = .ok (.ifCond .lt 16, 3) := dqo gX10_mayBe_0.2.2.2.2.2.2.2.2.2.2.2.2.2.2.2
theorem gX10_mayBe_29 : dq 133 29 (.iload_n 2) 1 = true ∧ dq 133 30 (.getstatic 34) 3 = true ∧ dq 133 33 (.iload_n 1) 1 = true ∧ dq 133 34 (.iaload) 1 = true ∧ dq 133 35 (.if_icmp .gt 7) 3 = true ∧ dq 133 38 (.iconst 1) 1 = true ∧ dq 133 39 (.goto 4) 3 = true ∧ dq 133 42 (.iconst 0) 1 = true ∧ dq 133 43 (.ireturn) 1 = true := by decide +kernel
theorem dX10_mayBe_29 : decode (mB 133) 29 = .ok (.iload_n 2, 1) := dqo gX10_mayBe_29.1
theorem dX10_mayBe_30 : decode (mB 133) 30 = .ok (.getstatic 34, 3) := dqo gX10_mayBe_29.2.1
theorem dX10_mayBe_33 : decode (mB 133) 33 = .ok (.iload_n 1, 1) := dqo gX10_mayBe_29.2.2.1
theorem dX10_mayBe_34 : decode (mB 133) 34 = .ok (.iaload, 1) := dqo gX10_mayBe_29.2.2.2.1
theorem dX10_mayBe_35 : decode (mB 133) 35 = .ok (.if_icmp .gt 7, 3) := dqo gX10_mayBe_29.2.2.2.2.1
theorem dX10_mayBe_38 : decode (mB 133) 38 = .ok (.iconst 1, 1) := dqo gX10_mayBe_29.2.2.2.2.2.1
theorem dX10_mayBe_39 : decode (mB 133) 39 = .ok (.goto 4, 3) := dqo gX10_mayBe_29.2.2.2.2.2.2.1
theorem dX10_mayBe_42 : decode (mB 133) 42 = .ok (.iconst 0, 1) := dqo gX10_mayBe_29.2.2.2.2.2.2.2.1
theorem dX10_mayBe_43 : decode (mB 133) 43 = .ok (.ireturn, 1) := dqo gX10_mayBe_29.2.2.2.2.2.2.2.2
theorem gX10_get_0 : dq 134 0 (.aload_n 0) 1 = true ∧ dq 134 1 (.iload_n 1) 1 = true ∧ dq 134 2 (.iload_n 2) 1 = true ∧ dq 134 3 (.invokevirtual 38) 3 = true ∧ dq 134 6 (.ifCond .eq 14) 3 = true ∧ dq 134 9 (.aload_n 0) 1 = true ∧ dq 134 10 (.getfield 11) 3 = true ∧ dq 134 13 (.iload_n 1) 1 = true ∧ dq 134 14 (.aaload) 1 = true ∧ dq 134 15 (.iload_n 2) 1 = true ∧ dq 134 16 (.iaload) 1 = true ∧ dq 134 17 (.goto 4) 3 = true ∧ dq 134 20 (.iconst 0) 1 = true ∧ dq 134 21 (.ireturn) 1 = true := by decide +kernel
theorem dX10_get_0 : decode (mB 134) 0 = .ok (.aload_n 0, 1) := dqo gX10_get_0.1
theorem dX10_get_1 : decode (mB 134) 1 = .ok (.iload_n 1, 1) := dqo gX10_get_0.2.1
theorem dX10_get_2 : decode (mB 134) 2 = .ok (.iload_n 2, 1) := dqo gX10_get_0.2.2.1
theorem dX10_get_3 : decode (mB 134) 3 = .ok (.invokevirtual 38, 3) := dqo gX10_get_0.2.2.2.1
theorem dX10_get_6 : decode (mB 134) 6 = .ok (.ifCond .eq 14, 3) := dqo gX10_get_0.2.2.2.2.1
theorem dX10_get_9 : decode (mB 134) 9 = .ok (.aload_n 0, 1) := dqo gX10_get_0.2.2.2.2.2.1
theorem dX10_get_10 : decode (mB 134) 10 = .ok (.getfield 11, 3) := dqo gX10_get_0.2.2.2.2.2.2.1
theorem dX10_get_13 : decode (mB 134) 13 = .ok (.iload_n 1, 1) := dqo gX10_get_0.2.2.2.2.2.2.2.1
theorem dX10_get_14 : decode (mB 134) 14 = .ok (.aaload, 1) := dqo gX10_get_0.2.2.2.2.2.2.2.2.1
theorem dX10_get_15 : decode (mB 134) 15 = .ok (.iload_n 2, 1) := dqo gX10_get_0.2.2.2.2.2.2.2.2.2.1
theorem dX10_get_16 : decode (mB 134) 16 = .ok (.iaload, 1) := dqo gX10_get_0.2.2.2.2.2.2.2.2.2.2.1
theorem dX10_get_17 : decode (mB 134) 17 = .ok (.goto 4, 3) := dqo gX10_get_0.2.2.2.2.2.2.2.2.2.2.2.1
theorem dX10_get_20 : decode (mB 134) 20 = .ok (.iconst 0, 1) := dqo gX10_get_0.2.2.2.2.2.2.2.2.2.2.2.2.1
theorem dX10_get_21 : decode (mB 134) 21 = .ok (.ireturn, 1) := dqo gX10_get_0.2.2.2.2.2.2.2.2.2.2.2.2.2
theorem gX10_set_0 : dq 135 0 (.aload_n 0) 1 = true ∧ dq 135 1 (.iload_n 1) 1 = true ∧ dq 135 2 (.iload_n 2) 1 = true ∧ dq 135 3 (.invokevirtual 38) 3 = true ∧ dq 135 6 (.ifCond .eq 12) 3 = true ∧ dq 135 9 (.aload_n 0) 1 = true ∧ dq 135 10 (.getfield 11) 3 = true ∧ dq 135 13 (.iload_n 1) 1 = true ∧ dq 135 14 (.aaload) 1 = true ∧ dq 135 15 (.iload_n 2) 1 = true ∧ dq 135 16 (.iload_n 3) 1 = true ∧ dq 135 17 (.iastore) 1 = true ∧ dq 135 18 (.return_) 1 = true := by decide +kernel
theorem dX10_set_0 : decode (mB 135) 0 = .ok (.aload_n 0, 1) := dqo gX10_set_0.1
theorem dX10_set_1 : decode (mB 135) 1 = .ok (.iload_n 1, 1) := dqo gX10_set_0.2.1
theorem dX10_set_2 : decode (mB 135) 2 = .ok (.iload_n 2, 1) := dqo gX10_set_0.2.2.1
theorem dX10_set_3 : decode (mB 135) 3 = .ok (.invokevirtual 38, 3) := dqo gX10_set_0.2.2.2.1
theorem dX10_set_6 : decode (mB 135) 6 = .ok (.ifCond .eq 12, 3) := dqo gX10_set_0.2.2.2.2.1
theorem dX10_set_9 : decode (mB 135) 9 = .ok (.aload_n 0, 1) := dqo gX10_set_0.2.2.2.2.2.1
theorem dX10_set_10 : decode (mB 135) 10 = .ok (.getfield 11, 3) := dqo gX10_set_0.2.2.2.2.2.2.1
theorem dX10_set_13 : decode (mB 135) 13 = .ok (.iload_n 1, 1) := dqo gX10_set_0.2.2.2.2.2.2.2.1
theorem dX10_set_14 : decode (mB 135) 14 = .ok (.aaload, 1) := dqo gX10_set_0.2.2.2.2.2.2.2.2.1
theorem dX10_set_15 : decode (mB 135) 15 = .ok (.iload_n 2, 1) := dqo gX10_set_0.2.2.2.2.2.2.2.2.2.1
theorem dX10_set_16 : decode (mB 135) 16 = .ok (.iload_n 3, 1) := dqo gX10_set_0.2.2.2.2.2.2.2.2.2.2.1
theorem dX10_set_17 : decode (mB 135) 17 = .ok (.iastore, 1) := dqo gX10_set_0.2.2.2.2.2.2.2.2.2.2.2.1
theorem dX10_set_18 : decode (mB 135) 18 = .ok (.return_, 1) := dqo gX10_set_0.2.2.2.2.2.2.2.2.2.2.2.2
theorem gX10_addPerson_0 : dq 136 0 (.aload_n 0) 1 = true ∧ dq 136 1 (.getfield 16) 3 = true ∧ dq 136 4 (.bipush 6) 2 = true ∧ dq 136 6 (.if_icmp .lt 6) 3 = true ∧ dq 136 9 (.bipush (-3)) 2 = true ∧ dq 136 11 (.ireturn) 1 = true ∧ dq 136 12 (.aload_n 0) 1 = true ∧ dq 136 13 (.dup) 1 = true ∧ dq 136 14 (.getfield 16) 3 = true ∧ dq 136 17 (.iconst 1) 1 = true ∧ dq 136 18 (.iadd) 1 = true ∧ dq 136 19 (.putfield 16) 3 = true ∧ dq 136 22 (.aload_n 0) 1 = true ∧ dq 136 23 (.iconst 0) 1 = true ∧ dq 136 24 (.aload_n 0) 1 = true ∧ dq 136 25 (.getfield 16) 3 = true := by decide +kernel
theorem dX10_addPerson_0 : decode (mB 136) 0 = .ok (.aload_n 0, 1) := dqo gX10_addPerson_0.1
theorem dX10_addPerson_1 : decode (mB 136) 1 = .ok (.getfield 16, 3) := dqo gX10_addPerson_0.2.1
theorem dX10_addPerson_4 : decode (mB 136) 4 = .ok (.bipush 6, 2) := dqo gX10_addPerson_0.2.2.1
theorem dX10_addPerson_6 : decode (mB 136) 6 = .ok (.if_icmp .lt 6, 3) := dqo gX10_addPerson_0.2.2.2.1
theorem dX10_addPerson_9 : decode (mB 136) 9 = .ok (.bipush (-3), 2) := dqo gX10_addPerson_0.2.2.2.2.1
theorem dX10_addPerson_11 : decode (mB 136) 11 = .ok (.ireturn, 1) := dqo gX10_addPerson_0.2.2.2.2.2.1
theorem dX10_addPerson_12 : decode (mB 136) 12 = .ok (.aload_n 0, 1) := dqo gX10_addPerson_0.2.2.2.2.2.2.1
theorem dX10_addPerson_13 : decode (mB 136) 13 = .ok (.dup, 1) := dqo gX10_addPerson_0.2.2.2.2.2.2.2.1
theorem dX10_addPerson_14 : decode (mB 136) 14 = .ok (.getfield 16, 3) := dqo gX10_addPerson_0.2.2.2.2.2.2.2.2.1
theorem dX10_addPerson_17 : decode (mB 136) 17 = .ok (.iconst 1, 1) := dqo gX10_addPerson_0.2.2.2.2.2.2.2.2.2.1
theorem dX10_addPerson_18 : decode (mB 136) 18 = .ok (.iadd, 1) := dqo gX10_addPerson_0.2.2.2.2.2.2.2.2.2.2.1
theorem dX10_addPerson_19 : decode (mB 136) 19 = .ok (.putfield 16, 3) := dqo gX10_addPerson_0.2.2.2.2.2.2.2.2.2.2.2.1
theorem dX10_addPerson_22 : decode (mB 136) 22 = .ok (.aload_n 0, 1) := dqo gX10_addPerson_0.2.2.2.2.2.2.2.2.2.2.2.2.1
theorem dX10_addPerson_23 : decode (mB 136) 23 = .ok (.iconst 0, 1) := dqo gX10_addPerson_0.2.2.2.2.2.2.2.2.2.2.2.2.2.1
theorem dX10_addPerson_24 : decode (mB 136) 24 = .ok (.aload_n 0, 1) := dqo gX10_addPerson_0.2.2.2.2.2.2.2.2.2.2.2.2.2.2.1
theorem dX10_addPerson_25 : decode (mB 136) 25 = .ok (.getfield 16, 3) := dqo gX10_addPerson_0.2.2.2.2.2.2.2.2.2.2.2.2.2.2.2
theorem gX10_addPerson_28 : dq 136 28 (.iconst 1) 1 = true ∧ dq 136 29 (.isub) 1 = true ∧ dq 136 30 (.iload_n 1) 1 = true ∧ dq 136 31 (.invokevirtual 42) 3 = true ∧ dq 136 34 (.aload_n 0) 1 = true ∧ dq 136 35 (.getfield 16) 3 = true ∧ dq 136 38 (.iconst 1) 1 = true ∧ dq 136 39 (.isub) 1 = true ∧ dq 136 40 (.ireturn) 1 = true := by decide +kernel
theorem dX10_addPerson_28 : decode (mB 136) 28 = .ok (.iconst 1, 1) := dqo gX10_addPerson_28.1
theorem dX10_addPerson_29 : decode (mB 136) 29 = .ok (.isub, 1) := dqo gX10_addPerson_28.2.1
theorem dX10_addPerson_30 : decode (mB 136) 30 = .ok (.iload_n 1, 1) := dqo gX10_addPerson_28.2.2.1
theorem dX10_addPerson_31 : decode (mB 136) 31 = .ok (.invokevirtual 42, 3) := dqo gX10_addPerson_28.2.2.2.1
theorem dX10_addPerson_34 : decode (mB 136) 34 = .ok (.aload_n 0, 1) := dqo gX10_addPerson_28.2.2.2.2.1
theorem dX10_addPerson_35 : decode (mB 136) 35 = .ok (.getfield 16, 3) := dqo gX10_addPerson_28.2.2.2.2.2.1
theorem dX10_addPerson_38 : decode (mB 136) 38 = .ok (.iconst 1, 1) := dqo gX10_addPerson_28.2.2.2.2.2.2.1
theorem dX10_addPerson_39 : decode (mB 136) 39 = .ok (.isub, 1) := dqo gX10_addPerson_28.2.2.2.2.2.2.2.1
theorem dX10_addPerson_40 : decode (mB 136) 40 = .ok (.ireturn, 1) := dqo gX10_addPerson_28.2.2.2.2.2.2.2.2
theorem gX10_addTicket_0 : dq 137 0 (.aload_n 0) 1 = true ∧ dq 137 1 (.getfield 20) 3 = true ∧ dq 137 4 (.bipush 12) 2 = true ∧ dq 137 6 (.if_icmp .lt 6) 3 = true ∧ dq 137 9 (.bipush (-3)) 2 = true ∧ dq 137 11 (.ireturn) 1 = true ∧ dq 137 12 (.aload_n 0) 1 = true ∧ dq 137 13 (.dup) 1 = true ∧ dq 137 14 (.getfield 20) 3 = true ∧ dq 137 17 (.iconst 1) 1 = true ∧ dq 137 18 (.iadd) 1 = true ∧ dq 137 19 (.putfield 20) 3 = true ∧ dq 137 22 (.aload_n 0) 1 = true ∧ dq 137 23 (.iconst 4) 1 = true ∧ dq 137 24 (.aload_n 0) 1 = true ∧ dq 137 25 (.getfield 20) 3 = true := by decide +kernel
theorem dX10_addTicket_0 : decode (mB 137) 0 = .ok (.aload_n 0, 1) := dqo gX10_addTicket_0.1
theorem dX10_addTicket_1 : decode (mB 137) 1 = .ok (.getfield 20, 3) := dqo gX10_addTicket_0.2.1
theorem dX10_addTicket_4 : decode (mB 137) 4 = .ok (.bipush 12, 2) := dqo gX10_addTicket_0.2.2.1
theorem dX10_addTicket_6 : decode (mB 137) 6 = .ok (.if_icmp .lt 6, 3) := dqo gX10_addTicket_0.2.2.2.1
theorem dX10_addTicket_9 : decode (mB 137) 9 = .ok (.bipush (-3), 2) := dqo gX10_addTicket_0.2.2.2.2.1
theorem dX10_addTicket_11 : decode (mB 137) 11 = .ok (.ireturn, 1) := dqo gX10_addTicket_0.2.2.2.2.2.1
theorem dX10_addTicket_12 : decode (mB 137) 12 = .ok (.aload_n 0, 1) := dqo gX10_addTicket_0.2.2.2.2.2.2.1
theorem dX10_addTicket_13 : decode (mB 137) 13 = .ok (.dup, 1) := dqo gX10_addTicket_0.2.2.2.2.2.2.2.1
theorem dX10_addTicket_14 : decode (mB 137) 14 = .ok (.getfield 20, 3) := dqo gX10_addTicket_0.2.2.2.2.2.2.2.2.1
theorem dX10_addTicket_17 : decode (mB 137) 17 = .ok (.iconst 1, 1) := dqo gX10_addTicket_0.2.2.2.2.2.2.2.2.2.1
theorem dX10_addTicket_18 : decode (mB 137) 18 = .ok (.iadd, 1) := dqo gX10_addTicket_0.2.2.2.2.2.2.2.2.2.2.1
theorem dX10_addTicket_19 : decode (mB 137) 19 = .ok (.putfield 20, 3) := dqo gX10_addTicket_0.2.2.2.2.2.2.2.2.2.2.2.1
theorem dX10_addTicket_22 : decode (mB 137) 22 = .ok (.aload_n 0, 1) := dqo gX10_addTicket_0.2.2.2.2.2.2.2.2.2.2.2.2.1
theorem dX10_addTicket_23 : decode (mB 137) 23 = .ok (.iconst 4, 1) := dqo gX10_addTicket_0.2.2.2.2.2.2.2.2.2.2.2.2.2.1
theorem dX10_addTicket_24 : decode (mB 137) 24 = .ok (.aload_n 0, 1) := dqo gX10_addTicket_0.2.2.2.2.2.2.2.2.2.2.2.2.2.2.1
theorem dX10_addTicket_25 : decode (mB 137) 25 = .ok (.getfield 20, 3) := dqo gX10_addTicket_0.2.2.2.2.2.2.2.2.2.2.2.2.2.2.2
theorem gX10_addTicket_28 : dq 137 28 (.iconst 1) 1 = true ∧ dq 137 29 (.isub) 1 = true ∧ dq 137 30 (.iload_n 1) 1 = true ∧ dq 137 31 (.invokevirtual 42) 3 = true ∧ dq 137 34 (.aload_n 0) 1 = true ∧ dq 137 35 (.iconst 5) 1 = true ∧ dq 137 36 (.aload_n 0) 1 = true ∧ dq 137 37 (.getfield 20) 3 = true ∧ dq 137 40 (.iconst 1) 1 = true ∧ dq 137 41 (.isub) 1 = true ∧ dq 137 42 (.iload_n 2) 1 = true ∧ dq 137 43 (.invokevirtual 42) 3 = true ∧ dq 137 46 (.aload_n 0) 1 = true ∧ dq 137 47 (.bipush 6) 2 = true ∧ dq 137 49 (.aload_n 0) 1 = true ∧ dq 137 50 (.getfield 20) 3 = true := by decide +kernel
theorem dX10_addTicket_28 : decode (mB 137) 28 = .ok (.iconst 1, 1) := dqo gX10_addTicket_28.1
theorem dX10_addTicket_29 : decode (mB 137) 29 = .ok (.isub, 1) := dqo gX10_addTicket_28.2.1
theorem dX10_addTicket_30 : decode (mB 137) 30 = .ok (.iload_n 1, 1) := dqo gX10_addTicket_28.2.2.1
theorem dX10_addTicket_31 : decode (mB 137) 31 = .ok (.invokevirtual 42, 3) := dqo gX10_addTicket_28.2.2.2.1
theorem dX10_addTicket_34 : decode (mB 137) 34 = .ok (.aload_n 0, 1) := dqo gX10_addTicket_28.2.2.2.2.1
theorem dX10_addTicket_35 : decode (mB 137) 35 = .ok (.iconst 5, 1) := dqo gX10_addTicket_28.2.2.2.2.2.1
theorem dX10_addTicket_36 : decode (mB 137) 36 = .ok (.aload_n 0, 1) := dqo gX10_addTicket_28.2.2.2.2.2.2.1
theorem dX10_addTicket_37 : decode (mB 137) 37 = .ok (.getfield 20, 3) := dqo gX10_addTicket_28.2.2.2.2.2.2.2.1
theorem dX10_addTicket_40 : decode (mB 137) 40 = .ok (.iconst 1, 1) := dqo gX10_addTicket_28.2.2.2.2.2.2.2.2.1
theorem dX10_addTicket_41 : decode (mB 137) 41 = .ok (.isub, 1) := dqo gX10_addTicket_28.2.2.2.2.2.2.2.2.2.1
theorem dX10_addTicket_42 : decode (mB 137) 42 = .ok (.iload_n 2, 1) := dqo gX10_addTicket_28.2.2.2.2.2.2.2.2.2.2.1
theorem dX10_addTicket_43 : decode (mB 137) 43 = .ok (.invokevirtual 42, 3) := dqo gX10_addTicket_28.2.2.2.2.2.2.2.2.2.2.2.1
theorem dX10_addTicket_46 : decode (mB 137) 46 = .ok (.aload_n 0, 1) := dqo gX10_addTicket_28.2.2.2.2.2.2.2.2.2.2.2.2.1
theorem dX10_addTicket_47 : decode (mB 137) 47 = .ok (.bipush 6, 2) := dqo gX10_addTicket_28.2.2.2.2.2.2.2.2.2.2.2.2.2.1
theorem dX10_addTicket_49 : decode (mB 137) 49 = .ok (.aload_n 0, 1) := dqo gX10_addTicket_28.2.2.2.2.2.2.2.2.2.2.2.2.2.2.1
theorem dX10_addTicket_50 : decode (mB 137) 50 = .ok (.getfield 20, 3) := dqo gX10_addTicket_28.2.2.2.2.2.2.2.2.2.2.2.2.2.2.2
theorem gX10_addTicket_53 : dq 137 53 (.iconst 1) 1 = true ∧ dq 137 54 (.isub) 1 = true ∧ dq 137 55 (.iload_n 3) 1 = true ∧ dq 137 56 (.invokevirtual 42) 3 = true ∧ dq 137 59 (.aload_n 0) 1 = true ∧ dq 137 60 (.getfield 20) 3 = true ∧ dq 137 63 (.iconst 1) 1 = true ∧ dq 137 64 (.isub) 1 = true ∧ dq 137 65 (.ireturn) 1 = true := by decide +kernel
theorem dX10_addTicket_53 : decode (mB 137) 53 = .ok (.iconst 1, 1) := dqo gX10_addTicket_53.1
theorem dX10_addTicket_54 : decode (mB 137) 54 = .ok (.isub, 1) := dqo gX10_addTicket_53.2.1
theorem dX10_addTicket_55 : decode (mB 137) 55 = .ok (.iload_n 3, 1) := dqo gX10_addTicket_53.2.2.1
theorem dX10_addTicket_56 : decode (mB 137) 56 = .ok (.invokevirtual 42, 3) := dqo gX10_addTicket_53.2.2.2.1
theorem dX10_addTicket_59 : decode (mB 137) 59 = .ok (.aload_n 0, 1) := dqo gX10_addTicket_53.2.2.2.2.1
theorem dX10_addTicket_60 : decode (mB 137) 60 = .ok (.getfield 20, 3) := dqo gX10_addTicket_53.2.2.2.2.2.1
theorem dX10_addTicket_63 : decode (mB 137) 63 = .ok (.iconst 1, 1) := dqo gX10_addTicket_53.2.2.2.2.2.2.1
theorem dX10_addTicket_64 : decode (mB 137) 64 = .ok (.isub, 1) := dqo gX10_addTicket_53.2.2.2.2.2.2.2.1
theorem dX10_addTicket_65 : decode (mB 137) 65 = .ok (.ireturn, 1) := dqo gX10_addTicket_53.2.2.2.2.2.2.2.2
theorem gX11_init_0 : dq 138 0 (.aload_n 0) 1 = true ∧ dq 138 1 (.invokespecial 1) 3 = true ∧ dq 138 4 (.aload_n 0) 1 = true ∧ dq 138 5 (.new 7) 3 = true ∧ dq 138 8 (.dup) 1 = true ∧ dq 138 9 (.invokespecial 9) 3 = true ∧ dq 138 12 (.putfield 10) 3 = true ∧ dq 138 15 (.aload_n 0) 1 = true ∧ dq 138 16 (.new 16) 3 = true ∧ dq 138 19 (.dup) 1 = true ∧ dq 138 20 (.invokespecial 18) 3 = true ∧ dq 138 23 (.putfield 19) 3 = true ∧ dq 138 26 (.aload_n 0) 1 = true ∧ dq 138 27 (.new 23) 3 = true ∧ dq 138 30 (.dup) 1 = true ∧ dq 138 31 (.invokespecial 25) 3 = true := by decide +kernel
theorem dX11_init_0 : decode (mB 138) 0 = .ok (.aload_n 0, 1) := dqo gX11_init_0.1
theorem dX11_init_1 : decode (mB 138) 1 = .ok (.invokespecial 1, 3) := dqo gX11_init_0.2.1
theorem dX11_init_4 : decode (mB 138) 4 = .ok (.aload_n 0, 1) := dqo gX11_init_0.2.2.1
theorem dX11_init_5 : decode (mB 138) 5 = .ok (.new 7, 3) := dqo gX11_init_0.2.2.2.1
theorem dX11_init_8 : decode (mB 138) 8 = .ok (.dup, 1) := dqo gX11_init_0.2.2.2.2.1
theorem dX11_init_9 : decode (mB 138) 9 = .ok (.invokespecial 9, 3) := dqo gX11_init_0.2.2.2.2.2.1
theorem dX11_init_12 : decode (mB 138) 12 = .ok (.putfield 10, 3) := dqo gX11_init_0.2.2.2.2.2.2.1
theorem dX11_init_15 : decode (mB 138) 15 = .ok (.aload_n 0, 1) := dqo gX11_init_0.2.2.2.2.2.2.2.1
theorem dX11_init_16 : decode (mB 138) 16 = .ok (.new 16, 3) := dqo gX11_init_0.2.2.2.2.2.2.2.2.1
theorem dX11_init_19 : decode (mB 138) 19 = .ok (.dup, 1) := dqo gX11_init_0.2.2.2.2.2.2.2.2.2.1
theorem dX11_init_20 : decode (mB 138) 20 = .ok (.invokespecial 18, 3) := dqo gX11_init_0.2.2.2.2.2.2.2.2.2.2.1
theorem dX11_init_23 : decode (mB 138) 23 = .ok (.putfield 19, 3) := dqo gX11_init_0.2.2.2.2.2.2.2.2.2.2.2.1
theorem dX11_init_26 : decode (mB 138) 26 = .ok (.aload_n 0, 1) := dqo gX11_init_0.2.2.2.2.2.2.2.2.2.2.2.2.1
theorem dX11_init_27 : decode (mB 138) 27 = .ok (.new 23, 3) := dqo gX11_init_0.2.2.2.2.2.2.2.2.2.2.2.2.2.1
theorem dX11_init_30 : decode (mB 138) 30 = .ok (.dup, 1) := dqo gX11_init_0.2.2.2.2.2.2.2.2.2.2.2.2.2.2.1
theorem dX11_init_31 : decode (mB 138) 31 = .ok (.invokespecial 25, 3) := dqo gX11_init_0.2.2.2.2.2.2.2.2.2.2.2.2.2.2.2
theorem gX11_init_34 : dq 138 34 (.putfield 26) 3 = true ∧ dq 138 37 (.aload_n 0) 1 = true ∧ dq 138 38 (.new 30) 3 = true ∧ dq 138 41 (.dup) 1 = true ∧ dq 138 42 (.aload_n 0) 1 = true ∧ dq 138 43 (.getfield 10) 3 = true ∧ dq 138 46 (.aload_n 0) 1 = true ∧ dq 138 47 (.getfield 19) 3 = true ∧ dq 138 50 (.invokespecial 32) 3 = true ∧ dq 138 53 (.putfield 35) 3 = true ∧ dq 138 56 (.aload_n 0) 1 = true ∧ dq 138 57 (.new 39) 3 = true ∧ dq 138 60 (.dup) 1 = true ∧ dq 138 61 (.invokespecial 41) 3 = true ∧ dq 138 64 (.putfield 42) 3 = true ∧ dq 138 67 (.aload_n 0) 1 = true := by decide +kernel
theorem dX11_init_34 : decode (mB 138) 34 = .ok (.putfield 26, 3) := dqo gX11_init_34.1
theorem dX11_init_37 : decode (mB 138) 37 = .ok (.aload_n 0, 1) := dqo gX11_init_34.2.1
theorem dX11_init_38 : decode (mB 138) 38 = .ok (.new 30, 3) := dqo gX11_init_34.2.2.1
theorem dX11_init_41 : decode (mB 138) 41 = .ok (.dup, 1) := dqo gX11_init_34.2.2.2.1
theorem dX11_init_42 : decode (mB 138) 42 = .ok (.aload_n 0, 1) := dqo gX11_init_34.2.2.2.2.1
theorem dX11_init_43 : decode (mB 138) 43 = .ok (.getfield 10, 3) := dqo gX11_init_34.2.2.2.2.2.1
theorem dX11_init_46 : decode (mB 138) 46 = .ok (.aload_n 0, 1) := dqo gX11_init_34.2.2.2.2.2.2.1
theorem dX11_init_47 : decode (mB 138) 47 = .ok (.getfield 19, 3) := dqo gX11_init_34.2.2.2.2.2.2.2.1
theorem dX11_init_50 : decode (mB 138) 50 = .ok (.invokespecial 32, 3) := dqo gX11_init_34.2.2.2.2.2.2.2.2.1
theorem dX11_init_53 : decode (mB 138) 53 = .ok (.putfield 35, 3) := dqo gX11_init_34.2.2.2.2.2.2.2.2.2.1
theorem dX11_init_56 : decode (mB 138) 56 = .ok (.aload_n 0, 1) := dqo gX11_init_34.2.2.2.2.2.2.2.2.2.2.1
theorem dX11_init_57 : decode (mB 138) 57 = .ok (.new 39, 3) := dqo gX11_init_34.2.2.2.2.2.2.2.2.2.2.2.1
theorem dX11_init_60 : decode (mB 138) 60 = .ok (.dup, 1) := dqo gX11_init_34.2.2.2.2.2.2.2.2.2.2.2.2.1
theorem dX11_init_61 : decode (mB 138) 61 = .ok (.invokespecial 41, 3) := dqo gX11_init_34.2.2.2.2.2.2.2.2.2.2.2.2.2.1
theorem dX11_init_64 : decode (mB 138) 64 = .ok (.putfield 42, 3) := dqo gX11_init_34.2.2.2.2.2.2.2.2.2.2.2.2.2.2.1
theorem dX11_init_67 : decode (mB 138) 67 = .ok (.aload_n 0, 1) := dqo gX11_init_34.2.2.2.2.2.2.2.2.2.2.2.2.2.2.2
theorem gX11_init_68 : dq 138 68 (.new 46) 3 = true ∧ dq 138 71 (.dup) 1 = true ∧ dq 138 72 (.aload_n 0) 1 = true ∧ dq 138 73 (.getfield 10) 3 = true ∧ dq 138 76 (.aload_n 0) 1 = true ∧ dq 138 77 (.getfield 35) 3 = true ∧ dq 138 80 (.invokespecial 48) 3 = true ∧ dq 138 83 (.putfield 51) 3 = true ∧ dq 138 86 (.aload_n 0) 1 = true ∧ dq 138 87 (.new 55) 3 = true ∧ dq 138 90 (.dup) 1 = true ∧ dq 138 91 (.aload_n 0) 1 = true ∧ dq 138 92 (.getfield 10) 3 = true ∧ dq 138 95 (.aload_n 0) 1 = true ∧ dq 138 96 (.getfield 35) 3 = true ∧ dq 138 99 (.aload_n 0) 1 = true := by decide +kernel
theorem dX11_init_68 : decode (mB 138) 68 = .ok (.new 46, 3) := dqo gX11_init_68.1
theorem dX11_init_71 : decode (mB 138) 71 = .ok (.dup, 1) := dqo gX11_init_68.2.1
theorem dX11_init_72 : decode (mB 138) 72 = .ok (.aload_n 0, 1) := dqo gX11_init_68.2.2.1
theorem dX11_init_73 : decode (mB 138) 73 = .ok (.getfield 10, 3) := dqo gX11_init_68.2.2.2.1
theorem dX11_init_76 : decode (mB 138) 76 = .ok (.aload_n 0, 1) := dqo gX11_init_68.2.2.2.2.1
theorem dX11_init_77 : decode (mB 138) 77 = .ok (.getfield 35, 3) := dqo gX11_init_68.2.2.2.2.2.1
theorem dX11_init_80 : decode (mB 138) 80 = .ok (.invokespecial 48, 3) := dqo gX11_init_68.2.2.2.2.2.2.1
theorem dX11_init_83 : decode (mB 138) 83 = .ok (.putfield 51, 3) := dqo gX11_init_68.2.2.2.2.2.2.2.1
theorem dX11_init_86 : decode (mB 138) 86 = .ok (.aload_n 0, 1) := dqo gX11_init_68.2.2.2.2.2.2.2.2.1
theorem dX11_init_87 : decode (mB 138) 87 = .ok (.new 55, 3) := dqo gX11_init_68.2.2.2.2.2.2.2.2.2.1
theorem dX11_init_90 : decode (mB 138) 90 = .ok (.dup, 1) := dqo gX11_init_68.2.2.2.2.2.2.2.2.2.2.1
theorem dX11_init_91 : decode (mB 138) 91 = .ok (.aload_n 0, 1) := dqo gX11_init_68.2.2.2.2.2.2.2.2.2.2.2.1
theorem dX11_init_92 : decode (mB 138) 92 = .ok (.getfield 10, 3) := dqo gX11_init_68.2.2.2.2.2.2.2.2.2.2.2.2.1
theorem dX11_init_95 : decode (mB 138) 95 = .ok (.aload_n 0, 1) := dqo gX11_init_68.2.2.2.2.2.2.2.2.2.2.2.2.2.1
theorem dX11_init_96 : decode (mB 138) 96 = .ok (.getfield 35, 3) := dqo gX11_init_68.2.2.2.2.2.2.2.2.2.2.2.2.2.2.1
theorem dX11_init_99 : decode (mB 138) 99 = .ok (.aload_n 0, 1) := dqo gX11_init_68.2.2.2.2.2.2.2.2.2.2.2.2.2.2.2
theorem gX11_init_100 : dq 138 100 (.getfield 51) 3 = true ∧ dq 138 103 (.invokespecial 57) 3 = true ∧ dq 138 106 (.putfield 60) 3 = true ∧ dq 138 109 (.aload_n 0) 1 = true ∧ dq 138 110 (.new 64) 3 = true ∧ dq 138 113 (.dup) 1 = true ∧ dq 138 114 (.aload_n 0) 1 = true ∧ dq 138 115 (.getfield 10) 3 = true ∧ dq 138 118 (.aload_n 0) 1 = true ∧ dq 138 119 (.getfield 35) 3 = true ∧ dq 138 122 (.invokespecial 66) 3 = true ∧ dq 138 125 (.putfield 67) 3 = true ∧ dq 138 128 (.aload_n 0) 1 = true ∧ dq 138 129 (.new 71) 3 = true ∧ dq 138 132 (.dup) 1 = true ∧ dq 138 133 (.aload_n 0) 1 = true := by decide +kernel
theorem dX11_init_100 : decode (mB 138) 100 = .ok (.getfield 51, 3) := dqo gX11_init_100.1
theorem dX11_init_103 : decode (mB 138) 103 = .ok (.invokespecial 57, 3) := dqo gX11_init_100.2.1
theorem dX11_init_106 : decode (mB 138) 106 = .ok (.putfield 60, 3) := dqo gX11_init_100.2.2.1
theorem dX11_init_109 : decode (mB 138) 109 = .ok (.aload_n 0, 1) := dqo gX11_init_100.2.2.2.1
theorem dX11_init_110 : decode (mB 138) 110 = .ok (.new 64, 3) := dqo gX11_init_100.2.2.2.2.1
theorem dX11_init_113 : decode (mB 138) 113 = .ok (.dup, 1) := dqo gX11_init_100.2.2.2.2.2.1
theorem dX11_init_114 : decode (mB 138) 114 = .ok (.aload_n 0, 1) := dqo gX11_init_100.2.2.2.2.2.2.1
theorem dX11_init_115 : decode (mB 138) 115 = .ok (.getfield 10, 3) := dqo gX11_init_100.2.2.2.2.2.2.2.1
theorem dX11_init_118 : decode (mB 138) 118 = .ok (.aload_n 0, 1) := dqo gX11_init_100.2.2.2.2.2.2.2.2.1
theorem dX11_init_119 : decode (mB 138) 119 = .ok (.getfield 35, 3) := dqo gX11_init_100.2.2.2.2.2.2.2.2.2.1
theorem dX11_init_122 : decode (mB 138) 122 = .ok (.invokespecial 66, 3) := dqo gX11_init_100.2.2.2.2.2.2.2.2.2.2.1
theorem dX11_init_125 : decode (mB 138) 125 = .ok (.putfield 67, 3) := dqo gX11_init_100.2.2.2.2.2.2.2.2.2.2.2.1
theorem dX11_init_128 : decode (mB 138) 128 = .ok (.aload_n 0, 1) := dqo gX11_init_100.2.2.2.2.2.2.2.2.2.2.2.2.1
theorem dX11_init_129 : decode (mB 138) 129 = .ok (.new 71, 3) := dqo gX11_init_100.2.2.2.2.2.2.2.2.2.2.2.2.2.1
theorem dX11_init_132 : decode (mB 138) 132 = .ok (.dup, 1) := dqo gX11_init_100.2.2.2.2.2.2.2.2.2.2.2.2.2.2.1
theorem dX11_init_133 : decode (mB 138) 133 = .ok (.aload_n 0, 1) := dqo gX11_init_100.2.2.2.2.2.2.2.2.2.2.2.2.2.2.2
theorem gX11_init_134 : dq 138 134 (.getfield 10) 3 = true ∧ dq 138 137 (.invokespecial 73) 3 = true ∧ dq 138 140 (.putfield 76) 3 = true ∧ dq 138 143 (.aload_n 0) 1 = true ∧ dq 138 144 (.new 80) 3 = true ∧ dq 138 147 (.dup) 1 = true ∧ dq 138 148 (.aload_n 0) 1 = true ∧ dq 138 149 (.getfield 10) 3 = true ∧ dq 138 152 (.invokespecial 82) 3 = true ∧ dq 138 155 (.putfield 83) 3 = true ∧ dq 138 158 (.aload_n 0) 1 = true ∧ dq 138 159 (.new 87) 3 = true ∧ dq 138 162 (.dup) 1 = true ∧ dq 138 163 (.invokespecial 89) 3 = true ∧ dq 138 166 (.putfield 90) 3 = true ∧ dq 138 169 (.return_) 1 = true := by decide +kernel
theorem dX11_init_134 : decode (mB 138) 134 = .ok (.getfield 10, 3) := dqo gX11_init_134.1
theorem dX11_init_137 : decode (mB 138) 137 = .ok (.invokespecial 73, 3) := dqo gX11_init_134.2.1
theorem dX11_init_140 : decode (mB 138) 140 = .ok (.putfield 76, 3) := dqo gX11_init_134.2.2.1
theorem dX11_init_143 : decode (mB 138) 143 = .ok (.aload_n 0, 1) := dqo gX11_init_134.2.2.2.1
theorem dX11_init_144 : decode (mB 138) 144 = .ok (.new 80, 3) := dqo gX11_init_134.2.2.2.2.1
theorem dX11_init_147 : decode (mB 138) 147 = .ok (.dup, 1) := dqo gX11_init_134.2.2.2.2.2.1
theorem dX11_init_148 : decode (mB 138) 148 = .ok (.aload_n 0, 1) := dqo gX11_init_134.2.2.2.2.2.2.1
theorem dX11_init_149 : decode (mB 138) 149 = .ok (.getfield 10, 3) := dqo gX11_init_134.2.2.2.2.2.2.2.1
theorem dX11_init_152 : decode (mB 138) 152 = .ok (.invokespecial 82, 3) := dqo gX11_init_134.2.2.2.2.2.2.2.2.1
theorem dX11_init_155 : decode (mB 138) 155 = .ok (.putfield 83, 3) := dqo gX11_init_134.2.2.2.2.2.2.2.2.2.1
theorem dX11_init_158 : decode (mB 138) 158 = .ok (.aload_n 0, 1) := dqo gX11_init_134.2.2.2.2.2.2.2.2.2.2.1
theorem dX11_init_159 : decode (mB 138) 159 = .ok (.new 87, 3) := dqo gX11_init_134.2.2.2.2.2.2.2.2.2.2.2.1
theorem dX11_init_162 : decode (mB 138) 162 = .ok (.dup, 1) := dqo gX11_init_134.2.2.2.2.2.2.2.2.2.2.2.2.1
theorem dX11_init_163 : decode (mB 138) 163 = .ok (.invokespecial 89, 3) := dqo gX11_init_134.2.2.2.2.2.2.2.2.2.2.2.2.2.1
theorem dX11_init_166 : decode (mB 138) 166 = .ok (.putfield 90, 3) := dqo gX11_init_134.2.2.2.2.2.2.2.2.2.2.2.2.2.2.1
theorem dX11_init_169 : decode (mB 138) 169 = .ok (.return_, 1) := dqo gX11_init_134.2.2.2.2.2.2.2.2.2.2.2.2.2.2.2
theorem gX11_person_0 : dq 139 0 (.aload_n 0) 1 = true ∧ dq 139 1 (.getfield 10) 3 = true ∧ dq 139 4 (.iconst 0) 1 = true ∧ dq 139 5 (.iload_n 1) 1 = true ∧ dq 139 6 (.invokevirtual 94) 3 = true ∧ dq 139 9 (.ifCond .ne 5) 3 = true ∧ dq 139 12 (.iconst (-1)) 1 = true ∧ dq 139 13 (.ireturn) 1 = true ∧ dq 139 14 (.aload_n 0) 1 = true ∧ dq 139 15 (.getfield 10) 3 = true ∧ dq 139 18 (.iload_n 1) 1 = true ∧ dq 139 19 (.invokevirtual 98) 3 = true ∧ dq 139 22 (.ireturn) 1 = true := by decide +kernel
theorem dX11_person_0 : decode (mB 139) 0 = .ok (.aload_n 0, 1) := dqo gX11_person_0.1
theorem dX11_person_1 : decode (mB 139) 1 = .ok (.getfield 10, 3) := dqo gX11_person_0.2.1
theorem dX11_person_4 : decode (mB 139) 4 = .ok (.iconst 0, 1) := dqo gX11_person_0.2.2.1
theorem dX11_person_5 : decode (mB 139) 5 = .ok (.iload_n 1, 1) := dqo gX11_person_0.2.2.2.1
theorem dX11_person_6 : decode (mB 139) 6 = .ok (.invokevirtual 94, 3) := dqo gX11_person_0.2.2.2.2.1
theorem dX11_person_9 : decode (mB 139) 9 = .ok (.ifCond .ne 5, 3) := dqo gX11_person_0.2.2.2.2.2.1
theorem dX11_person_12 : decode (mB 139) 12 = .ok (.iconst (-1), 1) := dqo gX11_person_0.2.2.2.2.2.2.1
theorem dX11_person_13 : decode (mB 139) 13 = .ok (.ireturn, 1) := dqo gX11_person_0.2.2.2.2.2.2.2.1
theorem dX11_person_14 : decode (mB 139) 14 = .ok (.aload_n 0, 1) := dqo gX11_person_0.2.2.2.2.2.2.2.2.1
theorem dX11_person_15 : decode (mB 139) 15 = .ok (.getfield 10, 3) := dqo gX11_person_0.2.2.2.2.2.2.2.2.2.1
theorem dX11_person_18 : decode (mB 139) 18 = .ok (.iload_n 1, 1) := dqo gX11_person_0.2.2.2.2.2.2.2.2.2.2.1
theorem dX11_person_19 : decode (mB 139) 19 = .ok (.invokevirtual 98, 3) := dqo gX11_person_0.2.2.2.2.2.2.2.2.2.2.2.1
theorem dX11_person_22 : decode (mB 139) 22 = .ok (.ireturn, 1) := dqo gX11_person_0.2.2.2.2.2.2.2.2.2.2.2.2
theorem gX11_ticket_0 : dq 140 0 (.aload_n 0) 1 = true ∧ dq 140 1 (.getfield 10) 3 = true ∧ dq 140 4 (.iconst 4) 1 = true ∧ dq 140 5 (.iload_n 1) 1 = true ∧ dq 140 6 (.invokevirtual 94) 3 = true ∧ dq 140 9 (.ifCond .eq 15) 3 = true ∧ dq 140 12 (.aload_n 0) 1 = true ∧ dq 140 13 (.getfield 10) 3 = true ∧ dq 140 16 (.iconst 5) 1 = true ∧ dq 140 17 (.iload_n 2) 1 = true ∧ dq 140 18 (.invokevirtual 94) 3 = true ∧ dq 140 21 (.ifCond .ne 5) 3 = true ∧ dq 140 24 (.iconst (-1)) 1 = true ∧ dq 140 25 (.ireturn) 1 = true ∧ dq 140 26 (.aload_n 0) 1 = true ∧ dq 140 27 (.getfield 10) 3 = true := by decide +kernel
theorem dX11_ticket_0 : decode (mB 140) 0 = .ok (.aload_n 0, 1) := dqo gX11_ticket_0.1
theorem dX11_ticket_1 : decode (mB 140) 1 = .ok (.getfield 10, 3) := dqo gX11_ticket_0.2.1
theorem dX11_ticket_4 : decode (mB 140) 4 = .ok (.iconst 4, 1) := dqo gX11_ticket_0.2.2.1
theorem dX11_ticket_5 : decode (mB 140) 5 = .ok (.iload_n 1, 1) := dqo gX11_ticket_0.2.2.2.1
theorem dX11_ticket_6 : decode (mB 140) 6 = .ok (.invokevirtual 94, 3) := dqo gX11_ticket_0.2.2.2.2.1
theorem dX11_ticket_9 : decode (mB 140) 9 = .ok (.ifCond .eq 15, 3) := dqo gX11_ticket_0.2.2.2.2.2.1
theorem dX11_ticket_12 : decode (mB 140) 12 = .ok (.aload_n 0, 1) := dqo gX11_ticket_0.2.2.2.2.2.2.1
theorem dX11_ticket_13 : decode (mB 140) 13 = .ok (.getfield 10, 3) := dqo gX11_ticket_0.2.2.2.2.2.2.2.1
theorem dX11_ticket_16 : decode (mB 140) 16 = .ok (.iconst 5, 1) := dqo gX11_ticket_0.2.2.2.2.2.2.2.2.1
theorem dX11_ticket_17 : decode (mB 140) 17 = .ok (.iload_n 2, 1) := dqo gX11_ticket_0.2.2.2.2.2.2.2.2.2.1
theorem dX11_ticket_18 : decode (mB 140) 18 = .ok (.invokevirtual 94, 3) := dqo gX11_ticket_0.2.2.2.2.2.2.2.2.2.2.1
theorem dX11_ticket_21 : decode (mB 140) 21 = .ok (.ifCond .ne 5, 3) := dqo gX11_ticket_0.2.2.2.2.2.2.2.2.2.2.2.1
theorem dX11_ticket_24 : decode (mB 140) 24 = .ok (.iconst (-1), 1) := dqo gX11_ticket_0.2.2.2.2.2.2.2.2.2.2.2.2.1
theorem dX11_ticket_25 : decode (mB 140) 25 = .ok (.ireturn, 1) := dqo gX11_ticket_0.2.2.2.2.2.2.2.2.2.2.2.2.2.1
theorem dX11_ticket_26 : decode (mB 140) 26 = .ok (.aload_n 0, 1) := dqo gX11_ticket_0.2.2.2.2.2.2.2.2.2.2.2.2.2.2.1
theorem dX11_ticket_27 : decode (mB 140) 27 = .ok (.getfield 10, 3) := dqo gX11_ticket_0.2.2.2.2.2.2.2.2.2.2.2.2.2.2.2
theorem gX11_ticket_30 : dq 140 30 (.iload_n 1) 1 = true ∧ dq 140 31 (.iload_n 2) 1 = true ∧ dq 140 32 (.iconst 0) 1 = true ∧ dq 140 33 (.invokevirtual 102) 3 = true ∧ dq 140 36 (.ireturn) 1 = true := by decide +kernel
theorem dX11_ticket_30 : decode (mB 140) 30 = .ok (.iload_n 1, 1) := dqo gX11_ticket_30.1
theorem dX11_ticket_31 : decode (mB 140) 31 = .ok (.iload_n 2, 1) := dqo gX11_ticket_30.2.1
theorem dX11_ticket_32 : decode (mB 140) 32 = .ok (.iconst 0, 1) := dqo gX11_ticket_30.2.2.1
theorem dX11_ticket_33 : decode (mB 140) 33 = .ok (.invokevirtual 102, 3) := dqo gX11_ticket_30.2.2.2.1
theorem dX11_ticket_36 : decode (mB 140) 36 = .ok (.ireturn, 1) := dqo gX11_ticket_30.2.2.2.2
theorem gX11_tickets_0 : dq 141 0 (.aload_n 0) 1 = true ∧ dq 141 1 (.getfield 42) 3 = true ∧ dq 141 4 (.iload_n 1) 1 = true ∧ dq 141 5 (.invokevirtual 106) 3 = true ∧ dq 141 8 (.ifCond .eq 14) 3 = true ∧ dq 141 11 (.iload_n 3) 1 = true ∧ dq 141 12 (.iconst 1) 1 = true ∧ dq 141 13 (.if_icmp .lt 9) 3 = true ∧ dq 141 16 (.iload_n 3) 1 = true ∧ dq 141 17 (.bipush 12) 2 = true ∧ dq 141 19 (.if_icmp .le 5) 3 = true ∧ dq 141 22 (.iconst (-1)) 1 = true ∧ dq 141 23 (.ireturn) 1 = true ∧ dq 141 24 (.aload_n 0) 1 = true ∧ dq 141 25 (.getfield 42) 3 = true ∧ dq 141 28 (.iload_n 1) 1 = true := by decide +kernel
theorem dX11_tickets_0 : decode (mB 141) 0 = .ok (.aload_n 0, 1) := dqo gX11_tickets_0.1
theorem dX11_tickets_1 : decode (mB 141) 1 = .ok (.getfield 42, 3) := dqo gX11_tickets_0.2.1
theorem dX11_tickets_4 : decode (mB 141) 4 = .ok (.iload_n 1, 1) := dqo gX11_tickets_0.2.2.1
theorem dX11_tickets_5 : decode (mB 141) 5 = .ok (.invokevirtual 106, 3) := dqo gX11_tickets_0.2.2.2.1
theorem dX11_tickets_8 : decode (mB 141) 8 = .ok (.ifCond .eq 14, 3) := dqo gX11_tickets_0.2.2.2.2.1
theorem dX11_tickets_11 : decode (mB 141) 11 = .ok (.iload_n 3, 1) := dqo gX11_tickets_0.2.2.2.2.2.1
theorem dX11_tickets_12 : decode (mB 141) 12 = .ok (.iconst 1, 1) := dqo gX11_tickets_0.2.2.2.2.2.2.1
theorem dX11_tickets_13 : decode (mB 141) 13 = .ok (.if_icmp .lt 9, 3) := dqo gX11_tickets_0.2.2.2.2.2.2.2.1
theorem dX11_tickets_16 : decode (mB 141) 16 = .ok (.iload_n 3, 1) := dqo gX11_tickets_0.2.2.2.2.2.2.2.2.1
theorem dX11_tickets_17 : decode (mB 141) 17 = .ok (.bipush 12, 2) := dqo gX11_tickets_0.2.2.2.2.2.2.2.2.2.1
theorem dX11_tickets_19 : decode (mB 141) 19 = .ok (.if_icmp .le 5, 3) := dqo gX11_tickets_0.2.2.2.2.2.2.2.2.2.2.1
theorem dX11_tickets_22 : decode (mB 141) 22 = .ok (.iconst (-1), 1) := dqo gX11_tickets_0.2.2.2.2.2.2.2.2.2.2.2.1
theorem dX11_tickets_23 : decode (mB 141) 23 = .ok (.ireturn, 1) := dqo gX11_tickets_0.2.2.2.2.2.2.2.2.2.2.2.2.1
theorem dX11_tickets_24 : decode (mB 141) 24 = .ok (.aload_n 0, 1) := dqo gX11_tickets_0.2.2.2.2.2.2.2.2.2.2.2.2.2.1
theorem dX11_tickets_25 : decode (mB 141) 25 = .ok (.getfield 42, 3) := dqo gX11_tickets_0.2.2.2.2.2.2.2.2.2.2.2.2.2.2.1
theorem dX11_tickets_28 : decode (mB 141) 28 = .ok (.iload_n 1, 1) := dqo gX11_tickets_0.2.2.2.2.2.2.2.2.2.2.2.2.2.2.2
theorem gX11_tickets_29 : dq 141 29 (.invokevirtual 110) 3 = true ∧ dq 141 32 (.istore 4) 2 = true ∧ dq 141 34 (.iload 4) 2 = true ∧ dq 141 36 (.bipush (-12)) 2 = true ∧ dq 141 38 (.if_icmp .ne 6) 3 = true ∧ dq 141 41 (.bipush (-12)) 2 = true ∧ dq 141 43 (.ireturn) 1 = true ∧ dq 141 44 (.iload 4) 2 = true ∧ dq 141 46 (.bipush (-11)) 2 = true ∧ dq 141 48 (.if_icmp .eq 7) 3 = true ∧ dq 141 51 (.iload_n 2) 1 = true ∧ dq 141 52 (.ifCond .ge 5) 3 = true ∧ dq 141 55 (.iconst 0) 1 = true ∧ dq 141 56 (.ireturn) 1 = true ∧ dq 141 57 (.iconst 0) 1 = true ∧ dq 141 58 (.istore 5) 2 = true := by decide +kernel
theorem dX11_tickets_29 : decode (mB 141) 29 = .ok (.invokevirtual 110, 3) := dqo gX11_tickets_29.1
theorem dX11_tickets_32 : decode (mB 141) 32 = .ok (.istore 4, 2) := dqo gX11_tickets_29.2.1
theorem dX11_tickets_34 : decode (mB 141) 34 = .ok (.iload 4, 2) := dqo gX11_tickets_29.2.2.1
theorem dX11_tickets_36 : decode (mB 141) 36 = .ok (.bipush (-12), 2) := dqo gX11_tickets_29.2.2.2.1
theorem dX11_tickets_38 : decode (mB 141) 38 = .ok (.if_icmp .ne 6, 3) := dqo gX11_tickets_29.2.2.2.2.1
theorem dX11_tickets_41 : decode (mB 141) 41 = .ok (.bipush (-12), 2) := dqo gX11_tickets_29.2.2.2.2.2.1
theorem dX11_tickets_43 : decode (mB 141) 43 = .ok (.ireturn, 1) := dqo gX11_tickets_29.2.2.2.2.2.2.1
theorem dX11_tickets_44 : decode (mB 141) 44 = .ok (.iload 4, 2) := dqo gX11_tickets_29.2.2.2.2.2.2.2.1
theorem dX11_tickets_46 : decode (mB 141) 46 = .ok (.bipush (-11), 2) := dqo gX11_tickets_29.2.2.2.2.2.2.2.2.1
theorem dX11_tickets_48 : decode (mB 141) 48 = .ok (.if_icmp .eq 7, 3) := dqo gX11_tickets_29.2.2.2.2.2.2.2.2.2.1
theorem dX11_tickets_51 : decode (mB 141) 51 = .ok (.iload_n 2, 1) := dqo gX11_tickets_29.2.2.2.2.2.2.2.2.2.2.1
theorem dX11_tickets_52 : decode (mB 141) 52 = .ok (.ifCond .ge 5, 3) := dqo gX11_tickets_29.2.2.2.2.2.2.2.2.2.2.2.1
theorem dX11_tickets_55 : decode (mB 141) 55 = .ok (.iconst 0, 1) := dqo gX11_tickets_29.2.2.2.2.2.2.2.2.2.2.2.2.1
theorem dX11_tickets_56 : decode (mB 141) 56 = .ok (.ireturn, 1) := dqo gX11_tickets_29.2.2.2.2.2.2.2.2.2.2.2.2.2.1
theorem dX11_tickets_57 : decode (mB 141) 57 = .ok (.iconst 0, 1) := dqo gX11_tickets_29.2.2.2.2.2.2.2.2.2.2.2.2.2.2.1
theorem dX11_tickets_58 : decode (mB 141) 58 = .ok (.istore 5, 2) := dqo gX11_tickets_29.2.2.2.2.2.2.2.2.2.2.2.2.2.2.2
theorem gX11_tickets_60 : dq 141 60 (.iconst 0) 1 = true ∧ dq 141 61 (.istore 6) 2 = true ∧ dq 141 63 (.iload 6) 2 = true ∧ dq 141 65 (.iload_n 3) 1 = true ∧ dq 141 66 (.if_icmp .ge 23) 3 = true ∧ dq 141 69 (.aload_n 0) 1 = true ∧ dq 141 70 (.iload_n 1) 1 = true ∧ dq 141 71 (.iload_n 2) 1 = true ∧ dq 141 72 (.iload 6) 2 = true ∧ dq 141 74 (.invokevirtual 113) 3 = true ∧ dq 141 77 (.ifCond .eq 12) 3 = true ∧ dq 141 80 (.iinc 5 1) 3 = true ∧ dq 141 83 (.iinc 6 1) 3 = true ∧ dq 141 86 (.goto (-23)) 3 = true ∧ dq 141 89 (.iload 5) 2 = true ∧ dq 141 91 (.ireturn) 1 = true := by decide +kernel
theorem dX11_tickets_60 : decode (mB 141) 60 = .ok (.iconst 0, 1) := dqo gX11_tickets_60.1
theorem dX11_tickets_61 : decode (mB 141) 61 = .ok (.istore 6, 2) := dqo gX11_tickets_60.2.1
theorem dX11_tickets_63 : decode (mB 141) 63 = .ok (.iload 6, 2) := dqo gX11_tickets_60.2.2.1
theorem dX11_tickets_65 : decode (mB 141) 65 = .ok (.iload_n 3, 1) := dqo gX11_tickets_60.2.2.2.1
theorem dX11_tickets_66 : decode (mB 141) 66 = .ok (.if_icmp .ge 23, 3) := dqo gX11_tickets_60.2.2.2.2.1
theorem dX11_tickets_69 : decode (mB 141) 69 = .ok (.aload_n 0, 1) := dqo gX11_tickets_60.2.2.2.2.2.1
theorem dX11_tickets_70 : decode (mB 141) 70 = .ok (.iload_n 1, 1) := dqo gX11_tickets_60.2.2.2.2.2.2.1
theorem dX11_tickets_71 : decode (mB 141) 71 = .ok (.iload_n 2, 1) := dqo gX11_tickets_60.2.2.2.2.2.2.2.1
theorem dX11_tickets_72 : decode (mB 141) 72 = .ok (.iload 6, 2) := dqo gX11_tickets_60.2.2.2.2.2.2.2.2.1
theorem dX11_tickets_74 : decode (mB 141) 74 = .ok (.invokevirtual 113, 3) := dqo gX11_tickets_60.2.2.2.2.2.2.2.2.2.1
theorem dX11_tickets_77 : decode (mB 141) 77 = .ok (.ifCond .eq 12, 3) := dqo gX11_tickets_60.2.2.2.2.2.2.2.2.2.2.1
theorem dX11_tickets_80 : decode (mB 141) 80 = .ok (.iinc 5 1, 3) := dqo gX11_tickets_60.2.2.2.2.2.2.2.2.2.2.2.1
theorem dX11_tickets_83 : decode (mB 141) 83 = .ok (.iinc 6 1, 3) := dqo gX11_tickets_60.2.2.2.2.2.2.2.2.2.2.2.2.1
theorem dX11_tickets_86 : decode (mB 141) 86 = .ok (.goto (-23), 3) := dqo gX11_tickets_60.2.2.2.2.2.2.2.2.2.2.2.2.2.1
theorem dX11_tickets_89 : decode (mB 141) 89 = .ok (.iload 5, 2) := dqo gX11_tickets_60.2.2.2.2.2.2.2.2.2.2.2.2.2.2.1
theorem dX11_tickets_91 : decode (mB 141) 91 = .ok (.ireturn, 1) := dqo gX11_tickets_60.2.2.2.2.2.2.2.2.2.2.2.2.2.2.2
theorem gX11_addFromRow_0 : dq 142 0 (.iload_n 2) 1 = true ∧ dq 142 1 (.i2l) 1 = true ∧ dq 142 2 (.ldc2_w 117) 3 = true ∧ dq 142 5 (.iload_n 3) 1 = true ∧ dq 142 6 (.i2l) 1 = true ∧ dq 142 7 (.lmul) 1 = true ∧ dq 142 8 (.ladd) 1 = true ∧ dq 142 9 (.lstore 4) 2 = true ∧ dq 142 11 (.lload 4) 2 = true ∧ dq 142 13 (.ldc2_w 117) 3 = true ∧ dq 142 16 (.ladd) 1 = true ∧ dq 142 17 (.aload_n 0) 1 = true ∧ dq 142 18 (.getfield 42) 3 = true ∧ dq 142 21 (.iload_n 1) 1 = true ∧ dq 142 22 (.invokevirtual 119) 3 = true ∧ dq 142 25 (.i2l) 1 = true := by decide +kernel
theorem dX11_addFromRow_0 : decode (mB 142) 0 = .ok (.iload_n 2, 1) := dqo gX11_addFromRow_0.1
theorem dX11_addFromRow_1 : decode (mB 142) 1 = .ok (.i2l, 1) := dqo gX11_addFromRow_0.2.1
theorem dX11_addFromRow_2 : decode (mB 142) 2 = .ok (.ldc2_w 117, 3) := dqo gX11_addFromRow_0.2.2.1
theorem dX11_addFromRow_5 : decode (mB 142) 5 = .ok (.iload_n 3, 1) := dqo gX11_addFromRow_0.2.2.2.1
theorem dX11_addFromRow_6 : decode (mB 142) 6 = .ok (.i2l, 1) := dqo gX11_addFromRow_0.2.2.2.2.1
theorem dX11_addFromRow_7 : decode (mB 142) 7 = .ok (.lmul, 1) := dqo gX11_addFromRow_0.2.2.2.2.2.1
theorem dX11_addFromRow_8 : decode (mB 142) 8 = .ok (.ladd, 1) := dqo gX11_addFromRow_0.2.2.2.2.2.2.1
theorem dX11_addFromRow_9 : decode (mB 142) 9 = .ok (.lstore 4, 2) := dqo gX11_addFromRow_0.2.2.2.2.2.2.2.1
theorem dX11_addFromRow_11 : decode (mB 142) 11 = .ok (.lload 4, 2) := dqo gX11_addFromRow_0.2.2.2.2.2.2.2.2.1
theorem dX11_addFromRow_13 : decode (mB 142) 13 = .ok (.ldc2_w 117, 3) := dqo gX11_addFromRow_0.2.2.2.2.2.2.2.2.2.1
theorem dX11_addFromRow_16 : decode (mB 142) 16 = .ok (.ladd, 1) := dqo gX11_addFromRow_0.2.2.2.2.2.2.2.2.2.2.1
theorem dX11_addFromRow_17 : decode (mB 142) 17 = .ok (.aload_n 0, 1) := dqo gX11_addFromRow_0.2.2.2.2.2.2.2.2.2.2.2.1
theorem dX11_addFromRow_18 : decode (mB 142) 18 = .ok (.getfield 42, 3) := dqo gX11_addFromRow_0.2.2.2.2.2.2.2.2.2.2.2.2.1
theorem dX11_addFromRow_21 : decode (mB 142) 21 = .ok (.iload_n 1, 1) := dqo gX11_addFromRow_0.2.2.2.2.2.2.2.2.2.2.2.2.2.1
theorem dX11_addFromRow_22 : decode (mB 142) 22 = .ok (.invokevirtual 119, 3) := dqo gX11_addFromRow_0.2.2.2.2.2.2.2.2.2.2.2.2.2.2.1
theorem dX11_addFromRow_25 : decode (mB 142) 25 = .ok (.i2l, 1) := dqo gX11_addFromRow_0.2.2.2.2.2.2.2.2.2.2.2.2.2.2.2
theorem gX11_addFromRow_26 : dq 142 26 (.lcmp) 1 = true ∧ dq 142 27 (.ifCond .le 5) 3 = true ∧ dq 142 30 (.iconst 0) 1 = true ∧ dq 142 31 (.ireturn) 1 = true ∧ dq 142 32 (.aload_n 0) 1 = true ∧ dq 142 33 (.getfield 42) 3 = true ∧ dq 142 36 (.iload_n 1) 1 = true ∧ dq 142 37 (.lload 4) 2 = true ∧ dq 142 39 (.l2i) 1 = true ∧ dq 142 40 (.invokevirtual 122) 3 = true ∧ dq 142 43 (.l2i) 1 = true ∧ dq 142 44 (.istore 6) 2 = true ∧ dq 142 46 (.aload_n 0) 1 = true ∧ dq 142 47 (.getfield 42) 3 = true ∧ dq 142 50 (.iload_n 1) 1 = true ∧ dq 142 51 (.lload 4) 2 = true := by decide +kernel
theorem dX11_addFromRow_26 : decode (mB 142) 26 = .ok (.lcmp, 1) := dqo gX11_addFromRow_26.1
theorem dX11_addFromRow_27 : decode (mB 142) 27 = .ok (.ifCond .le 5, 3) := dqo gX11_addFromRow_26.2.1
theorem dX11_addFromRow_30 : decode (mB 142) 30 = .ok (.iconst 0, 1) := dqo gX11_addFromRow_26.2.2.1
theorem dX11_addFromRow_31 : decode (mB 142) 31 = .ok (.ireturn, 1) := dqo gX11_addFromRow_26.2.2.2.1
theorem dX11_addFromRow_32 : decode (mB 142) 32 = .ok (.aload_n 0, 1) := dqo gX11_addFromRow_26.2.2.2.2.1
theorem dX11_addFromRow_33 : decode (mB 142) 33 = .ok (.getfield 42, 3) := dqo gX11_addFromRow_26.2.2.2.2.2.1
theorem dX11_addFromRow_36 : decode (mB 142) 36 = .ok (.iload_n 1, 1) := dqo gX11_addFromRow_26.2.2.2.2.2.2.1
theorem dX11_addFromRow_37 : decode (mB 142) 37 = .ok (.lload 4, 2) := dqo gX11_addFromRow_26.2.2.2.2.2.2.2.1
theorem dX11_addFromRow_39 : decode (mB 142) 39 = .ok (.l2i, 1) := dqo gX11_addFromRow_26.2.2.2.2.2.2.2.2.1
theorem dX11_addFromRow_40 : decode (mB 142) 40 = .ok (.invokevirtual 122, 3) := dqo gX11_addFromRow_26.2.2.2.2.2.2.2.2.2.1
theorem dX11_addFromRow_43 : decode (mB 142) 43 = .ok (.l2i, 1) := dqo gX11_addFromRow_26.2.2.2.2.2.2.2.2.2.2.1
theorem dX11_addFromRow_44 : decode (mB 142) 44 = .ok (.istore 6, 2) := dqo gX11_addFromRow_26.2.2.2.2.2.2.2.2.2.2.2.1
theorem dX11_addFromRow_46 : decode (mB 142) 46 = .ok (.aload_n 0, 1) := dqo gX11_addFromRow_26.2.2.2.2.2.2.2.2.2.2.2.2.1
theorem dX11_addFromRow_47 : decode (mB 142) 47 = .ok (.getfield 42, 3) := dqo gX11_addFromRow_26.2.2.2.2.2.2.2.2.2.2.2.2.2.1
theorem dX11_addFromRow_50 : decode (mB 142) 50 = .ok (.iload_n 1, 1) := dqo gX11_addFromRow_26.2.2.2.2.2.2.2.2.2.2.2.2.2.2.1
theorem dX11_addFromRow_51 : decode (mB 142) 51 = .ok (.lload 4, 2) := dqo gX11_addFromRow_26.2.2.2.2.2.2.2.2.2.2.2.2.2.2.2
theorem gX11_addFromRow_53 : dq 142 53 (.l2i) 1 = true ∧ dq 142 54 (.iconst 1) 1 = true ∧ dq 142 55 (.iadd) 1 = true ∧ dq 142 56 (.invokevirtual 122) 3 = true ∧ dq 142 59 (.l2i) 1 = true ∧ dq 142 60 (.istore 7) 2 = true ∧ dq 142 62 (.aload_n 0) 1 = true ∧ dq 142 63 (.getfield 42) 3 = true ∧ dq 142 66 (.iload_n 1) 1 = true ∧ dq 142 67 (.lload 4) 2 = true ∧ dq 142 69 (.l2i) 1 = true ∧ dq 142 70 (.iconst 2) 1 = true ∧ dq 142 71 (.iadd) 1 = true ∧ dq 142 72 (.invokevirtual 122) 3 = true ∧ dq 142 75 (.l2i) 1 = true ∧ dq 142 76 (.istore 8) 2 = true := by decide +kernel
theorem dX11_addFromRow_53 : decode (mB 142) 53 = .ok (.l2i, 1) := dqo gX11_addFromRow_53.1
theorem dX11_addFromRow_54 : decode (mB 142) 54 = .ok (.iconst 1, 1) := dqo gX11_addFromRow_53.2.1
theorem dX11_addFromRow_55 : decode (mB 142) 55 = .ok (.iadd, 1) := dqo gX11_addFromRow_53.2.2.1
theorem dX11_addFromRow_56 : decode (mB 142) 56 = .ok (.invokevirtual 122, 3) := dqo gX11_addFromRow_53.2.2.2.1
theorem dX11_addFromRow_59 : decode (mB 142) 59 = .ok (.l2i, 1) := dqo gX11_addFromRow_53.2.2.2.2.1
theorem dX11_addFromRow_60 : decode (mB 142) 60 = .ok (.istore 7, 2) := dqo gX11_addFromRow_53.2.2.2.2.2.1
theorem dX11_addFromRow_62 : decode (mB 142) 62 = .ok (.aload_n 0, 1) := dqo gX11_addFromRow_53.2.2.2.2.2.2.1
theorem dX11_addFromRow_63 : decode (mB 142) 63 = .ok (.getfield 42, 3) := dqo gX11_addFromRow_53.2.2.2.2.2.2.2.1
theorem dX11_addFromRow_66 : decode (mB 142) 66 = .ok (.iload_n 1, 1) := dqo gX11_addFromRow_53.2.2.2.2.2.2.2.2.1
theorem dX11_addFromRow_67 : decode (mB 142) 67 = .ok (.lload 4, 2) := dqo gX11_addFromRow_53.2.2.2.2.2.2.2.2.2.1
theorem dX11_addFromRow_69 : decode (mB 142) 69 = .ok (.l2i, 1) := dqo gX11_addFromRow_53.2.2.2.2.2.2.2.2.2.2.1
theorem dX11_addFromRow_70 : decode (mB 142) 70 = .ok (.iconst 2, 1) := dqo gX11_addFromRow_53.2.2.2.2.2.2.2.2.2.2.2.1
theorem dX11_addFromRow_71 : decode (mB 142) 71 = .ok (.iadd, 1) := dqo gX11_addFromRow_53.2.2.2.2.2.2.2.2.2.2.2.2.1
theorem dX11_addFromRow_72 : decode (mB 142) 72 = .ok (.invokevirtual 122, 3) := dqo gX11_addFromRow_53.2.2.2.2.2.2.2.2.2.2.2.2.2.1
theorem dX11_addFromRow_75 : decode (mB 142) 75 = .ok (.l2i, 1) := dqo gX11_addFromRow_53.2.2.2.2.2.2.2.2.2.2.2.2.2.2.1
theorem dX11_addFromRow_76 : decode (mB 142) 76 = .ok (.istore 8, 2) := dqo gX11_addFromRow_53.2.2.2.2.2.2.2.2.2.2.2.2.2.2.2
theorem gX11_addFromRow_78 : dq 142 78 (.aload_n 0) 1 = true ∧ dq 142 79 (.getfield 10) 3 = true ∧ dq 142 82 (.iconst 4) 1 = true ∧ dq 142 83 (.iload 6) 2 = true ∧ dq 142 85 (.invokevirtual 94) 3 = true ∧ dq 142 88 (.ifCond .eq 30) 3 = true ∧ dq 142 91 (.aload_n 0) 1 = true ∧ dq 142 92 (.getfield 10) 3 = true ∧ dq 142 95 (.iconst 5) 1 = true ∧ dq 142 96 (.iload 7) 2 = true ∧ dq 142 98 (.invokevirtual 94) 3 = true ∧ dq 142 101 (.ifCond .eq 17) 3 = true ∧ dq 142 104 (.aload_n 0) 1 = true ∧ dq 142 105 (.getfield 10) 3 = true ∧ dq 142 108 (.bipush 6) 2 = true ∧ dq 142 110 (.iload 8) 2 = true := by decide +kernel
theorem dX11_addFromRow_78 : decode (mB 142) 78 = .ok (.aload_n 0, 1) := dqo gX11_addFromRow_78.1
theorem dX11_addFromRow_79 : decode (mB 142) 79 = .ok (.getfield 10, 3) := dqo gX11_addFromRow_78.2.1
theorem dX11_addFromRow_82 : decode (mB 142) 82 = .ok (.iconst 4, 1) := dqo gX11_addFromRow_78.2.2.1
theorem dX11_addFromRow_83 : decode (mB 142) 83 = .ok (.iload 6, 2) := dqo gX11_addFromRow_78.2.2.2.1
theorem dX11_addFromRow_85 : decode (mB 142) 85 = .ok (.invokevirtual 94, 3) := dqo gX11_addFromRow_78.2.2.2.2.1
theorem dX11_addFromRow_88 : decode (mB 142) 88 = .ok (.ifCond .eq 30, 3) := dqo gX11_addFromRow_78.2.2.2.2.2.1
theorem dX11_addFromRow_91 : decode (mB 142) 91 = .ok (.aload_n 0, 1) := dqo gX11_addFromRow_78.2.2.2.2.2.2.1
theorem dX11_addFromRow_92 : decode (mB 142) 92 = .ok (.getfield 10, 3) := dqo gX11_addFromRow_78.2.2.2.2.2.2.2.1
theorem dX11_addFromRow_95 : decode (mB 142) 95 = .ok (.iconst 5, 1) := dqo gX11_addFromRow_78.2.2.2.2.2.2.2.2.1
theorem dX11_addFromRow_96 : decode (mB 142) 96 = .ok (.iload 7, 2) := dqo gX11_addFromRow_78.2.2.2.2.2.2.2.2.2.1
theorem dX11_addFromRow_98 : decode (mB 142) 98 = .ok (.invokevirtual 94, 3) := dqo gX11_addFromRow_78.2.2.2.2.2.2.2.2.2.2.1
theorem dX11_addFromRow_101 : decode (mB 142) 101 = .ok (.ifCond .eq 17, 3) := dqo gX11_addFromRow_78.2.2.2.2.2.2.2.2.2.2.2.1
theorem dX11_addFromRow_104 : decode (mB 142) 104 = .ok (.aload_n 0, 1) := dqo gX11_addFromRow_78.2.2.2.2.2.2.2.2.2.2.2.2.1
theorem dX11_addFromRow_105 : decode (mB 142) 105 = .ok (.getfield 10, 3) := dqo gX11_addFromRow_78.2.2.2.2.2.2.2.2.2.2.2.2.2.1
theorem dX11_addFromRow_108 : decode (mB 142) 108 = .ok (.bipush 6, 2) := dqo gX11_addFromRow_78.2.2.2.2.2.2.2.2.2.2.2.2.2.2.1
theorem dX11_addFromRow_110 : decode (mB 142) 110 = .ok (.iload 8, 2) := dqo gX11_addFromRow_78.2.2.2.2.2.2.2.2.2.2.2.2.2.2.2
theorem gX11_addFromRow_112 : dq 142 112 (.invokevirtual 94) 3 = true ∧ dq 142 115 (.ifCond .ne 5) 3 = true ∧ dq 142 118 (.iconst 0) 1 = true ∧ dq 142 119 (.ireturn) 1 = true ∧ dq 142 120 (.aload_n 0) 1 = true ∧ dq 142 121 (.getfield 10) 3 = true ∧ dq 142 124 (.iload 6) 2 = true ∧ dq 142 126 (.iload 7) 2 = true ∧ dq 142 128 (.iload 8) 2 = true ∧ dq 142 130 (.invokevirtual 102) 3 = true ∧ dq 142 133 (.bipush (-3)) 2 = true ∧ dq 142 135 (.if_icmp .eq 7) 3 = true ∧ dq 142 138 (.iconst 1) 1 = true ∧ dq 142 139 (.goto 4) 3 = true ∧ dq 142 142 (.iconst 0) 1 = true ∧ dq 142 143 (.ireturn) 1 = true := by decide +kernel
theorem dX11_addFromRow_112 : decode (mB 142) 112 = .ok (.invokevirtual 94, 3) := dqo gX11_addFromRow_112.1
theorem dX11_addFromRow_115 : decode (mB 142) 115 = .ok (.ifCond .ne 5, 3) := dqo gX11_addFromRow_112.2.1
theorem dX11_addFromRow_118 : decode (mB 142) 118 = .ok (.iconst 0, 1) := dqo gX11_addFromRow_112.2.2.1
theorem dX11_addFromRow_119 : decode (mB 142) 119 = .ok (.ireturn, 1) := dqo gX11_addFromRow_112.2.2.2.1
theorem dX11_addFromRow_120 : decode (mB 142) 120 = .ok (.aload_n 0, 1) := dqo gX11_addFromRow_112.2.2.2.2.1
theorem dX11_addFromRow_121 : decode (mB 142) 121 = .ok (.getfield 10, 3) := dqo gX11_addFromRow_112.2.2.2.2.2.1
theorem dX11_addFromRow_124 : decode (mB 142) 124 = .ok (.iload 6, 2) := dqo gX11_addFromRow_112.2.2.2.2.2.2.1
theorem dX11_addFromRow_126 : decode (mB 142) 126 = .ok (.iload 7, 2) := dqo gX11_addFromRow_112.2.2.2.2.2.2.2.1
theorem dX11_addFromRow_128 : decode (mB 142) 128 = .ok (.iload 8, 2) := dqo gX11_addFromRow_112.2.2.2.2.2.2.2.2.1
theorem dX11_addFromRow_130 : decode (mB 142) 130 = .ok (.invokevirtual 102, 3) := dqo gX11_addFromRow_112.2.2.2.2.2.2.2.2.2.1
theorem dX11_addFromRow_133 : decode (mB 142) 133 = .ok (.bipush (-3), 2) := dqo gX11_addFromRow_112.2.2.2.2.2.2.2.2.2.2.1
theorem dX11_addFromRow_135 : decode (mB 142) 135 = .ok (.if_icmp .eq 7, 3) := dqo gX11_addFromRow_112.2.2.2.2.2.2.2.2.2.2.2.1
theorem dX11_addFromRow_138 : decode (mB 142) 138 = .ok (.iconst 1, 1) := dqo gX11_addFromRow_112.2.2.2.2.2.2.2.2.2.2.2.2.1
theorem dX11_addFromRow_139 : decode (mB 142) 139 = .ok (.goto 4, 3) := dqo gX11_addFromRow_112.2.2.2.2.2.2.2.2.2.2.2.2.2.1
theorem dX11_addFromRow_142 : decode (mB 142) 142 = .ok (.iconst 0, 1) := dqo gX11_addFromRow_112.2.2.2.2.2.2.2.2.2.2.2.2.2.2.1
theorem dX11_addFromRow_143 : decode (mB 142) 143 = .ok (.ireturn, 1) := dqo gX11_addFromRow_112.2.2.2.2.2.2.2.2.2.2.2.2.2.2.2
theorem gX11_mend_0 : dq 143 0 (.aload_n 0) 1 = true ∧ dq 143 1 (.getfield 10) 3 = true ∧ dq 143 4 (.iload_n 2) 1 = true ∧ dq 143 5 (.iload_n 1) 1 = true ∧ dq 143 6 (.invokevirtual 126) 3 = true ∧ dq 143 9 (.ifCond .eq 15) 3 = true ∧ dq 143 12 (.aload_n 0) 1 = true ∧ dq 143 13 (.getfield 10) 3 = true ∧ dq 143 16 (.iload_n 2) 1 = true ∧ dq 143 17 (.iload_n 3) 1 = true ∧ dq 143 18 (.invokevirtual 94) 3 = true ∧ dq 143 21 (.ifCond .ne 5) 3 = true ∧ dq 143 24 (.iconst (-1)) 1 = true ∧ dq 143 25 (.ireturn) 1 = true ∧ dq 143 26 (.aload_n 0) 1 = true ∧ dq 143 27 (.getfield 10) 3 = true := by decide +kernel
theorem dX11_mend_0 : decode (mB 143) 0 = .ok (.aload_n 0, 1) := dqo gX11_mend_0.1
theorem dX11_mend_1 : decode (mB 143) 1 = .ok (.getfield 10, 3) := dqo gX11_mend_0.2.1
theorem dX11_mend_4 : decode (mB 143) 4 = .ok (.iload_n 2, 1) := dqo gX11_mend_0.2.2.1
theorem dX11_mend_5 : decode (mB 143) 5 = .ok (.iload_n 1, 1) := dqo gX11_mend_0.2.2.2.1
theorem dX11_mend_6 : decode (mB 143) 6 = .ok (.invokevirtual 126, 3) := dqo gX11_mend_0.2.2.2.2.1
theorem dX11_mend_9 : decode (mB 143) 9 = .ok (.ifCond .eq 15, 3) := dqo gX11_mend_0.2.2.2.2.2.1
theorem dX11_mend_12 : decode (mB 143) 12 = .ok (.aload_n 0, 1) := dqo gX11_mend_0.2.2.2.2.2.2.1
theorem dX11_mend_13 : decode (mB 143) 13 = .ok (.getfield 10, 3) := dqo gX11_mend_0.2.2.2.2.2.2.2.1
theorem dX11_mend_16 : decode (mB 143) 16 = .ok (.iload_n 2, 1) := dqo gX11_mend_0.2.2.2.2.2.2.2.2.1
theorem dX11_mend_17 : decode (mB 143) 17 = .ok (.iload_n 3, 1) := dqo gX11_mend_0.2.2.2.2.2.2.2.2.2.1
theorem dX11_mend_18 : decode (mB 143) 18 = .ok (.invokevirtual 94, 3) := dqo gX11_mend_0.2.2.2.2.2.2.2.2.2.2.1
theorem dX11_mend_21 : decode (mB 143) 21 = .ok (.ifCond .ne 5, 3) := dqo gX11_mend_0.2.2.2.2.2.2.2.2.2.2.2.1
theorem dX11_mend_24 : decode (mB 143) 24 = .ok (.iconst (-1), 1) := dqo gX11_mend_0.2.2.2.2.2.2.2.2.2.2.2.2.1
theorem dX11_mend_25 : decode (mB 143) 25 = .ok (.ireturn, 1) := dqo gX11_mend_0.2.2.2.2.2.2.2.2.2.2.2.2.2.1
theorem dX11_mend_26 : decode (mB 143) 26 = .ok (.aload_n 0, 1) := dqo gX11_mend_0.2.2.2.2.2.2.2.2.2.2.2.2.2.2.1
theorem dX11_mend_27 : decode (mB 143) 27 = .ok (.getfield 10, 3) := dqo gX11_mend_0.2.2.2.2.2.2.2.2.2.2.2.2.2.2.2
theorem gX11_mend_30 : dq 143 30 (.iload_n 2) 1 = true ∧ dq 143 31 (.iload_n 1) 1 = true ∧ dq 143 32 (.invokevirtual 129) 3 = true ∧ dq 143 35 (.istore 4) 2 = true ∧ dq 143 37 (.iload 4) 2 = true ∧ dq 143 39 (.iload_n 3) 1 = true ∧ dq 143 40 (.if_icmp .eq 25) 3 = true ∧ dq 143 43 (.aload_n 0) 1 = true ∧ dq 143 44 (.getfield 83) 3 = true ∧ dq 143 47 (.iload_n 2) 1 = true ∧ dq 143 48 (.iload_n 1) 1 = true ∧ dq 143 49 (.iload 4) 2 = true ∧ dq 143 51 (.iload_n 3) 1 = true ∧ dq 143 52 (.invokevirtual 132) 3 = true ∧ dq 143 55 (.aload_n 0) 1 = true ∧ dq 143 56 (.getfield 10) 3 = true := by decide +kernel
theorem dX11_mend_30 : decode (mB 143) 30 = .ok (.iload_n 2, 1) := dqo gX11_mend_30.1
theorem dX11_mend_31 : decode (mB 143) 31 = .ok (.iload_n 1, 1) := dqo gX11_mend_30.2.1
theorem dX11_mend_32 : decode (mB 143) 32 = .ok (.invokevirtual 129, 3) := dqo gX11_mend_30.2.2.1
theorem dX11_mend_35 : decode (mB 143) 35 = .ok (.istore 4, 2) := dqo gX11_mend_30.2.2.2.1
theorem dX11_mend_37 : decode (mB 143) 37 = .ok (.iload 4, 2) := dqo gX11_mend_30.2.2.2.2.1
theorem dX11_mend_39 : decode (mB 143) 39 = .ok (.iload_n 3, 1) := dqo gX11_mend_30.2.2.2.2.2.1
theorem dX11_mend_40 : decode (mB 143) 40 = .ok (.if_icmp .eq 25, 3) := dqo gX11_mend_30.2.2.2.2.2.2.1
theorem dX11_mend_43 : decode (mB 143) 43 = .ok (.aload_n 0, 1) := dqo gX11_mend_30.2.2.2.2.2.2.2.1
theorem dX11_mend_44 : decode (mB 143) 44 = .ok (.getfield 83, 3) := dqo gX11_mend_30.2.2.2.2.2.2.2.2.1
theorem dX11_mend_47 : decode (mB 143) 47 = .ok (.iload_n 2, 1) := dqo gX11_mend_30.2.2.2.2.2.2.2.2.2.1
theorem dX11_mend_48 : decode (mB 143) 48 = .ok (.iload_n 1, 1) := dqo gX11_mend_30.2.2.2.2.2.2.2.2.2.2.1
theorem dX11_mend_49 : decode (mB 143) 49 = .ok (.iload 4, 2) := dqo gX11_mend_30.2.2.2.2.2.2.2.2.2.2.2.1
theorem dX11_mend_51 : decode (mB 143) 51 = .ok (.iload_n 3, 1) := dqo gX11_mend_30.2.2.2.2.2.2.2.2.2.2.2.2.1
theorem dX11_mend_52 : decode (mB 143) 52 = .ok (.invokevirtual 132, 3) := dqo gX11_mend_30.2.2.2.2.2.2.2.2.2.2.2.2.2.1
theorem dX11_mend_55 : decode (mB 143) 55 = .ok (.aload_n 0, 1) := dqo gX11_mend_30.2.2.2.2.2.2.2.2.2.2.2.2.2.2.1
theorem dX11_mend_56 : decode (mB 143) 56 = .ok (.getfield 10, 3) := dqo gX11_mend_30.2.2.2.2.2.2.2.2.2.2.2.2.2.2.2
theorem gX11_mend_59 : dq 143 59 (.iload_n 2) 1 = true ∧ dq 143 60 (.iload_n 1) 1 = true ∧ dq 143 61 (.iload_n 3) 1 = true ∧ dq 143 62 (.invokevirtual 136) 3 = true ∧ dq 143 65 (.iload 4) 2 = true ∧ dq 143 67 (.ireturn) 1 = true := by decide +kernel
theorem dX11_mend_59 : decode (mB 143) 59 = .ok (.iload_n 2, 1) := dqo gX11_mend_59.1
theorem dX11_mend_60 : decode (mB 143) 60 = .ok (.iload_n 1, 1) := dqo gX11_mend_59.2.1
theorem dX11_mend_61 : decode (mB 143) 61 = .ok (.iload_n 3, 1) := dqo gX11_mend_59.2.2.1
theorem dX11_mend_62 : decode (mB 143) 62 = .ok (.invokevirtual 136, 3) := dqo gX11_mend_59.2.2.2.1
theorem dX11_mend_65 : decode (mB 143) 65 = .ok (.iload 4, 2) := dqo gX11_mend_59.2.2.2.2.1
theorem dX11_mend_67 : decode (mB 143) 67 = .ok (.ireturn, 1) := dqo gX11_mend_59.2.2.2.2.2
theorem gX11_of_0 : dq 144 0 (.iload_n 2) 1 = true ∧ dq 144 1 (.bipush 9) 2 = true ∧ dq 144 3 (.if_icmp .eq 9) 3 = true ∧ dq 144 6 (.iload_n 2) 1 = true ∧ dq 144 7 (.bipush 10) 2 = true ∧ dq 144 9 (.if_icmp .ne 42) 3 = true ∧ dq 144 12 (.aload_n 0) 1 = true ∧ dq 144 13 (.getfield 10) 3 = true ∧ dq 144 16 (.iload_n 1) 1 = true ∧ dq 144 17 (.invokevirtual 140) 3 = true ∧ dq 144 20 (.ifCond .ne 5) 3 = true ∧ dq 144 23 (.iconst (-1)) 1 = true ∧ dq 144 24 (.ireturn) 1 = true ∧ dq 144 25 (.iload_n 2) 1 = true ∧ dq 144 26 (.bipush 9) 2 = true ∧ dq 144 28 (.if_icmp .ne 14) 3 = true := by decide +kernel
theorem dX11_of_0 : decode (mB 144) 0 = .ok (.iload_n 2, 1) := dqo gX11_of_0.1
theorem dX11_of_1 : decode (mB 144) 1 = .ok (.bipush 9, 2) := dqo gX11_of_0.2.1
theorem dX11_of_3 : decode (mB 144) 3 = .ok (.if_icmp .eq 9, 3) := dqo gX11_of_0.2.2.1
theorem dX11_of_6 : decode (mB 144) 6 = .ok (.iload_n 2, 1) := dqo gX11_of_0.2.2.2.1
theorem dX11_of_7 : decode (mB 144) 7 = .ok (.bipush 10, 2) := dqo gX11_of_0.2.2.2.2.1
theorem dX11_of_9 : decode (mB 144) 9 = .ok (.if_icmp .ne 42, 3) := dqo gX11_of_0.2.2.2.2.2.1
theorem dX11_of_12 : decode (mB 144) 12 = .ok (.aload_n 0, 1) := dqo gX11_of_0.2.2.2.2.2.2.1
theorem dX11_of_13 : decode (mB 144) 13 = .ok (.getfield 10, 3) := dqo gX11_of_0.2.2.2.2.2.2.2.1
theorem dX11_of_16 : decode (mB 144) 16 = .ok (.iload_n 1, 1) := dqo gX11_of_0.2.2.2.2.2.2.2.2.1
theorem dX11_of_17 : decode (mB 144) 17 = .ok (.invokevirtual 140, 3) := dqo gX11_of_0.2.2.2.2.2.2.2.2.2.1
theorem dX11_of_20 : decode (mB 144) 20 = .ok (.ifCond .ne 5, 3) := dqo gX11_of_0.2.2.2.2.2.2.2.2.2.2.1
theorem dX11_of_23 : decode (mB 144) 23 = .ok (.iconst (-1), 1) := dqo gX11_of_0.2.2.2.2.2.2.2.2.2.2.2.1
theorem dX11_of_24 : decode (mB 144) 24 = .ok (.ireturn, 1) := dqo gX11_of_0.2.2.2.2.2.2.2.2.2.2.2.2.1
theorem dX11_of_25 : decode (mB 144) 25 = .ok (.iload_n 2, 1) := dqo gX11_of_0.2.2.2.2.2.2.2.2.2.2.2.2.2.1
theorem dX11_of_26 : decode (mB 144) 26 = .ok (.bipush 9, 2) := dqo gX11_of_0.2.2.2.2.2.2.2.2.2.2.2.2.2.2.1
theorem dX11_of_28 : decode (mB 144) 28 = .ok (.if_icmp .ne 14, 3) := dqo gX11_of_0.2.2.2.2.2.2.2.2.2.2.2.2.2.2.2
theorem gX11_of_31 : dq 144 31 (.aload_n 0) 1 = true ∧ dq 144 32 (.invokevirtual 143) 3 = true ∧ dq 144 35 (.iload_n 1) 1 = true ∧ dq 144 36 (.invokevirtual 147) 3 = true ∧ dq 144 39 (.goto 11) 3 = true ∧ dq 144 42 (.aload_n 0) 1 = true ∧ dq 144 43 (.invokevirtual 143) 3 = true ∧ dq 144 46 (.iload_n 1) 1 = true ∧ dq 144 47 (.invokevirtual 150) 3 = true ∧ dq 144 50 (.ireturn) 1 = true ∧ dq 144 51 (.aload_n 0) 1 = true ∧ dq 144 52 (.getfield 10) 3 = true ∧ dq 144 55 (.iload_n 2) 1 = true ∧ dq 144 56 (.iload_n 1) 1 = true ∧ dq 144 57 (.invokevirtual 126) 3 = true ∧ dq 144 60 (.ifCond .eq 15) 3 = true := by decide +kernel
theorem dX11_of_31 : decode (mB 144) 31 = .ok (.aload_n 0, 1) := dqo gX11_of_31.1
theorem dX11_of_32 : decode (mB 144) 32 = .ok (.invokevirtual 143, 3) := dqo gX11_of_31.2.1
theorem dX11_of_35 : decode (mB 144) 35 = .ok (.iload_n 1, 1) := dqo gX11_of_31.2.2.1
theorem dX11_of_36 : decode (mB 144) 36 = .ok (.invokevirtual 147, 3) := dqo gX11_of_31.2.2.2.1
theorem dX11_of_39 : decode (mB 144) 39 = .ok (.goto 11, 3) := dqo gX11_of_31.2.2.2.2.1
theorem dX11_of_42 : decode (mB 144) 42 = .ok (.aload_n 0, 1) := dqo gX11_of_31.2.2.2.2.2.1
theorem dX11_of_43 : decode (mB 144) 43 = .ok (.invokevirtual 143, 3) := dqo gX11_of_31.2.2.2.2.2.2.1
theorem dX11_of_46 : decode (mB 144) 46 = .ok (.iload_n 1, 1) := dqo gX11_of_31.2.2.2.2.2.2.2.1
theorem dX11_of_47 : decode (mB 144) 47 = .ok (.invokevirtual 150, 3) := dqo gX11_of_31.2.2.2.2.2.2.2.2.1
theorem dX11_of_50 : decode (mB 144) 50 = .ok (.ireturn, 1) := dqo gX11_of_31.2.2.2.2.2.2.2.2.2.1
theorem dX11_of_51 : decode (mB 144) 51 = .ok (.aload_n 0, 1) := dqo gX11_of_31.2.2.2.2.2.2.2.2.2.2.1
theorem dX11_of_52 : decode (mB 144) 52 = .ok (.getfield 10, 3) := dqo gX11_of_31.2.2.2.2.2.2.2.2.2.2.2.1
theorem dX11_of_55 : decode (mB 144) 55 = .ok (.iload_n 2, 1) := dqo gX11_of_31.2.2.2.2.2.2.2.2.2.2.2.2.1
theorem dX11_of_56 : decode (mB 144) 56 = .ok (.iload_n 1, 1) := dqo gX11_of_31.2.2.2.2.2.2.2.2.2.2.2.2.2.1
theorem dX11_of_57 : decode (mB 144) 57 = .ok (.invokevirtual 126, 3) := dqo gX11_of_31.2.2.2.2.2.2.2.2.2.2.2.2.2.2.1
theorem dX11_of_60 : decode (mB 144) 60 = .ok (.ifCond .eq 15, 3) := dqo gX11_of_31.2.2.2.2.2.2.2.2.2.2.2.2.2.2.2
theorem gX11_of_63 : dq 144 63 (.aload_n 0) 1 = true ∧ dq 144 64 (.getfield 10) 3 = true ∧ dq 144 67 (.iload_n 2) 1 = true ∧ dq 144 68 (.iload_n 1) 1 = true ∧ dq 144 69 (.invokevirtual 129) 3 = true ∧ dq 144 72 (.goto 4) 3 = true ∧ dq 144 75 (.iconst (-1)) 1 = true ∧ dq 144 76 (.ireturn) 1 = true := by decide +kernel
theorem dX11_of_63 : decode (mB 144) 63 = .ok (.aload_n 0, 1) := dqo gX11_of_63.1
theorem dX11_of_64 : decode (mB 144) 64 = .ok (.getfield 10, 3) := dqo gX11_of_63.2.1
theorem dX11_of_67 : decode (mB 144) 67 = .ok (.iload_n 2, 1) := dqo gX11_of_63.2.2.1
theorem dX11_of_68 : decode (mB 144) 68 = .ok (.iload_n 1, 1) := dqo gX11_of_63.2.2.2.1
theorem dX11_of_69 : decode (mB 144) 69 = .ok (.invokevirtual 129, 3) := dqo gX11_of_63.2.2.2.2.1
theorem dX11_of_72 : decode (mB 144) 72 = .ok (.goto 4, 3) := dqo gX11_of_63.2.2.2.2.2.1
theorem dX11_of_75 : decode (mB 144) 75 = .ok (.iconst (-1), 1) := dqo gX11_of_63.2.2.2.2.2.2.1
theorem dX11_of_76 : decode (mB 144) 76 = .ok (.ireturn, 1) := dqo gX11_of_63.2.2.2.2.2.2.2
theorem gX11_feed_0 : dq 145 0 (.iload_n 1) 1 = true ∧ dq 145 1 (.ifCond .lt 10) 3 = true ∧ dq 145 4 (.iload_n 1) 1 = true ∧ dq 145 5 (.sipush 255) 3 = true ∧ dq 145 8 (.if_icmp .le 5) 3 = true ∧ dq 145 11 (.iconst (-1)) 1 = true ∧ dq 145 12 (.ireturn) 1 = true ∧ dq 145 13 (.aload_n 0) 1 = true ∧ dq 145 14 (.getfield 26) 3 = true ∧ dq 145 17 (.iload_n 1) 1 = true ∧ dq 145 18 (.invokevirtual 153) 3 = true ∧ dq 145 21 (.ireturn) 1 = true := by decide +kernel
theorem dX11_feed_0 : decode (mB 145) 0 = .ok (.iload_n 1, 1) := dqo gX11_feed_0.1
theorem dX11_feed_1 : decode (mB 145) 1 = .ok (.ifCond .lt 10, 3) := dqo gX11_feed_0.2.1
theorem dX11_feed_4 : decode (mB 145) 4 = .ok (.iload_n 1, 1) := dqo gX11_feed_0.2.2.1
theorem dX11_feed_5 : decode (mB 145) 5 = .ok (.sipush 255, 3) := dqo gX11_feed_0.2.2.2.1
theorem dX11_feed_8 : decode (mB 145) 8 = .ok (.if_icmp .le 5, 3) := dqo gX11_feed_0.2.2.2.2.1
theorem dX11_feed_11 : decode (mB 145) 11 = .ok (.iconst (-1), 1) := dqo gX11_feed_0.2.2.2.2.2.1
theorem dX11_feed_12 : decode (mB 145) 12 = .ok (.ireturn, 1) := dqo gX11_feed_0.2.2.2.2.2.2.1
theorem dX11_feed_13 : decode (mB 145) 13 = .ok (.aload_n 0, 1) := dqo gX11_feed_0.2.2.2.2.2.2.2.1
theorem dX11_feed_14 : decode (mB 145) 14 = .ok (.getfield 26, 3) := dqo gX11_feed_0.2.2.2.2.2.2.2.2.1
theorem dX11_feed_17 : decode (mB 145) 17 = .ok (.iload_n 1, 1) := dqo gX11_feed_0.2.2.2.2.2.2.2.2.2.1
theorem dX11_feed_18 : decode (mB 145) 18 = .ok (.invokevirtual 153, 3) := dqo gX11_feed_0.2.2.2.2.2.2.2.2.2.2.1
theorem dX11_feed_21 : decode (mB 145) 21 = .ok (.ireturn, 1) := dqo gX11_feed_0.2.2.2.2.2.2.2.2.2.2.2
theorem gX11_law_0 : dq 146 0 (.aload_n 0) 1 = true ∧ dq 146 1 (.getfield 26) 3 = true ∧ dq 146 4 (.invokevirtual 156) 3 = true ∧ dq 146 7 (.istore_n 1) 1 = true ∧ dq 146 8 (.iload_n 1) 1 = true ∧ dq 146 9 (.ifCond .ge 17) 3 = true ∧ dq 146 12 (.aload_n 0) 1 = true ∧ dq 146 13 (.getfield 19) 3 = true ∧ dq 146 16 (.aload_n 0) 1 = true ∧ dq 146 17 (.getfield 26) 3 = true ∧ dq 146 20 (.invokevirtual 160) 3 = true ∧ dq 146 23 (.invokevirtual 164) 3 = true ∧ dq 146 26 (.aload_n 0) 1 = true ∧ dq 146 27 (.getfield 26) 3 = true ∧ dq 146 30 (.invokevirtual 168) 3 = true ∧ dq 146 33 (.iload_n 1) 1 = true := by decide +kernel
theorem dX11_law_0 : decode (mB 146) 0 = .ok (.aload_n 0, 1) := dqo gX11_law_0.1
theorem dX11_law_1 : decode (mB 146) 1 = .ok (.getfield 26, 3) := dqo gX11_law_0.2.1
theorem dX11_law_4 : decode (mB 146) 4 = .ok (.invokevirtual 156, 3) := dqo gX11_law_0.2.2.1
theorem dX11_law_7 : decode (mB 146) 7 = .ok (.istore_n 1, 1) := dqo gX11_law_0.2.2.2.1
theorem dX11_law_8 : decode (mB 146) 8 = .ok (.iload_n 1, 1) := dqo gX11_law_0.2.2.2.2.1
theorem dX11_law_9 : decode (mB 146) 9 = .ok (.ifCond .ge 17, 3) := dqo gX11_law_0.2.2.2.2.2.1
theorem dX11_law_12 : decode (mB 146) 12 = .ok (.aload_n 0, 1) := dqo gX11_law_0.2.2.2.2.2.2.1
theorem dX11_law_13 : decode (mB 146) 13 = .ok (.getfield 19, 3) := dqo gX11_law_0.2.2.2.2.2.2.2.1
theorem dX11_law_16 : decode (mB 146) 16 = .ok (.aload_n 0, 1) := dqo gX11_law_0.2.2.2.2.2.2.2.2.1
theorem dX11_law_17 : decode (mB 146) 17 = .ok (.getfield 26, 3) := dqo gX11_law_0.2.2.2.2.2.2.2.2.2.1
theorem dX11_law_20 : decode (mB 146) 20 = .ok (.invokevirtual 160, 3) := dqo gX11_law_0.2.2.2.2.2.2.2.2.2.2.1
theorem dX11_law_23 : decode (mB 146) 23 = .ok (.invokevirtual 164, 3) := dqo gX11_law_0.2.2.2.2.2.2.2.2.2.2.2.1
theorem dX11_law_26 : decode (mB 146) 26 = .ok (.aload_n 0, 1) := dqo gX11_law_0.2.2.2.2.2.2.2.2.2.2.2.2.1
theorem dX11_law_27 : decode (mB 146) 27 = .ok (.getfield 26, 3) := dqo gX11_law_0.2.2.2.2.2.2.2.2.2.2.2.2.2.1
theorem dX11_law_30 : decode (mB 146) 30 = .ok (.invokevirtual 168, 3) := dqo gX11_law_0.2.2.2.2.2.2.2.2.2.2.2.2.2.2.1
theorem dX11_law_33 : decode (mB 146) 33 = .ok (.iload_n 1, 1) := dqo gX11_law_0.2.2.2.2.2.2.2.2.2.2.2.2.2.2.2
theorem gX11_law_34 : dq 146 34 (.ifCond .ge 7) 3 = true ∧ dq 146 37 (.iconst 1) 1 = true ∧ dq 146 38 (.goto 7) 3 = true ∧ dq 146 41 (.bipush (-100)) 2 = true ∧ dq 146 43 (.iload_n 1) 1 = true ∧ dq 146 44 (.isub) 1 = true ∧ dq 146 45 (.ireturn) 1 = true := by decide +kernel
theorem dX11_law_34 : decode (mB 146) 34 = .ok (.ifCond .ge 7, 3) := dqo gX11_law_34.1
theorem dX11_law_37 : decode (mB 146) 37 = .ok (.iconst 1, 1) := dqo gX11_law_34.2.1
theorem dX11_law_38 : decode (mB 146) 38 = .ok (.goto 7, 3) := dqo gX11_law_34.2.2.1
theorem dX11_law_41 : decode (mB 146) 41 = .ok (.bipush (-100), 2) := dqo gX11_law_34.2.2.2.1
theorem dX11_law_43 : decode (mB 146) 43 = .ok (.iload_n 1, 1) := dqo gX11_law_34.2.2.2.2.1
theorem dX11_law_44 : decode (mB 146) 44 = .ok (.isub, 1) := dqo gX11_law_34.2.2.2.2.2.1
theorem dX11_law_45 : decode (mB 146) 45 = .ok (.ireturn, 1) := dqo gX11_law_34.2.2.2.2.2.2
theorem gX11_odds_0 : dq 147 0 (.aload_n 0) 1 = true ∧ dq 147 1 (.getfield 10) 3 = true ∧ dq 147 4 (.iload_n 1) 1 = true ∧ dq 147 5 (.invokevirtual 171) 3 = true ∧ dq 147 8 (.ifCond .eq 20) 3 = true ∧ dq 147 11 (.aload_n 0) 1 = true ∧ dq 147 12 (.invokevirtual 143) 3 = true ∧ dq 147 15 (.iload_n 1) 1 = true ∧ dq 147 16 (.iconst 3) 1 = true ∧ dq 147 17 (.ishr) 1 = true ∧ dq 147 18 (.iload_n 1) 1 = true ∧ dq 147 19 (.bipush 7) 2 = true ∧ dq 147 21 (.iand) 1 = true ∧ dq 147 22 (.invokevirtual 174) 3 = true ∧ dq 147 25 (.goto 4) 3 = true ∧ dq 147 28 (.iconst (-1)) 1 = true := by decide +kernel
theorem dX11_odds_0 : decode (mB 147) 0 = .ok (.aload_n 0, 1) := dqo gX11_odds_0.1
theorem dX11_odds_1 : decode (mB 147) 1 = .ok (.getfield 10, 3) := dqo gX11_odds_0.2.1
theorem dX11_odds_4 : decode (mB 147) 4 = .ok (.iload_n 1, 1) := dqo gX11_odds_0.2.2.1
theorem dX11_odds_5 : decode (mB 147) 5 = .ok (.invokevirtual 171, 3) := dqo gX11_odds_0.2.2.2.1
theorem dX11_odds_8 : decode (mB 147) 8 = .ok (.ifCond .eq 20, 3) := dqo gX11_odds_0.2.2.2.2.1
theorem dX11_odds_11 : decode (mB 147) 11 = .ok (.aload_n 0, 1) := dqo gX11_odds_0.2.2.2.2.2.1
theorem dX11_odds_12 : decode (mB 147) 12 = .ok (.invokevirtual 143, 3) := dqo gX11_odds_0.2.2.2.2.2.2.1
theorem dX11_odds_15 : decode (mB 147) 15 = .ok (.iload_n 1, 1) := dqo gX11_odds_0.2.2.2.2.2.2.2.1
theorem dX11_odds_16 : decode (mB 147) 16 = .ok (.iconst 3, 1) := dqo gX11_odds_0.2.2.2.2.2.2.2.2.1
theorem dX11_odds_17 : decode (mB 147) 17 = .ok (.ishr, 1) := dqo gX11_odds_0.2.2.2.2.2.2.2.2.2.1
theorem dX11_odds_18 : decode (mB 147) 18 = .ok (.iload_n 1, 1) := dqo gX11_odds_0.2.2.2.2.2.2.2.2.2.2.1
theorem dX11_odds_19 : decode (mB 147) 19 = .ok (.bipush 7, 2) := dqo gX11_odds_0.2.2.2.2.2.2.2.2.2.2.2.1
theorem dX11_odds_21 : decode (mB 147) 21 = .ok (.iand, 1) := dqo gX11_odds_0.2.2.2.2.2.2.2.2.2.2.2.2.1
theorem dX11_odds_22 : decode (mB 147) 22 = .ok (.invokevirtual 174, 3) := dqo gX11_odds_0.2.2.2.2.2.2.2.2.2.2.2.2.2.1
theorem dX11_odds_25 : decode (mB 147) 25 = .ok (.goto 4, 3) := dqo gX11_odds_0.2.2.2.2.2.2.2.2.2.2.2.2.2.2.1
theorem dX11_odds_28 : decode (mB 147) 28 = .ok (.iconst (-1), 1) := dqo gX11_odds_0.2.2.2.2.2.2.2.2.2.2.2.2.2.2.2
theorem dX11_odds_29 : decode (mB 147) 29 = .ok (.ireturn, 1) := dqo (by decide +kernel)
theorem gX11_now_0 : dq 148 0 (.aload_n 0) 1 = true ∧ dq 148 1 (.getfield 35) 3 = true ∧ dq 148 4 (.invokevirtual 177) 3 = true ∧ dq 148 7 (.aload_n 0) 1 = true ∧ dq 148 8 (.getfield 35) 3 = true ∧ dq 148 11 (.areturn) 1 = true := by decide +kernel
theorem dX11_now_0 : decode (mB 148) 0 = .ok (.aload_n 0, 1) := dqo gX11_now_0.1
theorem dX11_now_1 : decode (mB 148) 1 = .ok (.getfield 35, 3) := dqo gX11_now_0.2.1
theorem dX11_now_4 : decode (mB 148) 4 = .ok (.invokevirtual 177, 3) := dqo gX11_now_0.2.2.1
theorem dX11_now_7 : decode (mB 148) 7 = .ok (.aload_n 0, 1) := dqo gX11_now_0.2.2.2.1
theorem dX11_now_8 : decode (mB 148) 8 = .ok (.getfield 35, 3) := dqo gX11_now_0.2.2.2.2.1
theorem dX11_now_11 : decode (mB 148) 11 = .ok (.areturn, 1) := dqo gX11_now_0.2.2.2.2.2
theorem gX11_later_0 : dq 149 0 (.aload_n 0) 1 = true ∧ dq 149 1 (.getfield 42) 3 = true ∧ dq 149 4 (.iload_n 1) 1 = true ∧ dq 149 5 (.invokevirtual 106) 3 = true ∧ dq 149 8 (.ifCond .eq 24) 3 = true ∧ dq 149 11 (.iload_n 2) 1 = true ∧ dq 149 12 (.ifCond .lt 20) 3 = true ∧ dq 149 15 (.iload_n 2) 1 = true ∧ dq 149 16 (.bipush 12) 2 = true ∧ dq 149 18 (.if_icmp .gt 14) 3 = true ∧ dq 149 21 (.aload_n 0) 1 = true ∧ dq 149 22 (.getfield 10) 3 = true ∧ dq 149 25 (.iload_n 3) 1 = true ∧ dq 149 26 (.invokevirtual 180) 3 = true ∧ dq 149 29 (.ifCond .ne 5) 3 = true ∧ dq 149 32 (.iconst (-1)) 1 = true := by decide +kernel
theorem dX11_later_0 : decode (mB 149) 0 = .ok (.aload_n 0, 1) := dqo gX11_later_0.1
theorem dX11_later_1 : decode (mB 149) 1 = .ok (.getfield 42, 3) := dqo gX11_later_0.2.1
theorem dX11_later_4 : decode (mB 149) 4 = .ok (.iload_n 1, 1) := dqo gX11_later_0.2.2.1
theorem dX11_later_5 : decode (mB 149) 5 = .ok (.invokevirtual 106, 3) := dqo gX11_later_0.2.2.2.1
theorem dX11_later_8 : decode (mB 149) 8 = .ok (.ifCond .eq 24, 3) := dqo gX11_later_0.2.2.2.2.1
theorem dX11_later_11 : decode (mB 149) 11 = .ok (.iload_n 2, 1) := dqo gX11_later_0.2.2.2.2.2.1
theorem dX11_later_12 : decode (mB 149) 12 = .ok (.ifCond .lt 20, 3) := dqo gX11_later_0.2.2.2.2.2.2.1
theorem dX11_later_15 : decode (mB 149) 15 = .ok (.iload_n 2, 1) := dqo gX11_later_0.2.2.2.2.2.2.2.1
theorem dX11_later_16 : decode (mB 149) 16 = .ok (.bipush 12, 2) := dqo gX11_later_0.2.2.2.2.2.2.2.2.1
theorem dX11_later_18 : decode (mB 149) 18 = .ok (.if_icmp .gt 14, 3) := dqo gX11_later_0.2.2.2.2.2.2.2.2.2.1
theorem dX11_later_21 : decode (mB 149) 21 = .ok (.aload_n 0, 1) := dqo gX11_later_0.2.2.2.2.2.2.2.2.2.2.1
theorem dX11_later_22 : decode (mB 149) 22 = .ok (.getfield 10, 3) := dqo gX11_later_0.2.2.2.2.2.2.2.2.2.2.2.1
theorem dX11_later_25 : decode (mB 149) 25 = .ok (.iload_n 3, 1) := dqo gX11_later_0.2.2.2.2.2.2.2.2.2.2.2.2.1
theorem dX11_later_26 : decode (mB 149) 26 = .ok (.invokevirtual 180, 3) := dqo gX11_later_0.2.2.2.2.2.2.2.2.2.2.2.2.2.1
theorem dX11_later_29 : decode (mB 149) 29 = .ok (.ifCond .ne 5, 3) := dqo gX11_later_0.2.2.2.2.2.2.2.2.2.2.2.2.2.2.1
theorem dX11_later_32 : decode (mB 149) 32 = .ok (.iconst (-1), 1) := dqo gX11_later_0.2.2.2.2.2.2.2.2.2.2.2.2.2.2.2
theorem gX11_later_33 : dq 149 33 (.ireturn) 1 = true ∧ dq 149 34 (.aload_n 0) 1 = true ∧ dq 149 35 (.getfield 42) 3 = true ∧ dq 149 38 (.iload_n 1) 1 = true ∧ dq 149 39 (.invokevirtual 110) 3 = true ∧ dq 149 42 (.istore 4) 2 = true ∧ dq 149 44 (.iload 4) 2 = true ∧ dq 149 46 (.ifCond .eq 6) 3 = true ∧ dq 149 49 (.iload 4) 2 = true ∧ dq 149 51 (.ireturn) 1 = true ∧ dq 149 52 (.aload_n 0) 1 = true ∧ dq 149 53 (.getfield 51) 3 = true ∧ dq 149 56 (.aload_n 0) 1 = true ∧ dq 149 57 (.getfield 42) 3 = true ∧ dq 149 60 (.iload_n 1) 1 = true ∧ dq 149 61 (.invokevirtual 183) 3 = true := by decide +kernel
theorem dX11_later_33 : decode (mB 149) 33 = .ok (.ireturn, 1) := dqo gX11_later_33.1
theorem dX11_later_34 : decode (mB 149) 34 = .ok (.aload_n 0, 1) := dqo gX11_later_33.2.1
theorem dX11_later_35 : decode (mB 149) 35 = .ok (.getfield 42, 3) := dqo gX11_later_33.2.2.1
theorem dX11_later_38 : decode (mB 149) 38 = .ok (.iload_n 1, 1) := dqo gX11_later_33.2.2.2.1
theorem dX11_later_39 : decode (mB 149) 39 = .ok (.invokevirtual 110, 3) := dqo gX11_later_33.2.2.2.2.1
theorem dX11_later_42 : decode (mB 149) 42 = .ok (.istore 4, 2) := dqo gX11_later_33.2.2.2.2.2.1
theorem dX11_later_44 : decode (mB 149) 44 = .ok (.iload 4, 2) := dqo gX11_later_33.2.2.2.2.2.2.1
theorem dX11_later_46 : decode (mB 149) 46 = .ok (.ifCond .eq 6, 3) := dqo gX11_later_33.2.2.2.2.2.2.2.1
theorem dX11_later_49 : decode (mB 149) 49 = .ok (.iload 4, 2) := dqo gX11_later_33.2.2.2.2.2.2.2.2.1
theorem dX11_later_51 : decode (mB 149) 51 = .ok (.ireturn, 1) := dqo gX11_later_33.2.2.2.2.2.2.2.2.2.1
theorem dX11_later_52 : decode (mB 149) 52 = .ok (.aload_n 0, 1) := dqo gX11_later_33.2.2.2.2.2.2.2.2.2.2.1
theorem dX11_later_53 : decode (mB 149) 53 = .ok (.getfield 51, 3) := dqo gX11_later_33.2.2.2.2.2.2.2.2.2.2.2.1
theorem dX11_later_56 : decode (mB 149) 56 = .ok (.aload_n 0, 1) := dqo gX11_later_33.2.2.2.2.2.2.2.2.2.2.2.2.1
theorem dX11_later_57 : decode (mB 149) 57 = .ok (.getfield 42, 3) := dqo gX11_later_33.2.2.2.2.2.2.2.2.2.2.2.2.2.1
theorem dX11_later_60 : decode (mB 149) 60 = .ok (.iload_n 1, 1) := dqo gX11_later_33.2.2.2.2.2.2.2.2.2.2.2.2.2.2.1
theorem dX11_later_61 : decode (mB 149) 61 = .ok (.invokevirtual 183, 3) := dqo gX11_later_33.2.2.2.2.2.2.2.2.2.2.2.2.2.2.2
theorem gX11_later_64 : dq 149 64 (.aload_n 0) 1 = true ∧ dq 149 65 (.getfield 51) 3 = true ∧ dq 149 68 (.iload_n 2) 1 = true ∧ dq 149 69 (.invokevirtual 186) 3 = true ∧ dq 149 72 (.aload_n 0) 1 = true ∧ dq 149 73 (.getfield 35) 3 = true ∧ dq 149 76 (.iload_n 3) 1 = true ∧ dq 149 77 (.invokevirtual 190) 3 = true ∧ dq 149 80 (.ireturn) 1 = true := by decide +kernel
theorem dX11_later_64 : decode (mB 149) 64 = .ok (.aload_n 0, 1) := dqo gX11_later_64.1
theorem dX11_later_65 : decode (mB 149) 65 = .ok (.getfield 51, 3) := dqo gX11_later_64.2.1
theorem dX11_later_68 : decode (mB 149) 68 = .ok (.iload_n 2, 1) := dqo gX11_later_64.2.2.1
theorem dX11_later_69 : decode (mB 149) 69 = .ok (.invokevirtual 186, 3) := dqo gX11_later_64.2.2.2.1
theorem dX11_later_72 : decode (mB 149) 72 = .ok (.aload_n 0, 1) := dqo gX11_later_64.2.2.2.2.1
theorem dX11_later_73 : decode (mB 149) 73 = .ok (.getfield 35, 3) := dqo gX11_later_64.2.2.2.2.2.1
theorem dX11_later_76 : decode (mB 149) 76 = .ok (.iload_n 3, 1) := dqo gX11_later_64.2.2.2.2.2.2.1
theorem dX11_later_77 : decode (mB 149) 77 = .ok (.invokevirtual 190, 3) := dqo gX11_later_64.2.2.2.2.2.2.2.1
theorem dX11_later_80 : decode (mB 149) 80 = .ok (.ireturn, 1) := dqo gX11_later_64.2.2.2.2.2.2.2.2
theorem gX11_eve_0 : dq 150 0 (.aload_n 0) 1 = true ∧ dq 150 1 (.getfield 42) 3 = true ∧ dq 150 4 (.iload_n 1) 1 = true ∧ dq 150 5 (.invokevirtual 106) 3 = true ∧ dq 150 8 (.ifCond .eq 35) 3 = true ∧ dq 150 11 (.iload_n 2) 1 = true ∧ dq 150 12 (.ifCond .lt 31) 3 = true ∧ dq 150 15 (.iload_n 2) 1 = true ∧ dq 150 16 (.bipush 12) 2 = true ∧ dq 150 18 (.if_icmp .gt 25) 3 = true ∧ dq 150 21 (.iload_n 3) 1 = true ∧ dq 150 22 (.iconst (-1)) 1 = true ∧ dq 150 23 (.if_icmp .eq 22) 3 = true ∧ dq 150 26 (.iload_n 3) 1 = true ∧ dq 150 27 (.bipush (-2)) 2 = true ∧ dq 150 29 (.if_icmp .eq 16) 3 = true := by decide +kernel
theorem dX11_eve_0 : decode (mB 150) 0 = .ok (.aload_n 0, 1) := dqo gX11_eve_0.1
theorem dX11_eve_1 : decode (mB 150) 1 = .ok (.getfield 42, 3) := dqo gX11_eve_0.2.1
theorem dX11_eve_4 : decode (mB 150) 4 = .ok (.iload_n 1, 1) := dqo gX11_eve_0.2.2.1
theorem dX11_eve_5 : decode (mB 150) 5 = .ok (.invokevirtual 106, 3) := dqo gX11_eve_0.2.2.2.1
theorem dX11_eve_8 : decode (mB 150) 8 = .ok (.ifCond .eq 35, 3) := dqo gX11_eve_0.2.2.2.2.1
theorem dX11_eve_11 : decode (mB 150) 11 = .ok (.iload_n 2, 1) := dqo gX11_eve_0.2.2.2.2.2.1
theorem dX11_eve_12 : decode (mB 150) 12 = .ok (.ifCond .lt 31, 3) := dqo gX11_eve_0.2.2.2.2.2.2.1
theorem dX11_eve_15 : decode (mB 150) 15 = .ok (.iload_n 2, 1) := dqo gX11_eve_0.2.2.2.2.2.2.2.1
theorem dX11_eve_16 : decode (mB 150) 16 = .ok (.bipush 12, 2) := dqo gX11_eve_0.2.2.2.2.2.2.2.2.1
theorem dX11_eve_18 : decode (mB 150) 18 = .ok (.if_icmp .gt 25, 3) := dqo gX11_eve_0.2.2.2.2.2.2.2.2.2.1
theorem dX11_eve_21 : decode (mB 150) 21 = .ok (.iload_n 3, 1) := dqo gX11_eve_0.2.2.2.2.2.2.2.2.2.2.1
theorem dX11_eve_22 : decode (mB 150) 22 = .ok (.iconst (-1), 1) := dqo gX11_eve_0.2.2.2.2.2.2.2.2.2.2.2.1
theorem dX11_eve_23 : decode (mB 150) 23 = .ok (.if_icmp .eq 22, 3) := dqo gX11_eve_0.2.2.2.2.2.2.2.2.2.2.2.2.1
theorem dX11_eve_26 : decode (mB 150) 26 = .ok (.iload_n 3, 1) := dqo gX11_eve_0.2.2.2.2.2.2.2.2.2.2.2.2.2.1
theorem dX11_eve_27 : decode (mB 150) 27 = .ok (.bipush (-2), 2) := dqo gX11_eve_0.2.2.2.2.2.2.2.2.2.2.2.2.2.2.1
theorem dX11_eve_29 : decode (mB 150) 29 = .ok (.if_icmp .eq 16, 3) := dqo gX11_eve_0.2.2.2.2.2.2.2.2.2.2.2.2.2.2.2
theorem gX11_eve_32 : dq 150 32 (.aload_n 0) 1 = true ∧ dq 150 33 (.getfield 10) 3 = true ∧ dq 150 36 (.iload_n 3) 1 = true ∧ dq 150 37 (.invokevirtual 140) 3 = true ∧ dq 150 40 (.ifCond .ne 5) 3 = true ∧ dq 150 43 (.iconst (-1)) 1 = true ∧ dq 150 44 (.ireturn) 1 = true ∧ dq 150 45 (.aload_n 0) 1 = true ∧ dq 150 46 (.getfield 42) 3 = true ∧ dq 150 49 (.iload_n 1) 1 = true ∧ dq 150 50 (.invokevirtual 110) 3 = true ∧ dq 150 53 (.istore 4) 2 = true ∧ dq 150 55 (.iload 4) 2 = true ∧ dq 150 57 (.ifCond .eq 6) 3 = true ∧ dq 150 60 (.iload 4) 2 = true ∧ dq 150 62 (.ireturn) 1 = true := by decide +kernel
theorem dX11_eve_32 : decode (mB 150) 32 = .ok (.aload_n 0, 1) := dqo gX11_eve_32.1
theorem dX11_eve_33 : decode (mB 150) 33 = .ok (.getfield 10, 3) := dqo gX11_eve_32.2.1
theorem dX11_eve_36 : decode (mB 150) 36 = .ok (.iload_n 3, 1) := dqo gX11_eve_32.2.2.1
theorem dX11_eve_37 : decode (mB 150) 37 = .ok (.invokevirtual 140, 3) := dqo gX11_eve_32.2.2.2.1
theorem dX11_eve_40 : decode (mB 150) 40 = .ok (.ifCond .ne 5, 3) := dqo gX11_eve_32.2.2.2.2.1
theorem dX11_eve_43 : decode (mB 150) 43 = .ok (.iconst (-1), 1) := dqo gX11_eve_32.2.2.2.2.2.1
theorem dX11_eve_44 : decode (mB 150) 44 = .ok (.ireturn, 1) := dqo gX11_eve_32.2.2.2.2.2.2.1
theorem dX11_eve_45 : decode (mB 150) 45 = .ok (.aload_n 0, 1) := dqo gX11_eve_32.2.2.2.2.2.2.2.1
theorem dX11_eve_46 : decode (mB 150) 46 = .ok (.getfield 42, 3) := dqo gX11_eve_32.2.2.2.2.2.2.2.2.1
theorem dX11_eve_49 : decode (mB 150) 49 = .ok (.iload_n 1, 1) := dqo gX11_eve_32.2.2.2.2.2.2.2.2.2.1
theorem dX11_eve_50 : decode (mB 150) 50 = .ok (.invokevirtual 110, 3) := dqo gX11_eve_32.2.2.2.2.2.2.2.2.2.2.1
theorem dX11_eve_53 : decode (mB 150) 53 = .ok (.istore 4, 2) := dqo gX11_eve_32.2.2.2.2.2.2.2.2.2.2.2.1
theorem dX11_eve_55 : decode (mB 150) 55 = .ok (.iload 4, 2) := dqo gX11_eve_32.2.2.2.2.2.2.2.2.2.2.2.2.1
theorem dX11_eve_57 : decode (mB 150) 57 = .ok (.ifCond .eq 6, 3) := dqo gX11_eve_32.2.2.2.2.2.2.2.2.2.2.2.2.2.1
theorem dX11_eve_60 : decode (mB 150) 60 = .ok (.iload 4, 2) := dqo gX11_eve_32.2.2.2.2.2.2.2.2.2.2.2.2.2.2.1
theorem dX11_eve_62 : decode (mB 150) 62 = .ok (.ireturn, 1) := dqo gX11_eve_32.2.2.2.2.2.2.2.2.2.2.2.2.2.2.2
theorem gX11_eve_63 : dq 150 63 (.aload_n 0) 1 = true ∧ dq 150 64 (.getfield 51) 3 = true ∧ dq 150 67 (.aload_n 0) 1 = true ∧ dq 150 68 (.getfield 42) 3 = true ∧ dq 150 71 (.iload_n 1) 1 = true ∧ dq 150 72 (.invokevirtual 183) 3 = true ∧ dq 150 75 (.aload_n 0) 1 = true ∧ dq 150 76 (.getfield 51) 3 = true ∧ dq 150 79 (.iload_n 2) 1 = true ∧ dq 150 80 (.invokevirtual 186) 3 = true ∧ dq 150 83 (.iload_n 3) 1 = true ∧ dq 150 84 (.iconst (-1)) 1 = true ∧ dq 150 85 (.if_icmp .ne 11) 3 = true ∧ dq 150 88 (.aload_n 0) 1 = true ∧ dq 150 89 (.getfield 51) 3 = true ∧ dq 150 92 (.invokevirtual 193) 3 = true := by decide +kernel
theorem dX11_eve_63 : decode (mB 150) 63 = .ok (.aload_n 0, 1) := dqo gX11_eve_63.1
theorem dX11_eve_64 : decode (mB 150) 64 = .ok (.getfield 51, 3) := dqo gX11_eve_63.2.1
theorem dX11_eve_67 : decode (mB 150) 67 = .ok (.aload_n 0, 1) := dqo gX11_eve_63.2.2.1
theorem dX11_eve_68 : decode (mB 150) 68 = .ok (.getfield 42, 3) := dqo gX11_eve_63.2.2.2.1
theorem dX11_eve_71 : decode (mB 150) 71 = .ok (.iload_n 1, 1) := dqo gX11_eve_63.2.2.2.2.1
theorem dX11_eve_72 : decode (mB 150) 72 = .ok (.invokevirtual 183, 3) := dqo gX11_eve_63.2.2.2.2.2.1
theorem dX11_eve_75 : decode (mB 150) 75 = .ok (.aload_n 0, 1) := dqo gX11_eve_63.2.2.2.2.2.2.1
theorem dX11_eve_76 : decode (mB 150) 76 = .ok (.getfield 51, 3) := dqo gX11_eve_63.2.2.2.2.2.2.2.1
theorem dX11_eve_79 : decode (mB 150) 79 = .ok (.iload_n 2, 1) := dqo gX11_eve_63.2.2.2.2.2.2.2.2.1
theorem dX11_eve_80 : decode (mB 150) 80 = .ok (.invokevirtual 186, 3) := dqo gX11_eve_63.2.2.2.2.2.2.2.2.2.1
theorem dX11_eve_83 : decode (mB 150) 83 = .ok (.iload_n 3, 1) := dqo gX11_eve_63.2.2.2.2.2.2.2.2.2.2.1
theorem dX11_eve_84 : decode (mB 150) 84 = .ok (.iconst (-1), 1) := dqo gX11_eve_63.2.2.2.2.2.2.2.2.2.2.2.1
theorem dX11_eve_85 : decode (mB 150) 85 = .ok (.if_icmp .ne 11, 3) := dqo gX11_eve_63.2.2.2.2.2.2.2.2.2.2.2.2.1
theorem dX11_eve_88 : decode (mB 150) 88 = .ok (.aload_n 0, 1) := dqo gX11_eve_63.2.2.2.2.2.2.2.2.2.2.2.2.2.1
theorem dX11_eve_89 : decode (mB 150) 89 = .ok (.getfield 51, 3) := dqo gX11_eve_63.2.2.2.2.2.2.2.2.2.2.2.2.2.2.1
theorem dX11_eve_92 : decode (mB 150) 92 = .ok (.invokevirtual 193, 3) := dqo gX11_eve_63.2.2.2.2.2.2.2.2.2.2.2.2.2.2.2
theorem gX11_eve_95 : dq 150 95 (.ireturn) 1 = true ∧ dq 150 96 (.iload_n 3) 1 = true ∧ dq 150 97 (.bipush (-2)) 2 = true ∧ dq 150 99 (.if_icmp .ne 13) 3 = true ∧ dq 150 102 (.aload_n 0) 1 = true ∧ dq 150 103 (.getfield 51) 3 = true ∧ dq 150 106 (.invokevirtual 196) 3 = true ∧ dq 150 109 (.goto 11) 3 = true ∧ dq 150 112 (.aload_n 0) 1 = true ∧ dq 150 113 (.getfield 35) 3 = true ∧ dq 150 116 (.iload_n 3) 1 = true ∧ dq 150 117 (.invokevirtual 150) 3 = true ∧ dq 150 120 (.ireturn) 1 = true := by decide +kernel
theorem dX11_eve_95 : decode (mB 150) 95 = .ok (.ireturn, 1) := dqo gX11_eve_95.1
theorem dX11_eve_96 : decode (mB 150) 96 = .ok (.iload_n 3, 1) := dqo gX11_eve_95.2.1
theorem dX11_eve_97 : decode (mB 150) 97 = .ok (.bipush (-2), 2) := dqo gX11_eve_95.2.2.1
theorem dX11_eve_99 : decode (mB 150) 99 = .ok (.if_icmp .ne 13, 3) := dqo gX11_eve_95.2.2.2.1
theorem dX11_eve_102 : decode (mB 150) 102 = .ok (.aload_n 0, 1) := dqo gX11_eve_95.2.2.2.2.1
theorem dX11_eve_103 : decode (mB 150) 103 = .ok (.getfield 51, 3) := dqo gX11_eve_95.2.2.2.2.2.1
theorem dX11_eve_106 : decode (mB 150) 106 = .ok (.invokevirtual 196, 3) := dqo gX11_eve_95.2.2.2.2.2.2.1
theorem dX11_eve_109 : decode (mB 150) 109 = .ok (.goto 11, 3) := dqo gX11_eve_95.2.2.2.2.2.2.2.1
theorem dX11_eve_112 : decode (mB 150) 112 = .ok (.aload_n 0, 1) := dqo gX11_eve_95.2.2.2.2.2.2.2.2.1
theorem dX11_eve_113 : decode (mB 150) 113 = .ok (.getfield 35, 3) := dqo gX11_eve_95.2.2.2.2.2.2.2.2.2.1
theorem dX11_eve_116 : decode (mB 150) 116 = .ok (.iload_n 3, 1) := dqo gX11_eve_95.2.2.2.2.2.2.2.2.2.2.1
theorem dX11_eve_117 : decode (mB 150) 117 = .ok (.invokevirtual 150, 3) := dqo gX11_eve_95.2.2.2.2.2.2.2.2.2.2.2.1
theorem dX11_eve_120 : decode (mB 150) 120 = .ok (.ireturn, 1) := dqo gX11_eve_95.2.2.2.2.2.2.2.2.2.2.2.2
theorem gX11_likely_0 : dq 151 0 (.aload_n 0) 1 = true ∧ dq 151 1 (.getfield 42) 3 = true ∧ dq 151 4 (.iload_n 1) 1 = true ∧ dq 151 5 (.invokevirtual 110) 3 = true ∧ dq 151 8 (.ifCond .ne 21) 3 = true ∧ dq 151 11 (.iload_n 2) 1 = true ∧ dq 151 12 (.ifCond .lt 17) 3 = true ∧ dq 151 15 (.iload_n 2) 1 = true ∧ dq 151 16 (.sipush 4095) 3 = true ∧ dq 151 19 (.if_icmp .gt 10) 3 = true ∧ dq 151 22 (.iload_n 3) 1 = true ∧ dq 151 23 (.invokestatic 199) 3 = true ∧ dq 151 26 (.ifCond .ne 7) 3 = true ∧ dq 151 29 (.ldc2_w 204) 3 = true ∧ dq 151 32 (.lreturn) 1 = true ∧ dq 151 33 (.aload_n 0) 1 = true := by decide +kernel
theorem dX11_likely_0 : decode (mB 151) 0 = .ok (.aload_n 0, 1) := dqo gX11_likely_0.1
theorem dX11_likely_1 : decode (mB 151) 1 = .ok (.getfield 42, 3) := dqo gX11_likely_0.2.1
theorem dX11_likely_4 : decode (mB 151) 4 = .ok (.iload_n 1, 1) := dqo gX11_likely_0.2.2.1
theorem dX11_likely_5 : decode (mB 151) 5 = .ok (.invokevirtual 110, 3) := dqo gX11_likely_0.2.2.2.1
theorem dX11_likely_8 : decode (mB 151) 8 = .ok (.ifCond .ne 21, 3) := dqo gX11_likely_0.2.2.2.2.1
theorem dX11_likely_11 : decode (mB 151) 11 = .ok (.iload_n 2, 1) := dqo gX11_likely_0.2.2.2.2.2.1
theorem dX11_likely_12 : decode (mB 151) 12 = .ok (.ifCond .lt 17, 3) := dqo gX11_likely_0.2.2.2.2.2.2.1
theorem dX11_likely_15 : decode (mB 151) 15 = .ok (.iload_n 2, 1) := dqo gX11_likely_0.2.2.2.2.2.2.2.1
theorem dX11_likely_16 : decode (mB 151) 16 = .ok (.sipush 4095, 3) := dqo gX11_likely_0.2.2.2.2.2.2.2.2.1
theorem dX11_likely_19 : decode (mB 151) 19 = .ok (.if_icmp .gt 10, 3) := dqo gX11_likely_0.2.2.2.2.2.2.2.2.2.1
theorem dX11_likely_22 : decode (mB 151) 22 = .ok (.iload_n 3, 1) := dqo gX11_likely_0.2.2.2.2.2.2.2.2.2.2.1
theorem dX11_likely_23 : decode (mB 151) 23 = .ok (.invokestatic 199, 3) := dqo gX11_likely_0.2.2.2.2.2.2.2.2.2.2.2.1
theorem dX11_likely_26 : decode (mB 151) 26 = .ok (.ifCond .ne 7, 3) := dqo gX11_likely_0.2.2.2.2.2.2.2.2.2.2.2.2.1
theorem dX11_likely_29 : decode (mB 151) 29 = .ok (.ldc2_w 204, 3) := dqo gX11_likely_0.2.2.2.2.2.2.2.2.2.2.2.2.2.1
theorem dX11_likely_32 : decode (mB 151) 32 = .ok (.lreturn, 1) := dqo gX11_likely_0.2.2.2.2.2.2.2.2.2.2.2.2.2.2.1
theorem dX11_likely_33 : decode (mB 151) 33 = .ok (.aload_n 0, 1) := dqo gX11_likely_0.2.2.2.2.2.2.2.2.2.2.2.2.2.2.2
theorem gX11_likely_34 : dq 151 34 (.getfield 51) 3 = true ∧ dq 151 37 (.aload_n 0) 1 = true ∧ dq 151 38 (.getfield 42) 3 = true ∧ dq 151 41 (.iload_n 1) 1 = true ∧ dq 151 42 (.invokevirtual 183) 3 = true ∧ dq 151 45 (.aload_n 0) 1 = true ∧ dq 151 46 (.getfield 51) 3 = true ∧ dq 151 49 (.iload_n 2) 1 = true ∧ dq 151 50 (.invokevirtual 206) 3 = true ∧ dq 151 53 (.aload_n 0) 1 = true ∧ dq 151 54 (.getfield 51) 3 = true ∧ dq 151 57 (.invokevirtual 209) 3 = true ∧ dq 151 60 (.aload_n 0) 1 = true ∧ dq 151 61 (.getfield 51) 3 = true ∧ dq 151 64 (.invokevirtual 213) 3 = true ∧ dq 151 67 (.iload_n 3) 1 = true := by decide +kernel
theorem dX11_likely_34 : decode (mB 151) 34 = .ok (.getfield 51, 3) := dqo gX11_likely_34.1
theorem dX11_likely_37 : decode (mB 151) 37 = .ok (.aload_n 0, 1) := dqo gX11_likely_34.2.1
theorem dX11_likely_38 : decode (mB 151) 38 = .ok (.getfield 42, 3) := dqo gX11_likely_34.2.2.1
theorem dX11_likely_41 : decode (mB 151) 41 = .ok (.iload_n 1, 1) := dqo gX11_likely_34.2.2.2.1
theorem dX11_likely_42 : decode (mB 151) 42 = .ok (.invokevirtual 183, 3) := dqo gX11_likely_34.2.2.2.2.1
theorem dX11_likely_45 : decode (mB 151) 45 = .ok (.aload_n 0, 1) := dqo gX11_likely_34.2.2.2.2.2.1
theorem dX11_likely_46 : decode (mB 151) 46 = .ok (.getfield 51, 3) := dqo gX11_likely_34.2.2.2.2.2.2.1
theorem dX11_likely_49 : decode (mB 151) 49 = .ok (.iload_n 2, 1) := dqo gX11_likely_34.2.2.2.2.2.2.2.1
theorem dX11_likely_50 : decode (mB 151) 50 = .ok (.invokevirtual 206, 3) := dqo gX11_likely_34.2.2.2.2.2.2.2.2.1
theorem dX11_likely_53 : decode (mB 151) 53 = .ok (.aload_n 0, 1) := dqo gX11_likely_34.2.2.2.2.2.2.2.2.2.1
theorem dX11_likely_54 : decode (mB 151) 54 = .ok (.getfield 51, 3) := dqo gX11_likely_34.2.2.2.2.2.2.2.2.2.2.1
theorem dX11_likely_57 : decode (mB 151) 57 = .ok (.invokevirtual 209, 3) := dqo gX11_likely_34.2.2.2.2.2.2.2.2.2.2.2.1
theorem dX11_likely_60 : decode (mB 151) 60 = .ok (.aload_n 0, 1) := dqo gX11_likely_34.2.2.2.2.2.2.2.2.2.2.2.2.1
theorem dX11_likely_61 : decode (mB 151) 61 = .ok (.getfield 51, 3) := dqo gX11_likely_34.2.2.2.2.2.2.2.2.2.2.2.2.2.1
theorem dX11_likely_64 : decode (mB 151) 64 = .ok (.invokevirtual 213, 3) := dqo gX11_likely_34.2.2.2.2.2.2.2.2.2.2.2.2.2.2.1
theorem dX11_likely_67 : decode (mB 151) 67 = .ok (.iload_n 3, 1) := dqo gX11_likely_34.2.2.2.2.2.2.2.2.2.2.2.2.2.2.2
theorem gX11_likely_68 : dq 151 68 (.invokestatic 216) 3 = true ∧ dq 151 71 (.lreturn) 1 = true := by decide +kernel
theorem dX11_likely_68 : decode (mB 151) 68 = .ok (.invokestatic 216, 3) := dqo gX11_likely_68.1
theorem dX11_likely_71 : decode (mB 151) 71 = .ok (.lreturn, 1) := dqo gX11_likely_68.2
theorem gX11_all_0 : dq 152 0 (.aload_n 0) 1 = true ∧ dq 152 1 (.getfield 42) 3 = true ∧ dq 152 4 (.iload_n 1) 1 = true ∧ dq 152 5 (.invokevirtual 110) 3 = true ∧ dq 152 8 (.ifCond .ne 10) 3 = true ∧ dq 152 11 (.iload_n 2) 1 = true ∧ dq 152 12 (.invokestatic 199) 3 = true ∧ dq 152 15 (.ifCond .ne 7) 3 = true ∧ dq 152 18 (.ldc2_w 204) 3 = true ∧ dq 152 21 (.lreturn) 1 = true ∧ dq 152 22 (.aload_n 0) 1 = true ∧ dq 152 23 (.getfield 51) 3 = true ∧ dq 152 26 (.aload_n 0) 1 = true ∧ dq 152 27 (.getfield 42) 3 = true ∧ dq 152 30 (.iload_n 1) 1 = true ∧ dq 152 31 (.invokevirtual 183) 3 = true := by decide +kernel
theorem dX11_all_0 : decode (mB 152) 0 = .ok (.aload_n 0, 1) := dqo gX11_all_0.1
theorem dX11_all_1 : decode (mB 152) 1 = .ok (.getfield 42, 3) := dqo gX11_all_0.2.1
theorem dX11_all_4 : decode (mB 152) 4 = .ok (.iload_n 1, 1) := dqo gX11_all_0.2.2.1
theorem dX11_all_5 : decode (mB 152) 5 = .ok (.invokevirtual 110, 3) := dqo gX11_all_0.2.2.2.1
theorem dX11_all_8 : decode (mB 152) 8 = .ok (.ifCond .ne 10, 3) := dqo gX11_all_0.2.2.2.2.1
theorem dX11_all_11 : decode (mB 152) 11 = .ok (.iload_n 2, 1) := dqo gX11_all_0.2.2.2.2.2.1
theorem dX11_all_12 : decode (mB 152) 12 = .ok (.invokestatic 199, 3) := dqo gX11_all_0.2.2.2.2.2.2.1
theorem dX11_all_15 : decode (mB 152) 15 = .ok (.ifCond .ne 7, 3) := dqo gX11_all_0.2.2.2.2.2.2.2.1
theorem dX11_all_18 : decode (mB 152) 18 = .ok (.ldc2_w 204, 3) := dqo gX11_all_0.2.2.2.2.2.2.2.2.1
theorem dX11_all_21 : decode (mB 152) 21 = .ok (.lreturn, 1) := dqo gX11_all_0.2.2.2.2.2.2.2.2.2.1
theorem dX11_all_22 : decode (mB 152) 22 = .ok (.aload_n 0, 1) := dqo gX11_all_0.2.2.2.2.2.2.2.2.2.2.1
theorem dX11_all_23 : decode (mB 152) 23 = .ok (.getfield 51, 3) := dqo gX11_all_0.2.2.2.2.2.2.2.2.2.2.2.1
theorem dX11_all_26 : decode (mB 152) 26 = .ok (.aload_n 0, 1) := dqo gX11_all_0.2.2.2.2.2.2.2.2.2.2.2.2.1
theorem dX11_all_27 : decode (mB 152) 27 = .ok (.getfield 42, 3) := dqo gX11_all_0.2.2.2.2.2.2.2.2.2.2.2.2.2.1
theorem dX11_all_30 : decode (mB 152) 30 = .ok (.iload_n 1, 1) := dqo gX11_all_0.2.2.2.2.2.2.2.2.2.2.2.2.2.2.1
theorem dX11_all_31 : decode (mB 152) 31 = .ok (.invokevirtual 183, 3) := dqo gX11_all_0.2.2.2.2.2.2.2.2.2.2.2.2.2.2.2
theorem gX11_all_34 : dq 152 34 (.aload_n 0) 1 = true ∧ dq 152 35 (.getfield 51) 3 = true ∧ dq 152 38 (.invokevirtual 220) 3 = true ∧ dq 152 41 (.aload_n 0) 1 = true ∧ dq 152 42 (.getfield 51) 3 = true ∧ dq 152 45 (.invokevirtual 209) 3 = true ∧ dq 152 48 (.aload_n 0) 1 = true ∧ dq 152 49 (.getfield 51) 3 = true ∧ dq 152 52 (.invokevirtual 213) 3 = true ∧ dq 152 55 (.iload_n 2) 1 = true ∧ dq 152 56 (.invokestatic 216) 3 = true ∧ dq 152 59 (.lreturn) 1 = true := by decide +kernel
theorem dX11_all_34 : decode (mB 152) 34 = .ok (.aload_n 0, 1) := dqo gX11_all_34.1
theorem dX11_all_35 : decode (mB 152) 35 = .ok (.getfield 51, 3) := dqo gX11_all_34.2.1
theorem dX11_all_38 : decode (mB 152) 38 = .ok (.invokevirtual 220, 3) := dqo gX11_all_34.2.2.1
theorem dX11_all_41 : decode (mB 152) 41 = .ok (.aload_n 0, 1) := dqo gX11_all_34.2.2.2.1
theorem dX11_all_42 : decode (mB 152) 42 = .ok (.getfield 51, 3) := dqo gX11_all_34.2.2.2.2.1
theorem dX11_all_45 : decode (mB 152) 45 = .ok (.invokevirtual 209, 3) := dqo gX11_all_34.2.2.2.2.2.1
theorem dX11_all_48 : decode (mB 152) 48 = .ok (.aload_n 0, 1) := dqo gX11_all_34.2.2.2.2.2.2.1
theorem dX11_all_49 : decode (mB 152) 49 = .ok (.getfield 51, 3) := dqo gX11_all_34.2.2.2.2.2.2.2.1
theorem dX11_all_52 : decode (mB 152) 52 = .ok (.invokevirtual 213, 3) := dqo gX11_all_34.2.2.2.2.2.2.2.2.1
theorem dX11_all_55 : decode (mB 152) 55 = .ok (.iload_n 2, 1) := dqo gX11_all_34.2.2.2.2.2.2.2.2.2.1
theorem dX11_all_56 : decode (mB 152) 56 = .ok (.invokestatic 216, 3) := dqo gX11_all_34.2.2.2.2.2.2.2.2.2.2.1
theorem dX11_all_59 : decode (mB 152) 59 = .ok (.lreturn, 1) := dqo gX11_all_34.2.2.2.2.2.2.2.2.2.2.2
theorem gX11_isPart_0 : dq 153 0 (.iload_n 0) 1 = true ∧ dq 153 1 (.ifCond .eq 8) 3 = true ∧ dq 153 4 (.iload_n 0) 1 = true ∧ dq 153 5 (.iconst 1) 1 = true ∧ dq 153 6 (.if_icmp .ne 7) 3 = true ∧ dq 153 9 (.iconst 1) 1 = true ∧ dq 153 10 (.goto 4) 3 = true ∧ dq 153 13 (.iconst 0) 1 = true ∧ dq 153 14 (.ireturn) 1 = true := by decide +kernel
theorem dX11_isPart_0 : decode (mB 153) 0 = .ok (.iload_n 0, 1) := dqo gX11_isPart_0.1
theorem dX11_isPart_1 : decode (mB 153) 1 = .ok (.ifCond .eq 8, 3) := dqo gX11_isPart_0.2.1
theorem dX11_isPart_4 : decode (mB 153) 4 = .ok (.iload_n 0, 1) := dqo gX11_isPart_0.2.2.1
theorem dX11_isPart_5 : decode (mB 153) 5 = .ok (.iconst 1, 1) := dqo gX11_isPart_0.2.2.2.1
theorem dX11_isPart_6 : decode (mB 153) 6 = .ok (.if_icmp .ne 7, 3) := dqo gX11_isPart_0.2.2.2.2.1
theorem dX11_isPart_9 : decode (mB 153) 9 = .ok (.iconst 1, 1) := dqo gX11_isPart_0.2.2.2.2.2.1
theorem dX11_isPart_10 : decode (mB 153) 10 = .ok (.goto 4, 3) := dqo gX11_isPart_0.2.2.2.2.2.2.1
theorem dX11_isPart_13 : decode (mB 153) 13 = .ok (.iconst 0, 1) := dqo gX11_isPart_0.2.2.2.2.2.2.2.1
theorem dX11_isPart_14 : decode (mB 153) 14 = .ok (.ireturn, 1) := dqo gX11_isPart_0.2.2.2.2.2.2.2.2
theorem gX11_partOf_0 : dq 154 0 (.lload_n 0) 1 = true ∧ dq 154 1 (.lconst 0) 1 = true ∧ dq 154 2 (.lcmp) 1 = true ∧ dq 154 3 (.ifCond .eq 9) 3 = true ∧ dq 154 6 (.lload_n 2) 1 = true ∧ dq 154 7 (.lconst 0) 1 = true ∧ dq 154 8 (.lcmp) 1 = true ∧ dq 154 9 (.ifCond .ne 7) 3 = true ∧ dq 154 12 (.iload 4) 2 = true ∧ dq 154 14 (.i2l) 1 = true ∧ dq 154 15 (.lreturn) 1 = true ∧ dq 154 16 (.lload_n 2) 1 = true ∧ dq 154 17 (.lstore 5) 2 = true ∧ dq 154 19 (.lload_n 0) 1 = true ∧ dq 154 20 (.lstore 7) 2 = true ∧ dq 154 22 (.iconst 0) 1 = true := by decide +kernel
theorem dX11_partOf_0 : decode (mB 154) 0 = .ok (.lload_n 0, 1) := dqo gX11_partOf_0.1
theorem dX11_partOf_1 : decode (mB 154) 1 = .ok (.lconst 0, 1) := dqo gX11_partOf_0.2.1
theorem dX11_partOf_2 : decode (mB 154) 2 = .ok (.lcmp, 1) := dqo gX11_partOf_0.2.2.1
theorem dX11_partOf_3 : decode (mB 154) 3 = .ok (.ifCond .eq 9, 3) := dqo gX11_partOf_0.2.2.2.1
theorem dX11_partOf_6 : decode (mB 154) 6 = .ok (.lload_n 2, 1) := dqo gX11_partOf_0.2.2.2.2.1
theorem dX11_partOf_7 : decode (mB 154) 7 = .ok (.lconst 0, 1) := dqo gX11_partOf_0.2.2.2.2.2.1
theorem dX11_partOf_8 : decode (mB 154) 8 = .ok (.lcmp, 1) := dqo gX11_partOf_0.2.2.2.2.2.2.1
theorem dX11_partOf_9 : decode (mB 154) 9 = .ok (.ifCond .ne 7, 3) := dqo gX11_partOf_0.2.2.2.2.2.2.2.1
theorem dX11_partOf_12 : decode (mB 154) 12 = .ok (.iload 4, 2) := dqo gX11_partOf_0.2.2.2.2.2.2.2.2.1
theorem dX11_partOf_14 : decode (mB 154) 14 = .ok (.i2l, 1) := dqo gX11_partOf_0.2.2.2.2.2.2.2.2.2.1
theorem dX11_partOf_15 : decode (mB 154) 15 = .ok (.lreturn, 1) := dqo gX11_partOf_0.2.2.2.2.2.2.2.2.2.2.1
theorem dX11_partOf_16 : decode (mB 154) 16 = .ok (.lload_n 2, 1) := dqo gX11_partOf_0.2.2.2.2.2.2.2.2.2.2.2.1
theorem dX11_partOf_17 : decode (mB 154) 17 = .ok (.lstore 5, 2) := dqo gX11_partOf_0.2.2.2.2.2.2.2.2.2.2.2.2.1
theorem dX11_partOf_19 : decode (mB 154) 19 = .ok (.lload_n 0, 1) := dqo gX11_partOf_0.2.2.2.2.2.2.2.2.2.2.2.2.2.1
theorem dX11_partOf_20 : decode (mB 154) 20 = .ok (.lstore 7, 2) := dqo gX11_partOf_0.2.2.2.2.2.2.2.2.2.2.2.2.2.2.1
theorem dX11_partOf_22 : decode (mB 154) 22 = .ok (.iconst 0, 1) := dqo gX11_partOf_0.2.2.2.2.2.2.2.2.2.2.2.2.2.2.2
theorem gX11_partOf_23 : dq 154 23 (.istore 9) 2 = true ∧ dq 154 25 (.iload 9) 2 = true ∧ dq 154 27 (.sipush 200) 3 = true ∧ dq 154 30 (.if_icmp .ge 31) 3 = true ∧ dq 154 33 (.lload 7) 2 = true ∧ dq 154 35 (.lconst 0) 1 = true ∧ dq 154 36 (.lcmp) 1 = true ∧ dq 154 37 (.ifCond .eq 24) 3 = true ∧ dq 154 40 (.lload 5) 2 = true ∧ dq 154 42 (.lload 7) 2 = true ∧ dq 154 44 (.lrem) 1 = true ∧ dq 154 45 (.lstore 10) 2 = true ∧ dq 154 47 (.lload 7) 2 = true ∧ dq 154 49 (.lstore 5) 2 = true ∧ dq 154 51 (.lload 10) 2 = true ∧ dq 154 53 (.lstore 7) 2 = true := by decide +kernel
theorem dX11_partOf_23 : decode (mB 154) 23 = .ok (.istore 9, 2) := dqo gX11_partOf_23.1
theorem dX11_partOf_25 : decode (mB 154) 25 = .ok (.iload 9, 2) := dqo gX11_partOf_23.2.1
theorem dX11_partOf_27 : decode (mB 154) 27 = .ok (.sipush 200, 3) := dqo gX11_partOf_23.2.2.1
theorem dX11_partOf_30 : decode (mB 154) 30 = .ok (.if_icmp .ge 31, 3) := dqo gX11_partOf_23.2.2.2.1
theorem dX11_partOf_33 : decode (mB 154) 33 = .ok (.lload 7, 2) := dqo gX11_partOf_23.2.2.2.2.1
theorem dX11_partOf_35 : decode (mB 154) 35 = .ok (.lconst 0, 1) := dqo gX11_partOf_23.2.2.2.2.2.1
theorem dX11_partOf_36 : decode (mB 154) 36 = .ok (.lcmp, 1) := dqo gX11_partOf_23.2.2.2.2.2.2.1
theorem dX11_partOf_37 : decode (mB 154) 37 = .ok (.ifCond .eq 24, 3) := dqo gX11_partOf_23.2.2.2.2.2.2.2.1
theorem dX11_partOf_40 : decode (mB 154) 40 = .ok (.lload 5, 2) := dqo gX11_partOf_23.2.2.2.2.2.2.2.2.1
theorem dX11_partOf_42 : decode (mB 154) 42 = .ok (.lload 7, 2) := dqo gX11_partOf_23.2.2.2.2.2.2.2.2.2.1
theorem dX11_partOf_44 : decode (mB 154) 44 = .ok (.lrem, 1) := dqo gX11_partOf_23.2.2.2.2.2.2.2.2.2.2.1
theorem dX11_partOf_45 : decode (mB 154) 45 = .ok (.lstore 10, 2) := dqo gX11_partOf_23.2.2.2.2.2.2.2.2.2.2.2.1
theorem dX11_partOf_47 : decode (mB 154) 47 = .ok (.lload 7, 2) := dqo gX11_partOf_23.2.2.2.2.2.2.2.2.2.2.2.2.1
theorem dX11_partOf_49 : decode (mB 154) 49 = .ok (.lstore 5, 2) := dqo gX11_partOf_23.2.2.2.2.2.2.2.2.2.2.2.2.2.1
theorem dX11_partOf_51 : decode (mB 154) 51 = .ok (.lload 10, 2) := dqo gX11_partOf_23.2.2.2.2.2.2.2.2.2.2.2.2.2.2.1
theorem dX11_partOf_53 : decode (mB 154) 53 = .ok (.lstore 7, 2) := dqo gX11_partOf_23.2.2.2.2.2.2.2.2.2.2.2.2.2.2.2
theorem gX11_partOf_55 : dq 154 55 (.iinc 9 1) 3 = true ∧ dq 154 58 (.goto (-33)) 3 = true ∧ dq 154 61 (.lload 5) 2 = true ∧ dq 154 63 (.lconst 0) 1 = true ∧ dq 154 64 (.lcmp) 1 = true ∧ dq 154 65 (.ifCond .ne 7) 3 = true ∧ dq 154 68 (.iload 4) 2 = true ∧ dq 154 70 (.i2l) 1 = true ∧ dq 154 71 (.lreturn) 1 = true ∧ dq 154 72 (.iload 4) 2 = true ∧ dq 154 74 (.ifCond .ne 7) 3 = true ∧ dq 154 77 (.lload_n 0) 1 = true ∧ dq 154 78 (.goto 4) 3 = true ∧ dq 154 81 (.lload_n 2) 1 = true ∧ dq 154 82 (.lload 5) 2 = true ∧ dq 154 84 (.ldiv) 1 = true := by decide +kernel
theorem dX11_partOf_55 : decode (mB 154) 55 = .ok (.iinc 9 1, 3) := dqo gX11_partOf_55.1
theorem dX11_partOf_58 : decode (mB 154) 58 = .ok (.goto (-33), 3) := dqo gX11_partOf_55.2.1
theorem dX11_partOf_61 : decode (mB 154) 61 = .ok (.lload 5, 2) := dqo gX11_partOf_55.2.2.1
theorem dX11_partOf_63 : decode (mB 154) 63 = .ok (.lconst 0, 1) := dqo gX11_partOf_55.2.2.2.1
theorem dX11_partOf_64 : decode (mB 154) 64 = .ok (.lcmp, 1) := dqo gX11_partOf_55.2.2.2.2.1
theorem dX11_partOf_65 : decode (mB 154) 65 = .ok (.ifCond .ne 7, 3) := dqo gX11_partOf_55.2.2.2.2.2.1
theorem dX11_partOf_68 : decode (mB 154) 68 = .ok (.iload 4, 2) := dqo gX11_partOf_55.2.2.2.2.2.2.1
theorem dX11_partOf_70 : decode (mB 154) 70 = .ok (.i2l, 1) := dqo gX11_partOf_55.2.2.2.2.2.2.2.1
theorem dX11_partOf_71 : decode (mB 154) 71 = .ok (.lreturn, 1) := dqo gX11_partOf_55.2.2.2.2.2.2.2.2.1
theorem dX11_partOf_72 : decode (mB 154) 72 = .ok (.iload 4, 2) := dqo gX11_partOf_55.2.2.2.2.2.2.2.2.2.1
theorem dX11_partOf_74 : decode (mB 154) 74 = .ok (.ifCond .ne 7, 3) := dqo gX11_partOf_55.2.2.2.2.2.2.2.2.2.2.1
theorem dX11_partOf_77 : decode (mB 154) 77 = .ok (.lload_n 0, 1) := dqo gX11_partOf_55.2.2.2.2.2.2.2.2.2.2.2.1
theorem dX11_partOf_78 : decode (mB 154) 78 = .ok (.goto 4, 3) := dqo gX11_partOf_55.2.2.2.2.2.2.2.2.2.2.2.2.1
theorem dX11_partOf_81 : decode (mB 154) 81 = .ok (.lload_n 2, 1) := dqo gX11_partOf_55.2.2.2.2.2.2.2.2.2.2.2.2.2.1
theorem dX11_partOf_82 : decode (mB 154) 82 = .ok (.lload 5, 2) := dqo gX11_partOf_55.2.2.2.2.2.2.2.2.2.2.2.2.2.2.1
theorem dX11_partOf_84 : decode (mB 154) 84 = .ok (.ldiv, 1) := dqo gX11_partOf_55.2.2.2.2.2.2.2.2.2.2.2.2.2.2.2
theorem dX11_partOf_85 : decode (mB 154) 85 = .ok (.lreturn, 1) := dqo (by decide +kernel)
theorem gX11_king_0 : dq 155 0 (.aload_n 0) 1 = true ∧ dq 155 1 (.getfield 10) 3 = true ∧ dq 155 4 (.iload_n 1) 1 = true ∧ dq 155 5 (.invokevirtual 140) 3 = true ∧ dq 155 8 (.ifCond .eq 10) 3 = true ∧ dq 155 11 (.iload_n 2) 1 = true ∧ dq 155 12 (.invokestatic 199) 3 = true ∧ dq 155 15 (.ifCond .ne 7) 3 = true ∧ dq 155 18 (.ldc2_w 204) 3 = true ∧ dq 155 21 (.lreturn) 1 = true ∧ dq 155 22 (.aload_n 0) 1 = true ∧ dq 155 23 (.invokevirtual 143) 3 = true ∧ dq 155 26 (.astore_n 3) 1 = true ∧ dq 155 27 (.aload_n 3) 1 = true ∧ dq 155 28 (.iload_n 1) 1 = true ∧ dq 155 29 (.invokevirtual 150) 3 = true := by decide +kernel
theorem dX11_king_0 : decode (mB 155) 0 = .ok (.aload_n 0, 1) := dqo gX11_king_0.1
theorem dX11_king_1 : decode (mB 155) 1 = .ok (.getfield 10, 3) := dqo gX11_king_0.2.1
theorem dX11_king_4 : decode (mB 155) 4 = .ok (.iload_n 1, 1) := dqo gX11_king_0.2.2.1
theorem dX11_king_5 : decode (mB 155) 5 = .ok (.invokevirtual 140, 3) := dqo gX11_king_0.2.2.2.1
theorem dX11_king_8 : decode (mB 155) 8 = .ok (.ifCond .eq 10, 3) := dqo gX11_king_0.2.2.2.2.1
theorem dX11_king_11 : decode (mB 155) 11 = .ok (.iload_n 2, 1) := dqo gX11_king_0.2.2.2.2.2.1
theorem dX11_king_12 : decode (mB 155) 12 = .ok (.invokestatic 199, 3) := dqo gX11_king_0.2.2.2.2.2.2.1
theorem dX11_king_15 : decode (mB 155) 15 = .ok (.ifCond .ne 7, 3) := dqo gX11_king_0.2.2.2.2.2.2.2.1
theorem dX11_king_18 : decode (mB 155) 18 = .ok (.ldc2_w 204, 3) := dqo gX11_king_0.2.2.2.2.2.2.2.2.1
theorem dX11_king_21 : decode (mB 155) 21 = .ok (.lreturn, 1) := dqo gX11_king_0.2.2.2.2.2.2.2.2.2.1
theorem dX11_king_22 : decode (mB 155) 22 = .ok (.aload_n 0, 1) := dqo gX11_king_0.2.2.2.2.2.2.2.2.2.2.1
theorem dX11_king_23 : decode (mB 155) 23 = .ok (.invokevirtual 143, 3) := dqo gX11_king_0.2.2.2.2.2.2.2.2.2.2.2.1
theorem dX11_king_26 : decode (mB 155) 26 = .ok (.astore_n 3, 1) := dqo gX11_king_0.2.2.2.2.2.2.2.2.2.2.2.2.1
theorem dX11_king_27 : decode (mB 155) 27 = .ok (.aload_n 3, 1) := dqo gX11_king_0.2.2.2.2.2.2.2.2.2.2.2.2.2.1
theorem dX11_king_28 : decode (mB 155) 28 = .ok (.iload_n 1, 1) := dqo gX11_king_0.2.2.2.2.2.2.2.2.2.2.2.2.2.2.1
theorem dX11_king_29 : decode (mB 155) 29 = .ok (.invokevirtual 150, 3) := dqo gX11_king_0.2.2.2.2.2.2.2.2.2.2.2.2.2.2.2
theorem gX11_king_32 : dq 155 32 (.i2l) 1 = true ∧ dq 155 33 (.aload_n 3) 1 = true ∧ dq 155 34 (.invokevirtual 223) 3 = true ∧ dq 155 37 (.i2l) 1 = true ∧ dq 155 38 (.iload_n 2) 1 = true ∧ dq 155 39 (.invokestatic 216) 3 = true ∧ dq 155 42 (.lreturn) 1 = true := by decide +kernel
theorem dX11_king_32 : decode (mB 155) 32 = .ok (.i2l, 1) := dqo gX11_king_32.1
theorem dX11_king_33 : decode (mB 155) 33 = .ok (.aload_n 3, 1) := dqo gX11_king_32.2.1
theorem dX11_king_34 : decode (mB 155) 34 = .ok (.invokevirtual 223, 3) := dqo gX11_king_32.2.2.1
theorem dX11_king_37 : decode (mB 155) 37 = .ok (.i2l, 1) := dqo gX11_king_32.2.2.2.1
theorem dX11_king_38 : decode (mB 155) 38 = .ok (.iload_n 2, 1) := dqo gX11_king_32.2.2.2.2.1
theorem dX11_king_39 : decode (mB 155) 39 = .ok (.invokestatic 216, 3) := dqo gX11_king_32.2.2.2.2.2.1
theorem dX11_king_42 : decode (mB 155) 42 = .ok (.lreturn, 1) := dqo gX11_king_32.2.2.2.2.2.2
theorem gX11_safe_0 : dq 156 0 (.aload_n 0) 1 = true ∧ dq 156 1 (.invokevirtual 143) 3 = true ∧ dq 156 4 (.astore_n 1) 1 = true ∧ dq 156 5 (.iconst 0) 1 = true ∧ dq 156 6 (.istore_n 2) 1 = true ∧ dq 156 7 (.iconst 0) 1 = true ∧ dq 156 8 (.istore_n 3) 1 = true ∧ dq 156 9 (.iload_n 3) 1 = true ∧ dq 156 10 (.aload_n 0) 1 = true ∧ dq 156 11 (.getfield 10) 3 = true ∧ dq 156 14 (.invokevirtual 226) 3 = true ∧ dq 156 17 (.if_icmp .ge 23) 3 = true ∧ dq 156 20 (.aload_n 1) 1 = true ∧ dq 156 21 (.iload_n 3) 1 = true ∧ dq 156 22 (.invokevirtual 150) 3 = true ∧ dq 156 25 (.ifCond .ne 9) 3 = true := by decide +kernel
theorem dX11_safe_0 : decode (mB 156) 0 = .ok (.aload_n 0, 1) := dqo gX11_safe_0.1
theorem dX11_safe_1 : decode (mB 156) 1 = .ok (.invokevirtual 143, 3) := dqo gX11_safe_0.2.1
theorem dX11_safe_4 : decode (mB 156) 4 = .ok (.astore_n 1, 1) := dqo gX11_safe_0.2.2.1
theorem dX11_safe_5 : decode (mB 156) 5 = .ok (.iconst 0, 1) := dqo gX11_safe_0.2.2.2.1
theorem dX11_safe_6 : decode (mB 156) 6 = .ok (.istore_n 2, 1) := dqo gX11_safe_0.2.2.2.2.1
theorem dX11_safe_7 : decode (mB 156) 7 = .ok (.iconst 0, 1) := dqo gX11_safe_0.2.2.2.2.2.1
theorem dX11_safe_8 : decode (mB 156) 8 = .ok (.istore_n 3, 1) := dqo gX11_safe_0.2.2.2.2.2.2.1
theorem dX11_safe_9 : decode (mB 156) 9 = .ok (.iload_n 3, 1) := dqo gX11_safe_0.2.2.2.2.2.2.2.1
theorem dX11_safe_10 : decode (mB 156) 10 = .ok (.aload_n 0, 1) := dqo gX11_safe_0.2.2.2.2.2.2.2.2.1
theorem dX11_safe_11 : decode (mB 156) 11 = .ok (.getfield 10, 3) := dqo gX11_safe_0.2.2.2.2.2.2.2.2.2.1
theorem dX11_safe_14 : decode (mB 156) 14 = .ok (.invokevirtual 226, 3) := dqo gX11_safe_0.2.2.2.2.2.2.2.2.2.2.1
theorem dX11_safe_17 : decode (mB 156) 17 = .ok (.if_icmp .ge 23, 3) := dqo gX11_safe_0.2.2.2.2.2.2.2.2.2.2.2.1
theorem dX11_safe_20 : decode (mB 156) 20 = .ok (.aload_n 1, 1) := dqo gX11_safe_0.2.2.2.2.2.2.2.2.2.2.2.2.1
theorem dX11_safe_21 : decode (mB 156) 21 = .ok (.iload_n 3, 1) := dqo gX11_safe_0.2.2.2.2.2.2.2.2.2.2.2.2.2.1
theorem dX11_safe_22 : decode (mB 156) 22 = .ok (.invokevirtual 150, 3) := dqo gX11_safe_0.2.2.2.2.2.2.2.2.2.2.2.2.2.2.1
theorem dX11_safe_25 : decode (mB 156) 25 = .ok (.ifCond .ne 9, 3) := dqo gX11_safe_0.2.2.2.2.2.2.2.2.2.2.2.2.2.2.2
theorem gX11_safe_28 : dq 156 28 (.iload_n 2) 1 = true ∧ dq 156 29 (.iconst 1) 1 = true ∧ dq 156 30 (.iload_n 3) 1 = true ∧ dq 156 31 (.ishl) 1 = true ∧ dq 156 32 (.ior) 1 = true ∧ dq 156 33 (.istore_n 2) 1 = true ∧ dq 156 34 (.iinc 3 1) 3 = true ∧ dq 156 37 (.goto (-28)) 3 = true ∧ dq 156 40 (.iload_n 2) 1 = true ∧ dq 156 41 (.ireturn) 1 = true := by decide +kernel
theorem dX11_safe_28 : decode (mB 156) 28 = .ok (.iload_n 2, 1) := dqo gX11_safe_28.1
theorem dX11_safe_29 : decode (mB 156) 29 = .ok (.iconst 1, 1) := dqo gX11_safe_28.2.1
theorem dX11_safe_30 : decode (mB 156) 30 = .ok (.iload_n 3, 1) := dqo gX11_safe_28.2.2.1
theorem dX11_safe_31 : decode (mB 156) 31 = .ok (.ishl, 1) := dqo gX11_safe_28.2.2.2.1
theorem dX11_safe_32 : decode (mB 156) 32 = .ok (.ior, 1) := dqo gX11_safe_28.2.2.2.2.1
theorem dX11_safe_33 : decode (mB 156) 33 = .ok (.istore_n 2, 1) := dqo gX11_safe_28.2.2.2.2.2.1
theorem dX11_safe_34 : decode (mB 156) 34 = .ok (.iinc 3 1, 3) := dqo gX11_safe_28.2.2.2.2.2.2.1
theorem dX11_safe_37 : decode (mB 156) 37 = .ok (.goto (-28), 3) := dqo gX11_safe_28.2.2.2.2.2.2.2.1
theorem dX11_safe_40 : decode (mB 156) 40 = .ok (.iload_n 2, 1) := dqo gX11_safe_28.2.2.2.2.2.2.2.2.1
theorem dX11_safe_41 : decode (mB 156) 41 = .ok (.ireturn, 1) := dqo gX11_safe_28.2.2.2.2.2.2.2.2.2
theorem gX11_likeliest_0 : dq 157 0 (.aload_n 0) 1 = true ∧ dq 157 1 (.invokevirtual 143) 3 = true ∧ dq 157 4 (.astore_n 1) 1 = true ∧ dq 157 5 (.iconst 0) 1 = true ∧ dq 157 6 (.istore_n 2) 1 = true ∧ dq 157 7 (.bipush (-2)) 2 = true ∧ dq 157 9 (.istore_n 3) 1 = true ∧ dq 157 10 (.iconst 0) 1 = true ∧ dq 157 11 (.istore 4) 2 = true ∧ dq 157 13 (.iload 4) 2 = true ∧ dq 157 15 (.aload_n 0) 1 = true ∧ dq 157 16 (.getfield 10) 3 = true ∧ dq 157 19 (.invokevirtual 226) 3 = true ∧ dq 157 22 (.if_icmp .ge 29) 3 = true ∧ dq 157 25 (.aload_n 1) 1 = true ∧ dq 157 26 (.iload 4) 2 = true := by decide +kernel
theorem dX11_likeliest_0 : decode (mB 157) 0 = .ok (.aload_n 0, 1) := dqo gX11_likeliest_0.1
theorem dX11_likeliest_1 : decode (mB 157) 1 = .ok (.invokevirtual 143, 3) := dqo gX11_likeliest_0.2.1
theorem dX11_likeliest_4 : decode (mB 157) 4 = .ok (.astore_n 1, 1) := dqo gX11_likeliest_0.2.2.1
theorem dX11_likeliest_5 : decode (mB 157) 5 = .ok (.iconst 0, 1) := dqo gX11_likeliest_0.2.2.2.1
theorem dX11_likeliest_6 : decode (mB 157) 6 = .ok (.istore_n 2, 1) := dqo gX11_likeliest_0.2.2.2.2.1
theorem dX11_likeliest_7 : decode (mB 157) 7 = .ok (.bipush (-2), 2) := dqo gX11_likeliest_0.2.2.2.2.2.1
theorem dX11_likeliest_9 : decode (mB 157) 9 = .ok (.istore_n 3, 1) := dqo gX11_likeliest_0.2.2.2.2.2.2.1
theorem dX11_likeliest_10 : decode (mB 157) 10 = .ok (.iconst 0, 1) := dqo gX11_likeliest_0.2.2.2.2.2.2.2.1
theorem dX11_likeliest_11 : decode (mB 157) 11 = .ok (.istore 4, 2) := dqo gX11_likeliest_0.2.2.2.2.2.2.2.2.1
theorem dX11_likeliest_13 : decode (mB 157) 13 = .ok (.iload 4, 2) := dqo gX11_likeliest_0.2.2.2.2.2.2.2.2.2.1
theorem dX11_likeliest_15 : decode (mB 157) 15 = .ok (.aload_n 0, 1) := dqo gX11_likeliest_0.2.2.2.2.2.2.2.2.2.2.1
theorem dX11_likeliest_16 : decode (mB 157) 16 = .ok (.getfield 10, 3) := dqo gX11_likeliest_0.2.2.2.2.2.2.2.2.2.2.2.1
theorem dX11_likeliest_19 : decode (mB 157) 19 = .ok (.invokevirtual 226, 3) := dqo gX11_likeliest_0.2.2.2.2.2.2.2.2.2.2.2.2.1
theorem dX11_likeliest_22 : decode (mB 157) 22 = .ok (.if_icmp .ge 29, 3) := dqo gX11_likeliest_0.2.2.2.2.2.2.2.2.2.2.2.2.2.1
theorem dX11_likeliest_25 : decode (mB 157) 25 = .ok (.aload_n 1, 1) := dqo gX11_likeliest_0.2.2.2.2.2.2.2.2.2.2.2.2.2.2.1
theorem dX11_likeliest_26 : decode (mB 157) 26 = .ok (.iload 4, 2) := dqo gX11_likeliest_0.2.2.2.2.2.2.2.2.2.2.2.2.2.2.2
theorem gX11_likeliest_28 : dq 157 28 (.invokevirtual 150) 3 = true ∧ dq 157 31 (.istore 5) 2 = true ∧ dq 157 33 (.iload 5) 2 = true ∧ dq 157 35 (.iload_n 2) 1 = true ∧ dq 157 36 (.if_icmp .le 9) 3 = true ∧ dq 157 39 (.iload 5) 2 = true ∧ dq 157 41 (.istore_n 2) 1 = true ∧ dq 157 42 (.iload 4) 2 = true ∧ dq 157 44 (.istore_n 3) 1 = true ∧ dq 157 45 (.iinc 4 1) 3 = true ∧ dq 157 48 (.goto (-35)) 3 = true ∧ dq 157 51 (.iload_n 3) 1 = true ∧ dq 157 52 (.ireturn) 1 = true := by decide +kernel
theorem dX11_likeliest_28 : decode (mB 157) 28 = .ok (.invokevirtual 150, 3) := dqo gX11_likeliest_28.1
theorem dX11_likeliest_31 : decode (mB 157) 31 = .ok (.istore 5, 2) := dqo gX11_likeliest_28.2.1
theorem dX11_likeliest_33 : decode (mB 157) 33 = .ok (.iload 5, 2) := dqo gX11_likeliest_28.2.2.1
theorem dX11_likeliest_35 : decode (mB 157) 35 = .ok (.iload_n 2, 1) := dqo gX11_likeliest_28.2.2.2.1
theorem dX11_likeliest_36 : decode (mB 157) 36 = .ok (.if_icmp .le 9, 3) := dqo gX11_likeliest_28.2.2.2.2.1
theorem dX11_likeliest_39 : decode (mB 157) 39 = .ok (.iload 5, 2) := dqo gX11_likeliest_28.2.2.2.2.2.1
theorem dX11_likeliest_41 : decode (mB 157) 41 = .ok (.istore_n 2, 1) := dqo gX11_likeliest_28.2.2.2.2.2.2.1
theorem dX11_likeliest_42 : decode (mB 157) 42 = .ok (.iload 4, 2) := dqo gX11_likeliest_28.2.2.2.2.2.2.2.1
theorem dX11_likeliest_44 : decode (mB 157) 44 = .ok (.istore_n 3, 1) := dqo gX11_likeliest_28.2.2.2.2.2.2.2.2.1
theorem dX11_likeliest_45 : decode (mB 157) 45 = .ok (.iinc 4 1, 3) := dqo gX11_likeliest_28.2.2.2.2.2.2.2.2.2.1
theorem dX11_likeliest_48 : decode (mB 157) 48 = .ok (.goto (-35), 3) := dqo gX11_likeliest_28.2.2.2.2.2.2.2.2.2.2.1
theorem dX11_likeliest_51 : decode (mB 157) 51 = .ok (.iload_n 3, 1) := dqo gX11_likeliest_28.2.2.2.2.2.2.2.2.2.2.2.1
theorem dX11_likeliest_52 : decode (mB 157) 52 = .ok (.ireturn, 1) := dqo gX11_likeliest_28.2.2.2.2.2.2.2.2.2.2.2.2
theorem gX11_watch_0 : dq 158 0 (.aload_n 0) 1 = true ∧ dq 158 1 (.getfield 10) 3 = true ∧ dq 158 4 (.iload_n 1) 1 = true ∧ dq 158 5 (.invokevirtual 140) 3 = true ∧ dq 158 8 (.ifCond .ne 5) 3 = true ∧ dq 158 11 (.iconst (-1)) 1 = true ∧ dq 158 12 (.ireturn) 1 = true ∧ dq 158 13 (.aload_n 0) 1 = true ∧ dq 158 14 (.invokevirtual 143) 3 = true ∧ dq 158 17 (.astore_n 2) 1 = true ∧ dq 158 18 (.iconst (-1)) 1 = true ∧ dq 158 19 (.istore_n 3) 1 = true ∧ dq 158 20 (.bipush (-2)) 2 = true ∧ dq 158 22 (.istore 4) 2 = true ∧ dq 158 24 (.iconst 0) 1 = true ∧ dq 158 25 (.istore 5) 2 = true := by decide +kernel
theorem dX11_watch_0 : decode (mB 158) 0 = .ok (.aload_n 0, 1) := dqo gX11_watch_0.1
theorem dX11_watch_1 : decode (mB 158) 1 = .ok (.getfield 10, 3) := dqo gX11_watch_0.2.1
theorem dX11_watch_4 : decode (mB 158) 4 = .ok (.iload_n 1, 1) := dqo gX11_watch_0.2.2.1
theorem dX11_watch_5 : decode (mB 158) 5 = .ok (.invokevirtual 140, 3) := dqo gX11_watch_0.2.2.2.1
theorem dX11_watch_8 : decode (mB 158) 8 = .ok (.ifCond .ne 5, 3) := dqo gX11_watch_0.2.2.2.2.1
theorem dX11_watch_11 : decode (mB 158) 11 = .ok (.iconst (-1), 1) := dqo gX11_watch_0.2.2.2.2.2.1
theorem dX11_watch_12 : decode (mB 158) 12 = .ok (.ireturn, 1) := dqo gX11_watch_0.2.2.2.2.2.2.1
theorem dX11_watch_13 : decode (mB 158) 13 = .ok (.aload_n 0, 1) := dqo gX11_watch_0.2.2.2.2.2.2.2.1
theorem dX11_watch_14 : decode (mB 158) 14 = .ok (.invokevirtual 143, 3) := dqo gX11_watch_0.2.2.2.2.2.2.2.2.1
theorem dX11_watch_17 : decode (mB 158) 17 = .ok (.astore_n 2, 1) := dqo gX11_watch_0.2.2.2.2.2.2.2.2.2.1
theorem dX11_watch_18 : decode (mB 158) 18 = .ok (.iconst (-1), 1) := dqo gX11_watch_0.2.2.2.2.2.2.2.2.2.2.1
theorem dX11_watch_19 : decode (mB 158) 19 = .ok (.istore_n 3, 1) := dqo gX11_watch_0.2.2.2.2.2.2.2.2.2.2.2.1
theorem dX11_watch_20 : decode (mB 158) 20 = .ok (.bipush (-2), 2) := dqo gX11_watch_0.2.2.2.2.2.2.2.2.2.2.2.2.1
theorem dX11_watch_22 : decode (mB 158) 22 = .ok (.istore 4, 2) := dqo gX11_watch_0.2.2.2.2.2.2.2.2.2.2.2.2.2.1
theorem dX11_watch_24 : decode (mB 158) 24 = .ok (.iconst 0, 1) := dqo gX11_watch_0.2.2.2.2.2.2.2.2.2.2.2.2.2.2.1
theorem dX11_watch_25 : decode (mB 158) 25 = .ok (.istore 5, 2) := dqo gX11_watch_0.2.2.2.2.2.2.2.2.2.2.2.2.2.2.2
theorem gX11_watch_27 : dq 158 27 (.iload 5) 2 = true ∧ dq 158 29 (.aload_n 0) 1 = true ∧ dq 158 30 (.getfield 10) 3 = true ∧ dq 158 33 (.invokevirtual 229) 3 = true ∧ dq 158 36 (.if_icmp .ge 62) 3 = true ∧ dq 158 39 (.aload_n 2) 1 = true ∧ dq 158 40 (.iload 5) 2 = true ∧ dq 158 42 (.iload_n 1) 1 = true ∧ dq 158 43 (.invokevirtual 232) 3 = true ∧ dq 158 46 (.ifCond .eq 46) 3 = true ∧ dq 158 49 (.aload_n 2) 1 = true ∧ dq 158 50 (.iload 5) 2 = true ∧ dq 158 52 (.iload_n 1) 1 = true ∧ dq 158 53 (.invokevirtual 174) 3 = true ∧ dq 158 56 (.istore 6) 2 = true ∧ dq 158 58 (.aload_n 2) 1 = true := by decide +kernel
theorem dX11_watch_27 : decode (mB 158) 27 = .ok (.iload 5, 2) := dqo gX11_watch_27.1
theorem dX11_watch_29 : decode (mB 158) 29 = .ok (.aload_n 0, 1) := dqo gX11_watch_27.2.1
theorem dX11_watch_30 : decode (mB 158) 30 = .ok (.getfield 10, 3) := dqo gX11_watch_27.2.2.1
theorem dX11_watch_33 : decode (mB 158) 33 = .ok (.invokevirtual 229, 3) := dqo gX11_watch_27.2.2.2.1
theorem dX11_watch_36 : decode (mB 158) 36 = .ok (.if_icmp .ge 62, 3) := dqo gX11_watch_27.2.2.2.2.1
theorem dX11_watch_39 : decode (mB 158) 39 = .ok (.aload_n 2, 1) := dqo gX11_watch_27.2.2.2.2.2.1
theorem dX11_watch_40 : decode (mB 158) 40 = .ok (.iload 5, 2) := dqo gX11_watch_27.2.2.2.2.2.2.1
theorem dX11_watch_42 : decode (mB 158) 42 = .ok (.iload_n 1, 1) := dqo gX11_watch_27.2.2.2.2.2.2.2.1
theorem dX11_watch_43 : decode (mB 158) 43 = .ok (.invokevirtual 232, 3) := dqo gX11_watch_27.2.2.2.2.2.2.2.2.1
theorem dX11_watch_46 : decode (mB 158) 46 = .ok (.ifCond .eq 46, 3) := dqo gX11_watch_27.2.2.2.2.2.2.2.2.2.1
theorem dX11_watch_49 : decode (mB 158) 49 = .ok (.aload_n 2, 1) := dqo gX11_watch_27.2.2.2.2.2.2.2.2.2.2.1
theorem dX11_watch_50 : decode (mB 158) 50 = .ok (.iload 5, 2) := dqo gX11_watch_27.2.2.2.2.2.2.2.2.2.2.2.1
theorem dX11_watch_52 : decode (mB 158) 52 = .ok (.iload_n 1, 1) := dqo gX11_watch_27.2.2.2.2.2.2.2.2.2.2.2.2.1
theorem dX11_watch_53 : decode (mB 158) 53 = .ok (.invokevirtual 174, 3) := dqo gX11_watch_27.2.2.2.2.2.2.2.2.2.2.2.2.2.1
theorem dX11_watch_56 : decode (mB 158) 56 = .ok (.istore 6, 2) := dqo gX11_watch_27.2.2.2.2.2.2.2.2.2.2.2.2.2.2.1
theorem dX11_watch_58 : decode (mB 158) 58 = .ok (.aload_n 2, 1) := dqo gX11_watch_27.2.2.2.2.2.2.2.2.2.2.2.2.2.2.2
theorem gX11_watch_59 : dq 158 59 (.iload 5) 2 = true ∧ dq 158 61 (.invokevirtual 190) 3 = true ∧ dq 158 64 (.istore 7) 2 = true ∧ dq 158 66 (.iload 6) 2 = true ∧ dq 158 68 (.iload_n 3) 1 = true ∧ dq 158 69 (.if_icmp .gt 16) 3 = true ∧ dq 158 72 (.iload 6) 2 = true ∧ dq 158 74 (.iload_n 3) 1 = true ∧ dq 158 75 (.if_icmp .ne 17) 3 = true ∧ dq 158 78 (.iload 7) 2 = true ∧ dq 158 80 (.iload 4) 2 = true ∧ dq 158 82 (.if_icmp .ge 10) 3 = true ∧ dq 158 85 (.iload 6) 2 = true ∧ dq 158 87 (.istore_n 3) 1 = true ∧ dq 158 88 (.iload 7) 2 = true ∧ dq 158 90 (.istore 4) 2 = true := by decide +kernel
theorem dX11_watch_59 : decode (mB 158) 59 = .ok (.iload 5, 2) := dqo gX11_watch_59.1
theorem dX11_watch_61 : decode (mB 158) 61 = .ok (.invokevirtual 190, 3) := dqo gX11_watch_59.2.1
theorem dX11_watch_64 : decode (mB 158) 64 = .ok (.istore 7, 2) := dqo gX11_watch_59.2.2.1
theorem dX11_watch_66 : decode (mB 158) 66 = .ok (.iload 6, 2) := dqo gX11_watch_59.2.2.2.1
theorem dX11_watch_68 : decode (mB 158) 68 = .ok (.iload_n 3, 1) := dqo gX11_watch_59.2.2.2.2.1
theorem dX11_watch_69 : decode (mB 158) 69 = .ok (.if_icmp .gt 16, 3) := dqo gX11_watch_59.2.2.2.2.2.1
theorem dX11_watch_72 : decode (mB 158) 72 = .ok (.iload 6, 2) := dqo gX11_watch_59.2.2.2.2.2.2.1
theorem dX11_watch_74 : decode (mB 158) 74 = .ok (.iload_n 3, 1) := dqo gX11_watch_59.2.2.2.2.2.2.2.1
theorem dX11_watch_75 : decode (mB 158) 75 = .ok (.if_icmp .ne 17, 3) := dqo gX11_watch_59.2.2.2.2.2.2.2.2.1
theorem dX11_watch_78 : decode (mB 158) 78 = .ok (.iload 7, 2) := dqo gX11_watch_59.2.2.2.2.2.2.2.2.2.1
theorem dX11_watch_80 : decode (mB 158) 80 = .ok (.iload 4, 2) := dqo gX11_watch_59.2.2.2.2.2.2.2.2.2.2.1
theorem dX11_watch_82 : decode (mB 158) 82 = .ok (.if_icmp .ge 10, 3) := dqo gX11_watch_59.2.2.2.2.2.2.2.2.2.2.2.1
theorem dX11_watch_85 : decode (mB 158) 85 = .ok (.iload 6, 2) := dqo gX11_watch_59.2.2.2.2.2.2.2.2.2.2.2.2.1
theorem dX11_watch_87 : decode (mB 158) 87 = .ok (.istore_n 3, 1) := dqo gX11_watch_59.2.2.2.2.2.2.2.2.2.2.2.2.2.1
theorem dX11_watch_88 : decode (mB 158) 88 = .ok (.iload 7, 2) := dqo gX11_watch_59.2.2.2.2.2.2.2.2.2.2.2.2.2.2.1
theorem dX11_watch_90 : decode (mB 158) 90 = .ok (.istore 4, 2) := dqo gX11_watch_59.2.2.2.2.2.2.2.2.2.2.2.2.2.2.2
theorem gX11_watch_92 : dq 158 92 (.iinc 5 1) 3 = true ∧ dq 158 95 (.goto (-68)) 3 = true ∧ dq 158 98 (.iload_n 3) 1 = true ∧ dq 158 99 (.ifCond .ge 8) 3 = true ∧ dq 158 102 (.bipush (-2)) 2 = true ∧ dq 158 104 (.goto 10) 3 = true ∧ dq 158 107 (.bipush 100) 2 = true ∧ dq 158 109 (.iload_n 3) 1 = true ∧ dq 158 110 (.imul) 1 = true ∧ dq 158 111 (.iload 4) 2 = true ∧ dq 158 113 (.iadd) 1 = true ∧ dq 158 114 (.ireturn) 1 = true := by decide +kernel
theorem dX11_watch_92 : decode (mB 158) 92 = .ok (.iinc 5 1, 3) := dqo gX11_watch_92.1
theorem dX11_watch_95 : decode (mB 158) 95 = .ok (.goto (-68), 3) := dqo gX11_watch_92.2.1
theorem dX11_watch_98 : decode (mB 158) 98 = .ok (.iload_n 3, 1) := dqo gX11_watch_92.2.2.1
theorem dX11_watch_99 : decode (mB 158) 99 = .ok (.ifCond .ge 8, 3) := dqo gX11_watch_92.2.2.2.1
theorem dX11_watch_102 : decode (mB 158) 102 = .ok (.bipush (-2), 2) := dqo gX11_watch_92.2.2.2.2.1
theorem dX11_watch_104 : decode (mB 158) 104 = .ok (.goto 10, 3) := dqo gX11_watch_92.2.2.2.2.2.1
theorem dX11_watch_107 : decode (mB 158) 107 = .ok (.bipush 100, 2) := dqo gX11_watch_92.2.2.2.2.2.2.1
theorem dX11_watch_109 : decode (mB 158) 109 = .ok (.iload_n 3, 1) := dqo gX11_watch_92.2.2.2.2.2.2.2.1
theorem dX11_watch_110 : decode (mB 158) 110 = .ok (.imul, 1) := dqo gX11_watch_92.2.2.2.2.2.2.2.2.1
theorem dX11_watch_111 : decode (mB 158) 111 = .ok (.iload 4, 2) := dqo gX11_watch_92.2.2.2.2.2.2.2.2.2.1
theorem dX11_watch_113 : decode (mB 158) 113 = .ok (.iadd, 1) := dqo gX11_watch_92.2.2.2.2.2.2.2.2.2.2.1
theorem dX11_watch_114 : decode (mB 158) 114 = .ok (.ireturn, 1) := dqo gX11_watch_92.2.2.2.2.2.2.2.2.2.2.2
theorem gX11_rid_0 : dq 159 0 (.aload_n 0) 1 = true ∧ dq 159 1 (.getfield 10) 3 = true ∧ dq 159 4 (.iload_n 1) 1 = true ∧ dq 159 5 (.invokevirtual 140) 3 = true ∧ dq 159 8 (.ifCond .eq 19) 3 = true ∧ dq 159 11 (.iload_n 2) 1 = true ∧ dq 159 12 (.ifCond .lt 15) 3 = true ∧ dq 159 15 (.iload_n 2) 1 = true ∧ dq 159 16 (.iconst 3) 1 = true ∧ dq 159 17 (.if_icmp .gt 10) 3 = true ∧ dq 159 20 (.iload_n 3) 1 = true ∧ dq 159 21 (.invokestatic 199) 3 = true ∧ dq 159 24 (.ifCond .ne 7) 3 = true ∧ dq 159 27 (.ldc2_w 204) 3 = true ∧ dq 159 30 (.lreturn) 1 = true ∧ dq 159 31 (.aload_n 0) 1 = true := by decide +kernel
theorem dX11_rid_0 : decode (mB 159) 0 = .ok (.aload_n 0, 1) := dqo gX11_rid_0.1
theorem dX11_rid_1 : decode (mB 159) 1 = .ok (.getfield 10, 3) := dqo gX11_rid_0.2.1
theorem dX11_rid_4 : decode (mB 159) 4 = .ok (.iload_n 1, 1) := dqo gX11_rid_0.2.2.1
theorem dX11_rid_5 : decode (mB 159) 5 = .ok (.invokevirtual 140, 3) := dqo gX11_rid_0.2.2.2.1
theorem dX11_rid_8 : decode (mB 159) 8 = .ok (.ifCond .eq 19, 3) := dqo gX11_rid_0.2.2.2.2.1
theorem dX11_rid_11 : decode (mB 159) 11 = .ok (.iload_n 2, 1) := dqo gX11_rid_0.2.2.2.2.2.1
theorem dX11_rid_12 : decode (mB 159) 12 = .ok (.ifCond .lt 15, 3) := dqo gX11_rid_0.2.2.2.2.2.2.1
theorem dX11_rid_15 : decode (mB 159) 15 = .ok (.iload_n 2, 1) := dqo gX11_rid_0.2.2.2.2.2.2.2.1
theorem dX11_rid_16 : decode (mB 159) 16 = .ok (.iconst 3, 1) := dqo gX11_rid_0.2.2.2.2.2.2.2.2.1
theorem dX11_rid_17 : decode (mB 159) 17 = .ok (.if_icmp .gt 10, 3) := dqo gX11_rid_0.2.2.2.2.2.2.2.2.2.1
theorem dX11_rid_20 : decode (mB 159) 20 = .ok (.iload_n 3, 1) := dqo gX11_rid_0.2.2.2.2.2.2.2.2.2.2.1
theorem dX11_rid_21 : decode (mB 159) 21 = .ok (.invokestatic 199, 3) := dqo gX11_rid_0.2.2.2.2.2.2.2.2.2.2.2.1
theorem dX11_rid_24 : decode (mB 159) 24 = .ok (.ifCond .ne 7, 3) := dqo gX11_rid_0.2.2.2.2.2.2.2.2.2.2.2.2.1
theorem dX11_rid_27 : decode (mB 159) 27 = .ok (.ldc2_w 204, 3) := dqo gX11_rid_0.2.2.2.2.2.2.2.2.2.2.2.2.2.1
theorem dX11_rid_30 : decode (mB 159) 30 = .ok (.lreturn, 1) := dqo gX11_rid_0.2.2.2.2.2.2.2.2.2.2.2.2.2.2.1
theorem dX11_rid_31 : decode (mB 159) 31 = .ok (.aload_n 0, 1) := dqo gX11_rid_0.2.2.2.2.2.2.2.2.2.2.2.2.2.2.2
theorem gX11_rid_32 : dq 159 32 (.getfield 67) 3 = true ∧ dq 159 35 (.iload_n 1) 1 = true ∧ dq 159 36 (.iload_n 2) 1 = true ∧ dq 159 37 (.invokevirtual 235) 3 = true ∧ dq 159 40 (.aload_n 0) 1 = true ∧ dq 159 41 (.getfield 67) 3 = true ∧ dq 159 44 (.invokevirtual 238) 3 = true ∧ dq 159 47 (.i2l) 1 = true ∧ dq 159 48 (.aload_n 0) 1 = true ∧ dq 159 49 (.getfield 67) 3 = true ∧ dq 159 52 (.invokevirtual 241) 3 = true ∧ dq 159 55 (.i2l) 1 = true ∧ dq 159 56 (.iload_n 3) 1 = true ∧ dq 159 57 (.invokestatic 216) 3 = true ∧ dq 159 60 (.lreturn) 1 = true := by decide +kernel
theorem dX11_rid_32 : decode (mB 159) 32 = .ok (.getfield 67, 3) := dqo gX11_rid_32.1
theorem dX11_rid_35 : decode (mB 159) 35 = .ok (.iload_n 1, 1) := dqo gX11_rid_32.2.1
theorem dX11_rid_36 : decode (mB 159) 36 = .ok (.iload_n 2, 1) := dqo gX11_rid_32.2.2.1
theorem dX11_rid_37 : decode (mB 159) 37 = .ok (.invokevirtual 235, 3) := dqo gX11_rid_32.2.2.2.1
theorem dX11_rid_40 : decode (mB 159) 40 = .ok (.aload_n 0, 1) := dqo gX11_rid_32.2.2.2.2.1
theorem dX11_rid_41 : decode (mB 159) 41 = .ok (.getfield 67, 3) := dqo gX11_rid_32.2.2.2.2.2.1
theorem dX11_rid_44 : decode (mB 159) 44 = .ok (.invokevirtual 238, 3) := dqo gX11_rid_32.2.2.2.2.2.2.1
theorem dX11_rid_47 : decode (mB 159) 47 = .ok (.i2l, 1) := dqo gX11_rid_32.2.2.2.2.2.2.2.1
theorem dX11_rid_48 : decode (mB 159) 48 = .ok (.aload_n 0, 1) := dqo gX11_rid_32.2.2.2.2.2.2.2.2.1
theorem dX11_rid_49 : decode (mB 159) 49 = .ok (.getfield 67, 3) := dqo gX11_rid_32.2.2.2.2.2.2.2.2.2.1
theorem dX11_rid_52 : decode (mB 159) 52 = .ok (.invokevirtual 241, 3) := dqo gX11_rid_32.2.2.2.2.2.2.2.2.2.2.1
theorem dX11_rid_55 : decode (mB 159) 55 = .ok (.i2l, 1) := dqo gX11_rid_32.2.2.2.2.2.2.2.2.2.2.2.1
theorem dX11_rid_56 : decode (mB 159) 56 = .ok (.iload_n 3, 1) := dqo gX11_rid_32.2.2.2.2.2.2.2.2.2.2.2.2.1
theorem dX11_rid_57 : decode (mB 159) 57 = .ok (.invokestatic 216, 3) := dqo gX11_rid_32.2.2.2.2.2.2.2.2.2.2.2.2.2.1
theorem dX11_rid_60 : decode (mB 159) 60 = .ok (.lreturn, 1) := dqo gX11_rid_32.2.2.2.2.2.2.2.2.2.2.2.2.2.2
theorem gX11_first_0 : dq 160 0 (.aload_n 0) 1 = true ∧ dq 160 1 (.getfield 10) 3 = true ∧ dq 160 4 (.iload_n 1) 1 = true ∧ dq 160 5 (.invokevirtual 140) 3 = true ∧ dq 160 8 (.ifCond .eq 12) 3 = true ∧ dq 160 11 (.iload_n 2) 1 = true ∧ dq 160 12 (.ifCond .lt 8) 3 = true ∧ dq 160 15 (.iload_n 2) 1 = true ∧ dq 160 16 (.iconst 3) 1 = true ∧ dq 160 17 (.if_icmp .le 5) 3 = true ∧ dq 160 20 (.iconst (-1)) 1 = true ∧ dq 160 21 (.ireturn) 1 = true ∧ dq 160 22 (.aload_n 0) 1 = true ∧ dq 160 23 (.getfield 67) 3 = true ∧ dq 160 26 (.iload_n 1) 1 = true ∧ dq 160 27 (.iload_n 2) 1 = true := by decide +kernel
theorem dX11_first_0 : decode (mB 160) 0 = .ok (.aload_n 0, 1) := dqo gX11_first_0.1
theorem dX11_first_1 : decode (mB 160) 1 = .ok (.getfield 10, 3) := dqo gX11_first_0.2.1
theorem dX11_first_4 : decode (mB 160) 4 = .ok (.iload_n 1, 1) := dqo gX11_first_0.2.2.1
theorem dX11_first_5 : decode (mB 160) 5 = .ok (.invokevirtual 140, 3) := dqo gX11_first_0.2.2.2.1
theorem dX11_first_8 : decode (mB 160) 8 = .ok (.ifCond .eq 12, 3) := dqo gX11_first_0.2.2.2.2.1
theorem dX11_first_11 : decode (mB 160) 11 = .ok (.iload_n 2, 1) := dqo gX11_first_0.2.2.2.2.2.1
theorem dX11_first_12 : decode (mB 160) 12 = .ok (.ifCond .lt 8, 3) := dqo gX11_first_0.2.2.2.2.2.2.1
theorem dX11_first_15 : decode (mB 160) 15 = .ok (.iload_n 2, 1) := dqo gX11_first_0.2.2.2.2.2.2.2.1
theorem dX11_first_16 : decode (mB 160) 16 = .ok (.iconst 3, 1) := dqo gX11_first_0.2.2.2.2.2.2.2.2.1
theorem dX11_first_17 : decode (mB 160) 17 = .ok (.if_icmp .le 5, 3) := dqo gX11_first_0.2.2.2.2.2.2.2.2.2.1
theorem dX11_first_20 : decode (mB 160) 20 = .ok (.iconst (-1), 1) := dqo gX11_first_0.2.2.2.2.2.2.2.2.2.2.1
theorem dX11_first_21 : decode (mB 160) 21 = .ok (.ireturn, 1) := dqo gX11_first_0.2.2.2.2.2.2.2.2.2.2.2.1
theorem dX11_first_22 : decode (mB 160) 22 = .ok (.aload_n 0, 1) := dqo gX11_first_0.2.2.2.2.2.2.2.2.2.2.2.2.1
theorem dX11_first_23 : decode (mB 160) 23 = .ok (.getfield 67, 3) := dqo gX11_first_0.2.2.2.2.2.2.2.2.2.2.2.2.2.1
theorem dX11_first_26 : decode (mB 160) 26 = .ok (.iload_n 1, 1) := dqo gX11_first_0.2.2.2.2.2.2.2.2.2.2.2.2.2.2.1
theorem dX11_first_27 : decode (mB 160) 27 = .ok (.iload_n 2, 1) := dqo gX11_first_0.2.2.2.2.2.2.2.2.2.2.2.2.2.2.2
theorem gX11_first_28 : dq 160 28 (.invokevirtual 235) 3 = true ∧ dq 160 31 (.aload_n 0) 1 = true ∧ dq 160 32 (.getfield 67) 3 = true ∧ dq 160 35 (.invokevirtual 244) 3 = true ∧ dq 160 38 (.ireturn) 1 = true := by decide +kernel
theorem dX11_first_28 : decode (mB 160) 28 = .ok (.invokevirtual 235, 3) := dqo gX11_first_28.1
theorem dX11_first_31 : decode (mB 160) 31 = .ok (.aload_n 0, 1) := dqo gX11_first_28.2.1
theorem dX11_first_32 : decode (mB 160) 32 = .ok (.getfield 67, 3) := dqo gX11_first_28.2.2.1
theorem dX11_first_35 : decode (mB 160) 35 = .ok (.invokevirtual 244, 3) := dqo gX11_first_28.2.2.2.1
theorem dX11_first_38 : decode (mB 160) 38 = .ok (.ireturn, 1) := dqo gX11_first_28.2.2.2.2
theorem gX11_hire_0 : dq 161 0 (.aload_n 0) 1 = true ∧ dq 161 1 (.getfield 10) 3 = true ∧ dq 161 4 (.iload_n 1) 1 = true ∧ dq 161 5 (.invokevirtual 140) 3 = true ∧ dq 161 8 (.ifCond .eq 22) 3 = true ∧ dq 161 11 (.iload_n 2) 1 = true ∧ dq 161 12 (.ifCond .lt 18) 3 = true ∧ dq 161 15 (.iload_n 2) 1 = true ∧ dq 161 16 (.bipush 12) 2 = true ∧ dq 161 18 (.if_icmp .gt 12) 3 = true ∧ dq 161 21 (.iload_n 3) 1 = true ∧ dq 161 22 (.ifCond .lt 8) 3 = true ∧ dq 161 25 (.iload_n 3) 1 = true ∧ dq 161 26 (.iconst 1) 1 = true ∧ dq 161 27 (.if_icmp .le 5) 3 = true ∧ dq 161 30 (.iconst (-1)) 1 = true := by decide +kernel
theorem dX11_hire_0 : decode (mB 161) 0 = .ok (.aload_n 0, 1) := dqo gX11_hire_0.1
theorem dX11_hire_1 : decode (mB 161) 1 = .ok (.getfield 10, 3) := dqo gX11_hire_0.2.1
theorem dX11_hire_4 : decode (mB 161) 4 = .ok (.iload_n 1, 1) := dqo gX11_hire_0.2.2.1
theorem dX11_hire_5 : decode (mB 161) 5 = .ok (.invokevirtual 140, 3) := dqo gX11_hire_0.2.2.2.1
theorem dX11_hire_8 : decode (mB 161) 8 = .ok (.ifCond .eq 22, 3) := dqo gX11_hire_0.2.2.2.2.1
theorem dX11_hire_11 : decode (mB 161) 11 = .ok (.iload_n 2, 1) := dqo gX11_hire_0.2.2.2.2.2.1
theorem dX11_hire_12 : decode (mB 161) 12 = .ok (.ifCond .lt 18, 3) := dqo gX11_hire_0.2.2.2.2.2.2.1
theorem dX11_hire_15 : decode (mB 161) 15 = .ok (.iload_n 2, 1) := dqo gX11_hire_0.2.2.2.2.2.2.2.1
theorem dX11_hire_16 : decode (mB 161) 16 = .ok (.bipush 12, 2) := dqo gX11_hire_0.2.2.2.2.2.2.2.2.1
theorem dX11_hire_18 : decode (mB 161) 18 = .ok (.if_icmp .gt 12, 3) := dqo gX11_hire_0.2.2.2.2.2.2.2.2.2.1
theorem dX11_hire_21 : decode (mB 161) 21 = .ok (.iload_n 3, 1) := dqo gX11_hire_0.2.2.2.2.2.2.2.2.2.2.1
theorem dX11_hire_22 : decode (mB 161) 22 = .ok (.ifCond .lt 8, 3) := dqo gX11_hire_0.2.2.2.2.2.2.2.2.2.2.2.1
theorem dX11_hire_25 : decode (mB 161) 25 = .ok (.iload_n 3, 1) := dqo gX11_hire_0.2.2.2.2.2.2.2.2.2.2.2.2.1
theorem dX11_hire_26 : decode (mB 161) 26 = .ok (.iconst 1, 1) := dqo gX11_hire_0.2.2.2.2.2.2.2.2.2.2.2.2.2.1
theorem dX11_hire_27 : decode (mB 161) 27 = .ok (.if_icmp .le 5, 3) := dqo gX11_hire_0.2.2.2.2.2.2.2.2.2.2.2.2.2.2.1
theorem dX11_hire_30 : decode (mB 161) 30 = .ok (.iconst (-1), 1) := dqo gX11_hire_0.2.2.2.2.2.2.2.2.2.2.2.2.2.2.2
theorem gX11_hire_31 : dq 161 31 (.ireturn) 1 = true ∧ dq 161 32 (.aload_n 0) 1 = true ∧ dq 161 33 (.invokevirtual 143) 3 = true ∧ dq 161 36 (.iload_n 1) 1 = true ∧ dq 161 37 (.invokevirtual 247) 3 = true ∧ dq 161 40 (.iload_n 2) 1 = true ∧ dq 161 41 (.if_icmp .ge 6) 3 = true ∧ dq 161 44 (.bipush (-2)) 2 = true ∧ dq 161 46 (.ireturn) 1 = true ∧ dq 161 47 (.iload_n 2) 1 = true ∧ dq 161 48 (.istore 4) 2 = true ∧ dq 161 50 (.iconst 0) 1 = true ∧ dq 161 51 (.istore 5) 2 = true ∧ dq 161 53 (.bipush (-2)) 2 = true ∧ dq 161 55 (.istore 6) 2 = true ∧ dq 161 57 (.iconst 0) 1 = true := by decide +kernel
theorem dX11_hire_31 : decode (mB 161) 31 = .ok (.ireturn, 1) := dqo gX11_hire_31.1
theorem dX11_hire_32 : decode (mB 161) 32 = .ok (.aload_n 0, 1) := dqo gX11_hire_31.2.1
theorem dX11_hire_33 : decode (mB 161) 33 = .ok (.invokevirtual 143, 3) := dqo gX11_hire_31.2.2.1
theorem dX11_hire_36 : decode (mB 161) 36 = .ok (.iload_n 1, 1) := dqo gX11_hire_31.2.2.2.1
theorem dX11_hire_37 : decode (mB 161) 37 = .ok (.invokevirtual 247, 3) := dqo gX11_hire_31.2.2.2.2.1
theorem dX11_hire_40 : decode (mB 161) 40 = .ok (.iload_n 2, 1) := dqo gX11_hire_31.2.2.2.2.2.1
theorem dX11_hire_41 : decode (mB 161) 41 = .ok (.if_icmp .ge 6, 3) := dqo gX11_hire_31.2.2.2.2.2.2.1
theorem dX11_hire_44 : decode (mB 161) 44 = .ok (.bipush (-2), 2) := dqo gX11_hire_31.2.2.2.2.2.2.2.1
theorem dX11_hire_46 : decode (mB 161) 46 = .ok (.ireturn, 1) := dqo gX11_hire_31.2.2.2.2.2.2.2.2.1
theorem dX11_hire_47 : decode (mB 161) 47 = .ok (.iload_n 2, 1) := dqo gX11_hire_31.2.2.2.2.2.2.2.2.2.1
theorem dX11_hire_48 : decode (mB 161) 48 = .ok (.istore 4, 2) := dqo gX11_hire_31.2.2.2.2.2.2.2.2.2.2.1
theorem dX11_hire_50 : decode (mB 161) 50 = .ok (.iconst 0, 1) := dqo gX11_hire_31.2.2.2.2.2.2.2.2.2.2.2.1
theorem dX11_hire_51 : decode (mB 161) 51 = .ok (.istore 5, 2) := dqo gX11_hire_31.2.2.2.2.2.2.2.2.2.2.2.2.1
theorem dX11_hire_53 : decode (mB 161) 53 = .ok (.bipush (-2), 2) := dqo gX11_hire_31.2.2.2.2.2.2.2.2.2.2.2.2.2.1
theorem dX11_hire_55 : decode (mB 161) 55 = .ok (.istore 6, 2) := dqo gX11_hire_31.2.2.2.2.2.2.2.2.2.2.2.2.2.2.1
theorem dX11_hire_57 : decode (mB 161) 57 = .ok (.iconst 0, 1) := dqo gX11_hire_31.2.2.2.2.2.2.2.2.2.2.2.2.2.2.2
theorem gX11_hire_58 : dq 161 58 (.istore 7) 2 = true ∧ dq 161 60 (.iload 7) 2 = true ∧ dq 161 62 (.bipush 99) 2 = true ∧ dq 161 64 (.if_icmp .gt 82) 3 = true ∧ dq 161 67 (.iload 4) 2 = true ∧ dq 161 69 (.ifCond .le 77) 3 = true ∧ dq 161 72 (.iconst 0) 1 = true ∧ dq 161 73 (.istore 8) 2 = true ∧ dq 161 75 (.iload 8) 2 = true ∧ dq 161 77 (.aload_n 0) 1 = true ∧ dq 161 78 (.getfield 10) 3 = true ∧ dq 161 81 (.invokevirtual 226) 3 = true ∧ dq 161 84 (.if_icmp .ge 56) 3 = true ∧ dq 161 87 (.iload 4) 2 = true ∧ dq 161 89 (.ifCond .le 51) 3 = true ∧ dq 161 92 (.iload 4) 2 = true := by decide +kernel
theorem dX11_hire_58 : decode (mB 161) 58 = .ok (.istore 7, 2) := dqo gX11_hire_58.1
theorem dX11_hire_60 : decode (mB 161) 60 = .ok (.iload 7, 2) := dqo gX11_hire_58.2.1
theorem dX11_hire_62 : decode (mB 161) 62 = .ok (.bipush 99, 2) := dqo gX11_hire_58.2.2.1
theorem dX11_hire_64 : decode (mB 161) 64 = .ok (.if_icmp .gt 82, 3) := dqo gX11_hire_58.2.2.2.1
theorem dX11_hire_67 : decode (mB 161) 67 = .ok (.iload 4, 2) := dqo gX11_hire_58.2.2.2.2.1
theorem dX11_hire_69 : decode (mB 161) 69 = .ok (.ifCond .le 77, 3) := dqo gX11_hire_58.2.2.2.2.2.1
theorem dX11_hire_72 : decode (mB 161) 72 = .ok (.iconst 0, 1) := dqo gX11_hire_58.2.2.2.2.2.2.1
theorem dX11_hire_73 : decode (mB 161) 73 = .ok (.istore 8, 2) := dqo gX11_hire_58.2.2.2.2.2.2.2.1
theorem dX11_hire_75 : decode (mB 161) 75 = .ok (.iload 8, 2) := dqo gX11_hire_58.2.2.2.2.2.2.2.2.1
theorem dX11_hire_77 : decode (mB 161) 77 = .ok (.aload_n 0, 1) := dqo gX11_hire_58.2.2.2.2.2.2.2.2.2.1
theorem dX11_hire_78 : decode (mB 161) 78 = .ok (.getfield 10, 3) := dqo gX11_hire_58.2.2.2.2.2.2.2.2.2.2.1
theorem dX11_hire_81 : decode (mB 161) 81 = .ok (.invokevirtual 226, 3) := dqo gX11_hire_58.2.2.2.2.2.2.2.2.2.2.2.1
theorem dX11_hire_84 : decode (mB 161) 84 = .ok (.if_icmp .ge 56, 3) := dqo gX11_hire_58.2.2.2.2.2.2.2.2.2.2.2.2.1
theorem dX11_hire_87 : decode (mB 161) 87 = .ok (.iload 4, 2) := dqo gX11_hire_58.2.2.2.2.2.2.2.2.2.2.2.2.2.1
theorem dX11_hire_89 : decode (mB 161) 89 = .ok (.ifCond .le 51, 3) := dqo gX11_hire_58.2.2.2.2.2.2.2.2.2.2.2.2.2.2.1
theorem dX11_hire_92 : decode (mB 161) 92 = .ok (.iload 4, 2) := dqo gX11_hire_58.2.2.2.2.2.2.2.2.2.2.2.2.2.2.2
theorem gX11_hire_94 : dq 161 94 (.aload_n 0) 1 = true ∧ dq 161 95 (.iload_n 1) 1 = true ∧ dq 161 96 (.iload 8) 2 = true ∧ dq 161 98 (.iload 7) 2 = true ∧ dq 161 100 (.invokevirtual 250) 3 = true ∧ dq 161 103 (.invokestatic 253) 3 = true ∧ dq 161 106 (.istore 9) 2 = true ∧ dq 161 108 (.iload 9) 2 = true ∧ dq 161 110 (.ifCond .le 24) 3 = true ∧ dq 161 113 (.iload 4) 2 = true ∧ dq 161 115 (.iload 9) 2 = true ∧ dq 161 117 (.isub) 1 = true ∧ dq 161 118 (.istore 4) 2 = true ∧ dq 161 120 (.iload 5) 2 = true ∧ dq 161 122 (.iload 9) 2 = true ∧ dq 161 124 (.iload 7) 2 = true := by decide +kernel
theorem dX11_hire_94 : decode (mB 161) 94 = .ok (.aload_n 0, 1) := dqo gX11_hire_94.1
theorem dX11_hire_95 : decode (mB 161) 95 = .ok (.iload_n 1, 1) := dqo gX11_hire_94.2.1
theorem dX11_hire_96 : decode (mB 161) 96 = .ok (.iload 8, 2) := dqo gX11_hire_94.2.2.1
theorem dX11_hire_98 : decode (mB 161) 98 = .ok (.iload 7, 2) := dqo gX11_hire_94.2.2.2.1
theorem dX11_hire_100 : decode (mB 161) 100 = .ok (.invokevirtual 250, 3) := dqo gX11_hire_94.2.2.2.2.1
theorem dX11_hire_103 : decode (mB 161) 103 = .ok (.invokestatic 253, 3) := dqo gX11_hire_94.2.2.2.2.2.1
theorem dX11_hire_106 : decode (mB 161) 106 = .ok (.istore 9, 2) := dqo gX11_hire_94.2.2.2.2.2.2.1
theorem dX11_hire_108 : decode (mB 161) 108 = .ok (.iload 9, 2) := dqo gX11_hire_94.2.2.2.2.2.2.2.1
theorem dX11_hire_110 : decode (mB 161) 110 = .ok (.ifCond .le 24, 3) := dqo gX11_hire_94.2.2.2.2.2.2.2.2.1
theorem dX11_hire_113 : decode (mB 161) 113 = .ok (.iload 4, 2) := dqo gX11_hire_94.2.2.2.2.2.2.2.2.2.1
theorem dX11_hire_115 : decode (mB 161) 115 = .ok (.iload 9, 2) := dqo gX11_hire_94.2.2.2.2.2.2.2.2.2.2.1
theorem dX11_hire_117 : decode (mB 161) 117 = .ok (.isub, 1) := dqo gX11_hire_94.2.2.2.2.2.2.2.2.2.2.2.1
theorem dX11_hire_118 : decode (mB 161) 118 = .ok (.istore 4, 2) := dqo gX11_hire_94.2.2.2.2.2.2.2.2.2.2.2.2.1
theorem dX11_hire_120 : decode (mB 161) 120 = .ok (.iload 5, 2) := dqo gX11_hire_94.2.2.2.2.2.2.2.2.2.2.2.2.2.1
theorem dX11_hire_122 : decode (mB 161) 122 = .ok (.iload 9, 2) := dqo gX11_hire_94.2.2.2.2.2.2.2.2.2.2.2.2.2.2.1
theorem dX11_hire_124 : decode (mB 161) 124 = .ok (.iload 7, 2) := dqo gX11_hire_94.2.2.2.2.2.2.2.2.2.2.2.2.2.2.2
theorem gX11_hire_126 : dq 161 126 (.imul) 1 = true ∧ dq 161 127 (.iadd) 1 = true ∧ dq 161 128 (.istore 5) 2 = true ∧ dq 161 130 (.iload 8) 2 = true ∧ dq 161 132 (.istore 6) 2 = true ∧ dq 161 134 (.iinc 8 1) 3 = true ∧ dq 161 137 (.goto (-62)) 3 = true ∧ dq 161 140 (.iinc 7 1) 3 = true ∧ dq 161 143 (.goto (-83)) 3 = true ∧ dq 161 146 (.iload 4) 2 = true ∧ dq 161 148 (.ifCond .le 6) 3 = true ∧ dq 161 151 (.bipush (-2)) 2 = true ∧ dq 161 153 (.ireturn) 1 = true ∧ dq 161 154 (.iload_n 3) 1 = true ∧ dq 161 155 (.ifCond .ne 8) 3 = true ∧ dq 161 158 (.iload 5) 2 = true := by decide +kernel
theorem dX11_hire_126 : decode (mB 161) 126 = .ok (.imul, 1) := dqo gX11_hire_126.1
theorem dX11_hire_127 : decode (mB 161) 127 = .ok (.iadd, 1) := dqo gX11_hire_126.2.1
theorem dX11_hire_128 : decode (mB 161) 128 = .ok (.istore 5, 2) := dqo gX11_hire_126.2.2.1
theorem dX11_hire_130 : decode (mB 161) 130 = .ok (.iload 8, 2) := dqo gX11_hire_126.2.2.2.1
theorem dX11_hire_132 : decode (mB 161) 132 = .ok (.istore 6, 2) := dqo gX11_hire_126.2.2.2.2.1
theorem dX11_hire_134 : decode (mB 161) 134 = .ok (.iinc 8 1, 3) := dqo gX11_hire_126.2.2.2.2.2.1
theorem dX11_hire_137 : decode (mB 161) 137 = .ok (.goto (-62), 3) := dqo gX11_hire_126.2.2.2.2.2.2.1
theorem dX11_hire_140 : decode (mB 161) 140 = .ok (.iinc 7 1, 3) := dqo gX11_hire_126.2.2.2.2.2.2.2.1
theorem dX11_hire_143 : decode (mB 161) 143 = .ok (.goto (-83), 3) := dqo gX11_hire_126.2.2.2.2.2.2.2.2.1
theorem dX11_hire_146 : decode (mB 161) 146 = .ok (.iload 4, 2) := dqo gX11_hire_126.2.2.2.2.2.2.2.2.2.1
theorem dX11_hire_148 : decode (mB 161) 148 = .ok (.ifCond .le 6, 3) := dqo gX11_hire_126.2.2.2.2.2.2.2.2.2.2.1
theorem dX11_hire_151 : decode (mB 161) 151 = .ok (.bipush (-2), 2) := dqo gX11_hire_126.2.2.2.2.2.2.2.2.2.2.2.1
theorem dX11_hire_153 : decode (mB 161) 153 = .ok (.ireturn, 1) := dqo gX11_hire_126.2.2.2.2.2.2.2.2.2.2.2.2.1
theorem dX11_hire_154 : decode (mB 161) 154 = .ok (.iload_n 3, 1) := dqo gX11_hire_126.2.2.2.2.2.2.2.2.2.2.2.2.2.1
theorem dX11_hire_155 : decode (mB 161) 155 = .ok (.ifCond .ne 8, 3) := dqo gX11_hire_126.2.2.2.2.2.2.2.2.2.2.2.2.2.2.1
theorem dX11_hire_158 : decode (mB 161) 158 = .ok (.iload 5, 2) := dqo gX11_hire_126.2.2.2.2.2.2.2.2.2.2.2.2.2.2.2
theorem gX11_hire_160 : dq 161 160 (.goto 5) 3 = true ∧ dq 161 163 (.iload 6) 2 = true ∧ dq 161 165 (.ireturn) 1 = true := by decide +kernel
theorem dX11_hire_160 : decode (mB 161) 160 = .ok (.goto 5, 3) := dqo gX11_hire_160.1
theorem dX11_hire_163 : decode (mB 161) 163 = .ok (.iload 6, 2) := dqo gX11_hire_160.2.1
theorem dX11_hire_165 : decode (mB 161) 165 = .ok (.ireturn, 1) := dqo gX11_hire_160.2.2
theorem gX11_takesFor_0 : dq 162 0 (.iload_n 2) 1 = true ∧ dq 162 1 (.iload_n 1) 1 = true ∧ dq 162 2 (.if_icmp .eq 32) 3 = true ∧ dq 162 5 (.aload_n 0) 1 = true ∧ dq 162 6 (.getfield 10) 3 = true ∧ dq 162 9 (.iconst 1) 1 = true ∧ dq 162 10 (.iload_n 2) 1 = true ∧ dq 162 11 (.invokevirtual 129) 3 = true ∧ dq 162 14 (.ifCond .ne 20) 3 = true ∧ dq 162 17 (.aload_n 0) 1 = true ∧ dq 162 18 (.getfield 10) 3 = true ∧ dq 162 21 (.iconst 2) 1 = true ∧ dq 162 22 (.iload_n 2) 1 = true ∧ dq 162 23 (.invokevirtual 129) 3 = true ∧ dq 162 26 (.iload_n 3) 1 = true ∧ dq 162 27 (.if_icmp .ne 7) 3 = true := by decide +kernel
theorem dX11_takesFor_0 : decode (mB 162) 0 = .ok (.iload_n 2, 1) := dqo gX11_takesFor_0.1
theorem dX11_takesFor_1 : decode (mB 162) 1 = .ok (.iload_n 1, 1) := dqo gX11_takesFor_0.2.1
theorem dX11_takesFor_2 : decode (mB 162) 2 = .ok (.if_icmp .eq 32, 3) := dqo gX11_takesFor_0.2.2.1
theorem dX11_takesFor_5 : decode (mB 162) 5 = .ok (.aload_n 0, 1) := dqo gX11_takesFor_0.2.2.2.1
theorem dX11_takesFor_6 : decode (mB 162) 6 = .ok (.getfield 10, 3) := dqo gX11_takesFor_0.2.2.2.2.1
theorem dX11_takesFor_9 : decode (mB 162) 9 = .ok (.iconst 1, 1) := dqo gX11_takesFor_0.2.2.2.2.2.1
theorem dX11_takesFor_10 : decode (mB 162) 10 = .ok (.iload_n 2, 1) := dqo gX11_takesFor_0.2.2.2.2.2.2.1
theorem dX11_takesFor_11 : decode (mB 162) 11 = .ok (.invokevirtual 129, 3) := dqo gX11_takesFor_0.2.2.2.2.2.2.2.1
theorem dX11_takesFor_14 : decode (mB 162) 14 = .ok (.ifCond .ne 20, 3) := dqo gX11_takesFor_0.2.2.2.2.2.2.2.2.1
theorem dX11_takesFor_17 : decode (mB 162) 17 = .ok (.aload_n 0, 1) := dqo gX11_takesFor_0.2.2.2.2.2.2.2.2.2.1
theorem dX11_takesFor_18 : decode (mB 162) 18 = .ok (.getfield 10, 3) := dqo gX11_takesFor_0.2.2.2.2.2.2.2.2.2.2.1
theorem dX11_takesFor_21 : decode (mB 162) 21 = .ok (.iconst 2, 1) := dqo gX11_takesFor_0.2.2.2.2.2.2.2.2.2.2.2.1
theorem dX11_takesFor_22 : decode (mB 162) 22 = .ok (.iload_n 2, 1) := dqo gX11_takesFor_0.2.2.2.2.2.2.2.2.2.2.2.2.1
theorem dX11_takesFor_23 : decode (mB 162) 23 = .ok (.invokevirtual 129, 3) := dqo gX11_takesFor_0.2.2.2.2.2.2.2.2.2.2.2.2.2.1
theorem dX11_takesFor_26 : decode (mB 162) 26 = .ok (.iload_n 3, 1) := dqo gX11_takesFor_0.2.2.2.2.2.2.2.2.2.2.2.2.2.2.1
theorem dX11_takesFor_27 : decode (mB 162) 27 = .ok (.if_icmp .ne 7, 3) := dqo gX11_takesFor_0.2.2.2.2.2.2.2.2.2.2.2.2.2.2.2
theorem gX11_takesFor_30 : dq 162 30 (.iconst 1) 1 = true ∧ dq 162 31 (.goto 4) 3 = true ∧ dq 162 34 (.iconst 0) 1 = true ∧ dq 162 35 (.istore 4) 2 = true ∧ dq 162 37 (.iload 4) 2 = true ∧ dq 162 39 (.ifCond .eq 15) 3 = true ∧ dq 162 42 (.aload_n 0) 1 = true ∧ dq 162 43 (.getfield 10) 3 = true ∧ dq 162 46 (.iconst 3) 1 = true ∧ dq 162 47 (.iload_n 2) 1 = true ∧ dq 162 48 (.invokevirtual 129) 3 = true ∧ dq 162 51 (.goto 4) 3 = true ∧ dq 162 54 (.iconst 0) 1 = true ∧ dq 162 55 (.ireturn) 1 = true := by decide +kernel
theorem dX11_takesFor_30 : decode (mB 162) 30 = .ok (.iconst 1, 1) := dqo gX11_takesFor_30.1
theorem dX11_takesFor_31 : decode (mB 162) 31 = .ok (.goto 4, 3) := dqo gX11_takesFor_30.2.1
theorem dX11_takesFor_34 : decode (mB 162) 34 = .ok (.iconst 0, 1) := dqo gX11_takesFor_30.2.2.1
theorem dX11_takesFor_35 : decode (mB 162) 35 = .ok (.istore 4, 2) := dqo gX11_takesFor_30.2.2.2.1
theorem dX11_takesFor_37 : decode (mB 162) 37 = .ok (.iload 4, 2) := dqo gX11_takesFor_30.2.2.2.2.1
theorem dX11_takesFor_39 : decode (mB 162) 39 = .ok (.ifCond .eq 15, 3) := dqo gX11_takesFor_30.2.2.2.2.2.1
theorem dX11_takesFor_42 : decode (mB 162) 42 = .ok (.aload_n 0, 1) := dqo gX11_takesFor_30.2.2.2.2.2.2.1
theorem dX11_takesFor_43 : decode (mB 162) 43 = .ok (.getfield 10, 3) := dqo gX11_takesFor_30.2.2.2.2.2.2.2.1
theorem dX11_takesFor_46 : decode (mB 162) 46 = .ok (.iconst 3, 1) := dqo gX11_takesFor_30.2.2.2.2.2.2.2.2.1
theorem dX11_takesFor_47 : decode (mB 162) 47 = .ok (.iload_n 2, 1) := dqo gX11_takesFor_30.2.2.2.2.2.2.2.2.2.1
theorem dX11_takesFor_48 : decode (mB 162) 48 = .ok (.invokevirtual 129, 3) := dqo gX11_takesFor_30.2.2.2.2.2.2.2.2.2.2.1
theorem dX11_takesFor_51 : decode (mB 162) 51 = .ok (.goto 4, 3) := dqo gX11_takesFor_30.2.2.2.2.2.2.2.2.2.2.2.1
theorem dX11_takesFor_54 : decode (mB 162) 54 = .ok (.iconst 0, 1) := dqo gX11_takesFor_30.2.2.2.2.2.2.2.2.2.2.2.2.1
theorem dX11_takesFor_55 : decode (mB 162) 55 = .ok (.ireturn, 1) := dqo gX11_takesFor_30.2.2.2.2.2.2.2.2.2.2.2.2.2
theorem gX11_friend_0 : dq 163 0 (.aload_n 0) 1 = true ∧ dq 163 1 (.getfield 10) 3 = true ∧ dq 163 4 (.iload_n 1) 1 = true ∧ dq 163 5 (.invokevirtual 140) 3 = true ∧ dq 163 8 (.ifCond .eq 13) 3 = true ∧ dq 163 11 (.iload_n 2) 1 = true ∧ dq 163 12 (.ifCond .lt 9) 3 = true ∧ dq 163 15 (.iload_n 2) 1 = true ∧ dq 163 16 (.bipush 12) 2 = true ∧ dq 163 18 (.if_icmp .le 5) 3 = true ∧ dq 163 21 (.iconst (-1)) 1 = true ∧ dq 163 22 (.ireturn) 1 = true ∧ dq 163 23 (.aload_n 0) 1 = true ∧ dq 163 24 (.invokevirtual 143) 3 = true ∧ dq 163 27 (.astore_n 3) 1 = true ∧ dq 163 28 (.aload_n 3) 1 = true := by decide +kernel
theorem dX11_friend_0 : decode (mB 163) 0 = .ok (.aload_n 0, 1) := dqo gX11_friend_0.1
theorem dX11_friend_1 : decode (mB 163) 1 = .ok (.getfield 10, 3) := dqo gX11_friend_0.2.1
theorem dX11_friend_4 : decode (mB 163) 4 = .ok (.iload_n 1, 1) := dqo gX11_friend_0.2.2.1
theorem dX11_friend_5 : decode (mB 163) 5 = .ok (.invokevirtual 140, 3) := dqo gX11_friend_0.2.2.2.1
theorem dX11_friend_8 : decode (mB 163) 8 = .ok (.ifCond .eq 13, 3) := dqo gX11_friend_0.2.2.2.2.1
theorem dX11_friend_11 : decode (mB 163) 11 = .ok (.iload_n 2, 1) := dqo gX11_friend_0.2.2.2.2.2.1
theorem dX11_friend_12 : decode (mB 163) 12 = .ok (.ifCond .lt 9, 3) := dqo gX11_friend_0.2.2.2.2.2.2.1
theorem dX11_friend_15 : decode (mB 163) 15 = .ok (.iload_n 2, 1) := dqo gX11_friend_0.2.2.2.2.2.2.2.1
theorem dX11_friend_16 : decode (mB 163) 16 = .ok (.bipush 12, 2) := dqo gX11_friend_0.2.2.2.2.2.2.2.2.1
theorem dX11_friend_18 : decode (mB 163) 18 = .ok (.if_icmp .le 5, 3) := dqo gX11_friend_0.2.2.2.2.2.2.2.2.2.1
theorem dX11_friend_21 : decode (mB 163) 21 = .ok (.iconst (-1), 1) := dqo gX11_friend_0.2.2.2.2.2.2.2.2.2.2.1
theorem dX11_friend_22 : decode (mB 163) 22 = .ok (.ireturn, 1) := dqo gX11_friend_0.2.2.2.2.2.2.2.2.2.2.2.1
theorem dX11_friend_23 : decode (mB 163) 23 = .ok (.aload_n 0, 1) := dqo gX11_friend_0.2.2.2.2.2.2.2.2.2.2.2.2.1
theorem dX11_friend_24 : decode (mB 163) 24 = .ok (.invokevirtual 143, 3) := dqo gX11_friend_0.2.2.2.2.2.2.2.2.2.2.2.2.2.1
theorem dX11_friend_27 : decode (mB 163) 27 = .ok (.astore_n 3, 1) := dqo gX11_friend_0.2.2.2.2.2.2.2.2.2.2.2.2.2.2.1
theorem dX11_friend_28 : decode (mB 163) 28 = .ok (.aload_n 3, 1) := dqo gX11_friend_0.2.2.2.2.2.2.2.2.2.2.2.2.2.2.2
theorem gX11_friend_29 : dq 163 29 (.invokevirtual 223) 3 = true ∧ dq 163 32 (.istore 4) 2 = true ∧ dq 163 34 (.iload 4) 2 = true ∧ dq 163 36 (.ifCond .ne 14) 3 = true ∧ dq 163 39 (.iload_n 2) 1 = true ∧ dq 163 40 (.ifCond .ne 7) 3 = true ∧ dq 163 43 (.iconst 0) 1 = true ∧ dq 163 44 (.goto 5) 3 = true ∧ dq 163 47 (.bipush (-2)) 2 = true ∧ dq 163 49 (.ireturn) 1 = true ∧ dq 163 50 (.aload_n 3) 1 = true ∧ dq 163 51 (.iload_n 1) 1 = true ∧ dq 163 52 (.invokevirtual 150) 3 = true ∧ dq 163 55 (.istore 5) 2 = true ∧ dq 163 57 (.aload_n 0) 1 = true ∧ dq 163 58 (.getfield 10) 3 = true := by decide +kernel
theorem dX11_friend_29 : decode (mB 163) 29 = .ok (.invokevirtual 223, 3) := dqo gX11_friend_29.1
theorem dX11_friend_32 : decode (mB 163) 32 = .ok (.istore 4, 2) := dqo gX11_friend_29.2.1
theorem dX11_friend_34 : decode (mB 163) 34 = .ok (.iload 4, 2) := dqo gX11_friend_29.2.2.1
theorem dX11_friend_36 : decode (mB 163) 36 = .ok (.ifCond .ne 14, 3) := dqo gX11_friend_29.2.2.2.1
theorem dX11_friend_39 : decode (mB 163) 39 = .ok (.iload_n 2, 1) := dqo gX11_friend_29.2.2.2.2.1
theorem dX11_friend_40 : decode (mB 163) 40 = .ok (.ifCond .ne 7, 3) := dqo gX11_friend_29.2.2.2.2.2.1
theorem dX11_friend_43 : decode (mB 163) 43 = .ok (.iconst 0, 1) := dqo gX11_friend_29.2.2.2.2.2.2.1
theorem dX11_friend_44 : decode (mB 163) 44 = .ok (.goto 5, 3) := dqo gX11_friend_29.2.2.2.2.2.2.2.1
theorem dX11_friend_47 : decode (mB 163) 47 = .ok (.bipush (-2), 2) := dqo gX11_friend_29.2.2.2.2.2.2.2.2.1
theorem dX11_friend_49 : decode (mB 163) 49 = .ok (.ireturn, 1) := dqo gX11_friend_29.2.2.2.2.2.2.2.2.2.1
theorem dX11_friend_50 : decode (mB 163) 50 = .ok (.aload_n 3, 1) := dqo gX11_friend_29.2.2.2.2.2.2.2.2.2.2.1
theorem dX11_friend_51 : decode (mB 163) 51 = .ok (.iload_n 1, 1) := dqo gX11_friend_29.2.2.2.2.2.2.2.2.2.2.2.1
theorem dX11_friend_52 : decode (mB 163) 52 = .ok (.invokevirtual 150, 3) := dqo gX11_friend_29.2.2.2.2.2.2.2.2.2.2.2.2.1
theorem dX11_friend_55 : decode (mB 163) 55 = .ok (.istore 5, 2) := dqo gX11_friend_29.2.2.2.2.2.2.2.2.2.2.2.2.2.1
theorem dX11_friend_57 : decode (mB 163) 57 = .ok (.aload_n 0, 1) := dqo gX11_friend_29.2.2.2.2.2.2.2.2.2.2.2.2.2.2.1
theorem dX11_friend_58 : decode (mB 163) 58 = .ok (.getfield 10, 3) := dqo gX11_friend_29.2.2.2.2.2.2.2.2.2.2.2.2.2.2.2
theorem gX11_friend_61 : dq 163 61 (.iconst 1) 1 = true ∧ dq 163 62 (.iload_n 1) 1 = true ∧ dq 163 63 (.invokevirtual 129) 3 = true ∧ dq 163 66 (.iconst 1) 1 = true ∧ dq 163 67 (.if_icmp .ne 7) 3 = true ∧ dq 163 70 (.iconst 0) 1 = true ∧ dq 163 71 (.goto 13) 3 = true ∧ dq 163 74 (.aload_n 3) 1 = true ∧ dq 163 75 (.invokevirtual 258) 3 = true ∧ dq 163 78 (.aload_n 3) 1 = true ∧ dq 163 79 (.iload_n 1) 1 = true ∧ dq 163 80 (.invokevirtual 261) 3 = true ∧ dq 163 83 (.isub) 1 = true ∧ dq 163 84 (.istore 6) 2 = true ∧ dq 163 86 (.iconst 0) 1 = true ∧ dq 163 87 (.istore 7) 2 = true := by decide +kernel
theorem dX11_friend_61 : decode (mB 163) 61 = .ok (.iconst 1, 1) := dqo gX11_friend_61.1
theorem dX11_friend_62 : decode (mB 163) 62 = .ok (.iload_n 1, 1) := dqo gX11_friend_61.2.1
theorem dX11_friend_63 : decode (mB 163) 63 = .ok (.invokevirtual 129, 3) := dqo gX11_friend_61.2.2.1
theorem dX11_friend_66 : decode (mB 163) 66 = .ok (.iconst 1, 1) := dqo gX11_friend_61.2.2.2.1
theorem dX11_friend_67 : decode (mB 163) 67 = .ok (.if_icmp .ne 7, 3) := dqo gX11_friend_61.2.2.2.2.1
theorem dX11_friend_70 : decode (mB 163) 70 = .ok (.iconst 0, 1) := dqo gX11_friend_61.2.2.2.2.2.1
theorem dX11_friend_71 : decode (mB 163) 71 = .ok (.goto 13, 3) := dqo gX11_friend_61.2.2.2.2.2.2.1
theorem dX11_friend_74 : decode (mB 163) 74 = .ok (.aload_n 3, 1) := dqo gX11_friend_61.2.2.2.2.2.2.2.1
theorem dX11_friend_75 : decode (mB 163) 75 = .ok (.invokevirtual 258, 3) := dqo gX11_friend_61.2.2.2.2.2.2.2.2.1
theorem dX11_friend_78 : decode (mB 163) 78 = .ok (.aload_n 3, 1) := dqo gX11_friend_61.2.2.2.2.2.2.2.2.2.1
theorem dX11_friend_79 : decode (mB 163) 79 = .ok (.iload_n 1, 1) := dqo gX11_friend_61.2.2.2.2.2.2.2.2.2.2.1
theorem dX11_friend_80 : decode (mB 163) 80 = .ok (.invokevirtual 261, 3) := dqo gX11_friend_61.2.2.2.2.2.2.2.2.2.2.2.1
theorem dX11_friend_83 : decode (mB 163) 83 = .ok (.isub, 1) := dqo gX11_friend_61.2.2.2.2.2.2.2.2.2.2.2.2.1
theorem dX11_friend_84 : decode (mB 163) 84 = .ok (.istore 6, 2) := dqo gX11_friend_61.2.2.2.2.2.2.2.2.2.2.2.2.2.1
theorem dX11_friend_86 : decode (mB 163) 86 = .ok (.iconst 0, 1) := dqo gX11_friend_61.2.2.2.2.2.2.2.2.2.2.2.2.2.2.1
theorem dX11_friend_87 : decode (mB 163) 87 = .ok (.istore 7, 2) := dqo gX11_friend_61.2.2.2.2.2.2.2.2.2.2.2.2.2.2.2
theorem gX11_friend_89 : dq 163 89 (.iload 7) 2 = true ∧ dq 163 91 (.iload 6) 2 = true ∧ dq 163 93 (.if_icmp .gt 27) 3 = true ∧ dq 163 96 (.bipush 12) 2 = true ∧ dq 163 98 (.iload 5) 2 = true ∧ dq 163 100 (.iload 7) 2 = true ∧ dq 163 102 (.iadd) 1 = true ∧ dq 163 103 (.imul) 1 = true ∧ dq 163 104 (.iload_n 2) 1 = true ∧ dq 163 105 (.iload 4) 2 = true ∧ dq 163 107 (.imul) 1 = true ∧ dq 163 108 (.if_icmp .lt 6) 3 = true ∧ dq 163 111 (.iload 7) 2 = true ∧ dq 163 113 (.ireturn) 1 = true ∧ dq 163 114 (.iinc 7 1) 3 = true ∧ dq 163 117 (.goto (-28)) 3 = true := by decide +kernel
theorem dX11_friend_89 : decode (mB 163) 89 = .ok (.iload 7, 2) := dqo gX11_friend_89.1
theorem dX11_friend_91 : decode (mB 163) 91 = .ok (.iload 6, 2) := dqo gX11_friend_89.2.1
theorem dX11_friend_93 : decode (mB 163) 93 = .ok (.if_icmp .gt 27, 3) := dqo gX11_friend_89.2.2.1
theorem dX11_friend_96 : decode (mB 163) 96 = .ok (.bipush 12, 2) := dqo gX11_friend_89.2.2.2.1
theorem dX11_friend_98 : decode (mB 163) 98 = .ok (.iload 5, 2) := dqo gX11_friend_89.2.2.2.2.1
theorem dX11_friend_100 : decode (mB 163) 100 = .ok (.iload 7, 2) := dqo gX11_friend_89.2.2.2.2.2.1
theorem dX11_friend_102 : decode (mB 163) 102 = .ok (.iadd, 1) := dqo gX11_friend_89.2.2.2.2.2.2.1
theorem dX11_friend_103 : decode (mB 163) 103 = .ok (.imul, 1) := dqo gX11_friend_89.2.2.2.2.2.2.2.1
theorem dX11_friend_104 : decode (mB 163) 104 = .ok (.iload_n 2, 1) := dqo gX11_friend_89.2.2.2.2.2.2.2.2.1
theorem dX11_friend_105 : decode (mB 163) 105 = .ok (.iload 4, 2) := dqo gX11_friend_89.2.2.2.2.2.2.2.2.2.1
theorem dX11_friend_107 : decode (mB 163) 107 = .ok (.imul, 1) := dqo gX11_friend_89.2.2.2.2.2.2.2.2.2.2.1
theorem dX11_friend_108 : decode (mB 163) 108 = .ok (.if_icmp .lt 6, 3) := dqo gX11_friend_89.2.2.2.2.2.2.2.2.2.2.2.1
theorem dX11_friend_111 : decode (mB 163) 111 = .ok (.iload 7, 2) := dqo gX11_friend_89.2.2.2.2.2.2.2.2.2.2.2.2.1
theorem dX11_friend_113 : decode (mB 163) 113 = .ok (.ireturn, 1) := dqo gX11_friend_89.2.2.2.2.2.2.2.2.2.2.2.2.2.1
theorem dX11_friend_114 : decode (mB 163) 114 = .ok (.iinc 7 1, 3) := dqo gX11_friend_89.2.2.2.2.2.2.2.2.2.2.2.2.2.2.1
theorem dX11_friend_117 : decode (mB 163) 117 = .ok (.goto (-28), 3) := dqo gX11_friend_89.2.2.2.2.2.2.2.2.2.2.2.2.2.2.2
theorem gX11_friend_120 : dq 163 120 (.bipush (-2)) 2 = true ∧ dq 163 122 (.ireturn) 1 = true := by decide +kernel
theorem dX11_friend_120 : decode (mB 163) 120 = .ok (.bipush (-2), 2) := dqo gX11_friend_120.1
theorem dX11_friend_122 : decode (mB 163) 122 = .ok (.ireturn, 1) := dqo gX11_friend_120.2
theorem gX11_share_0 : dq 164 0 (.aload_n 0) 1 = true ∧ dq 164 1 (.getfield 10) 3 = true ∧ dq 164 4 (.iload_n 1) 1 = true ∧ dq 164 5 (.invokevirtual 140) 3 = true ∧ dq 164 8 (.ifCond .eq 14) 3 = true ∧ dq 164 11 (.iload_n 2) 1 = true ∧ dq 164 12 (.ifCond .lt 10) 3 = true ∧ dq 164 15 (.iload_n 2) 1 = true ∧ dq 164 16 (.sipush 9999) 3 = true ∧ dq 164 19 (.if_icmp .le 5) 3 = true ∧ dq 164 22 (.iconst (-1)) 1 = true ∧ dq 164 23 (.ireturn) 1 = true ∧ dq 164 24 (.aload_n 0) 1 = true ∧ dq 164 25 (.invokevirtual 143) 3 = true ∧ dq 164 28 (.astore_n 3) 1 = true ∧ dq 164 29 (.aload_n 3) 1 = true := by decide +kernel
theorem dX11_share_0 : decode (mB 164) 0 = .ok (.aload_n 0, 1) := dqo gX11_share_0.1
theorem dX11_share_1 : decode (mB 164) 1 = .ok (.getfield 10, 3) := dqo gX11_share_0.2.1
theorem dX11_share_4 : decode (mB 164) 4 = .ok (.iload_n 1, 1) := dqo gX11_share_0.2.2.1
theorem dX11_share_5 : decode (mB 164) 5 = .ok (.invokevirtual 140, 3) := dqo gX11_share_0.2.2.2.1
theorem dX11_share_8 : decode (mB 164) 8 = .ok (.ifCond .eq 14, 3) := dqo gX11_share_0.2.2.2.2.1
theorem dX11_share_11 : decode (mB 164) 11 = .ok (.iload_n 2, 1) := dqo gX11_share_0.2.2.2.2.2.1
theorem dX11_share_12 : decode (mB 164) 12 = .ok (.ifCond .lt 10, 3) := dqo gX11_share_0.2.2.2.2.2.2.1
theorem dX11_share_15 : decode (mB 164) 15 = .ok (.iload_n 2, 1) := dqo gX11_share_0.2.2.2.2.2.2.2.1
theorem dX11_share_16 : decode (mB 164) 16 = .ok (.sipush 9999, 3) := dqo gX11_share_0.2.2.2.2.2.2.2.2.1
theorem dX11_share_19 : decode (mB 164) 19 = .ok (.if_icmp .le 5, 3) := dqo gX11_share_0.2.2.2.2.2.2.2.2.2.1
theorem dX11_share_22 : decode (mB 164) 22 = .ok (.iconst (-1), 1) := dqo gX11_share_0.2.2.2.2.2.2.2.2.2.2.1
theorem dX11_share_23 : decode (mB 164) 23 = .ok (.ireturn, 1) := dqo gX11_share_0.2.2.2.2.2.2.2.2.2.2.2.1
theorem dX11_share_24 : decode (mB 164) 24 = .ok (.aload_n 0, 1) := dqo gX11_share_0.2.2.2.2.2.2.2.2.2.2.2.2.1
theorem dX11_share_25 : decode (mB 164) 25 = .ok (.invokevirtual 143, 3) := dqo gX11_share_0.2.2.2.2.2.2.2.2.2.2.2.2.2.1
theorem dX11_share_28 : decode (mB 164) 28 = .ok (.astore_n 3, 1) := dqo gX11_share_0.2.2.2.2.2.2.2.2.2.2.2.2.2.2.1
theorem dX11_share_29 : decode (mB 164) 29 = .ok (.aload_n 3, 1) := dqo gX11_share_0.2.2.2.2.2.2.2.2.2.2.2.2.2.2.2
theorem gX11_share_30 : dq 164 30 (.invokevirtual 223) 3 = true ∧ dq 164 33 (.istore 4) 2 = true ∧ dq 164 35 (.iload 4) 2 = true ∧ dq 164 37 (.ifCond .ne 7) 3 = true ∧ dq 164 40 (.iconst 0) 1 = true ∧ dq 164 41 (.goto 13) 3 = true ∧ dq 164 44 (.iload_n 2) 1 = true ∧ dq 164 45 (.aload_n 3) 1 = true ∧ dq 164 46 (.iload_n 1) 1 = true ∧ dq 164 47 (.invokevirtual 150) 3 = true ∧ dq 164 50 (.imul) 1 = true ∧ dq 164 51 (.iload 4) 2 = true ∧ dq 164 53 (.idiv) 1 = true ∧ dq 164 54 (.ireturn) 1 = true := by decide +kernel
theorem dX11_share_30 : decode (mB 164) 30 = .ok (.invokevirtual 223, 3) := dqo gX11_share_30.1
theorem dX11_share_33 : decode (mB 164) 33 = .ok (.istore 4, 2) := dqo gX11_share_30.2.1
theorem dX11_share_35 : decode (mB 164) 35 = .ok (.iload 4, 2) := dqo gX11_share_30.2.2.1
theorem dX11_share_37 : decode (mB 164) 37 = .ok (.ifCond .ne 7, 3) := dqo gX11_share_30.2.2.2.1
theorem dX11_share_40 : decode (mB 164) 40 = .ok (.iconst 0, 1) := dqo gX11_share_30.2.2.2.2.1
theorem dX11_share_41 : decode (mB 164) 41 = .ok (.goto 13, 3) := dqo gX11_share_30.2.2.2.2.2.1
theorem dX11_share_44 : decode (mB 164) 44 = .ok (.iload_n 2, 1) := dqo gX11_share_30.2.2.2.2.2.2.1
theorem dX11_share_45 : decode (mB 164) 45 = .ok (.aload_n 3, 1) := dqo gX11_share_30.2.2.2.2.2.2.2.1
theorem dX11_share_46 : decode (mB 164) 46 = .ok (.iload_n 1, 1) := dqo gX11_share_30.2.2.2.2.2.2.2.2.1
theorem dX11_share_47 : decode (mB 164) 47 = .ok (.invokevirtual 150, 3) := dqo gX11_share_30.2.2.2.2.2.2.2.2.2.1
theorem dX11_share_50 : decode (mB 164) 50 = .ok (.imul, 1) := dqo gX11_share_30.2.2.2.2.2.2.2.2.2.2.1
theorem dX11_share_51 : decode (mB 164) 51 = .ok (.iload 4, 2) := dqo gX11_share_30.2.2.2.2.2.2.2.2.2.2.2.1
theorem dX11_share_53 : decode (mB 164) 53 = .ok (.idiv, 1) := dqo gX11_share_30.2.2.2.2.2.2.2.2.2.2.2.2.1
theorem dX11_share_54 : decode (mB 164) 54 = .ok (.ireturn, 1) := dqo gX11_share_30.2.2.2.2.2.2.2.2.2.2.2.2.2
theorem gX11_half_0 : dq 165 0 (.aload_n 0) 1 = true ∧ dq 165 1 (.invokevirtual 143) 3 = true ∧ dq 165 4 (.astore_n 1) 1 = true ∧ dq 165 5 (.aload_n 1) 1 = true ∧ dq 165 6 (.invokevirtual 223) 3 = true ∧ dq 165 9 (.istore_n 2) 1 = true ∧ dq 165 10 (.iload_n 2) 1 = true ∧ dq 165 11 (.ifCond .ne 6) 3 = true ∧ dq 165 14 (.bipush (-2)) 2 = true ∧ dq 165 16 (.ireturn) 1 = true ∧ dq 165 17 (.bipush (-2)) 2 = true ∧ dq 165 19 (.istore_n 3) 1 = true ∧ dq 165 20 (.bipush 7) 2 = true ∧ dq 165 22 (.istore 4) 2 = true ∧ dq 165 24 (.iconst 0) 1 = true ∧ dq 165 25 (.istore 5) 2 = true := by decide +kernel
theorem dX11_half_0 : decode (mB 165) 0 = .ok (.aload_n 0, 1) := dqo gX11_half_0.1
theorem dX11_half_1 : decode (mB 165) 1 = .ok (.invokevirtual 143, 3) := dqo gX11_half_0.2.1
theorem dX11_half_4 : decode (mB 165) 4 = .ok (.astore_n 1, 1) := dqo gX11_half_0.2.2.1
theorem dX11_half_5 : decode (mB 165) 5 = .ok (.aload_n 1, 1) := dqo gX11_half_0.2.2.2.1
theorem dX11_half_6 : decode (mB 165) 6 = .ok (.invokevirtual 223, 3) := dqo gX11_half_0.2.2.2.2.1
theorem dX11_half_9 : decode (mB 165) 9 = .ok (.istore_n 2, 1) := dqo gX11_half_0.2.2.2.2.2.1
theorem dX11_half_10 : decode (mB 165) 10 = .ok (.iload_n 2, 1) := dqo gX11_half_0.2.2.2.2.2.2.1
theorem dX11_half_11 : decode (mB 165) 11 = .ok (.ifCond .ne 6, 3) := dqo gX11_half_0.2.2.2.2.2.2.2.1
theorem dX11_half_14 : decode (mB 165) 14 = .ok (.bipush (-2), 2) := dqo gX11_half_0.2.2.2.2.2.2.2.2.1
theorem dX11_half_16 : decode (mB 165) 16 = .ok (.ireturn, 1) := dqo gX11_half_0.2.2.2.2.2.2.2.2.2.1
theorem dX11_half_17 : decode (mB 165) 17 = .ok (.bipush (-2), 2) := dqo gX11_half_0.2.2.2.2.2.2.2.2.2.2.1
theorem dX11_half_19 : decode (mB 165) 19 = .ok (.istore_n 3, 1) := dqo gX11_half_0.2.2.2.2.2.2.2.2.2.2.2.1
theorem dX11_half_20 : decode (mB 165) 20 = .ok (.bipush 7, 2) := dqo gX11_half_0.2.2.2.2.2.2.2.2.2.2.2.2.1
theorem dX11_half_22 : decode (mB 165) 22 = .ok (.istore 4, 2) := dqo gX11_half_0.2.2.2.2.2.2.2.2.2.2.2.2.2.1
theorem dX11_half_24 : decode (mB 165) 24 = .ok (.iconst 0, 1) := dqo gX11_half_0.2.2.2.2.2.2.2.2.2.2.2.2.2.2.1
theorem dX11_half_25 : decode (mB 165) 25 = .ok (.istore 5, 2) := dqo gX11_half_0.2.2.2.2.2.2.2.2.2.2.2.2.2.2.2
theorem gX11_half_27 : dq 165 27 (.iload 5) 2 = true ∧ dq 165 29 (.iconst 1) 1 = true ∧ dq 165 30 (.aload_n 0) 1 = true ∧ dq 165 31 (.getfield 10) 3 = true ∧ dq 165 34 (.invokevirtual 226) 3 = true ∧ dq 165 37 (.ishl) 1 = true ∧ dq 165 38 (.if_icmp .ge 43) 3 = true ∧ dq 165 41 (.iload 5) 2 = true ∧ dq 165 43 (.invokestatic 264) 3 = true ∧ dq 165 46 (.istore 6) 2 = true ∧ dq 165 48 (.iload 6) 2 = true ∧ dq 165 50 (.iload 4) 2 = true ∧ dq 165 52 (.if_icmp .ge 23) 3 = true ∧ dq 165 55 (.iconst 2) 1 = true ∧ dq 165 56 (.aload_n 0) 1 = true ∧ dq 165 57 (.aload_n 1) 1 = true := by decide +kernel
theorem dX11_half_27 : decode (mB 165) 27 = .ok (.iload 5, 2) := dqo gX11_half_27.1
theorem dX11_half_29 : decode (mB 165) 29 = .ok (.iconst 1, 1) := dqo gX11_half_27.2.1
theorem dX11_half_30 : decode (mB 165) 30 = .ok (.aload_n 0, 1) := dqo gX11_half_27.2.2.1
theorem dX11_half_31 : decode (mB 165) 31 = .ok (.getfield 10, 3) := dqo gX11_half_27.2.2.2.1
theorem dX11_half_34 : decode (mB 165) 34 = .ok (.invokevirtual 226, 3) := dqo gX11_half_27.2.2.2.2.1
theorem dX11_half_37 : decode (mB 165) 37 = .ok (.ishl, 1) := dqo gX11_half_27.2.2.2.2.2.1
theorem dX11_half_38 : decode (mB 165) 38 = .ok (.if_icmp .ge 43, 3) := dqo gX11_half_27.2.2.2.2.2.2.1
theorem dX11_half_41 : decode (mB 165) 41 = .ok (.iload 5, 2) := dqo gX11_half_27.2.2.2.2.2.2.2.1
theorem dX11_half_43 : decode (mB 165) 43 = .ok (.invokestatic 264, 3) := dqo gX11_half_27.2.2.2.2.2.2.2.2.1
theorem dX11_half_46 : decode (mB 165) 46 = .ok (.istore 6, 2) := dqo gX11_half_27.2.2.2.2.2.2.2.2.2.1
theorem dX11_half_48 : decode (mB 165) 48 = .ok (.iload 6, 2) := dqo gX11_half_27.2.2.2.2.2.2.2.2.2.2.1
theorem dX11_half_50 : decode (mB 165) 50 = .ok (.iload 4, 2) := dqo gX11_half_27.2.2.2.2.2.2.2.2.2.2.2.1
theorem dX11_half_52 : decode (mB 165) 52 = .ok (.if_icmp .ge 23, 3) := dqo gX11_half_27.2.2.2.2.2.2.2.2.2.2.2.2.1
theorem dX11_half_55 : decode (mB 165) 55 = .ok (.iconst 2, 1) := dqo gX11_half_27.2.2.2.2.2.2.2.2.2.2.2.2.2.1
theorem dX11_half_56 : decode (mB 165) 56 = .ok (.aload_n 0, 1) := dqo gX11_half_27.2.2.2.2.2.2.2.2.2.2.2.2.2.2.1
theorem dX11_half_57 : decode (mB 165) 57 = .ok (.aload_n 1, 1) := dqo gX11_half_27.2.2.2.2.2.2.2.2.2.2.2.2.2.2.2
theorem gX11_half_58 : dq 165 58 (.iload 5) 2 = true ∧ dq 165 60 (.invokevirtual 269) 3 = true ∧ dq 165 63 (.imul) 1 = true ∧ dq 165 64 (.iload_n 2) 1 = true ∧ dq 165 65 (.if_icmp .lt 10) 3 = true ∧ dq 165 68 (.iload 6) 2 = true ∧ dq 165 70 (.istore 4) 2 = true ∧ dq 165 72 (.iload 5) 2 = true ∧ dq 165 74 (.istore_n 3) 1 = true ∧ dq 165 75 (.iinc 5 1) 3 = true ∧ dq 165 78 (.goto (-51)) 3 = true ∧ dq 165 81 (.iload_n 3) 1 = true ∧ dq 165 82 (.ireturn) 1 = true := by decide +kernel
theorem dX11_half_58 : decode (mB 165) 58 = .ok (.iload 5, 2) := dqo gX11_half_58.1
theorem dX11_half_60 : decode (mB 165) 60 = .ok (.invokevirtual 269, 3) := dqo gX11_half_58.2.1
theorem dX11_half_63 : decode (mB 165) 63 = .ok (.imul, 1) := dqo gX11_half_58.2.2.1
theorem dX11_half_64 : decode (mB 165) 64 = .ok (.iload_n 2, 1) := dqo gX11_half_58.2.2.2.1
theorem dX11_half_65 : decode (mB 165) 65 = .ok (.if_icmp .lt 10, 3) := dqo gX11_half_58.2.2.2.2.1
theorem dX11_half_68 : decode (mB 165) 68 = .ok (.iload 6, 2) := dqo gX11_half_58.2.2.2.2.2.1
theorem dX11_half_70 : decode (mB 165) 70 = .ok (.istore 4, 2) := dqo gX11_half_58.2.2.2.2.2.2.1
theorem dX11_half_72 : decode (mB 165) 72 = .ok (.iload 5, 2) := dqo gX11_half_58.2.2.2.2.2.2.2.1
theorem dX11_half_74 : decode (mB 165) 74 = .ok (.istore_n 3, 1) := dqo gX11_half_58.2.2.2.2.2.2.2.2.1
theorem dX11_half_75 : decode (mB 165) 75 = .ok (.iinc 5 1, 3) := dqo gX11_half_58.2.2.2.2.2.2.2.2.2.1
theorem dX11_half_78 : decode (mB 165) 78 = .ok (.goto (-51), 3) := dqo gX11_half_58.2.2.2.2.2.2.2.2.2.2.1
theorem dX11_half_81 : decode (mB 165) 81 = .ok (.iload_n 3, 1) := dqo gX11_half_58.2.2.2.2.2.2.2.2.2.2.2.1
theorem dX11_half_82 : decode (mB 165) 82 = .ok (.ireturn, 1) := dqo gX11_half_58.2.2.2.2.2.2.2.2.2.2.2.2
theorem gX11_realsOfSet_0 : dq 166 0 (.iconst 0) 1 = true ∧ dq 166 1 (.istore_n 3) 1 = true ∧ dq 166 2 (.iconst 0) 1 = true ∧ dq 166 3 (.istore 4) 2 = true ∧ dq 166 5 (.iload 4) 2 = true ∧ dq 166 7 (.aload_n 0) 1 = true ∧ dq 166 8 (.getfield 10) 3 = true ∧ dq 166 11 (.invokevirtual 226) 3 = true ∧ dq 166 14 (.if_icmp .ge 28) 3 = true ∧ dq 166 17 (.iload_n 2) 1 = true ∧ dq 166 18 (.iload 4) 2 = true ∧ dq 166 20 (.ishr) 1 = true ∧ dq 166 21 (.iconst 1) 1 = true ∧ dq 166 22 (.iand) 1 = true ∧ dq 166 23 (.iconst 1) 1 = true ∧ dq 166 24 (.if_icmp .ne 12) 3 = true := by decide +kernel
theorem dX11_realsOfSet_0 : decode (mB 166) 0 = .ok (.iconst 0, 1) := dqo gX11_realsOfSet_0.1
theorem dX11_realsOfSet_1 : decode (mB 166) 1 = .ok (.istore_n 3, 1) := dqo gX11_realsOfSet_0.2.1
theorem dX11_realsOfSet_2 : decode (mB 166) 2 = .ok (.iconst 0, 1) := dqo gX11_realsOfSet_0.2.2.1
theorem dX11_realsOfSet_3 : decode (mB 166) 3 = .ok (.istore 4, 2) := dqo gX11_realsOfSet_0.2.2.2.1
theorem dX11_realsOfSet_5 : decode (mB 166) 5 = .ok (.iload 4, 2) := dqo gX11_realsOfSet_0.2.2.2.2.1
theorem dX11_realsOfSet_7 : decode (mB 166) 7 = .ok (.aload_n 0, 1) := dqo gX11_realsOfSet_0.2.2.2.2.2.1
theorem dX11_realsOfSet_8 : decode (mB 166) 8 = .ok (.getfield 10, 3) := dqo gX11_realsOfSet_0.2.2.2.2.2.2.1
theorem dX11_realsOfSet_11 : decode (mB 166) 11 = .ok (.invokevirtual 226, 3) := dqo gX11_realsOfSet_0.2.2.2.2.2.2.2.1
theorem dX11_realsOfSet_14 : decode (mB 166) 14 = .ok (.if_icmp .ge 28, 3) := dqo gX11_realsOfSet_0.2.2.2.2.2.2.2.2.1
theorem dX11_realsOfSet_17 : decode (mB 166) 17 = .ok (.iload_n 2, 1) := dqo gX11_realsOfSet_0.2.2.2.2.2.2.2.2.2.1
theorem dX11_realsOfSet_18 : decode (mB 166) 18 = .ok (.iload 4, 2) := dqo gX11_realsOfSet_0.2.2.2.2.2.2.2.2.2.2.1
theorem dX11_realsOfSet_20 : decode (mB 166) 20 = .ok (.ishr, 1) := dqo gX11_realsOfSet_0.2.2.2.2.2.2.2.2.2.2.2.1
theorem dX11_realsOfSet_21 : decode (mB 166) 21 = .ok (.iconst 1, 1) := dqo gX11_realsOfSet_0.2.2.2.2.2.2.2.2.2.2.2.2.1
theorem dX11_realsOfSet_22 : decode (mB 166) 22 = .ok (.iand, 1) := dqo gX11_realsOfSet_0.2.2.2.2.2.2.2.2.2.2.2.2.2.1
theorem dX11_realsOfSet_23 : decode (mB 166) 23 = .ok (.iconst 1, 1) := dqo gX11_realsOfSet_0.2.2.2.2.2.2.2.2.2.2.2.2.2.2.1
theorem dX11_realsOfSet_24 : decode (mB 166) 24 = .ok (.if_icmp .ne 12, 3) := dqo gX11_realsOfSet_0.2.2.2.2.2.2.2.2.2.2.2.2.2.2.2
theorem gX11_realsOfSet_27 : dq 166 27 (.iload_n 3) 1 = true ∧ dq 166 28 (.aload_n 1) 1 = true ∧ dq 166 29 (.iload 4) 2 = true ∧ dq 166 31 (.invokevirtual 150) 3 = true ∧ dq 166 34 (.iadd) 1 = true ∧ dq 166 35 (.istore_n 3) 1 = true ∧ dq 166 36 (.iinc 4 1) 3 = true ∧ dq 166 39 (.goto (-34)) 3 = true ∧ dq 166 42 (.iload_n 3) 1 = true ∧ dq 166 43 (.ireturn) 1 = true := by decide +kernel
theorem dX11_realsOfSet_27 : decode (mB 166) 27 = .ok (.iload_n 3, 1) := dqo gX11_realsOfSet_27.1
theorem dX11_realsOfSet_28 : decode (mB 166) 28 = .ok (.aload_n 1, 1) := dqo gX11_realsOfSet_27.2.1
theorem dX11_realsOfSet_29 : decode (mB 166) 29 = .ok (.iload 4, 2) := dqo gX11_realsOfSet_27.2.2.1
theorem dX11_realsOfSet_31 : decode (mB 166) 31 = .ok (.invokevirtual 150, 3) := dqo gX11_realsOfSet_27.2.2.2.1
theorem dX11_realsOfSet_34 : decode (mB 166) 34 = .ok (.iadd, 1) := dqo gX11_realsOfSet_27.2.2.2.2.1
theorem dX11_realsOfSet_35 : decode (mB 166) 35 = .ok (.istore_n 3, 1) := dqo gX11_realsOfSet_27.2.2.2.2.2.1
theorem dX11_realsOfSet_36 : decode (mB 166) 36 = .ok (.iinc 4 1, 3) := dqo gX11_realsOfSet_27.2.2.2.2.2.2.1
theorem dX11_realsOfSet_39 : decode (mB 166) 39 = .ok (.goto (-34), 3) := dqo gX11_realsOfSet_27.2.2.2.2.2.2.2.1
theorem dX11_realsOfSet_42 : decode (mB 166) 42 = .ok (.iload_n 3, 1) := dqo gX11_realsOfSet_27.2.2.2.2.2.2.2.2.1
theorem dX11_realsOfSet_43 : decode (mB 166) 43 = .ok (.ireturn, 1) := dqo gX11_realsOfSet_27.2.2.2.2.2.2.2.2.2
theorem gX11_behind_0 : dq 167 0 (.aload_n 0) 1 = true ∧ dq 167 1 (.getfield 42) 3 = true ∧ dq 167 4 (.iload_n 1) 1 = true ∧ dq 167 5 (.invokevirtual 106) 3 = true ∧ dq 167 8 (.ifCond .eq 23) 3 = true ∧ dq 167 11 (.aload_n 0) 1 = true ∧ dq 167 12 (.getfield 42) 3 = true ∧ dq 167 15 (.iload_n 2) 1 = true ∧ dq 167 16 (.invokevirtual 106) 3 = true ∧ dq 167 19 (.ifCond .eq 12) 3 = true ∧ dq 167 22 (.iload_n 3) 1 = true ∧ dq 167 23 (.ifCond .lt 8) 3 = true ∧ dq 167 26 (.iload_n 3) 1 = true ∧ dq 167 27 (.iconst 4) 1 = true ∧ dq 167 28 (.if_icmp .le 5) 3 = true ∧ dq 167 31 (.iconst (-1)) 1 = true := by decide +kernel
theorem dX11_behind_0 : decode (mB 167) 0 = .ok (.aload_n 0, 1) := dqo gX11_behind_0.1
theorem dX11_behind_1 : decode (mB 167) 1 = .ok (.getfield 42, 3) := dqo gX11_behind_0.2.1
theorem dX11_behind_4 : decode (mB 167) 4 = .ok (.iload_n 1, 1) := dqo gX11_behind_0.2.2.1
theorem dX11_behind_5 : decode (mB 167) 5 = .ok (.invokevirtual 106, 3) := dqo gX11_behind_0.2.2.2.1
theorem dX11_behind_8 : decode (mB 167) 8 = .ok (.ifCond .eq 23, 3) := dqo gX11_behind_0.2.2.2.2.1
theorem dX11_behind_11 : decode (mB 167) 11 = .ok (.aload_n 0, 1) := dqo gX11_behind_0.2.2.2.2.2.1
theorem dX11_behind_12 : decode (mB 167) 12 = .ok (.getfield 42, 3) := dqo gX11_behind_0.2.2.2.2.2.2.1
theorem dX11_behind_15 : decode (mB 167) 15 = .ok (.iload_n 2, 1) := dqo gX11_behind_0.2.2.2.2.2.2.2.1
theorem dX11_behind_16 : decode (mB 167) 16 = .ok (.invokevirtual 106, 3) := dqo gX11_behind_0.2.2.2.2.2.2.2.2.1
theorem dX11_behind_19 : decode (mB 167) 19 = .ok (.ifCond .eq 12, 3) := dqo gX11_behind_0.2.2.2.2.2.2.2.2.2.1
theorem dX11_behind_22 : decode (mB 167) 22 = .ok (.iload_n 3, 1) := dqo gX11_behind_0.2.2.2.2.2.2.2.2.2.2.1
theorem dX11_behind_23 : decode (mB 167) 23 = .ok (.ifCond .lt 8, 3) := dqo gX11_behind_0.2.2.2.2.2.2.2.2.2.2.2.1
theorem dX11_behind_26 : decode (mB 167) 26 = .ok (.iload_n 3, 1) := dqo gX11_behind_0.2.2.2.2.2.2.2.2.2.2.2.2.1
theorem dX11_behind_27 : decode (mB 167) 27 = .ok (.iconst 4, 1) := dqo gX11_behind_0.2.2.2.2.2.2.2.2.2.2.2.2.2.1
theorem dX11_behind_28 : decode (mB 167) 28 = .ok (.if_icmp .le 5, 3) := dqo gX11_behind_0.2.2.2.2.2.2.2.2.2.2.2.2.2.2.1
theorem dX11_behind_31 : decode (mB 167) 31 = .ok (.iconst (-1), 1) := dqo gX11_behind_0.2.2.2.2.2.2.2.2.2.2.2.2.2.2.2
theorem gX11_behind_32 : dq 167 32 (.ireturn) 1 = true ∧ dq 167 33 (.aload_n 0) 1 = true ∧ dq 167 34 (.getfield 42) 3 = true ∧ dq 167 37 (.iload_n 1) 1 = true ∧ dq 167 38 (.invokevirtual 273) 3 = true ∧ dq 167 41 (.ifCond .ne 14) 3 = true ∧ dq 167 44 (.aload_n 0) 1 = true ∧ dq 167 45 (.getfield 42) 3 = true ∧ dq 167 48 (.iload_n 2) 1 = true ∧ dq 167 49 (.invokevirtual 273) 3 = true ∧ dq 167 52 (.ifCond .eq 6) 3 = true ∧ dq 167 55 (.bipush (-11)) 2 = true ∧ dq 167 57 (.ireturn) 1 = true ∧ dq 167 58 (.aload_n 0) 1 = true ∧ dq 167 59 (.getfield 42) 3 = true ∧ dq 167 62 (.iload_n 1) 1 = true := by decide +kernel
theorem dX11_behind_32 : decode (mB 167) 32 = .ok (.ireturn, 1) := dqo gX11_behind_32.1
theorem dX11_behind_33 : decode (mB 167) 33 = .ok (.aload_n 0, 1) := dqo gX11_behind_32.2.1
theorem dX11_behind_34 : decode (mB 167) 34 = .ok (.getfield 42, 3) := dqo gX11_behind_32.2.2.1
theorem dX11_behind_37 : decode (mB 167) 37 = .ok (.iload_n 1, 1) := dqo gX11_behind_32.2.2.2.1
theorem dX11_behind_38 : decode (mB 167) 38 = .ok (.invokevirtual 273, 3) := dqo gX11_behind_32.2.2.2.2.1
theorem dX11_behind_41 : decode (mB 167) 41 = .ok (.ifCond .ne 14, 3) := dqo gX11_behind_32.2.2.2.2.2.1
theorem dX11_behind_44 : decode (mB 167) 44 = .ok (.aload_n 0, 1) := dqo gX11_behind_32.2.2.2.2.2.2.1
theorem dX11_behind_45 : decode (mB 167) 45 = .ok (.getfield 42, 3) := dqo gX11_behind_32.2.2.2.2.2.2.2.1
theorem dX11_behind_48 : decode (mB 167) 48 = .ok (.iload_n 2, 1) := dqo gX11_behind_32.2.2.2.2.2.2.2.2.1
theorem dX11_behind_49 : decode (mB 167) 49 = .ok (.invokevirtual 273, 3) := dqo gX11_behind_32.2.2.2.2.2.2.2.2.2.1
theorem dX11_behind_52 : decode (mB 167) 52 = .ok (.ifCond .eq 6, 3) := dqo gX11_behind_32.2.2.2.2.2.2.2.2.2.2.1
theorem dX11_behind_55 : decode (mB 167) 55 = .ok (.bipush (-11), 2) := dqo gX11_behind_32.2.2.2.2.2.2.2.2.2.2.2.1
theorem dX11_behind_57 : decode (mB 167) 57 = .ok (.ireturn, 1) := dqo gX11_behind_32.2.2.2.2.2.2.2.2.2.2.2.2.1
theorem dX11_behind_58 : decode (mB 167) 58 = .ok (.aload_n 0, 1) := dqo gX11_behind_32.2.2.2.2.2.2.2.2.2.2.2.2.2.1
theorem dX11_behind_59 : decode (mB 167) 59 = .ok (.getfield 42, 3) := dqo gX11_behind_32.2.2.2.2.2.2.2.2.2.2.2.2.2.2.1
theorem dX11_behind_62 : decode (mB 167) 62 = .ok (.iload_n 1, 1) := dqo gX11_behind_32.2.2.2.2.2.2.2.2.2.2.2.2.2.2.2
theorem gX11_behind_63 : dq 167 63 (.invokevirtual 110) 3 = true ∧ dq 167 66 (.ifCond .ne 14) 3 = true ∧ dq 167 69 (.aload_n 0) 1 = true ∧ dq 167 70 (.getfield 42) 3 = true ∧ dq 167 73 (.iload_n 2) 1 = true ∧ dq 167 74 (.invokevirtual 110) 3 = true ∧ dq 167 77 (.ifCond .eq 6) 3 = true ∧ dq 167 80 (.bipush (-12)) 2 = true ∧ dq 167 82 (.ireturn) 1 = true ∧ dq 167 83 (.aload_n 0) 1 = true ∧ dq 167 84 (.getfield 51) 3 = true ∧ dq 167 87 (.aload_n 0) 1 = true ∧ dq 167 88 (.getfield 42) 3 = true ∧ dq 167 91 (.iload_n 1) 1 = true ∧ dq 167 92 (.invokevirtual 183) 3 = true ∧ dq 167 95 (.aload_n 0) 1 = true := by decide +kernel
theorem dX11_behind_63 : decode (mB 167) 63 = .ok (.invokevirtual 110, 3) := dqo gX11_behind_63.1
theorem dX11_behind_66 : decode (mB 167) 66 = .ok (.ifCond .ne 14, 3) := dqo gX11_behind_63.2.1
theorem dX11_behind_69 : decode (mB 167) 69 = .ok (.aload_n 0, 1) := dqo gX11_behind_63.2.2.1
theorem dX11_behind_70 : decode (mB 167) 70 = .ok (.getfield 42, 3) := dqo gX11_behind_63.2.2.2.1
theorem dX11_behind_73 : decode (mB 167) 73 = .ok (.iload_n 2, 1) := dqo gX11_behind_63.2.2.2.2.1
theorem dX11_behind_74 : decode (mB 167) 74 = .ok (.invokevirtual 110, 3) := dqo gX11_behind_63.2.2.2.2.2.1
theorem dX11_behind_77 : decode (mB 167) 77 = .ok (.ifCond .eq 6, 3) := dqo gX11_behind_63.2.2.2.2.2.2.1
theorem dX11_behind_80 : decode (mB 167) 80 = .ok (.bipush (-12), 2) := dqo gX11_behind_63.2.2.2.2.2.2.2.1
theorem dX11_behind_82 : decode (mB 167) 82 = .ok (.ireturn, 1) := dqo gX11_behind_63.2.2.2.2.2.2.2.2.1
theorem dX11_behind_83 : decode (mB 167) 83 = .ok (.aload_n 0, 1) := dqo gX11_behind_63.2.2.2.2.2.2.2.2.2.1
theorem dX11_behind_84 : decode (mB 167) 84 = .ok (.getfield 51, 3) := dqo gX11_behind_63.2.2.2.2.2.2.2.2.2.2.1
theorem dX11_behind_87 : decode (mB 167) 87 = .ok (.aload_n 0, 1) := dqo gX11_behind_63.2.2.2.2.2.2.2.2.2.2.2.1
theorem dX11_behind_88 : decode (mB 167) 88 = .ok (.getfield 42, 3) := dqo gX11_behind_63.2.2.2.2.2.2.2.2.2.2.2.2.1
theorem dX11_behind_91 : decode (mB 167) 91 = .ok (.iload_n 1, 1) := dqo gX11_behind_63.2.2.2.2.2.2.2.2.2.2.2.2.2.1
theorem dX11_behind_92 : decode (mB 167) 92 = .ok (.invokevirtual 183, 3) := dqo gX11_behind_63.2.2.2.2.2.2.2.2.2.2.2.2.2.2.1
theorem dX11_behind_95 : decode (mB 167) 95 = .ok (.aload_n 0, 1) := dqo gX11_behind_63.2.2.2.2.2.2.2.2.2.2.2.2.2.2.2
theorem gX11_behind_96 : dq 167 96 (.getfield 60) 3 = true ∧ dq 167 99 (.aload_n 0) 1 = true ∧ dq 167 100 (.getfield 42) 3 = true ∧ dq 167 103 (.iload_n 2) 1 = true ∧ dq 167 104 (.iload_n 3) 1 = true ∧ dq 167 105 (.iconst 4) 1 = true ∧ dq 167 106 (.if_icmp .ne 7) 3 = true ∧ dq 167 109 (.iconst 1) 1 = true ∧ dq 167 110 (.goto 4) 3 = true ∧ dq 167 113 (.iconst 0) 1 = true ∧ dq 167 114 (.invokevirtual 276) 3 = true ∧ dq 167 117 (.iload_n 3) 1 = true ∧ dq 167 118 (.tableswitch 62 0 3 #[30, 38, 46, 54]) 30 = true ∧ dq 167 148 (.aload_n 0) 1 = true ∧ dq 167 149 (.getfield 60) 3 = true ∧ dq 167 152 (.invokevirtual 280) 3 = true := by decide +kernel
theorem dX11_behind_96 : decode (mB 167) 96 = .ok (.getfield 60, 3) := dqo gX11_behind_96.1
theorem dX11_behind_99 : decode (mB 167) 99 = .ok (.aload_n 0, 1) := dqo gX11_behind_96.2.1
theorem dX11_behind_100 : decode (mB 167) 100 = .ok (.getfield 42, 3) := dqo gX11_behind_96.2.2.1
theorem dX11_behind_103 : decode (mB 167) 103 = .ok (.iload_n 2, 1) := dqo gX11_behind_96.2.2.2.1
theorem dX11_behind_104 : decode (mB 167) 104 = .ok (.iload_n 3, 1) := dqo gX11_behind_96.2.2.2.2.1
theorem dX11_behind_105 : decode (mB 167) 105 = .ok (.iconst 4, 1) := dqo gX11_behind_96.2.2.2.2.2.1
theorem dX11_behind_106 : decode (mB 167) 106 = .ok (.if_icmp .ne 7, 3) := dqo gX11_behind_96.2.2.2.2.2.2.1
theorem dX11_behind_109 : decode (mB 167) 109 = .ok (.iconst 1, 1) := dqo gX11_behind_96.2.2.2.2.2.2.2.1
theorem dX11_behind_110 : decode (mB 167) 110 = .ok (.goto 4, 3) := dqo gX11_behind_96.2.2.2.2.2.2.2.2.1
theorem dX11_behind_113 : decode (mB 167) 113 = .ok (.iconst 0, 1) := dqo gX11_behind_96.2.2.2.2.2.2.2.2.2.1
theorem dX11_behind_114 : decode (mB 167) 114 = .ok (.invokevirtual 276, 3) := dqo gX11_behind_96.2.2.2.2.2.2.2.2.2.2.1
theorem dX11_behind_117 : decode (mB 167) 117 = .ok (.iload_n 3, 1) := dqo gX11_behind_96.2.2.2.2.2.2.2.2.2.2.2.1
theorem dX11_behind_118 : decode (mB 167) 118 = .ok (.tableswitch 62 0 3 #[30, 38, 46, 54], 30) := dqo gX11_behind_96.2.2.2.2.2.2.2.2.2.2.2.2.1
theorem dX11_behind_148 : decode (mB 167) 148 = .ok (.aload_n 0, 1) := dqo gX11_behind_96.2.2.2.2.2.2.2.2.2.2.2.2.2.1
theorem dX11_behind_149 : decode (mB 167) 149 = .ok (.getfield 60, 3) := dqo gX11_behind_96.2.2.2.2.2.2.2.2.2.2.2.2.2.2.1
theorem dX11_behind_152 : decode (mB 167) 152 = .ok (.invokevirtual 280, 3) := dqo gX11_behind_96.2.2.2.2.2.2.2.2.2.2.2.2.2.2.2
theorem gX11_behind_155 : dq 167 155 (.ireturn) 1 = true ∧ dq 167 156 (.aload_n 0) 1 = true ∧ dq 167 157 (.getfield 60) 3 = true ∧ dq 167 160 (.invokevirtual 283) 3 = true ∧ dq 167 163 (.ireturn) 1 = true ∧ dq 167 164 (.aload_n 0) 1 = true ∧ dq 167 165 (.getfield 60) 3 = true ∧ dq 167 168 (.invokevirtual 286) 3 = true ∧ dq 167 171 (.ireturn) 1 = true ∧ dq 167 172 (.aload_n 0) 1 = true ∧ dq 167 173 (.getfield 60) 3 = true ∧ dq 167 176 (.invokevirtual 289) 3 = true ∧ dq 167 179 (.ireturn) 1 = true ∧ dq 167 180 (.aload_n 0) 1 = true ∧ dq 167 181 (.getfield 60) 3 = true ∧ dq 167 184 (.invokevirtual 292) 3 = true := by decide +kernel
theorem dX11_behind_155 : decode (mB 167) 155 = .ok (.ireturn, 1) := dqo gX11_behind_155.1
theorem dX11_behind_156 : decode (mB 167) 156 = .ok (.aload_n 0, 1) := dqo gX11_behind_155.2.1
theorem dX11_behind_157 : decode (mB 167) 157 = .ok (.getfield 60, 3) := dqo gX11_behind_155.2.2.1
theorem dX11_behind_160 : decode (mB 167) 160 = .ok (.invokevirtual 283, 3) := dqo gX11_behind_155.2.2.2.1
theorem dX11_behind_163 : decode (mB 167) 163 = .ok (.ireturn, 1) := dqo gX11_behind_155.2.2.2.2.1
theorem dX11_behind_164 : decode (mB 167) 164 = .ok (.aload_n 0, 1) := dqo gX11_behind_155.2.2.2.2.2.1
theorem dX11_behind_165 : decode (mB 167) 165 = .ok (.getfield 60, 3) := dqo gX11_behind_155.2.2.2.2.2.2.1
theorem dX11_behind_168 : decode (mB 167) 168 = .ok (.invokevirtual 286, 3) := dqo gX11_behind_155.2.2.2.2.2.2.2.1
theorem dX11_behind_171 : decode (mB 167) 171 = .ok (.ireturn, 1) := dqo gX11_behind_155.2.2.2.2.2.2.2.2.1
theorem dX11_behind_172 : decode (mB 167) 172 = .ok (.aload_n 0, 1) := dqo gX11_behind_155.2.2.2.2.2.2.2.2.2.1
theorem dX11_behind_173 : decode (mB 167) 173 = .ok (.getfield 60, 3) := dqo gX11_behind_155.2.2.2.2.2.2.2.2.2.2.1
theorem dX11_behind_176 : decode (mB 167) 176 = .ok (.invokevirtual 289, 3) := dqo gX11_behind_155.2.2.2.2.2.2.2.2.2.2.2.1
theorem dX11_behind_179 : decode (mB 167) 179 = .ok (.ireturn, 1) := dqo gX11_behind_155.2.2.2.2.2.2.2.2.2.2.2.2.1
theorem dX11_behind_180 : decode (mB 167) 180 = .ok (.aload_n 0, 1) := dqo gX11_behind_155.2.2.2.2.2.2.2.2.2.2.2.2.2.1
theorem dX11_behind_181 : decode (mB 167) 181 = .ok (.getfield 60, 3) := dqo gX11_behind_155.2.2.2.2.2.2.2.2.2.2.2.2.2.2.1
theorem dX11_behind_184 : decode (mB 167) 184 = .ok (.invokevirtual 292, 3) := dqo gX11_behind_155.2.2.2.2.2.2.2.2.2.2.2.2.2.2.2
theorem dX11_behind_187 : decode (mB 167) 187 = .ok (.ireturn, 1) := dqo (by decide +kernel)
theorem gX11_drawn_0 : dq 168 0 (.iload_n 2) 1 = true ∧ dq 168 1 (.bipush 100) 2 = true ∧ dq 168 3 (.idiv) 1 = true ∧ dq 168 4 (.istore 4) 2 = true ∧ dq 168 6 (.iload_n 2) 1 = true ∧ dq 168 7 (.bipush 100) 2 = true ∧ dq 168 9 (.irem) 1 = true ∧ dq 168 10 (.istore 5) 2 = true ∧ dq 168 12 (.iload 4) 2 = true ∧ dq 168 14 (.iconst 1) 1 = true ∧ dq 168 15 (.if_icmp .lt 23) 3 = true ∧ dq 168 18 (.iload 4) 2 = true ∧ dq 168 20 (.bipush 30) 2 = true ∧ dq 168 22 (.if_icmp .gt 16) 3 = true ∧ dq 168 25 (.iload 5) 2 = true ∧ dq 168 27 (.iconst 1) 1 = true := by decide +kernel
theorem dX11_drawn_0 : decode (mB 168) 0 = .ok (.iload_n 2, 1) := dqo gX11_drawn_0.1
theorem dX11_drawn_1 : decode (mB 168) 1 = .ok (.bipush 100, 2) := dqo gX11_drawn_0.2.1
theorem dX11_drawn_3 : decode (mB 168) 3 = .ok (.idiv, 1) := dqo gX11_drawn_0.2.2.1
theorem dX11_drawn_4 : decode (mB 168) 4 = .ok (.istore 4, 2) := dqo gX11_drawn_0.2.2.2.1
theorem dX11_drawn_6 : decode (mB 168) 6 = .ok (.iload_n 2, 1) := dqo gX11_drawn_0.2.2.2.2.1
theorem dX11_drawn_7 : decode (mB 168) 7 = .ok (.bipush 100, 2) := dqo gX11_drawn_0.2.2.2.2.2.1
theorem dX11_drawn_9 : decode (mB 168) 9 = .ok (.irem, 1) := dqo gX11_drawn_0.2.2.2.2.2.2.1
theorem dX11_drawn_10 : decode (mB 168) 10 = .ok (.istore 5, 2) := dqo gX11_drawn_0.2.2.2.2.2.2.2.1
theorem dX11_drawn_12 : decode (mB 168) 12 = .ok (.iload 4, 2) := dqo gX11_drawn_0.2.2.2.2.2.2.2.2.1
theorem dX11_drawn_14 : decode (mB 168) 14 = .ok (.iconst 1, 1) := dqo gX11_drawn_0.2.2.2.2.2.2.2.2.2.1
theorem dX11_drawn_15 : decode (mB 168) 15 = .ok (.if_icmp .lt 23, 3) := dqo gX11_drawn_0.2.2.2.2.2.2.2.2.2.2.1
theorem dX11_drawn_18 : decode (mB 168) 18 = .ok (.iload 4, 2) := dqo gX11_drawn_0.2.2.2.2.2.2.2.2.2.2.2.1
theorem dX11_drawn_20 : decode (mB 168) 20 = .ok (.bipush 30, 2) := dqo gX11_drawn_0.2.2.2.2.2.2.2.2.2.2.2.2.1
theorem dX11_drawn_22 : decode (mB 168) 22 = .ok (.if_icmp .gt 16, 3) := dqo gX11_drawn_0.2.2.2.2.2.2.2.2.2.2.2.2.2.1
theorem dX11_drawn_25 : decode (mB 168) 25 = .ok (.iload 5, 2) := dqo gX11_drawn_0.2.2.2.2.2.2.2.2.2.2.2.2.2.2.1
theorem dX11_drawn_27 : decode (mB 168) 27 = .ok (.iconst 1, 1) := dqo gX11_drawn_0.2.2.2.2.2.2.2.2.2.2.2.2.2.2.2
theorem gX11_drawn_28 : dq 168 28 (.if_icmp .lt 10) 3 = true ∧ dq 168 31 (.iload 5) 2 = true ∧ dq 168 33 (.bipush 30) 2 = true ∧ dq 168 35 (.if_icmp .le 5) 3 = true ∧ dq 168 38 (.iconst (-1)) 1 = true ∧ dq 168 39 (.ireturn) 1 = true ∧ dq 168 40 (.iload_n 3) 1 = true ∧ dq 168 41 (.iconst (-1)) 1 = true ∧ dq 168 42 (.if_icmp .eq 16) 3 = true ∧ dq 168 45 (.aload_n 0) 1 = true ∧ dq 168 46 (.getfield 10) 3 = true ∧ dq 168 49 (.iload_n 3) 1 = true ∧ dq 168 50 (.invokevirtual 140) 3 = true ∧ dq 168 53 (.ifCond .ne 5) 3 = true ∧ dq 168 56 (.iconst (-1)) 1 = true ∧ dq 168 57 (.ireturn) 1 = true := by decide +kernel
theorem dX11_drawn_28 : decode (mB 168) 28 = .ok (.if_icmp .lt 10, 3) := dqo gX11_drawn_28.1
theorem dX11_drawn_31 : decode (mB 168) 31 = .ok (.iload 5, 2) := dqo gX11_drawn_28.2.1
theorem dX11_drawn_33 : decode (mB 168) 33 = .ok (.bipush 30, 2) := dqo gX11_drawn_28.2.2.1
theorem dX11_drawn_35 : decode (mB 168) 35 = .ok (.if_icmp .le 5, 3) := dqo gX11_drawn_28.2.2.2.1
theorem dX11_drawn_38 : decode (mB 168) 38 = .ok (.iconst (-1), 1) := dqo gX11_drawn_28.2.2.2.2.1
theorem dX11_drawn_39 : decode (mB 168) 39 = .ok (.ireturn, 1) := dqo gX11_drawn_28.2.2.2.2.2.1
theorem dX11_drawn_40 : decode (mB 168) 40 = .ok (.iload_n 3, 1) := dqo gX11_drawn_28.2.2.2.2.2.2.1
theorem dX11_drawn_41 : decode (mB 168) 41 = .ok (.iconst (-1), 1) := dqo gX11_drawn_28.2.2.2.2.2.2.2.1
theorem dX11_drawn_42 : decode (mB 168) 42 = .ok (.if_icmp .eq 16, 3) := dqo gX11_drawn_28.2.2.2.2.2.2.2.2.1
theorem dX11_drawn_45 : decode (mB 168) 45 = .ok (.aload_n 0, 1) := dqo gX11_drawn_28.2.2.2.2.2.2.2.2.2.1
theorem dX11_drawn_46 : decode (mB 168) 46 = .ok (.getfield 10, 3) := dqo gX11_drawn_28.2.2.2.2.2.2.2.2.2.2.1
theorem dX11_drawn_49 : decode (mB 168) 49 = .ok (.iload_n 3, 1) := dqo gX11_drawn_28.2.2.2.2.2.2.2.2.2.2.2.1
theorem dX11_drawn_50 : decode (mB 168) 50 = .ok (.invokevirtual 140, 3) := dqo gX11_drawn_28.2.2.2.2.2.2.2.2.2.2.2.2.1
theorem dX11_drawn_53 : decode (mB 168) 53 = .ok (.ifCond .ne 5, 3) := dqo gX11_drawn_28.2.2.2.2.2.2.2.2.2.2.2.2.2.1
theorem dX11_drawn_56 : decode (mB 168) 56 = .ok (.iconst (-1), 1) := dqo gX11_drawn_28.2.2.2.2.2.2.2.2.2.2.2.2.2.2.1
theorem dX11_drawn_57 : decode (mB 168) 57 = .ok (.ireturn, 1) := dqo gX11_drawn_28.2.2.2.2.2.2.2.2.2.2.2.2.2.2.2
theorem gX11_drawn_58 : dq 168 58 (.iload_n 1) 1 = true ∧ dq 168 59 (.istore 6) 2 = true ∧ dq 168 61 (.iconst 0) 1 = true ∧ dq 168 62 (.istore 7) 2 = true ∧ dq 168 64 (.iconst 0) 1 = true ∧ dq 168 65 (.istore 8) 2 = true ∧ dq 168 67 (.iconst 0) 1 = true ∧ dq 168 68 (.istore 9) 2 = true ∧ dq 168 70 (.iload 9) 2 = true ∧ dq 168 72 (.iload 4) 2 = true ∧ dq 168 74 (.if_icmp .ge 91) 3 = true ∧ dq 168 77 (.aload_n 0) 1 = true ∧ dq 168 78 (.getfield 35) 3 = true ∧ dq 168 81 (.invokevirtual 177) 3 = true ∧ dq 168 84 (.iconst 0) 1 = true ∧ dq 168 85 (.istore 10) 2 = true := by decide +kernel
theorem dX11_drawn_58 : decode (mB 168) 58 = .ok (.iload_n 1, 1) := dqo gX11_drawn_58.1
theorem dX11_drawn_59 : decode (mB 168) 59 = .ok (.istore 6, 2) := dqo gX11_drawn_58.2.1
theorem dX11_drawn_61 : decode (mB 168) 61 = .ok (.iconst 0, 1) := dqo gX11_drawn_58.2.2.1
theorem dX11_drawn_62 : decode (mB 168) 62 = .ok (.istore 7, 2) := dqo gX11_drawn_58.2.2.2.1
theorem dX11_drawn_64 : decode (mB 168) 64 = .ok (.iconst 0, 1) := dqo gX11_drawn_58.2.2.2.2.1
theorem dX11_drawn_65 : decode (mB 168) 65 = .ok (.istore 8, 2) := dqo gX11_drawn_58.2.2.2.2.2.1
theorem dX11_drawn_67 : decode (mB 168) 67 = .ok (.iconst 0, 1) := dqo gX11_drawn_58.2.2.2.2.2.2.1
theorem dX11_drawn_68 : decode (mB 168) 68 = .ok (.istore 9, 2) := dqo gX11_drawn_58.2.2.2.2.2.2.2.1
theorem dX11_drawn_70 : decode (mB 168) 70 = .ok (.iload 9, 2) := dqo gX11_drawn_58.2.2.2.2.2.2.2.2.1
theorem dX11_drawn_72 : decode (mB 168) 72 = .ok (.iload 4, 2) := dqo gX11_drawn_58.2.2.2.2.2.2.2.2.2.1
theorem dX11_drawn_74 : decode (mB 168) 74 = .ok (.if_icmp .ge 91, 3) := dqo gX11_drawn_58.2.2.2.2.2.2.2.2.2.2.1
theorem dX11_drawn_77 : decode (mB 168) 77 = .ok (.aload_n 0, 1) := dqo gX11_drawn_58.2.2.2.2.2.2.2.2.2.2.2.1
theorem dX11_drawn_78 : decode (mB 168) 78 = .ok (.getfield 35, 3) := dqo gX11_drawn_58.2.2.2.2.2.2.2.2.2.2.2.2.1
theorem dX11_drawn_81 : decode (mB 168) 81 = .ok (.invokevirtual 177, 3) := dqo gX11_drawn_58.2.2.2.2.2.2.2.2.2.2.2.2.2.1
theorem dX11_drawn_84 : decode (mB 168) 84 = .ok (.iconst 0, 1) := dqo gX11_drawn_58.2.2.2.2.2.2.2.2.2.2.2.2.2.2.1
theorem dX11_drawn_85 : decode (mB 168) 85 = .ok (.istore 10, 2) := dqo gX11_drawn_58.2.2.2.2.2.2.2.2.2.2.2.2.2.2.2
theorem gX11_drawn_87 : dq 168 87 (.iload 10) 2 = true ∧ dq 168 89 (.iload 5) 2 = true ∧ dq 168 91 (.if_icmp .ge 38) 3 = true ∧ dq 168 94 (.iload 6) 2 = true ∧ dq 168 96 (.invokestatic 295) 3 = true ∧ dq 168 99 (.istore 6) 2 = true ∧ dq 168 101 (.iload 7) 2 = true ∧ dq 168 103 (.aload_n 0) 1 = true ∧ dq 168 104 (.getfield 35) 3 = true ∧ dq 168 107 (.iload 6) 2 = true ∧ dq 168 109 (.invokevirtual 298) 3 = true ∧ dq 168 112 (.ifCond .eq 7) 3 = true ∧ dq 168 115 (.iconst 1) 1 = true ∧ dq 168 116 (.goto 4) 3 = true ∧ dq 168 119 (.iconst 0) 1 = true ∧ dq 168 120 (.iadd) 1 = true := by decide +kernel
theorem dX11_drawn_87 : decode (mB 168) 87 = .ok (.iload 10, 2) := dqo gX11_drawn_87.1
theorem dX11_drawn_89 : decode (mB 168) 89 = .ok (.iload 5, 2) := dqo gX11_drawn_87.2.1
theorem dX11_drawn_91 : decode (mB 168) 91 = .ok (.if_icmp .ge 38, 3) := dqo gX11_drawn_87.2.2.1
theorem dX11_drawn_94 : decode (mB 168) 94 = .ok (.iload 6, 2) := dqo gX11_drawn_87.2.2.2.1
theorem dX11_drawn_96 : decode (mB 168) 96 = .ok (.invokestatic 295, 3) := dqo gX11_drawn_87.2.2.2.2.1
theorem dX11_drawn_99 : decode (mB 168) 99 = .ok (.istore 6, 2) := dqo gX11_drawn_87.2.2.2.2.2.1
theorem dX11_drawn_101 : decode (mB 168) 101 = .ok (.iload 7, 2) := dqo gX11_drawn_87.2.2.2.2.2.2.1
theorem dX11_drawn_103 : decode (mB 168) 103 = .ok (.aload_n 0, 1) := dqo gX11_drawn_87.2.2.2.2.2.2.2.1
theorem dX11_drawn_104 : decode (mB 168) 104 = .ok (.getfield 35, 3) := dqo gX11_drawn_87.2.2.2.2.2.2.2.2.1
theorem dX11_drawn_107 : decode (mB 168) 107 = .ok (.iload 6, 2) := dqo gX11_drawn_87.2.2.2.2.2.2.2.2.2.1
theorem dX11_drawn_109 : decode (mB 168) 109 = .ok (.invokevirtual 298, 3) := dqo gX11_drawn_87.2.2.2.2.2.2.2.2.2.2.1
theorem dX11_drawn_112 : decode (mB 168) 112 = .ok (.ifCond .eq 7, 3) := dqo gX11_drawn_87.2.2.2.2.2.2.2.2.2.2.2.1
theorem dX11_drawn_115 : decode (mB 168) 115 = .ok (.iconst 1, 1) := dqo gX11_drawn_87.2.2.2.2.2.2.2.2.2.2.2.2.1
theorem dX11_drawn_116 : decode (mB 168) 116 = .ok (.goto 4, 3) := dqo gX11_drawn_87.2.2.2.2.2.2.2.2.2.2.2.2.2.1
theorem dX11_drawn_119 : decode (mB 168) 119 = .ok (.iconst 0, 1) := dqo gX11_drawn_87.2.2.2.2.2.2.2.2.2.2.2.2.2.2.1
theorem dX11_drawn_120 : decode (mB 168) 120 = .ok (.iadd, 1) := dqo gX11_drawn_87.2.2.2.2.2.2.2.2.2.2.2.2.2.2.2
theorem gX11_drawn_121 : dq 168 121 (.istore 7) 2 = true ∧ dq 168 123 (.iinc 10 1) 3 = true ∧ dq 168 126 (.goto (-39)) 3 = true ∧ dq 168 129 (.iload 6) 2 = true ∧ dq 168 131 (.invokestatic 295) 3 = true ∧ dq 168 134 (.istore 6) 2 = true ∧ dq 168 136 (.iload 8) 2 = true ∧ dq 168 138 (.aload_n 0) 1 = true ∧ dq 168 139 (.getfield 35) 3 = true ∧ dq 168 142 (.iload 6) 2 = true ∧ dq 168 144 (.invokevirtual 301) 3 = true ∧ dq 168 147 (.iload_n 3) 1 = true ∧ dq 168 148 (.if_icmp .ne 7) 3 = true ∧ dq 168 151 (.iconst 1) 1 = true ∧ dq 168 152 (.goto 4) 3 = true ∧ dq 168 155 (.iconst 0) 1 = true := by decide +kernel
theorem dX11_drawn_121 : decode (mB 168) 121 = .ok (.istore 7, 2) := dqo gX11_drawn_121.1
theorem dX11_drawn_123 : decode (mB 168) 123 = .ok (.iinc 10 1, 3) := dqo gX11_drawn_121.2.1
theorem dX11_drawn_126 : decode (mB 168) 126 = .ok (.goto (-39), 3) := dqo gX11_drawn_121.2.2.1
theorem dX11_drawn_129 : decode (mB 168) 129 = .ok (.iload 6, 2) := dqo gX11_drawn_121.2.2.2.1
theorem dX11_drawn_131 : decode (mB 168) 131 = .ok (.invokestatic 295, 3) := dqo gX11_drawn_121.2.2.2.2.1
theorem dX11_drawn_134 : decode (mB 168) 134 = .ok (.istore 6, 2) := dqo gX11_drawn_121.2.2.2.2.2.1
theorem dX11_drawn_136 : decode (mB 168) 136 = .ok (.iload 8, 2) := dqo gX11_drawn_121.2.2.2.2.2.2.1
theorem dX11_drawn_138 : decode (mB 168) 138 = .ok (.aload_n 0, 1) := dqo gX11_drawn_121.2.2.2.2.2.2.2.1
theorem dX11_drawn_139 : decode (mB 168) 139 = .ok (.getfield 35, 3) := dqo gX11_drawn_121.2.2.2.2.2.2.2.2.1
theorem dX11_drawn_142 : decode (mB 168) 142 = .ok (.iload 6, 2) := dqo gX11_drawn_121.2.2.2.2.2.2.2.2.2.1
theorem dX11_drawn_144 : decode (mB 168) 144 = .ok (.invokevirtual 301, 3) := dqo gX11_drawn_121.2.2.2.2.2.2.2.2.2.2.1
theorem dX11_drawn_147 : decode (mB 168) 147 = .ok (.iload_n 3, 1) := dqo gX11_drawn_121.2.2.2.2.2.2.2.2.2.2.2.1
theorem dX11_drawn_148 : decode (mB 168) 148 = .ok (.if_icmp .ne 7, 3) := dqo gX11_drawn_121.2.2.2.2.2.2.2.2.2.2.2.2.1
theorem dX11_drawn_151 : decode (mB 168) 151 = .ok (.iconst 1, 1) := dqo gX11_drawn_121.2.2.2.2.2.2.2.2.2.2.2.2.2.1
theorem dX11_drawn_152 : decode (mB 168) 152 = .ok (.goto 4, 3) := dqo gX11_drawn_121.2.2.2.2.2.2.2.2.2.2.2.2.2.2.1
theorem dX11_drawn_155 : decode (mB 168) 155 = .ok (.iconst 0, 1) := dqo gX11_drawn_121.2.2.2.2.2.2.2.2.2.2.2.2.2.2.2
theorem gX11_drawn_156 : dq 168 156 (.iadd) 1 = true ∧ dq 168 157 (.istore 8) 2 = true ∧ dq 168 159 (.iinc 9 1) 3 = true ∧ dq 168 162 (.goto (-92)) 3 = true ∧ dq 168 165 (.iload_n 3) 1 = true ∧ dq 168 166 (.iconst (-1)) 1 = true ∧ dq 168 167 (.if_icmp .ne 8) 3 = true ∧ dq 168 170 (.iload 7) 2 = true ∧ dq 168 172 (.goto 5) 3 = true ∧ dq 168 175 (.iload 8) 2 = true ∧ dq 168 177 (.ireturn) 1 = true := by decide +kernel
theorem dX11_drawn_156 : decode (mB 168) 156 = .ok (.iadd, 1) := dqo gX11_drawn_156.1
theorem dX11_drawn_157 : decode (mB 168) 157 = .ok (.istore 8, 2) := dqo gX11_drawn_156.2.1
theorem dX11_drawn_159 : decode (mB 168) 159 = .ok (.iinc 9 1, 3) := dqo gX11_drawn_156.2.2.1
theorem dX11_drawn_162 : decode (mB 168) 162 = .ok (.goto (-92), 3) := dqo gX11_drawn_156.2.2.2.1
theorem dX11_drawn_165 : decode (mB 168) 165 = .ok (.iload_n 3, 1) := dqo gX11_drawn_156.2.2.2.2.1
theorem dX11_drawn_166 : decode (mB 168) 166 = .ok (.iconst (-1), 1) := dqo gX11_drawn_156.2.2.2.2.2.1
theorem dX11_drawn_167 : decode (mB 168) 167 = .ok (.if_icmp .ne 8, 3) := dqo gX11_drawn_156.2.2.2.2.2.2.1
theorem dX11_drawn_170 : decode (mB 168) 170 = .ok (.iload 7, 2) := dqo gX11_drawn_156.2.2.2.2.2.2.2.1
theorem dX11_drawn_172 : decode (mB 168) 172 = .ok (.goto 5, 3) := dqo gX11_drawn_156.2.2.2.2.2.2.2.2.1
theorem dX11_drawn_175 : decode (mB 168) 175 = .ok (.iload 8, 2) := dqo gX11_drawn_156.2.2.2.2.2.2.2.2.2.1
theorem dX11_drawn_177 : decode (mB 168) 177 = .ok (.ireturn, 1) := dqo gX11_drawn_156.2.2.2.2.2.2.2.2.2.2
theorem gX11_nextDraw_0 : dq 169 0 (.iload_n 0) 1 = true ∧ dq 169 1 (.ldc_w 304) 3 = true ∧ dq 169 4 (.imul) 1 = true ∧ dq 169 5 (.sipush 12345) 3 = true ∧ dq 169 8 (.iadd) 1 = true ∧ dq 169 9 (.ireturn) 1 = true := by decide +kernel
theorem dX11_nextDraw_0 : decode (mB 169) 0 = .ok (.iload_n 0, 1) := dqo gX11_nextDraw_0.1
theorem dX11_nextDraw_1 : decode (mB 169) 1 = .ok (.ldc_w 304, 3) := dqo gX11_nextDraw_0.2.1
theorem dX11_nextDraw_4 : decode (mB 169) 4 = .ok (.imul, 1) := dqo gX11_nextDraw_0.2.2.1
theorem dX11_nextDraw_5 : decode (mB 169) 5 = .ok (.sipush 12345, 3) := dqo gX11_nextDraw_0.2.2.2.1
theorem dX11_nextDraw_8 : decode (mB 169) 8 = .ok (.iadd, 1) := dqo gX11_nextDraw_0.2.2.2.2.1
theorem dX11_nextDraw_9 : decode (mB 169) 9 = .ok (.ireturn, 1) := dqo gX11_nextDraw_0.2.2.2.2.2
theorem gX11_slip_0 : dq 170 0 (.aload_n 0) 1 = true ∧ dq 170 1 (.getfield 10) 3 = true ∧ dq 170 4 (.iload_n 1) 1 = true ∧ dq 170 5 (.invokevirtual 171) 3 = true ∧ dq 170 8 (.ifCond .eq 12) 3 = true ∧ dq 170 11 (.iload_n 2) 1 = true ∧ dq 170 12 (.ifCond .lt 8) 3 = true ∧ dq 170 15 (.iload_n 2) 1 = true ∧ dq 170 16 (.iconst 1) 1 = true ∧ dq 170 17 (.if_icmp .le 5) 3 = true ∧ dq 170 20 (.iconst (-1)) 1 = true ∧ dq 170 21 (.ireturn) 1 = true ∧ dq 170 22 (.iload_n 1) 1 = true ∧ dq 170 23 (.iconst 3) 1 = true ∧ dq 170 24 (.ishr) 1 = true ∧ dq 170 25 (.istore_n 3) 1 = true := by decide +kernel
theorem dX11_slip_0 : decode (mB 170) 0 = .ok (.aload_n 0, 1) := dqo gX11_slip_0.1
theorem dX11_slip_1 : decode (mB 170) 1 = .ok (.getfield 10, 3) := dqo gX11_slip_0.2.1
theorem dX11_slip_4 : decode (mB 170) 4 = .ok (.iload_n 1, 1) := dqo gX11_slip_0.2.2.1
theorem dX11_slip_5 : decode (mB 170) 5 = .ok (.invokevirtual 171, 3) := dqo gX11_slip_0.2.2.2.1
theorem dX11_slip_8 : decode (mB 170) 8 = .ok (.ifCond .eq 12, 3) := dqo gX11_slip_0.2.2.2.2.1
theorem dX11_slip_11 : decode (mB 170) 11 = .ok (.iload_n 2, 1) := dqo gX11_slip_0.2.2.2.2.2.1
theorem dX11_slip_12 : decode (mB 170) 12 = .ok (.ifCond .lt 8, 3) := dqo gX11_slip_0.2.2.2.2.2.2.1
theorem dX11_slip_15 : decode (mB 170) 15 = .ok (.iload_n 2, 1) := dqo gX11_slip_0.2.2.2.2.2.2.2.1
theorem dX11_slip_16 : decode (mB 170) 16 = .ok (.iconst 1, 1) := dqo gX11_slip_0.2.2.2.2.2.2.2.2.1
theorem dX11_slip_17 : decode (mB 170) 17 = .ok (.if_icmp .le 5, 3) := dqo gX11_slip_0.2.2.2.2.2.2.2.2.2.1
theorem dX11_slip_20 : decode (mB 170) 20 = .ok (.iconst (-1), 1) := dqo gX11_slip_0.2.2.2.2.2.2.2.2.2.2.1
theorem dX11_slip_21 : decode (mB 170) 21 = .ok (.ireturn, 1) := dqo gX11_slip_0.2.2.2.2.2.2.2.2.2.2.2.1
theorem dX11_slip_22 : decode (mB 170) 22 = .ok (.iload_n 1, 1) := dqo gX11_slip_0.2.2.2.2.2.2.2.2.2.2.2.2.1
theorem dX11_slip_23 : decode (mB 170) 23 = .ok (.iconst 3, 1) := dqo gX11_slip_0.2.2.2.2.2.2.2.2.2.2.2.2.2.1
theorem dX11_slip_24 : decode (mB 170) 24 = .ok (.ishr, 1) := dqo gX11_slip_0.2.2.2.2.2.2.2.2.2.2.2.2.2.2.1
theorem dX11_slip_25 : decode (mB 170) 25 = .ok (.istore_n 3, 1) := dqo gX11_slip_0.2.2.2.2.2.2.2.2.2.2.2.2.2.2.2
theorem gX11_slip_26 : dq 170 26 (.iload_n 1) 1 = true ∧ dq 170 27 (.bipush 7) 2 = true ∧ dq 170 29 (.iand) 1 = true ∧ dq 170 30 (.istore 4) 2 = true ∧ dq 170 32 (.aload_n 0) 1 = true ∧ dq 170 33 (.invokevirtual 143) 3 = true ∧ dq 170 36 (.iload_n 3) 1 = true ∧ dq 170 37 (.iload 4) 2 = true ∧ dq 170 39 (.invokevirtual 232) 3 = true ∧ dq 170 42 (.ifCond .ne 6) 3 = true ∧ dq 170 45 (.bipush (-5)) 2 = true ∧ dq 170 47 (.ireturn) 1 = true ∧ dq 170 48 (.aload_n 0) 1 = true ∧ dq 170 49 (.getfield 76) 3 = true ∧ dq 170 52 (.iconst 0) 1 = true ∧ dq 170 53 (.invokevirtual 305) 3 = true := by decide +kernel
theorem dX11_slip_26 : decode (mB 170) 26 = .ok (.iload_n 1, 1) := dqo gX11_slip_26.1
theorem dX11_slip_27 : decode (mB 170) 27 = .ok (.bipush 7, 2) := dqo gX11_slip_26.2.1
theorem dX11_slip_29 : decode (mB 170) 29 = .ok (.iand, 1) := dqo gX11_slip_26.2.2.1
theorem dX11_slip_30 : decode (mB 170) 30 = .ok (.istore 4, 2) := dqo gX11_slip_26.2.2.2.1
theorem dX11_slip_32 : decode (mB 170) 32 = .ok (.aload_n 0, 1) := dqo gX11_slip_26.2.2.2.2.1
theorem dX11_slip_33 : decode (mB 170) 33 = .ok (.invokevirtual 143, 3) := dqo gX11_slip_26.2.2.2.2.2.1
theorem dX11_slip_36 : decode (mB 170) 36 = .ok (.iload_n 3, 1) := dqo gX11_slip_26.2.2.2.2.2.2.1
theorem dX11_slip_37 : decode (mB 170) 37 = .ok (.iload 4, 2) := dqo gX11_slip_26.2.2.2.2.2.2.2.1
theorem dX11_slip_39 : decode (mB 170) 39 = .ok (.invokevirtual 232, 3) := dqo gX11_slip_26.2.2.2.2.2.2.2.2.1
theorem dX11_slip_42 : decode (mB 170) 42 = .ok (.ifCond .ne 6, 3) := dqo gX11_slip_26.2.2.2.2.2.2.2.2.2.1
theorem dX11_slip_45 : decode (mB 170) 45 = .ok (.bipush (-5), 2) := dqo gX11_slip_26.2.2.2.2.2.2.2.2.2.2.1
theorem dX11_slip_47 : decode (mB 170) 47 = .ok (.ireturn, 1) := dqo gX11_slip_26.2.2.2.2.2.2.2.2.2.2.2.1
theorem dX11_slip_48 : decode (mB 170) 48 = .ok (.aload_n 0, 1) := dqo gX11_slip_26.2.2.2.2.2.2.2.2.2.2.2.2.1
theorem dX11_slip_49 : decode (mB 170) 49 = .ok (.getfield 76, 3) := dqo gX11_slip_26.2.2.2.2.2.2.2.2.2.2.2.2.2.1
theorem dX11_slip_52 : decode (mB 170) 52 = .ok (.iconst 0, 1) := dqo gX11_slip_26.2.2.2.2.2.2.2.2.2.2.2.2.2.2.1
theorem dX11_slip_53 : decode (mB 170) 53 = .ok (.invokevirtual 305, 3) := dqo gX11_slip_26.2.2.2.2.2.2.2.2.2.2.2.2.2.2.2
theorem gX11_slip_56 : dq 170 56 (.iload_n 2) 1 = true ∧ dq 170 57 (.iconst 1) 1 = true ∧ dq 170 58 (.if_icmp .ne 22) 3 = true ∧ dq 170 61 (.aload_n 0) 1 = true ∧ dq 170 62 (.getfield 76) 3 = true ∧ dq 170 65 (.iconst 1) 1 = true ∧ dq 170 66 (.invokevirtual 305) 3 = true ∧ dq 170 69 (.aload_n 0) 1 = true ∧ dq 170 70 (.getfield 10) 3 = true ∧ dq 170 73 (.iconst 4) 1 = true ∧ dq 170 74 (.iload_n 3) 1 = true ∧ dq 170 75 (.iload 4) 2 = true ∧ dq 170 77 (.invokevirtual 136) 3 = true ∧ dq 170 80 (.aload_n 0) 1 = true ∧ dq 170 81 (.getfield 10) 3 = true ∧ dq 170 84 (.iconst 4) 1 = true := by decide +kernel
theorem dX11_slip_56 : decode (mB 170) 56 = .ok (.iload_n 2, 1) := dqo gX11_slip_56.1
theorem dX11_slip_57 : decode (mB 170) 57 = .ok (.iconst 1, 1) := dqo gX11_slip_56.2.1
theorem dX11_slip_58 : decode (mB 170) 58 = .ok (.if_icmp .ne 22, 3) := dqo gX11_slip_56.2.2.1
theorem dX11_slip_61 : decode (mB 170) 61 = .ok (.aload_n 0, 1) := dqo gX11_slip_56.2.2.2.1
theorem dX11_slip_62 : decode (mB 170) 62 = .ok (.getfield 76, 3) := dqo gX11_slip_56.2.2.2.2.1
theorem dX11_slip_65 : decode (mB 170) 65 = .ok (.iconst 1, 1) := dqo gX11_slip_56.2.2.2.2.2.1
theorem dX11_slip_66 : decode (mB 170) 66 = .ok (.invokevirtual 305, 3) := dqo gX11_slip_56.2.2.2.2.2.2.1
theorem dX11_slip_69 : decode (mB 170) 69 = .ok (.aload_n 0, 1) := dqo gX11_slip_56.2.2.2.2.2.2.2.1
theorem dX11_slip_70 : decode (mB 170) 70 = .ok (.getfield 10, 3) := dqo gX11_slip_56.2.2.2.2.2.2.2.2.1
theorem dX11_slip_73 : decode (mB 170) 73 = .ok (.iconst 4, 1) := dqo gX11_slip_56.2.2.2.2.2.2.2.2.2.1
theorem dX11_slip_74 : decode (mB 170) 74 = .ok (.iload_n 3, 1) := dqo gX11_slip_56.2.2.2.2.2.2.2.2.2.2.1
theorem dX11_slip_75 : decode (mB 170) 75 = .ok (.iload 4, 2) := dqo gX11_slip_56.2.2.2.2.2.2.2.2.2.2.2.1
theorem dX11_slip_77 : decode (mB 170) 77 = .ok (.invokevirtual 136, 3) := dqo gX11_slip_56.2.2.2.2.2.2.2.2.2.2.2.2.1
theorem dX11_slip_80 : decode (mB 170) 80 = .ok (.aload_n 0, 1) := dqo gX11_slip_56.2.2.2.2.2.2.2.2.2.2.2.2.2.1
theorem dX11_slip_81 : decode (mB 170) 81 = .ok (.getfield 10, 3) := dqo gX11_slip_56.2.2.2.2.2.2.2.2.2.2.2.2.2.2.1
theorem dX11_slip_84 : decode (mB 170) 84 = .ok (.iconst 4, 1) := dqo gX11_slip_56.2.2.2.2.2.2.2.2.2.2.2.2.2.2.2
theorem gX11_slip_85 : dq 170 85 (.iload_n 3) 1 = true ∧ dq 170 86 (.invokevirtual 129) 3 = true ∧ dq 170 89 (.ireturn) 1 = true := by decide +kernel
theorem dX11_slip_85 : decode (mB 170) 85 = .ok (.iload_n 3, 1) := dqo gX11_slip_85.1
theorem dX11_slip_86 : decode (mB 170) 86 = .ok (.invokevirtual 129, 3) := dqo gX11_slip_85.2.1
theorem dX11_slip_89 : decode (mB 170) 89 = .ok (.ireturn, 1) := dqo gX11_slip_85.2.2
theorem gX11_fold_0 : dq 171 0 (.aload_n 0) 1 = true ∧ dq 171 1 (.getfield 10) 3 = true ∧ dq 171 4 (.iload_n 1) 1 = true ∧ dq 171 5 (.invokevirtual 180) 3 = true ∧ dq 171 8 (.ifCond .ne 5) 3 = true ∧ dq 171 11 (.iconst (-1)) 1 = true ∧ dq 171 12 (.ireturn) 1 = true ∧ dq 171 13 (.aload_n 0) 1 = true ∧ dq 171 14 (.getfield 10) 3 = true ∧ dq 171 17 (.bipush 6) 2 = true ∧ dq 171 19 (.iload_n 1) 1 = true ∧ dq 171 20 (.invokevirtual 129) 3 = true ∧ dq 171 23 (.istore_n 2) 1 = true ∧ dq 171 24 (.iload_n 2) 1 = true ∧ dq 171 25 (.iconst 4) 1 = true ∧ dq 171 26 (.if_icmp .lt 6) 3 = true := by decide +kernel
theorem dX11_fold_0 : decode (mB 171) 0 = .ok (.aload_n 0, 1) := dqo gX11_fold_0.1
theorem dX11_fold_1 : decode (mB 171) 1 = .ok (.getfield 10, 3) := dqo gX11_fold_0.2.1
theorem dX11_fold_4 : decode (mB 171) 4 = .ok (.iload_n 1, 1) := dqo gX11_fold_0.2.2.1
theorem dX11_fold_5 : decode (mB 171) 5 = .ok (.invokevirtual 180, 3) := dqo gX11_fold_0.2.2.2.1
theorem dX11_fold_8 : decode (mB 171) 8 = .ok (.ifCond .ne 5, 3) := dqo gX11_fold_0.2.2.2.2.1
theorem dX11_fold_11 : decode (mB 171) 11 = .ok (.iconst (-1), 1) := dqo gX11_fold_0.2.2.2.2.2.1
theorem dX11_fold_12 : decode (mB 171) 12 = .ok (.ireturn, 1) := dqo gX11_fold_0.2.2.2.2.2.2.1
theorem dX11_fold_13 : decode (mB 171) 13 = .ok (.aload_n 0, 1) := dqo gX11_fold_0.2.2.2.2.2.2.2.1
theorem dX11_fold_14 : decode (mB 171) 14 = .ok (.getfield 10, 3) := dqo gX11_fold_0.2.2.2.2.2.2.2.2.1
theorem dX11_fold_17 : decode (mB 171) 17 = .ok (.bipush 6, 2) := dqo gX11_fold_0.2.2.2.2.2.2.2.2.2.1
theorem dX11_fold_19 : decode (mB 171) 19 = .ok (.iload_n 1, 1) := dqo gX11_fold_0.2.2.2.2.2.2.2.2.2.2.1
theorem dX11_fold_20 : decode (mB 171) 20 = .ok (.invokevirtual 129, 3) := dqo gX11_fold_0.2.2.2.2.2.2.2.2.2.2.2.1
theorem dX11_fold_23 : decode (mB 171) 23 = .ok (.istore_n 2, 1) := dqo gX11_fold_0.2.2.2.2.2.2.2.2.2.2.2.2.1
theorem dX11_fold_24 : decode (mB 171) 24 = .ok (.iload_n 2, 1) := dqo gX11_fold_0.2.2.2.2.2.2.2.2.2.2.2.2.2.1
theorem dX11_fold_25 : decode (mB 171) 25 = .ok (.iconst 4, 1) := dqo gX11_fold_0.2.2.2.2.2.2.2.2.2.2.2.2.2.2.1
theorem dX11_fold_26 : decode (mB 171) 26 = .ok (.if_icmp .lt 6, 3) := dqo gX11_fold_0.2.2.2.2.2.2.2.2.2.2.2.2.2.2.2
theorem gX11_fold_29 : dq 171 29 (.bipush (-5)) 2 = true ∧ dq 171 31 (.ireturn) 1 = true ∧ dq 171 32 (.aload_n 0) 1 = true ∧ dq 171 33 (.getfield 76) 3 = true ∧ dq 171 36 (.iconst 2) 1 = true ∧ dq 171 37 (.invokevirtual 305) 3 = true ∧ dq 171 40 (.aload_n 0) 1 = true ∧ dq 171 41 (.getfield 10) 3 = true ∧ dq 171 44 (.bipush 6) 2 = true ∧ dq 171 46 (.iload_n 1) 1 = true ∧ dq 171 47 (.iload_n 2) 1 = true ∧ dq 171 48 (.iconst 1) 1 = true ∧ dq 171 49 (.iadd) 1 = true ∧ dq 171 50 (.invokevirtual 136) 3 = true ∧ dq 171 53 (.iload_n 2) 1 = true ∧ dq 171 54 (.iconst 1) 1 = true := by decide +kernel
theorem dX11_fold_29 : decode (mB 171) 29 = .ok (.bipush (-5), 2) := dqo gX11_fold_29.1
theorem dX11_fold_31 : decode (mB 171) 31 = .ok (.ireturn, 1) := dqo gX11_fold_29.2.1
theorem dX11_fold_32 : decode (mB 171) 32 = .ok (.aload_n 0, 1) := dqo gX11_fold_29.2.2.1
theorem dX11_fold_33 : decode (mB 171) 33 = .ok (.getfield 76, 3) := dqo gX11_fold_29.2.2.2.1
theorem dX11_fold_36 : decode (mB 171) 36 = .ok (.iconst 2, 1) := dqo gX11_fold_29.2.2.2.2.1
theorem dX11_fold_37 : decode (mB 171) 37 = .ok (.invokevirtual 305, 3) := dqo gX11_fold_29.2.2.2.2.2.1
theorem dX11_fold_40 : decode (mB 171) 40 = .ok (.aload_n 0, 1) := dqo gX11_fold_29.2.2.2.2.2.2.1
theorem dX11_fold_41 : decode (mB 171) 41 = .ok (.getfield 10, 3) := dqo gX11_fold_29.2.2.2.2.2.2.2.1
theorem dX11_fold_44 : decode (mB 171) 44 = .ok (.bipush 6, 2) := dqo gX11_fold_29.2.2.2.2.2.2.2.2.1
theorem dX11_fold_46 : decode (mB 171) 46 = .ok (.iload_n 1, 1) := dqo gX11_fold_29.2.2.2.2.2.2.2.2.2.1
theorem dX11_fold_47 : decode (mB 171) 47 = .ok (.iload_n 2, 1) := dqo gX11_fold_29.2.2.2.2.2.2.2.2.2.2.1
theorem dX11_fold_48 : decode (mB 171) 48 = .ok (.iconst 1, 1) := dqo gX11_fold_29.2.2.2.2.2.2.2.2.2.2.2.1
theorem dX11_fold_49 : decode (mB 171) 49 = .ok (.iadd, 1) := dqo gX11_fold_29.2.2.2.2.2.2.2.2.2.2.2.2.1
theorem dX11_fold_50 : decode (mB 171) 50 = .ok (.invokevirtual 136, 3) := dqo gX11_fold_29.2.2.2.2.2.2.2.2.2.2.2.2.2.1
theorem dX11_fold_53 : decode (mB 171) 53 = .ok (.iload_n 2, 1) := dqo gX11_fold_29.2.2.2.2.2.2.2.2.2.2.2.2.2.2.1
theorem dX11_fold_54 : decode (mB 171) 54 = .ok (.iconst 1, 1) := dqo gX11_fold_29.2.2.2.2.2.2.2.2.2.2.2.2.2.2.2
theorem gX11_fold_55 : dq 171 55 (.iadd) 1 = true ∧ dq 171 56 (.ireturn) 1 = true := by decide +kernel
theorem dX11_fold_55 : decode (mB 171) 55 = .ok (.iadd, 1) := dqo gX11_fold_55.1
theorem dX11_fold_56 : decode (mB 171) 56 = .ok (.ireturn, 1) := dqo gX11_fold_55.2
theorem gX11_hour_0 : dq 172 0 (.aload_n 0) 1 = true ∧ dq 172 1 (.getfield 10) 3 = true ∧ dq 172 4 (.invokevirtual 308) 3 = true ∧ dq 172 7 (.bipush 11) 2 = true ∧ dq 172 9 (.if_icmp .lt 7) 3 = true ∧ dq 172 12 (.iconst 0) 1 = true ∧ dq 172 13 (.goto 12) 3 = true ∧ dq 172 16 (.aload_n 0) 1 = true ∧ dq 172 17 (.getfield 10) 3 = true ∧ dq 172 20 (.invokevirtual 308) 3 = true ∧ dq 172 23 (.iconst 1) 1 = true ∧ dq 172 24 (.iadd) 1 = true ∧ dq 172 25 (.istore_n 1) 1 = true ∧ dq 172 26 (.aload_n 0) 1 = true ∧ dq 172 27 (.getfield 76) 3 = true ∧ dq 172 30 (.iconst 3) 1 = true := by decide +kernel
theorem dX11_hour_0 : decode (mB 172) 0 = .ok (.aload_n 0, 1) := dqo gX11_hour_0.1
theorem dX11_hour_1 : decode (mB 172) 1 = .ok (.getfield 10, 3) := dqo gX11_hour_0.2.1
theorem dX11_hour_4 : decode (mB 172) 4 = .ok (.invokevirtual 308, 3) := dqo gX11_hour_0.2.2.1
theorem dX11_hour_7 : decode (mB 172) 7 = .ok (.bipush 11, 2) := dqo gX11_hour_0.2.2.2.1
theorem dX11_hour_9 : decode (mB 172) 9 = .ok (.if_icmp .lt 7, 3) := dqo gX11_hour_0.2.2.2.2.1
theorem dX11_hour_12 : decode (mB 172) 12 = .ok (.iconst 0, 1) := dqo gX11_hour_0.2.2.2.2.2.1
theorem dX11_hour_13 : decode (mB 172) 13 = .ok (.goto 12, 3) := dqo gX11_hour_0.2.2.2.2.2.2.1
theorem dX11_hour_16 : decode (mB 172) 16 = .ok (.aload_n 0, 1) := dqo gX11_hour_0.2.2.2.2.2.2.2.1
theorem dX11_hour_17 : decode (mB 172) 17 = .ok (.getfield 10, 3) := dqo gX11_hour_0.2.2.2.2.2.2.2.2.1
theorem dX11_hour_20 : decode (mB 172) 20 = .ok (.invokevirtual 308, 3) := dqo gX11_hour_0.2.2.2.2.2.2.2.2.2.1
theorem dX11_hour_23 : decode (mB 172) 23 = .ok (.iconst 1, 1) := dqo gX11_hour_0.2.2.2.2.2.2.2.2.2.2.1
theorem dX11_hour_24 : decode (mB 172) 24 = .ok (.iadd, 1) := dqo gX11_hour_0.2.2.2.2.2.2.2.2.2.2.2.1
theorem dX11_hour_25 : decode (mB 172) 25 = .ok (.istore_n 1, 1) := dqo gX11_hour_0.2.2.2.2.2.2.2.2.2.2.2.2.1
theorem dX11_hour_26 : decode (mB 172) 26 = .ok (.aload_n 0, 1) := dqo gX11_hour_0.2.2.2.2.2.2.2.2.2.2.2.2.2.1
theorem dX11_hour_27 : decode (mB 172) 27 = .ok (.getfield 76, 3) := dqo gX11_hour_0.2.2.2.2.2.2.2.2.2.2.2.2.2.2.1
theorem dX11_hour_30 : decode (mB 172) 30 = .ok (.iconst 3, 1) := dqo gX11_hour_0.2.2.2.2.2.2.2.2.2.2.2.2.2.2.2
theorem gX11_hour_31 : dq 172 31 (.invokevirtual 305) 3 = true ∧ dq 172 34 (.aload_n 0) 1 = true ∧ dq 172 35 (.getfield 10) 3 = true ∧ dq 172 38 (.bipush 7) 2 = true ∧ dq 172 40 (.iconst 0) 1 = true ∧ dq 172 41 (.iload_n 1) 1 = true ∧ dq 172 42 (.invokevirtual 136) 3 = true ∧ dq 172 45 (.iload_n 1) 1 = true ∧ dq 172 46 (.ireturn) 1 = true := by decide +kernel
theorem dX11_hour_31 : decode (mB 172) 31 = .ok (.invokevirtual 305, 3) := dqo gX11_hour_31.1
theorem dX11_hour_34 : decode (mB 172) 34 = .ok (.aload_n 0, 1) := dqo gX11_hour_31.2.1
theorem dX11_hour_35 : decode (mB 172) 35 = .ok (.getfield 10, 3) := dqo gX11_hour_31.2.2.1
theorem dX11_hour_38 : decode (mB 172) 38 = .ok (.bipush 7, 2) := dqo gX11_hour_31.2.2.2.1
theorem dX11_hour_40 : decode (mB 172) 40 = .ok (.iconst 0, 1) := dqo gX11_hour_31.2.2.2.2.1
theorem dX11_hour_41 : decode (mB 172) 41 = .ok (.iload_n 1, 1) := dqo gX11_hour_31.2.2.2.2.2.1
theorem dX11_hour_42 : decode (mB 172) 42 = .ok (.invokevirtual 136, 3) := dqo gX11_hour_31.2.2.2.2.2.2.1
theorem dX11_hour_45 : decode (mB 172) 45 = .ok (.iload_n 1, 1) := dqo gX11_hour_31.2.2.2.2.2.2.2.1
theorem dX11_hour_46 : decode (mB 172) 46 = .ok (.ireturn, 1) := dqo gX11_hour_31.2.2.2.2.2.2.2.2
theorem gX11_led_0 : dq 173 0 (.iload_n 1) 1 = true ∧ dq 173 1 (.ifCond .lt 8) 3 = true ∧ dq 173 4 (.iload_n 1) 1 = true ∧ dq 173 5 (.iconst 4) 1 = true ∧ dq 173 6 (.if_icmp .lt 7) 3 = true ∧ dq 173 9 (.iconst (-1)) 1 = true ∧ dq 173 10 (.goto 11) 3 = true ∧ dq 173 13 (.aload_n 0) 1 = true ∧ dq 173 14 (.getfield 76) 3 = true ∧ dq 173 17 (.iload_n 1) 1 = true ∧ dq 173 18 (.invokevirtual 311) 3 = true ∧ dq 173 21 (.ireturn) 1 = true := by decide +kernel
theorem dX11_led_0 : decode (mB 173) 0 = .ok (.iload_n 1, 1) := dqo gX11_led_0.1
theorem dX11_led_1 : decode (mB 173) 1 = .ok (.ifCond .lt 8, 3) := dqo gX11_led_0.2.1
theorem dX11_led_4 : decode (mB 173) 4 = .ok (.iload_n 1, 1) := dqo gX11_led_0.2.2.1
theorem dX11_led_5 : decode (mB 173) 5 = .ok (.iconst 4, 1) := dqo gX11_led_0.2.2.2.1
theorem dX11_led_6 : decode (mB 173) 6 = .ok (.if_icmp .lt 7, 3) := dqo gX11_led_0.2.2.2.2.1
theorem dX11_led_9 : decode (mB 173) 9 = .ok (.iconst (-1), 1) := dqo gX11_led_0.2.2.2.2.2.1
theorem dX11_led_10 : decode (mB 173) 10 = .ok (.goto 11, 3) := dqo gX11_led_0.2.2.2.2.2.2.1
theorem dX11_led_13 : decode (mB 173) 13 = .ok (.aload_n 0, 1) := dqo gX11_led_0.2.2.2.2.2.2.2.1
theorem dX11_led_14 : decode (mB 173) 14 = .ok (.getfield 76, 3) := dqo gX11_led_0.2.2.2.2.2.2.2.2.1
theorem dX11_led_17 : decode (mB 173) 17 = .ok (.iload_n 1, 1) := dqo gX11_led_0.2.2.2.2.2.2.2.2.2.1
theorem dX11_led_18 : decode (mB 173) 18 = .ok (.invokevirtual 311, 3) := dqo gX11_led_0.2.2.2.2.2.2.2.2.2.2.1
theorem dX11_led_21 : decode (mB 173) 21 = .ok (.ireturn, 1) := dqo gX11_led_0.2.2.2.2.2.2.2.2.2.2.2
theorem gX11_image_0 : dq 174 0 (.aload_n 0) 1 = true ∧ dq 174 1 (.getfield 76) 3 = true ∧ dq 174 4 (.invokevirtual 314) 3 = true ∧ dq 174 7 (.aload_n 0) 1 = true ∧ dq 174 8 (.getfield 76) 3 = true ∧ dq 174 11 (.iconst 0) 1 = true ∧ dq 174 12 (.invokevirtual 311) 3 = true ∧ dq 174 15 (.ireturn) 1 = true := by decide +kernel
theorem dX11_image_0 : decode (mB 174) 0 = .ok (.aload_n 0, 1) := dqo gX11_image_0.1
theorem dX11_image_1 : decode (mB 174) 1 = .ok (.getfield 76, 3) := dqo gX11_image_0.2.1
theorem dX11_image_4 : decode (mB 174) 4 = .ok (.invokevirtual 314, 3) := dqo gX11_image_0.2.2.1
theorem dX11_image_7 : decode (mB 174) 7 = .ok (.aload_n 0, 1) := dqo gX11_image_0.2.2.2.1
theorem dX11_image_8 : decode (mB 174) 8 = .ok (.getfield 76, 3) := dqo gX11_image_0.2.2.2.2.1
theorem dX11_image_11 : decode (mB 174) 11 = .ok (.iconst 0, 1) := dqo gX11_image_0.2.2.2.2.2.1
theorem dX11_image_12 : decode (mB 174) 12 = .ok (.invokevirtual 311, 3) := dqo gX11_image_0.2.2.2.2.2.2.1
theorem dX11_image_15 : decode (mB 174) 15 = .ok (.ireturn, 1) := dqo gX11_image_0.2.2.2.2.2.2.2
theorem gX11_back_0 : dq 175 0 (.aload_n 0) 1 = true ∧ dq 175 1 (.getfield 76) 3 = true ∧ dq 175 4 (.invokevirtual 317) 3 = true ∧ dq 175 7 (.ifCond .ne 6) 3 = true ∧ dq 175 10 (.bipush (-5)) 2 = true ∧ dq 175 12 (.ireturn) 1 = true ∧ dq 175 13 (.aload_n 0) 1 = true ∧ dq 175 14 (.getfield 76) 3 = true ∧ dq 175 17 (.invokevirtual 321) 3 = true ∧ dq 175 20 (.aload_n 0) 1 = true ∧ dq 175 21 (.getfield 76) 3 = true ∧ dq 175 24 (.iconst 0) 1 = true ∧ dq 175 25 (.invokevirtual 311) 3 = true ∧ dq 175 28 (.ireturn) 1 = true := by decide +kernel
theorem dX11_back_0 : decode (mB 175) 0 = .ok (.aload_n 0, 1) := dqo gX11_back_0.1
theorem dX11_back_1 : decode (mB 175) 1 = .ok (.getfield 76, 3) := dqo gX11_back_0.2.1
theorem dX11_back_4 : decode (mB 175) 4 = .ok (.invokevirtual 317, 3) := dqo gX11_back_0.2.2.1
theorem dX11_back_7 : decode (mB 175) 7 = .ok (.ifCond .ne 6, 3) := dqo gX11_back_0.2.2.2.1
theorem dX11_back_10 : decode (mB 175) 10 = .ok (.bipush (-5), 2) := dqo gX11_back_0.2.2.2.2.1
theorem dX11_back_12 : decode (mB 175) 12 = .ok (.ireturn, 1) := dqo gX11_back_0.2.2.2.2.2.1
theorem dX11_back_13 : decode (mB 175) 13 = .ok (.aload_n 0, 1) := dqo gX11_back_0.2.2.2.2.2.2.1
theorem dX11_back_14 : decode (mB 175) 14 = .ok (.getfield 76, 3) := dqo gX11_back_0.2.2.2.2.2.2.2.1
theorem dX11_back_17 : decode (mB 175) 17 = .ok (.invokevirtual 321, 3) := dqo gX11_back_0.2.2.2.2.2.2.2.2.1
theorem dX11_back_20 : decode (mB 175) 20 = .ok (.aload_n 0, 1) := dqo gX11_back_0.2.2.2.2.2.2.2.2.2.1
theorem dX11_back_21 : decode (mB 175) 21 = .ok (.getfield 76, 3) := dqo gX11_back_0.2.2.2.2.2.2.2.2.2.2.1
theorem dX11_back_24 : decode (mB 175) 24 = .ok (.iconst 0, 1) := dqo gX11_back_0.2.2.2.2.2.2.2.2.2.2.2.1
theorem dX11_back_25 : decode (mB 175) 25 = .ok (.invokevirtual 311, 3) := dqo gX11_back_0.2.2.2.2.2.2.2.2.2.2.2.2.1
theorem dX11_back_28 : decode (mB 175) 28 = .ok (.ireturn, 1) := dqo gX11_back_0.2.2.2.2.2.2.2.2.2.2.2.2.2
theorem gX11_undo_0 : dq 176 0 (.aload_n 0) 1 = true ∧ dq 176 1 (.getfield 83) 3 = true ∧ dq 176 4 (.invokevirtual 324) 3 = true ∧ dq 176 7 (.ifCond .ne 6) 3 = true ∧ dq 176 10 (.bipush (-5)) 2 = true ∧ dq 176 12 (.ireturn) 1 = true ∧ dq 176 13 (.aload_n 0) 1 = true ∧ dq 176 14 (.getfield 83) 3 = true ∧ dq 176 17 (.invokevirtual 327) 3 = true ∧ dq 176 20 (.aload_n 0) 1 = true ∧ dq 176 21 (.getfield 83) 3 = true ∧ dq 176 24 (.invokevirtual 324) 3 = true ∧ dq 176 27 (.ireturn) 1 = true := by decide +kernel
theorem dX11_undo_0 : decode (mB 176) 0 = .ok (.aload_n 0, 1) := dqo gX11_undo_0.1
theorem dX11_undo_1 : decode (mB 176) 1 = .ok (.getfield 83, 3) := dqo gX11_undo_0.2.1
theorem dX11_undo_4 : decode (mB 176) 4 = .ok (.invokevirtual 324, 3) := dqo gX11_undo_0.2.2.1
theorem dX11_undo_7 : decode (mB 176) 7 = .ok (.ifCond .ne 6, 3) := dqo gX11_undo_0.2.2.2.1
theorem dX11_undo_10 : decode (mB 176) 10 = .ok (.bipush (-5), 2) := dqo gX11_undo_0.2.2.2.2.1
theorem dX11_undo_12 : decode (mB 176) 12 = .ok (.ireturn, 1) := dqo gX11_undo_0.2.2.2.2.2.1
theorem dX11_undo_13 : decode (mB 176) 13 = .ok (.aload_n 0, 1) := dqo gX11_undo_0.2.2.2.2.2.2.1
theorem dX11_undo_14 : decode (mB 176) 14 = .ok (.getfield 83, 3) := dqo gX11_undo_0.2.2.2.2.2.2.2.1
theorem dX11_undo_17 : decode (mB 176) 17 = .ok (.invokevirtual 327, 3) := dqo gX11_undo_0.2.2.2.2.2.2.2.2.1
theorem dX11_undo_20 : decode (mB 176) 20 = .ok (.aload_n 0, 1) := dqo gX11_undo_0.2.2.2.2.2.2.2.2.2.1
theorem dX11_undo_21 : decode (mB 176) 21 = .ok (.getfield 83, 3) := dqo gX11_undo_0.2.2.2.2.2.2.2.2.2.2.1
theorem dX11_undo_24 : decode (mB 176) 24 = .ok (.invokevirtual 324, 3) := dqo gX11_undo_0.2.2.2.2.2.2.2.2.2.2.2.1
theorem dX11_undo_27 : decode (mB 176) 27 = .ok (.ireturn, 1) := dqo gX11_undo_0.2.2.2.2.2.2.2.2.2.2.2.2
theorem gX11_redo_0 : dq 177 0 (.aload_n 0) 1 = true ∧ dq 177 1 (.getfield 83) 3 = true ∧ dq 177 4 (.invokevirtual 330) 3 = true ∧ dq 177 7 (.ifCond .ne 6) 3 = true ∧ dq 177 10 (.bipush (-5)) 2 = true ∧ dq 177 12 (.ireturn) 1 = true ∧ dq 177 13 (.aload_n 0) 1 = true ∧ dq 177 14 (.getfield 83) 3 = true ∧ dq 177 17 (.invokevirtual 333) 3 = true ∧ dq 177 20 (.aload_n 0) 1 = true ∧ dq 177 21 (.getfield 83) 3 = true ∧ dq 177 24 (.invokevirtual 330) 3 = true ∧ dq 177 27 (.ireturn) 1 = true := by decide +kernel
theorem dX11_redo_0 : decode (mB 177) 0 = .ok (.aload_n 0, 1) := dqo gX11_redo_0.1
theorem dX11_redo_1 : decode (mB 177) 1 = .ok (.getfield 83, 3) := dqo gX11_redo_0.2.1
theorem dX11_redo_4 : decode (mB 177) 4 = .ok (.invokevirtual 330, 3) := dqo gX11_redo_0.2.2.1
theorem dX11_redo_7 : decode (mB 177) 7 = .ok (.ifCond .ne 6, 3) := dqo gX11_redo_0.2.2.2.1
theorem dX11_redo_10 : decode (mB 177) 10 = .ok (.bipush (-5), 2) := dqo gX11_redo_0.2.2.2.2.1
theorem dX11_redo_12 : decode (mB 177) 12 = .ok (.ireturn, 1) := dqo gX11_redo_0.2.2.2.2.2.1
theorem dX11_redo_13 : decode (mB 177) 13 = .ok (.aload_n 0, 1) := dqo gX11_redo_0.2.2.2.2.2.2.1
theorem dX11_redo_14 : decode (mB 177) 14 = .ok (.getfield 83, 3) := dqo gX11_redo_0.2.2.2.2.2.2.2.1
theorem dX11_redo_17 : decode (mB 177) 17 = .ok (.invokevirtual 333, 3) := dqo gX11_redo_0.2.2.2.2.2.2.2.2.1
theorem dX11_redo_20 : decode (mB 177) 20 = .ok (.aload_n 0, 1) := dqo gX11_redo_0.2.2.2.2.2.2.2.2.2.1
theorem dX11_redo_21 : decode (mB 177) 21 = .ok (.getfield 83, 3) := dqo gX11_redo_0.2.2.2.2.2.2.2.2.2.2.1
theorem dX11_redo_24 : decode (mB 177) 24 = .ok (.invokevirtual 330, 3) := dqo gX11_redo_0.2.2.2.2.2.2.2.2.2.2.2.1
theorem dX11_redo_27 : decode (mB 177) 27 = .ok (.ireturn, 1) := dqo gX11_redo_0.2.2.2.2.2.2.2.2.2.2.2.2
theorem gX11_body_0 : dq 178 0 (.iload_n 1) 1 = true ∧ dq 178 1 (.invokestatic 336) 3 = true ∧ dq 178 4 (.ifCond .eq 14) 3 = true ∧ dq 178 7 (.aload_n 0) 1 = true ∧ dq 178 8 (.getfield 90) 3 = true ∧ dq 178 11 (.iload_n 1) 1 = true ∧ dq 178 12 (.invokevirtual 339) 3 = true ∧ dq 178 15 (.goto 4) 3 = true ∧ dq 178 18 (.iconst (-1)) 1 = true ∧ dq 178 19 (.ireturn) 1 = true := by decide +kernel
theorem dX11_body_0 : decode (mB 178) 0 = .ok (.iload_n 1, 1) := dqo gX11_body_0.1
theorem dX11_body_1 : decode (mB 178) 1 = .ok (.invokestatic 336, 3) := dqo gX11_body_0.2.1
theorem dX11_body_4 : decode (mB 178) 4 = .ok (.ifCond .eq 14, 3) := dqo gX11_body_0.2.2.1
theorem dX11_body_7 : decode (mB 178) 7 = .ok (.aload_n 0, 1) := dqo gX11_body_0.2.2.2.1
theorem dX11_body_8 : decode (mB 178) 8 = .ok (.getfield 90, 3) := dqo gX11_body_0.2.2.2.2.1
theorem dX11_body_11 : decode (mB 178) 11 = .ok (.iload_n 1, 1) := dqo gX11_body_0.2.2.2.2.2.1
theorem dX11_body_12 : decode (mB 178) 12 = .ok (.invokevirtual 339, 3) := dqo gX11_body_0.2.2.2.2.2.2.1
theorem dX11_body_15 : decode (mB 178) 15 = .ok (.goto 4, 3) := dqo gX11_body_0.2.2.2.2.2.2.2.1
theorem dX11_body_18 : decode (mB 178) 18 = .ok (.iconst (-1), 1) := dqo gX11_body_0.2.2.2.2.2.2.2.2.1
theorem dX11_body_19 : decode (mB 178) 19 = .ok (.ireturn, 1) := dqo gX11_body_0.2.2.2.2.2.2.2.2.2
theorem gX11_act_0 : dq 179 0 (.aload_n 0) 1 = true ∧ dq 179 1 (.getfield 90) 3 = true ∧ dq 179 4 (.iload_n 1) 1 = true ∧ dq 179 5 (.iload_n 2) 1 = true ∧ dq 179 6 (.iload_n 3) 1 = true ∧ dq 179 7 (.invokevirtual 342) 3 = true ∧ dq 179 10 (.ireturn) 1 = true := by decide +kernel
theorem dX11_act_0 : decode (mB 179) 0 = .ok (.aload_n 0, 1) := dqo gX11_act_0.1
theorem dX11_act_1 : decode (mB 179) 1 = .ok (.getfield 90, 3) := dqo gX11_act_0.2.1
theorem dX11_act_4 : decode (mB 179) 4 = .ok (.iload_n 1, 1) := dqo gX11_act_0.2.2.1
theorem dX11_act_5 : decode (mB 179) 5 = .ok (.iload_n 2, 1) := dqo gX11_act_0.2.2.2.1
theorem dX11_act_6 : decode (mB 179) 6 = .ok (.iload_n 3, 1) := dqo gX11_act_0.2.2.2.2.1
theorem dX11_act_7 : decode (mB 179) 7 = .ok (.invokevirtual 342, 3) := dqo gX11_act_0.2.2.2.2.2.1
theorem dX11_act_10 : decode (mB 179) 10 = .ok (.ireturn, 1) := dqo gX11_act_0.2.2.2.2.2.2
theorem gX11_trace_0 : dq 180 0 (.iload_n 1) 1 = true ∧ dq 180 1 (.ifCond .lt 14) 3 = true ∧ dq 180 4 (.iload_n 1) 1 = true ∧ dq 180 5 (.aload_n 0) 1 = true ∧ dq 180 6 (.getfield 90) 3 = true ∧ dq 180 9 (.invokevirtual 344) 3 = true ∧ dq 180 12 (.if_icmp .lt 7) 3 = true ∧ dq 180 15 (.iconst (-1)) 1 = true ∧ dq 180 16 (.goto 11) 3 = true ∧ dq 180 19 (.aload_n 0) 1 = true ∧ dq 180 20 (.getfield 90) 3 = true ∧ dq 180 23 (.iload_n 1) 1 = true ∧ dq 180 24 (.invokevirtual 347) 3 = true ∧ dq 180 27 (.ireturn) 1 = true := by decide +kernel
theorem dX11_trace_0 : decode (mB 180) 0 = .ok (.iload_n 1, 1) := dqo gX11_trace_0.1
theorem dX11_trace_1 : decode (mB 180) 1 = .ok (.ifCond .lt 14, 3) := dqo gX11_trace_0.2.1
theorem dX11_trace_4 : decode (mB 180) 4 = .ok (.iload_n 1, 1) := dqo gX11_trace_0.2.2.1
theorem dX11_trace_5 : decode (mB 180) 5 = .ok (.aload_n 0, 1) := dqo gX11_trace_0.2.2.2.1
theorem dX11_trace_6 : decode (mB 180) 6 = .ok (.getfield 90, 3) := dqo gX11_trace_0.2.2.2.2.1
theorem dX11_trace_9 : decode (mB 180) 9 = .ok (.invokevirtual 344, 3) := dqo gX11_trace_0.2.2.2.2.2.1
theorem dX11_trace_12 : decode (mB 180) 12 = .ok (.if_icmp .lt 7, 3) := dqo gX11_trace_0.2.2.2.2.2.2.1
theorem dX11_trace_15 : decode (mB 180) 15 = .ok (.iconst (-1), 1) := dqo gX11_trace_0.2.2.2.2.2.2.2.1
theorem dX11_trace_16 : decode (mB 180) 16 = .ok (.goto 11, 3) := dqo gX11_trace_0.2.2.2.2.2.2.2.2.1
theorem dX11_trace_19 : decode (mB 180) 19 = .ok (.aload_n 0, 1) := dqo gX11_trace_0.2.2.2.2.2.2.2.2.2.1
theorem dX11_trace_20 : decode (mB 180) 20 = .ok (.getfield 90, 3) := dqo gX11_trace_0.2.2.2.2.2.2.2.2.2.2.1
theorem dX11_trace_23 : decode (mB 180) 23 = .ok (.iload_n 1, 1) := dqo gX11_trace_0.2.2.2.2.2.2.2.2.2.2.2.1
theorem dX11_trace_24 : decode (mB 180) 24 = .ok (.invokevirtual 347, 3) := dqo gX11_trace_0.2.2.2.2.2.2.2.2.2.2.2.2.1
theorem dX11_trace_27 : decode (mB 180) 27 = .ok (.ireturn, 1) := dqo gX11_trace_0.2.2.2.2.2.2.2.2.2.2.2.2.2
theorem gX11_keep_0 : dq 181 0 (.aload_n 0) 1 = true ∧ dq 181 1 (.getfield 42) 3 = true ∧ dq 181 4 (.iload_n 1) 1 = true ∧ dq 181 5 (.invokevirtual 106) 3 = true ∧ dq 181 8 (.ifCond .eq 19) 3 = true ∧ dq 181 11 (.iload_n 2) 1 = true ∧ dq 181 12 (.iconst (-1)) 1 = true ∧ dq 181 13 (.if_icmp .eq 16) 3 = true ∧ dq 181 16 (.aload_n 0) 1 = true ∧ dq 181 17 (.getfield 90) 3 = true ∧ dq 181 20 (.iload_n 2) 1 = true ∧ dq 181 21 (.invokevirtual 350) 3 = true ∧ dq 181 24 (.ifCond .ne 5) 3 = true ∧ dq 181 27 (.iconst (-1)) 1 = true ∧ dq 181 28 (.ireturn) 1 = true ∧ dq 181 29 (.iload_n 2) 1 = true := by decide +kernel
theorem dX11_keep_0 : decode (mB 181) 0 = .ok (.aload_n 0, 1) := dqo gX11_keep_0.1
theorem dX11_keep_1 : decode (mB 181) 1 = .ok (.getfield 42, 3) := dqo gX11_keep_0.2.1
theorem dX11_keep_4 : decode (mB 181) 4 = .ok (.iload_n 1, 1) := dqo gX11_keep_0.2.2.1
theorem dX11_keep_5 : decode (mB 181) 5 = .ok (.invokevirtual 106, 3) := dqo gX11_keep_0.2.2.2.1
theorem dX11_keep_8 : decode (mB 181) 8 = .ok (.ifCond .eq 19, 3) := dqo gX11_keep_0.2.2.2.2.1
theorem dX11_keep_11 : decode (mB 181) 11 = .ok (.iload_n 2, 1) := dqo gX11_keep_0.2.2.2.2.2.1
theorem dX11_keep_12 : decode (mB 181) 12 = .ok (.iconst (-1), 1) := dqo gX11_keep_0.2.2.2.2.2.2.1
theorem dX11_keep_13 : decode (mB 181) 13 = .ok (.if_icmp .eq 16, 3) := dqo gX11_keep_0.2.2.2.2.2.2.2.1
theorem dX11_keep_16 : decode (mB 181) 16 = .ok (.aload_n 0, 1) := dqo gX11_keep_0.2.2.2.2.2.2.2.2.1
theorem dX11_keep_17 : decode (mB 181) 17 = .ok (.getfield 90, 3) := dqo gX11_keep_0.2.2.2.2.2.2.2.2.2.1
theorem dX11_keep_20 : decode (mB 181) 20 = .ok (.iload_n 2, 1) := dqo gX11_keep_0.2.2.2.2.2.2.2.2.2.2.1
theorem dX11_keep_21 : decode (mB 181) 21 = .ok (.invokevirtual 350, 3) := dqo gX11_keep_0.2.2.2.2.2.2.2.2.2.2.2.1
theorem dX11_keep_24 : decode (mB 181) 24 = .ok (.ifCond .ne 5, 3) := dqo gX11_keep_0.2.2.2.2.2.2.2.2.2.2.2.2.1
theorem dX11_keep_27 : decode (mB 181) 27 = .ok (.iconst (-1), 1) := dqo gX11_keep_0.2.2.2.2.2.2.2.2.2.2.2.2.2.1
theorem dX11_keep_28 : decode (mB 181) 28 = .ok (.ireturn, 1) := dqo gX11_keep_0.2.2.2.2.2.2.2.2.2.2.2.2.2.2.1
theorem dX11_keep_29 : decode (mB 181) 29 = .ok (.iload_n 2, 1) := dqo gX11_keep_0.2.2.2.2.2.2.2.2.2.2.2.2.2.2.2
theorem gX11_keep_30 : dq 181 30 (.iconst (-1)) 1 = true ∧ dq 181 31 (.if_icmp .ne 14) 3 = true ∧ dq 181 34 (.aload_n 0) 1 = true ∧ dq 181 35 (.getfield 42) 3 = true ∧ dq 181 38 (.iload_n 1) 1 = true ∧ dq 181 39 (.invokevirtual 353) 3 = true ∧ dq 181 42 (.goto 12) 3 = true ∧ dq 181 45 (.aload_n 0) 1 = true ∧ dq 181 46 (.getfield 42) 3 = true ∧ dq 181 49 (.iload_n 1) 1 = true ∧ dq 181 50 (.iload_n 2) 1 = true ∧ dq 181 51 (.invokevirtual 356) 3 = true ∧ dq 181 54 (.iconst 1) 1 = true ∧ dq 181 55 (.ireturn) 1 = true := by decide +kernel
theorem dX11_keep_30 : decode (mB 181) 30 = .ok (.iconst (-1), 1) := dqo gX11_keep_30.1
theorem dX11_keep_31 : decode (mB 181) 31 = .ok (.if_icmp .ne 14, 3) := dqo gX11_keep_30.2.1
theorem dX11_keep_34 : decode (mB 181) 34 = .ok (.aload_n 0, 1) := dqo gX11_keep_30.2.2.1
theorem dX11_keep_35 : decode (mB 181) 35 = .ok (.getfield 42, 3) := dqo gX11_keep_30.2.2.2.1
theorem dX11_keep_38 : decode (mB 181) 38 = .ok (.iload_n 1, 1) := dqo gX11_keep_30.2.2.2.2.1
theorem dX11_keep_39 : decode (mB 181) 39 = .ok (.invokevirtual 353, 3) := dqo gX11_keep_30.2.2.2.2.2.1
theorem dX11_keep_42 : decode (mB 181) 42 = .ok (.goto 12, 3) := dqo gX11_keep_30.2.2.2.2.2.2.1
theorem dX11_keep_45 : decode (mB 181) 45 = .ok (.aload_n 0, 1) := dqo gX11_keep_30.2.2.2.2.2.2.2.1
theorem dX11_keep_46 : decode (mB 181) 46 = .ok (.getfield 42, 3) := dqo gX11_keep_30.2.2.2.2.2.2.2.2.1
theorem dX11_keep_49 : decode (mB 181) 49 = .ok (.iload_n 1, 1) := dqo gX11_keep_30.2.2.2.2.2.2.2.2.2.1
theorem dX11_keep_50 : decode (mB 181) 50 = .ok (.iload_n 2, 1) := dqo gX11_keep_30.2.2.2.2.2.2.2.2.2.2.1
theorem dX11_keep_51 : decode (mB 181) 51 = .ok (.invokevirtual 356, 3) := dqo gX11_keep_30.2.2.2.2.2.2.2.2.2.2.2.1
theorem dX11_keep_54 : decode (mB 181) 54 = .ok (.iconst 1, 1) := dqo gX11_keep_30.2.2.2.2.2.2.2.2.2.2.2.2.1
theorem dX11_keep_55 : decode (mB 181) 55 = .ok (.ireturn, 1) := dqo gX11_keep_30.2.2.2.2.2.2.2.2.2.2.2.2.2
theorem gX11_row_0 : dq 182 0 (.aload_n 0) 1 = true ∧ dq 182 1 (.getfield 42) 3 = true ∧ dq 182 4 (.iload_n 1) 1 = true ∧ dq 182 5 (.invokevirtual 106) 3 = true ∧ dq 182 8 (.ifCond .eq 16) 3 = true ∧ dq 182 11 (.iload_n 2) 1 = true ∧ dq 182 12 (.invokestatic 359) 3 = true ∧ dq 182 15 (.ifCond .eq 9) 3 = true ∧ dq 182 18 (.iload_n 3) 1 = true ∧ dq 182 19 (.bipush 60) 2 = true ∧ dq 182 21 (.if_icmp .le 5) 3 = true ∧ dq 182 24 (.iconst (-1)) 1 = true ∧ dq 182 25 (.ireturn) 1 = true ∧ dq 182 26 (.iload_n 3) 1 = true ∧ dq 182 27 (.ifCond .ge 6) 3 = true ∧ dq 182 30 (.bipush (-14)) 2 = true := by decide +kernel
theorem dX11_row_0 : decode (mB 182) 0 = .ok (.aload_n 0, 1) := dqo gX11_row_0.1
theorem dX11_row_1 : decode (mB 182) 1 = .ok (.getfield 42, 3) := dqo gX11_row_0.2.1
theorem dX11_row_4 : decode (mB 182) 4 = .ok (.iload_n 1, 1) := dqo gX11_row_0.2.2.1
theorem dX11_row_5 : decode (mB 182) 5 = .ok (.invokevirtual 106, 3) := dqo gX11_row_0.2.2.2.1
theorem dX11_row_8 : decode (mB 182) 8 = .ok (.ifCond .eq 16, 3) := dqo gX11_row_0.2.2.2.2.1
theorem dX11_row_11 : decode (mB 182) 11 = .ok (.iload_n 2, 1) := dqo gX11_row_0.2.2.2.2.2.1
theorem dX11_row_12 : decode (mB 182) 12 = .ok (.invokestatic 359, 3) := dqo gX11_row_0.2.2.2.2.2.2.1
theorem dX11_row_15 : decode (mB 182) 15 = .ok (.ifCond .eq 9, 3) := dqo gX11_row_0.2.2.2.2.2.2.2.1
theorem dX11_row_18 : decode (mB 182) 18 = .ok (.iload_n 3, 1) := dqo gX11_row_0.2.2.2.2.2.2.2.2.1
theorem dX11_row_19 : decode (mB 182) 19 = .ok (.bipush 60, 2) := dqo gX11_row_0.2.2.2.2.2.2.2.2.2.1
theorem dX11_row_21 : decode (mB 182) 21 = .ok (.if_icmp .le 5, 3) := dqo gX11_row_0.2.2.2.2.2.2.2.2.2.2.1
theorem dX11_row_24 : decode (mB 182) 24 = .ok (.iconst (-1), 1) := dqo gX11_row_0.2.2.2.2.2.2.2.2.2.2.2.1
theorem dX11_row_25 : decode (mB 182) 25 = .ok (.ireturn, 1) := dqo gX11_row_0.2.2.2.2.2.2.2.2.2.2.2.2.1
theorem dX11_row_26 : decode (mB 182) 26 = .ok (.iload_n 3, 1) := dqo gX11_row_0.2.2.2.2.2.2.2.2.2.2.2.2.2.1
theorem dX11_row_27 : decode (mB 182) 27 = .ok (.ifCond .ge 6, 3) := dqo gX11_row_0.2.2.2.2.2.2.2.2.2.2.2.2.2.2.1
theorem dX11_row_30 : decode (mB 182) 30 = .ok (.bipush (-14), 2) := dqo gX11_row_0.2.2.2.2.2.2.2.2.2.2.2.2.2.2.2
theorem gX11_row_32 : dq 182 32 (.ireturn) 1 = true ∧ dq 182 33 (.aload_n 0) 1 = true ∧ dq 182 34 (.getfield 42) 3 = true ∧ dq 182 37 (.iload_n 1) 1 = true ∧ dq 182 38 (.iload_n 2) 1 = true ∧ dq 182 39 (.iload_n 3) 1 = true ∧ dq 182 40 (.invokevirtual 362) 3 = true ∧ dq 182 43 (.iconst 1) 1 = true ∧ dq 182 44 (.ireturn) 1 = true := by decide +kernel
theorem dX11_row_32 : decode (mB 182) 32 = .ok (.ireturn, 1) := dqo gX11_row_32.1
theorem dX11_row_33 : decode (mB 182) 33 = .ok (.aload_n 0, 1) := dqo gX11_row_32.2.1
theorem dX11_row_34 : decode (mB 182) 34 = .ok (.getfield 42, 3) := dqo gX11_row_32.2.2.1
theorem dX11_row_37 : decode (mB 182) 37 = .ok (.iload_n 1, 1) := dqo gX11_row_32.2.2.2.1
theorem dX11_row_38 : decode (mB 182) 38 = .ok (.iload_n 2, 1) := dqo gX11_row_32.2.2.2.2.1
theorem dX11_row_39 : decode (mB 182) 39 = .ok (.iload_n 3, 1) := dqo gX11_row_32.2.2.2.2.2.1
theorem dX11_row_40 : decode (mB 182) 40 = .ok (.invokevirtual 362, 3) := dqo gX11_row_32.2.2.2.2.2.2.1
theorem dX11_row_43 : decode (mB 182) 43 = .ok (.iconst 1, 1) := dqo gX11_row_32.2.2.2.2.2.2.2.1
theorem dX11_row_44 : decode (mB 182) 44 = .ok (.ireturn, 1) := dqo gX11_row_32.2.2.2.2.2.2.2.2
theorem gX11_put_0 : dq 183 0 (.aload_n 0) 1 = true ∧ dq 183 1 (.getfield 42) 3 = true ∧ dq 183 4 (.iload_n 1) 1 = true ∧ dq 183 5 (.iload_n 2) 1 = true ∧ dq 183 6 (.invokevirtual 365) 3 = true ∧ dq 183 9 (.istore 5) 2 = true ∧ dq 183 11 (.iload 5) 2 = true ∧ dq 183 13 (.ifCond .eq 6) 3 = true ∧ dq 183 16 (.iload 5) 2 = true ∧ dq 183 18 (.ireturn) 1 = true ∧ dq 183 19 (.aload_n 0) 1 = true ∧ dq 183 20 (.getfield 42) 3 = true ∧ dq 183 23 (.iload_n 1) 1 = true ∧ dq 183 24 (.iload_n 2) 1 = true ∧ dq 183 25 (.lload_n 3) 1 = true ∧ dq 183 26 (.invokevirtual 368) 3 = true := by decide +kernel
theorem dX11_put_0 : decode (mB 183) 0 = .ok (.aload_n 0, 1) := dqo gX11_put_0.1
theorem dX11_put_1 : decode (mB 183) 1 = .ok (.getfield 42, 3) := dqo gX11_put_0.2.1
theorem dX11_put_4 : decode (mB 183) 4 = .ok (.iload_n 1, 1) := dqo gX11_put_0.2.2.1
theorem dX11_put_5 : decode (mB 183) 5 = .ok (.iload_n 2, 1) := dqo gX11_put_0.2.2.2.1
theorem dX11_put_6 : decode (mB 183) 6 = .ok (.invokevirtual 365, 3) := dqo gX11_put_0.2.2.2.2.1
theorem dX11_put_9 : decode (mB 183) 9 = .ok (.istore 5, 2) := dqo gX11_put_0.2.2.2.2.2.1
theorem dX11_put_11 : decode (mB 183) 11 = .ok (.iload 5, 2) := dqo gX11_put_0.2.2.2.2.2.2.1
theorem dX11_put_13 : decode (mB 183) 13 = .ok (.ifCond .eq 6, 3) := dqo gX11_put_0.2.2.2.2.2.2.2.1
theorem dX11_put_16 : decode (mB 183) 16 = .ok (.iload 5, 2) := dqo gX11_put_0.2.2.2.2.2.2.2.2.1
theorem dX11_put_18 : decode (mB 183) 18 = .ok (.ireturn, 1) := dqo gX11_put_0.2.2.2.2.2.2.2.2.2.1
theorem dX11_put_19 : decode (mB 183) 19 = .ok (.aload_n 0, 1) := dqo gX11_put_0.2.2.2.2.2.2.2.2.2.2.1
theorem dX11_put_20 : decode (mB 183) 20 = .ok (.getfield 42, 3) := dqo gX11_put_0.2.2.2.2.2.2.2.2.2.2.2.1
theorem dX11_put_23 : decode (mB 183) 23 = .ok (.iload_n 1, 1) := dqo gX11_put_0.2.2.2.2.2.2.2.2.2.2.2.2.1
theorem dX11_put_24 : decode (mB 183) 24 = .ok (.iload_n 2, 1) := dqo gX11_put_0.2.2.2.2.2.2.2.2.2.2.2.2.2.1
theorem dX11_put_25 : decode (mB 183) 25 = .ok (.lload_n 3, 1) := dqo gX11_put_0.2.2.2.2.2.2.2.2.2.2.2.2.2.2.1
theorem dX11_put_26 : decode (mB 183) 26 = .ok (.invokevirtual 368, 3) := dqo gX11_put_0.2.2.2.2.2.2.2.2.2.2.2.2.2.2.2
theorem gX11_put_29 : dq 183 29 (.iconst 1) 1 = true ∧ dq 183 30 (.ireturn) 1 = true := by decide +kernel
theorem dX11_put_29 : decode (mB 183) 29 = .ok (.iconst 1, 1) := dqo gX11_put_29.1
theorem dX11_put_30 : decode (mB 183) 30 = .ok (.ireturn, 1) := dqo gX11_put_29.2
theorem gX11_element_0 : dq 184 0 (.aload_n 0) 1 = true ∧ dq 184 1 (.getfield 42) 3 = true ∧ dq 184 4 (.iload_n 1) 1 = true ∧ dq 184 5 (.iload_n 2) 1 = true ∧ dq 184 6 (.invokevirtual 365) 3 = true ∧ dq 184 9 (.ifCond .eq 9) 3 = true ∧ dq 184 12 (.ldc2_w 204) 3 = true ∧ dq 184 15 (.goto 12) 3 = true ∧ dq 184 18 (.aload_n 0) 1 = true ∧ dq 184 19 (.getfield 42) 3 = true ∧ dq 184 22 (.iload_n 1) 1 = true ∧ dq 184 23 (.iload_n 2) 1 = true ∧ dq 184 24 (.invokevirtual 122) 3 = true ∧ dq 184 27 (.lreturn) 1 = true := by decide +kernel
theorem dX11_element_0 : decode (mB 184) 0 = .ok (.aload_n 0, 1) := dqo gX11_element_0.1
theorem dX11_element_1 : decode (mB 184) 1 = .ok (.getfield 42, 3) := dqo gX11_element_0.2.1
theorem dX11_element_4 : decode (mB 184) 4 = .ok (.iload_n 1, 1) := dqo gX11_element_0.2.2.1
theorem dX11_element_5 : decode (mB 184) 5 = .ok (.iload_n 2, 1) := dqo gX11_element_0.2.2.2.1
theorem dX11_element_6 : decode (mB 184) 6 = .ok (.invokevirtual 365, 3) := dqo gX11_element_0.2.2.2.2.1
theorem dX11_element_9 : decode (mB 184) 9 = .ok (.ifCond .eq 9, 3) := dqo gX11_element_0.2.2.2.2.2.1
theorem dX11_element_12 : decode (mB 184) 12 = .ok (.ldc2_w 204, 3) := dqo gX11_element_0.2.2.2.2.2.2.1
theorem dX11_element_15 : decode (mB 184) 15 = .ok (.goto 12, 3) := dqo gX11_element_0.2.2.2.2.2.2.2.1
theorem dX11_element_18 : decode (mB 184) 18 = .ok (.aload_n 0, 1) := dqo gX11_element_0.2.2.2.2.2.2.2.2.1
theorem dX11_element_19 : decode (mB 184) 19 = .ok (.getfield 42, 3) := dqo gX11_element_0.2.2.2.2.2.2.2.2.2.1
theorem dX11_element_22 : decode (mB 184) 22 = .ok (.iload_n 1, 1) := dqo gX11_element_0.2.2.2.2.2.2.2.2.2.2.1
theorem dX11_element_23 : decode (mB 184) 23 = .ok (.iload_n 2, 1) := dqo gX11_element_0.2.2.2.2.2.2.2.2.2.2.2.1
theorem dX11_element_24 : decode (mB 184) 24 = .ok (.invokevirtual 122, 3) := dqo gX11_element_0.2.2.2.2.2.2.2.2.2.2.2.2.1
theorem dX11_element_27 : decode (mB 184) 27 = .ok (.lreturn, 1) := dqo gX11_element_0.2.2.2.2.2.2.2.2.2.2.2.2.2
theorem gX11_shift_0 : dq 185 0 (.aload_n 0) 1 = true ∧ dq 185 1 (.getfield 42) 3 = true ∧ dq 185 4 (.iload_n 1) 1 = true ∧ dq 185 5 (.iload_n 3) 1 = true ∧ dq 185 6 (.invokevirtual 371) 3 = true ∧ dq 185 9 (.istore 6) 2 = true ∧ dq 185 11 (.iload 6) 2 = true ∧ dq 185 13 (.ifCond .eq 6) 3 = true ∧ dq 185 16 (.iload 6) 2 = true ∧ dq 185 18 (.ireturn) 1 = true ∧ dq 185 19 (.iload 5) 2 = true ∧ dq 185 21 (.ifCond .lt 32) 3 = true ∧ dq 185 24 (.aload_n 0) 1 = true ∧ dq 185 25 (.getfield 42) 3 = true ∧ dq 185 28 (.iload_n 1) 1 = true ∧ dq 185 29 (.iload_n 2) 1 = true := by decide +kernel
theorem dX11_shift_0 : decode (mB 185) 0 = .ok (.aload_n 0, 1) := dqo gX11_shift_0.1
theorem dX11_shift_1 : decode (mB 185) 1 = .ok (.getfield 42, 3) := dqo gX11_shift_0.2.1
theorem dX11_shift_4 : decode (mB 185) 4 = .ok (.iload_n 1, 1) := dqo gX11_shift_0.2.2.1
theorem dX11_shift_5 : decode (mB 185) 5 = .ok (.iload_n 3, 1) := dqo gX11_shift_0.2.2.2.1
theorem dX11_shift_6 : decode (mB 185) 6 = .ok (.invokevirtual 371, 3) := dqo gX11_shift_0.2.2.2.2.1
theorem dX11_shift_9 : decode (mB 185) 9 = .ok (.istore 6, 2) := dqo gX11_shift_0.2.2.2.2.2.1
theorem dX11_shift_11 : decode (mB 185) 11 = .ok (.iload 6, 2) := dqo gX11_shift_0.2.2.2.2.2.2.1
theorem dX11_shift_13 : decode (mB 185) 13 = .ok (.ifCond .eq 6, 3) := dqo gX11_shift_0.2.2.2.2.2.2.2.1
theorem dX11_shift_16 : decode (mB 185) 16 = .ok (.iload 6, 2) := dqo gX11_shift_0.2.2.2.2.2.2.2.2.1
theorem dX11_shift_18 : decode (mB 185) 18 = .ok (.ireturn, 1) := dqo gX11_shift_0.2.2.2.2.2.2.2.2.2.1
theorem dX11_shift_19 : decode (mB 185) 19 = .ok (.iload 5, 2) := dqo gX11_shift_0.2.2.2.2.2.2.2.2.2.2.1
theorem dX11_shift_21 : decode (mB 185) 21 = .ok (.ifCond .lt 32, 3) := dqo gX11_shift_0.2.2.2.2.2.2.2.2.2.2.2.1
theorem dX11_shift_24 : decode (mB 185) 24 = .ok (.aload_n 0, 1) := dqo gX11_shift_0.2.2.2.2.2.2.2.2.2.2.2.2.1
theorem dX11_shift_25 : decode (mB 185) 25 = .ok (.getfield 42, 3) := dqo gX11_shift_0.2.2.2.2.2.2.2.2.2.2.2.2.2.1
theorem dX11_shift_28 : decode (mB 185) 28 = .ok (.iload_n 1, 1) := dqo gX11_shift_0.2.2.2.2.2.2.2.2.2.2.2.2.2.2.1
theorem dX11_shift_29 : decode (mB 185) 29 = .ok (.iload_n 2, 1) := dqo gX11_shift_0.2.2.2.2.2.2.2.2.2.2.2.2.2.2.2
theorem gX11_shift_30 : dq 185 30 (.iload 5) 2 = true ∧ dq 185 32 (.invokevirtual 374) 3 = true ∧ dq 185 35 (.ifCond .eq 18) 3 = true ∧ dq 185 38 (.aload_n 0) 1 = true ∧ dq 185 39 (.getfield 42) 3 = true ∧ dq 185 42 (.iload_n 3) 1 = true ∧ dq 185 43 (.iload 4) 2 = true ∧ dq 185 45 (.iload 5) 2 = true ∧ dq 185 47 (.invokevirtual 374) 3 = true ∧ dq 185 50 (.ifCond .ne 6) 3 = true ∧ dq 185 53 (.bipush (-13)) 2 = true ∧ dq 185 55 (.ireturn) 1 = true ∧ dq 185 56 (.aload_n 0) 1 = true ∧ dq 185 57 (.getfield 42) 3 = true ∧ dq 185 60 (.iload_n 1) 1 = true ∧ dq 185 61 (.iload_n 2) 1 = true := by decide +kernel
theorem dX11_shift_30 : decode (mB 185) 30 = .ok (.iload 5, 2) := dqo gX11_shift_30.1
theorem dX11_shift_32 : decode (mB 185) 32 = .ok (.invokevirtual 374, 3) := dqo gX11_shift_30.2.1
theorem dX11_shift_35 : decode (mB 185) 35 = .ok (.ifCond .eq 18, 3) := dqo gX11_shift_30.2.2.1
theorem dX11_shift_38 : decode (mB 185) 38 = .ok (.aload_n 0, 1) := dqo gX11_shift_30.2.2.2.1
theorem dX11_shift_39 : decode (mB 185) 39 = .ok (.getfield 42, 3) := dqo gX11_shift_30.2.2.2.2.1
theorem dX11_shift_42 : decode (mB 185) 42 = .ok (.iload_n 3, 1) := dqo gX11_shift_30.2.2.2.2.2.1
theorem dX11_shift_43 : decode (mB 185) 43 = .ok (.iload 4, 2) := dqo gX11_shift_30.2.2.2.2.2.2.1
theorem dX11_shift_45 : decode (mB 185) 45 = .ok (.iload 5, 2) := dqo gX11_shift_30.2.2.2.2.2.2.2.1
theorem dX11_shift_47 : decode (mB 185) 47 = .ok (.invokevirtual 374, 3) := dqo gX11_shift_30.2.2.2.2.2.2.2.2.1
theorem dX11_shift_50 : decode (mB 185) 50 = .ok (.ifCond .ne 6, 3) := dqo gX11_shift_30.2.2.2.2.2.2.2.2.2.1
theorem dX11_shift_53 : decode (mB 185) 53 = .ok (.bipush (-13), 2) := dqo gX11_shift_30.2.2.2.2.2.2.2.2.2.2.1
theorem dX11_shift_55 : decode (mB 185) 55 = .ok (.ireturn, 1) := dqo gX11_shift_30.2.2.2.2.2.2.2.2.2.2.2.1
theorem dX11_shift_56 : decode (mB 185) 56 = .ok (.aload_n 0, 1) := dqo gX11_shift_30.2.2.2.2.2.2.2.2.2.2.2.2.1
theorem dX11_shift_57 : decode (mB 185) 57 = .ok (.getfield 42, 3) := dqo gX11_shift_30.2.2.2.2.2.2.2.2.2.2.2.2.2.1
theorem dX11_shift_60 : decode (mB 185) 60 = .ok (.iload_n 1, 1) := dqo gX11_shift_30.2.2.2.2.2.2.2.2.2.2.2.2.2.2.1
theorem dX11_shift_61 : decode (mB 185) 61 = .ok (.iload_n 2, 1) := dqo gX11_shift_30.2.2.2.2.2.2.2.2.2.2.2.2.2.2.2
theorem gX11_shift_62 : dq 185 62 (.iload_n 3) 1 = true ∧ dq 185 63 (.iload 4) 2 = true ∧ dq 185 65 (.iload 5) 2 = true ∧ dq 185 67 (.invokevirtual 377) 3 = true ∧ dq 185 70 (.iload 5) 2 = true ∧ dq 185 72 (.ireturn) 1 = true := by decide +kernel
theorem dX11_shift_62 : decode (mB 185) 62 = .ok (.iload_n 3, 1) := dqo gX11_shift_62.1
theorem dX11_shift_63 : decode (mB 185) 63 = .ok (.iload 4, 2) := dqo gX11_shift_62.2.1
theorem dX11_shift_65 : decode (mB 185) 65 = .ok (.iload 5, 2) := dqo gX11_shift_62.2.2.1
theorem dX11_shift_67 : decode (mB 185) 67 = .ok (.invokevirtual 377, 3) := dqo gX11_shift_62.2.2.2.1
theorem dX11_shift_70 : decode (mB 185) 70 = .ok (.iload 5, 2) := dqo gX11_shift_62.2.2.2.2.1
theorem dX11_shift_72 : decode (mB 185) 72 = .ok (.ireturn, 1) := dqo gX11_shift_62.2.2.2.2.2
theorem gX11_taken_0 : dq 186 0 (.aload_n 0) 1 = true ∧ dq 186 1 (.getfield 42) 3 = true ∧ dq 186 4 (.iload_n 1) 1 = true ∧ dq 186 5 (.invokevirtual 106) 3 = true ∧ dq 186 8 (.ifCond .eq 10) 3 = true ∧ dq 186 11 (.iload_n 2) 1 = true ∧ dq 186 12 (.invokestatic 336) 3 = true ∧ dq 186 15 (.ifCond .ne 5) 3 = true ∧ dq 186 18 (.iconst (-1)) 1 = true ∧ dq 186 19 (.ireturn) 1 = true ∧ dq 186 20 (.aload_n 0) 1 = true ∧ dq 186 21 (.getfield 42) 3 = true ∧ dq 186 24 (.iload_n 1) 1 = true ∧ dq 186 25 (.invokevirtual 273) 3 = true ∧ dq 186 28 (.ifCond .eq 6) 3 = true ∧ dq 186 31 (.bipush (-11)) 2 = true := by decide +kernel
theorem dX11_taken_0 : decode (mB 186) 0 = .ok (.aload_n 0, 1) := dqo gX11_taken_0.1
theorem dX11_taken_1 : decode (mB 186) 1 = .ok (.getfield 42, 3) := dqo gX11_taken_0.2.1
theorem dX11_taken_4 : decode (mB 186) 4 = .ok (.iload_n 1, 1) := dqo gX11_taken_0.2.2.1
theorem dX11_taken_5 : decode (mB 186) 5 = .ok (.invokevirtual 106, 3) := dqo gX11_taken_0.2.2.2.1
theorem dX11_taken_8 : decode (mB 186) 8 = .ok (.ifCond .eq 10, 3) := dqo gX11_taken_0.2.2.2.2.1
theorem dX11_taken_11 : decode (mB 186) 11 = .ok (.iload_n 2, 1) := dqo gX11_taken_0.2.2.2.2.2.1
theorem dX11_taken_12 : decode (mB 186) 12 = .ok (.invokestatic 336, 3) := dqo gX11_taken_0.2.2.2.2.2.2.1
theorem dX11_taken_15 : decode (mB 186) 15 = .ok (.ifCond .ne 5, 3) := dqo gX11_taken_0.2.2.2.2.2.2.2.1
theorem dX11_taken_18 : decode (mB 186) 18 = .ok (.iconst (-1), 1) := dqo gX11_taken_0.2.2.2.2.2.2.2.2.1
theorem dX11_taken_19 : decode (mB 186) 19 = .ok (.ireturn, 1) := dqo gX11_taken_0.2.2.2.2.2.2.2.2.2.1
theorem dX11_taken_20 : decode (mB 186) 20 = .ok (.aload_n 0, 1) := dqo gX11_taken_0.2.2.2.2.2.2.2.2.2.2.1
theorem dX11_taken_21 : decode (mB 186) 21 = .ok (.getfield 42, 3) := dqo gX11_taken_0.2.2.2.2.2.2.2.2.2.2.2.1
theorem dX11_taken_24 : decode (mB 186) 24 = .ok (.iload_n 1, 1) := dqo gX11_taken_0.2.2.2.2.2.2.2.2.2.2.2.2.1
theorem dX11_taken_25 : decode (mB 186) 25 = .ok (.invokevirtual 273, 3) := dqo gX11_taken_0.2.2.2.2.2.2.2.2.2.2.2.2.2.1
theorem dX11_taken_28 : decode (mB 186) 28 = .ok (.ifCond .eq 6, 3) := dqo gX11_taken_0.2.2.2.2.2.2.2.2.2.2.2.2.2.2.1
theorem dX11_taken_31 : decode (mB 186) 31 = .ok (.bipush (-11), 2) := dqo gX11_taken_0.2.2.2.2.2.2.2.2.2.2.2.2.2.2.2
theorem gX11_taken_33 : dq 186 33 (.ireturn) 1 = true ∧ dq 186 34 (.aload_n 0) 1 = true ∧ dq 186 35 (.getfield 42) 3 = true ∧ dq 186 38 (.iload_n 1) 1 = true ∧ dq 186 39 (.invokevirtual 381) 3 = true ∧ dq 186 42 (.ifCond .eq 7) 3 = true ∧ dq 186 45 (.iconst (-1)) 1 = true ∧ dq 186 46 (.goto 18) 3 = true ∧ dq 186 49 (.aload_n 0) 1 = true ∧ dq 186 50 (.getfield 90) 3 = true ∧ dq 186 53 (.aload_n 0) 1 = true ∧ dq 186 54 (.getfield 42) 3 = true ∧ dq 186 57 (.iload_n 1) 1 = true ∧ dq 186 58 (.invokevirtual 384) 3 = true ∧ dq 186 61 (.invokevirtual 387) 3 = true ∧ dq 186 64 (.istore_n 3) 1 = true := by decide +kernel
theorem dX11_taken_33 : decode (mB 186) 33 = .ok (.ireturn, 1) := dqo gX11_taken_33.1
theorem dX11_taken_34 : decode (mB 186) 34 = .ok (.aload_n 0, 1) := dqo gX11_taken_33.2.1
theorem dX11_taken_35 : decode (mB 186) 35 = .ok (.getfield 42, 3) := dqo gX11_taken_33.2.2.1
theorem dX11_taken_38 : decode (mB 186) 38 = .ok (.iload_n 1, 1) := dqo gX11_taken_33.2.2.2.1
theorem dX11_taken_39 : decode (mB 186) 39 = .ok (.invokevirtual 381, 3) := dqo gX11_taken_33.2.2.2.2.1
theorem dX11_taken_42 : decode (mB 186) 42 = .ok (.ifCond .eq 7, 3) := dqo gX11_taken_33.2.2.2.2.2.1
theorem dX11_taken_45 : decode (mB 186) 45 = .ok (.iconst (-1), 1) := dqo gX11_taken_33.2.2.2.2.2.2.1
theorem dX11_taken_46 : decode (mB 186) 46 = .ok (.goto 18, 3) := dqo gX11_taken_33.2.2.2.2.2.2.2.1
theorem dX11_taken_49 : decode (mB 186) 49 = .ok (.aload_n 0, 1) := dqo gX11_taken_33.2.2.2.2.2.2.2.2.1
theorem dX11_taken_50 : decode (mB 186) 50 = .ok (.getfield 90, 3) := dqo gX11_taken_33.2.2.2.2.2.2.2.2.2.1
theorem dX11_taken_53 : decode (mB 186) 53 = .ok (.aload_n 0, 1) := dqo gX11_taken_33.2.2.2.2.2.2.2.2.2.2.1
theorem dX11_taken_54 : decode (mB 186) 54 = .ok (.getfield 42, 3) := dqo gX11_taken_33.2.2.2.2.2.2.2.2.2.2.2.1
theorem dX11_taken_57 : decode (mB 186) 57 = .ok (.iload_n 1, 1) := dqo gX11_taken_33.2.2.2.2.2.2.2.2.2.2.2.2.1
theorem dX11_taken_58 : decode (mB 186) 58 = .ok (.invokevirtual 384, 3) := dqo gX11_taken_33.2.2.2.2.2.2.2.2.2.2.2.2.2.1
theorem dX11_taken_61 : decode (mB 186) 61 = .ok (.invokevirtual 387, 3) := dqo gX11_taken_33.2.2.2.2.2.2.2.2.2.2.2.2.2.2.1
theorem dX11_taken_64 : decode (mB 186) 64 = .ok (.istore_n 3, 1) := dqo gX11_taken_33.2.2.2.2.2.2.2.2.2.2.2.2.2.2.2
theorem gX11_taken_65 : dq 186 65 (.iload_n 3) 1 = true ∧ dq 186 66 (.iload_n 2) 1 = true ∧ dq 186 67 (.invokestatic 390) 3 = true ∧ dq 186 70 (.ifCond .eq 7) 3 = true ∧ dq 186 73 (.iload_n 3) 1 = true ∧ dq 186 74 (.goto 5) 3 = true ∧ dq 186 77 (.bipush (-12)) 2 = true ∧ dq 186 79 (.ireturn) 1 = true := by decide +kernel
theorem dX11_taken_65 : decode (mB 186) 65 = .ok (.iload_n 3, 1) := dqo gX11_taken_65.1
theorem dX11_taken_66 : decode (mB 186) 66 = .ok (.iload_n 2, 1) := dqo gX11_taken_65.2.1
theorem dX11_taken_67 : decode (mB 186) 67 = .ok (.invokestatic 390, 3) := dqo gX11_taken_65.2.2.1
theorem dX11_taken_70 : decode (mB 186) 70 = .ok (.ifCond .eq 7, 3) := dqo gX11_taken_65.2.2.2.1
theorem dX11_taken_73 : decode (mB 186) 73 = .ok (.iload_n 3, 1) := dqo gX11_taken_65.2.2.2.2.1
theorem dX11_taken_74 : decode (mB 186) 74 = .ok (.goto 5, 3) := dqo gX11_taken_65.2.2.2.2.2.1
theorem dX11_taken_77 : decode (mB 186) 77 = .ok (.bipush (-12), 2) := dqo gX11_taken_65.2.2.2.2.2.2.1
theorem dX11_taken_79 : decode (mB 186) 79 = .ok (.ireturn, 1) := dqo gX11_taken_65.2.2.2.2.2.2.2
theorem gX11_count_0 : dq 187 0 (.iload_n 1) 1 = true ∧ dq 187 1 (.tableswitch 87 0 5 #[39, 47, 55, 63, 71, 79]) 39 = true ∧ dq 187 40 (.aload_n 0) 1 = true ∧ dq 187 41 (.getfield 10) 3 = true ∧ dq 187 44 (.invokevirtual 226) 3 = true ∧ dq 187 47 (.ireturn) 1 = true ∧ dq 187 48 (.aload_n 0) 1 = true ∧ dq 187 49 (.getfield 10) 3 = true ∧ dq 187 52 (.invokevirtual 229) 3 = true ∧ dq 187 55 (.ireturn) 1 = true ∧ dq 187 56 (.aload_n 0) 1 = true ∧ dq 187 57 (.getfield 26) 3 = true ∧ dq 187 60 (.invokevirtual 393) 3 = true ∧ dq 187 63 (.ireturn) 1 = true ∧ dq 187 64 (.aload_n 0) 1 = true ∧ dq 187 65 (.getfield 83) 3 = true := by decide +kernel
theorem dX11_count_0 : decode (mB 187) 0 = .ok (.iload_n 1, 1) := dqo gX11_count_0.1
theorem dX11_count_1 : decode (mB 187) 1 = .ok (.tableswitch 87 0 5 #[39, 47, 55, 63, 71, 79], 39) := dqo gX11_count_0.2.1
theorem dX11_count_40 : decode (mB 187) 40 = .ok (.aload_n 0, 1) := dqo gX11_count_0.2.2.1
theorem dX11_count_41 : decode (mB 187) 41 = .ok (.getfield 10, 3) := dqo gX11_count_0.2.2.2.1
theorem dX11_count_44 : decode (mB 187) 44 = .ok (.invokevirtual 226, 3) := dqo gX11_count_0.2.2.2.2.1
theorem dX11_count_47 : decode (mB 187) 47 = .ok (.ireturn, 1) := dqo gX11_count_0.2.2.2.2.2.1
theorem dX11_count_48 : decode (mB 187) 48 = .ok (.aload_n 0, 1) := dqo gX11_count_0.2.2.2.2.2.2.1
theorem dX11_count_49 : decode (mB 187) 49 = .ok (.getfield 10, 3) := dqo gX11_count_0.2.2.2.2.2.2.2.1
theorem dX11_count_52 : decode (mB 187) 52 = .ok (.invokevirtual 229, 3) := dqo gX11_count_0.2.2.2.2.2.2.2.2.1
theorem dX11_count_55 : decode (mB 187) 55 = .ok (.ireturn, 1) := dqo gX11_count_0.2.2.2.2.2.2.2.2.2.1
theorem dX11_count_56 : decode (mB 187) 56 = .ok (.aload_n 0, 1) := dqo gX11_count_0.2.2.2.2.2.2.2.2.2.2.1
theorem dX11_count_57 : decode (mB 187) 57 = .ok (.getfield 26, 3) := dqo gX11_count_0.2.2.2.2.2.2.2.2.2.2.2.1
theorem dX11_count_60 : decode (mB 187) 60 = .ok (.invokevirtual 393, 3) := dqo gX11_count_0.2.2.2.2.2.2.2.2.2.2.2.2.1
theorem dX11_count_63 : decode (mB 187) 63 = .ok (.ireturn, 1) := dqo gX11_count_0.2.2.2.2.2.2.2.2.2.2.2.2.2.1
theorem dX11_count_64 : decode (mB 187) 64 = .ok (.aload_n 0, 1) := dqo gX11_count_0.2.2.2.2.2.2.2.2.2.2.2.2.2.2.1
theorem dX11_count_65 : decode (mB 187) 65 = .ok (.getfield 83, 3) := dqo gX11_count_0.2.2.2.2.2.2.2.2.2.2.2.2.2.2.2
theorem gX11_count_68 : dq 187 68 (.invokevirtual 324) 3 = true ∧ dq 187 71 (.ireturn) 1 = true ∧ dq 187 72 (.aload_n 0) 1 = true ∧ dq 187 73 (.getfield 90) 3 = true ∧ dq 187 76 (.invokevirtual 396) 3 = true ∧ dq 187 79 (.ireturn) 1 = true ∧ dq 187 80 (.aload_n 0) 1 = true ∧ dq 187 81 (.getfield 90) 3 = true ∧ dq 187 84 (.invokevirtual 399) 3 = true ∧ dq 187 87 (.ireturn) 1 = true ∧ dq 187 88 (.iconst (-1)) 1 = true ∧ dq 187 89 (.ireturn) 1 = true := by decide +kernel
theorem dX11_count_68 : decode (mB 187) 68 = .ok (.invokevirtual 324, 3) := dqo gX11_count_68.1
theorem dX11_count_71 : decode (mB 187) 71 = .ok (.ireturn, 1) := dqo gX11_count_68.2.1
theorem dX11_count_72 : decode (mB 187) 72 = .ok (.aload_n 0, 1) := dqo gX11_count_68.2.2.1
theorem dX11_count_73 : decode (mB 187) 73 = .ok (.getfield 90, 3) := dqo gX11_count_68.2.2.2.1
theorem dX11_count_76 : decode (mB 187) 76 = .ok (.invokevirtual 396, 3) := dqo gX11_count_68.2.2.2.2.1
theorem dX11_count_79 : decode (mB 187) 79 = .ok (.ireturn, 1) := dqo gX11_count_68.2.2.2.2.2.1
theorem dX11_count_80 : decode (mB 187) 80 = .ok (.aload_n 0, 1) := dqo gX11_count_68.2.2.2.2.2.2.1
theorem dX11_count_81 : decode (mB 187) 81 = .ok (.getfield 90, 3) := dqo gX11_count_68.2.2.2.2.2.2.2.1
theorem dX11_count_84 : decode (mB 187) 84 = .ok (.invokevirtual 399, 3) := dqo gX11_count_68.2.2.2.2.2.2.2.2.1
theorem dX11_count_87 : decode (mB 187) 87 = .ok (.ireturn, 1) := dqo gX11_count_68.2.2.2.2.2.2.2.2.2.1
theorem dX11_count_88 : decode (mB 187) 88 = .ok (.iconst (-1), 1) := dqo gX11_count_68.2.2.2.2.2.2.2.2.2.2.1
theorem dX11_count_89 : decode (mB 187) 89 = .ok (.ireturn, 1) := dqo gX11_count_68.2.2.2.2.2.2.2.2.2.2.2
theorem gX12_init_0 : dq 188 0 (.aload_n 0) 1 = true ∧ dq 188 1 (.invokespecial 3) 3 = true ∧ dq 188 4 (.aload_n 0) 1 = true ∧ dq 188 5 (.bipush 6) 2 = true ∧ dq 188 7 (.newarray .int) 2 = true ∧ dq 188 9 (.putfield 9) 3 = true ∧ dq 188 12 (.aload_n 0) 1 = true ∧ dq 188 13 (.bipush 6) 2 = true ∧ dq 188 15 (.newarray .int) 2 = true ∧ dq 188 17 (.putfield 15) 3 = true ∧ dq 188 20 (.aload_n 0) 1 = true ∧ dq 188 21 (.bipush 6) 2 = true ∧ dq 188 23 (.newarray .int) 2 = true ∧ dq 188 25 (.putfield 18) 3 = true ∧ dq 188 28 (.aload_n 0) 1 = true ∧ dq 188 29 (.bipush 6) 2 = true := by decide +kernel
theorem dX12_init_0 : decode (mB 188) 0 = .ok (.aload_n 0, 1) := dqo gX12_init_0.1
theorem dX12_init_1 : decode (mB 188) 1 = .ok (.invokespecial 3, 3) := dqo gX12_init_0.2.1
theorem dX12_init_4 : decode (mB 188) 4 = .ok (.aload_n 0, 1) := dqo gX12_init_0.2.2.1
theorem dX12_init_5 : decode (mB 188) 5 = .ok (.bipush 6, 2) := dqo gX12_init_0.2.2.2.1
theorem dX12_init_7 : decode (mB 188) 7 = .ok (.newarray .int, 2) := dqo gX12_init_0.2.2.2.2.1
theorem dX12_init_9 : decode (mB 188) 9 = .ok (.putfield 9, 3) := dqo gX12_init_0.2.2.2.2.2.1
theorem dX12_init_12 : decode (mB 188) 12 = .ok (.aload_n 0, 1) := dqo gX12_init_0.2.2.2.2.2.2.1
theorem dX12_init_13 : decode (mB 188) 13 = .ok (.bipush 6, 2) := dqo gX12_init_0.2.2.2.2.2.2.2.1
theorem dX12_init_15 : decode (mB 188) 15 = .ok (.newarray .int, 2) := dqo gX12_init_0.2.2.2.2.2.2.2.2.1
theorem dX12_init_17 : decode (mB 188) 17 = .ok (.putfield 15, 3) := dqo gX12_init_0.2.2.2.2.2.2.2.2.2.1
theorem dX12_init_20 : decode (mB 188) 20 = .ok (.aload_n 0, 1) := dqo gX12_init_0.2.2.2.2.2.2.2.2.2.2.1
theorem dX12_init_21 : decode (mB 188) 21 = .ok (.bipush 6, 2) := dqo gX12_init_0.2.2.2.2.2.2.2.2.2.2.2.1
theorem dX12_init_23 : decode (mB 188) 23 = .ok (.newarray .int, 2) := dqo gX12_init_0.2.2.2.2.2.2.2.2.2.2.2.2.1
theorem dX12_init_25 : decode (mB 188) 25 = .ok (.putfield 18, 3) := dqo gX12_init_0.2.2.2.2.2.2.2.2.2.2.2.2.2.1
theorem dX12_init_28 : decode (mB 188) 28 = .ok (.aload_n 0, 1) := dqo gX12_init_0.2.2.2.2.2.2.2.2.2.2.2.2.2.2.1
theorem dX12_init_29 : decode (mB 188) 29 = .ok (.bipush 6, 2) := dqo gX12_init_0.2.2.2.2.2.2.2.2.2.2.2.2.2.2.2
theorem gX12_init_31 : dq 188 31 (.newarray .int) 2 = true ∧ dq 188 33 (.putfield 21) 3 = true ∧ dq 188 36 (.aload_n 0) 1 = true ∧ dq 188 37 (.bipush 12) 2 = true ∧ dq 188 39 (.newarray .int) 2 = true ∧ dq 188 41 (.putfield 24) 3 = true ∧ dq 188 44 (.aload_n 0) 1 = true ∧ dq 188 45 (.bipush 12) 2 = true ∧ dq 188 47 (.newarray .int) 2 = true ∧ dq 188 49 (.putfield 27) 3 = true ∧ dq 188 52 (.aload_n 0) 1 = true ∧ dq 188 53 (.bipush 12) 2 = true ∧ dq 188 55 (.newarray .int) 2 = true ∧ dq 188 57 (.putfield 30) 3 = true ∧ dq 188 60 (.aload_n 0) 1 = true ∧ dq 188 61 (.iconst 2) 1 = true := by decide +kernel
theorem dX12_init_31 : decode (mB 188) 31 = .ok (.newarray .int, 2) := dqo gX12_init_31.1
theorem dX12_init_33 : decode (mB 188) 33 = .ok (.putfield 21, 3) := dqo gX12_init_31.2.1
theorem dX12_init_36 : decode (mB 188) 36 = .ok (.aload_n 0, 1) := dqo gX12_init_31.2.2.1
theorem dX12_init_37 : decode (mB 188) 37 = .ok (.bipush 12, 2) := dqo gX12_init_31.2.2.2.1
theorem dX12_init_39 : decode (mB 188) 39 = .ok (.newarray .int, 2) := dqo gX12_init_31.2.2.2.2.1
theorem dX12_init_41 : decode (mB 188) 41 = .ok (.putfield 24, 3) := dqo gX12_init_31.2.2.2.2.2.1
theorem dX12_init_44 : decode (mB 188) 44 = .ok (.aload_n 0, 1) := dqo gX12_init_31.2.2.2.2.2.2.1
theorem dX12_init_45 : decode (mB 188) 45 = .ok (.bipush 12, 2) := dqo gX12_init_31.2.2.2.2.2.2.2.1
theorem dX12_init_47 : decode (mB 188) 47 = .ok (.newarray .int, 2) := dqo gX12_init_31.2.2.2.2.2.2.2.2.1
theorem dX12_init_49 : decode (mB 188) 49 = .ok (.putfield 27, 3) := dqo gX12_init_31.2.2.2.2.2.2.2.2.2.1
theorem dX12_init_52 : decode (mB 188) 52 = .ok (.aload_n 0, 1) := dqo gX12_init_31.2.2.2.2.2.2.2.2.2.2.1
theorem dX12_init_53 : decode (mB 188) 53 = .ok (.bipush 12, 2) := dqo gX12_init_31.2.2.2.2.2.2.2.2.2.2.2.1
theorem dX12_init_55 : decode (mB 188) 55 = .ok (.newarray .int, 2) := dqo gX12_init_31.2.2.2.2.2.2.2.2.2.2.2.2.1
theorem dX12_init_57 : decode (mB 188) 57 = .ok (.putfield 30, 3) := dqo gX12_init_31.2.2.2.2.2.2.2.2.2.2.2.2.2.1
theorem dX12_init_60 : decode (mB 188) 60 = .ok (.aload_n 0, 1) := dqo gX12_init_31.2.2.2.2.2.2.2.2.2.2.2.2.2.2.1
theorem dX12_init_61 : decode (mB 188) 61 = .ok (.iconst 2, 1) := dqo gX12_init_31.2.2.2.2.2.2.2.2.2.2.2.2.2.2.2
theorem gX12_init_62 : dq 188 62 (.newarray .int) 2 = true ∧ dq 188 64 (.dup) 1 = true ∧ dq 188 65 (.iconst 0) 1 = true ∧ dq 188 66 (.iconst 0) 1 = true ∧ dq 188 67 (.iastore) 1 = true ∧ dq 188 68 (.dup) 1 = true ∧ dq 188 69 (.iconst 1) 1 = true ∧ dq 188 70 (.iconst 0) 1 = true ∧ dq 188 71 (.iastore) 1 = true ∧ dq 188 72 (.putfield 33) 3 = true ∧ dq 188 75 (.aload_n 0) 1 = true ∧ dq 188 76 (.bipush 40) 2 = true ∧ dq 188 78 (.newarray .int) 2 = true ∧ dq 188 80 (.putfield 36) 3 = true ∧ dq 188 83 (.aload_n 0) 1 = true ∧ dq 188 84 (.bipush 40) 2 = true := by decide +kernel
theorem dX12_init_62 : decode (mB 188) 62 = .ok (.newarray .int, 2) := dqo gX12_init_62.1
theorem dX12_init_64 : decode (mB 188) 64 = .ok (.dup, 1) := dqo gX12_init_62.2.1
theorem dX12_init_65 : decode (mB 188) 65 = .ok (.iconst 0, 1) := dqo gX12_init_62.2.2.1
theorem dX12_init_66 : decode (mB 188) 66 = .ok (.iconst 0, 1) := dqo gX12_init_62.2.2.2.1
theorem dX12_init_67 : decode (mB 188) 67 = .ok (.iastore, 1) := dqo gX12_init_62.2.2.2.2.1
theorem dX12_init_68 : decode (mB 188) 68 = .ok (.dup, 1) := dqo gX12_init_62.2.2.2.2.2.1
theorem dX12_init_69 : decode (mB 188) 69 = .ok (.iconst 1, 1) := dqo gX12_init_62.2.2.2.2.2.2.1
theorem dX12_init_70 : decode (mB 188) 70 = .ok (.iconst 0, 1) := dqo gX12_init_62.2.2.2.2.2.2.2.1
theorem dX12_init_71 : decode (mB 188) 71 = .ok (.iastore, 1) := dqo gX12_init_62.2.2.2.2.2.2.2.2.1
theorem dX12_init_72 : decode (mB 188) 72 = .ok (.putfield 33, 3) := dqo gX12_init_62.2.2.2.2.2.2.2.2.2.1
theorem dX12_init_75 : decode (mB 188) 75 = .ok (.aload_n 0, 1) := dqo gX12_init_62.2.2.2.2.2.2.2.2.2.2.1
theorem dX12_init_76 : decode (mB 188) 76 = .ok (.bipush 40, 2) := dqo gX12_init_62.2.2.2.2.2.2.2.2.2.2.2.1
theorem dX12_init_78 : decode (mB 188) 78 = .ok (.newarray .int, 2) := dqo gX12_init_62.2.2.2.2.2.2.2.2.2.2.2.2.1
theorem dX12_init_80 : decode (mB 188) 80 = .ok (.putfield 36, 3) := dqo gX12_init_62.2.2.2.2.2.2.2.2.2.2.2.2.2.1
theorem dX12_init_83 : decode (mB 188) 83 = .ok (.aload_n 0, 1) := dqo gX12_init_62.2.2.2.2.2.2.2.2.2.2.2.2.2.2.1
theorem dX12_init_84 : decode (mB 188) 84 = .ok (.bipush 40, 2) := dqo gX12_init_62.2.2.2.2.2.2.2.2.2.2.2.2.2.2.2
theorem gX12_init_86 : dq 188 86 (.newarray .int) 2 = true ∧ dq 188 88 (.putfield 39) 3 = true ∧ dq 188 91 (.aload_n 0) 1 = true ∧ dq 188 92 (.bipush 40) 2 = true ∧ dq 188 94 (.newarray .int) 2 = true ∧ dq 188 96 (.putfield 42) 3 = true ∧ dq 188 99 (.aload_n 0) 1 = true ∧ dq 188 100 (.bipush 40) 2 = true ∧ dq 188 102 (.newarray .int) 2 = true ∧ dq 188 104 (.putfield 45) 3 = true ∧ dq 188 107 (.aload_n 0) 1 = true ∧ dq 188 108 (.bipush 120) 2 = true ∧ dq 188 110 (.newarray .byte) 2 = true ∧ dq 188 112 (.putfield 48) 3 = true ∧ dq 188 115 (.aload_n 0) 1 = true ∧ dq 188 116 (.sipush 260) 3 = true := by decide +kernel
theorem dX12_init_86 : decode (mB 188) 86 = .ok (.newarray .int, 2) := dqo gX12_init_86.1
theorem dX12_init_88 : decode (mB 188) 88 = .ok (.putfield 39, 3) := dqo gX12_init_86.2.1
theorem dX12_init_91 : decode (mB 188) 91 = .ok (.aload_n 0, 1) := dqo gX12_init_86.2.2.1
theorem dX12_init_92 : decode (mB 188) 92 = .ok (.bipush 40, 2) := dqo gX12_init_86.2.2.2.1
theorem dX12_init_94 : decode (mB 188) 94 = .ok (.newarray .int, 2) := dqo gX12_init_86.2.2.2.2.1
theorem dX12_init_96 : decode (mB 188) 96 = .ok (.putfield 42, 3) := dqo gX12_init_86.2.2.2.2.2.1
theorem dX12_init_99 : decode (mB 188) 99 = .ok (.aload_n 0, 1) := dqo gX12_init_86.2.2.2.2.2.2.1
theorem dX12_init_100 : decode (mB 188) 100 = .ok (.bipush 40, 2) := dqo gX12_init_86.2.2.2.2.2.2.2.1
theorem dX12_init_102 : decode (mB 188) 102 = .ok (.newarray .int, 2) := dqo gX12_init_86.2.2.2.2.2.2.2.2.1
theorem dX12_init_104 : decode (mB 188) 104 = .ok (.putfield 45, 3) := dqo gX12_init_86.2.2.2.2.2.2.2.2.2.1
theorem dX12_init_107 : decode (mB 188) 107 = .ok (.aload_n 0, 1) := dqo gX12_init_86.2.2.2.2.2.2.2.2.2.2.1
theorem dX12_init_108 : decode (mB 188) 108 = .ok (.bipush 120, 2) := dqo gX12_init_86.2.2.2.2.2.2.2.2.2.2.2.1
theorem dX12_init_110 : decode (mB 188) 110 = .ok (.newarray .byte, 2) := dqo gX12_init_86.2.2.2.2.2.2.2.2.2.2.2.2.1
theorem dX12_init_112 : decode (mB 188) 112 = .ok (.putfield 48, 3) := dqo gX12_init_86.2.2.2.2.2.2.2.2.2.2.2.2.2.1
theorem dX12_init_115 : decode (mB 188) 115 = .ok (.aload_n 0, 1) := dqo gX12_init_86.2.2.2.2.2.2.2.2.2.2.2.2.2.2.1
theorem dX12_init_116 : decode (mB 188) 116 = .ok (.sipush 260, 3) := dqo gX12_init_86.2.2.2.2.2.2.2.2.2.2.2.2.2.2.2
theorem gX12_init_119 : dq 188 119 (.newarray .byte) 2 = true ∧ dq 188 121 (.putfield 52) 3 = true ∧ dq 188 124 (.aload_n 0) 1 = true ∧ dq 188 125 (.sipush 260) 3 = true ∧ dq 188 128 (.newarray .int) 2 = true ∧ dq 188 130 (.putfield 55) 3 = true ∧ dq 188 133 (.aload_n 0) 1 = true ∧ dq 188 134 (.iconst 2) 1 = true ∧ dq 188 135 (.newarray .int) 2 = true ∧ dq 188 137 (.putfield 58) 3 = true ∧ dq 188 140 (.aload_n 0) 1 = true ∧ dq 188 141 (.bipush 122) 2 = true ∧ dq 188 143 (.newarray .short) 2 = true ∧ dq 188 145 (.putfield 61) 3 = true ∧ dq 188 148 (.aload_n 0) 1 = true ∧ dq 188 149 (.bipush 122) 2 = true := by decide +kernel
theorem dX12_init_119 : decode (mB 188) 119 = .ok (.newarray .byte, 2) := dqo gX12_init_119.1
theorem dX12_init_121 : decode (mB 188) 121 = .ok (.putfield 52, 3) := dqo gX12_init_119.2.1
theorem dX12_init_124 : decode (mB 188) 124 = .ok (.aload_n 0, 1) := dqo gX12_init_119.2.2.1
theorem dX12_init_125 : decode (mB 188) 125 = .ok (.sipush 260, 3) := dqo gX12_init_119.2.2.2.1
theorem dX12_init_128 : decode (mB 188) 128 = .ok (.newarray .int, 2) := dqo gX12_init_119.2.2.2.2.1
theorem dX12_init_130 : decode (mB 188) 130 = .ok (.putfield 55, 3) := dqo gX12_init_119.2.2.2.2.2.1
theorem dX12_init_133 : decode (mB 188) 133 = .ok (.aload_n 0, 1) := dqo gX12_init_119.2.2.2.2.2.2.1
theorem dX12_init_134 : decode (mB 188) 134 = .ok (.iconst 2, 1) := dqo gX12_init_119.2.2.2.2.2.2.2.1
theorem dX12_init_135 : decode (mB 188) 135 = .ok (.newarray .int, 2) := dqo gX12_init_119.2.2.2.2.2.2.2.2.1
theorem dX12_init_137 : decode (mB 188) 137 = .ok (.putfield 58, 3) := dqo gX12_init_119.2.2.2.2.2.2.2.2.2.1
theorem dX12_init_140 : decode (mB 188) 140 = .ok (.aload_n 0, 1) := dqo gX12_init_119.2.2.2.2.2.2.2.2.2.2.1
theorem dX12_init_141 : decode (mB 188) 141 = .ok (.bipush 122, 2) := dqo gX12_init_119.2.2.2.2.2.2.2.2.2.2.2.1
theorem dX12_init_143 : decode (mB 188) 143 = .ok (.newarray .short, 2) := dqo gX12_init_119.2.2.2.2.2.2.2.2.2.2.2.2.1
theorem dX12_init_145 : decode (mB 188) 145 = .ok (.putfield 61, 3) := dqo gX12_init_119.2.2.2.2.2.2.2.2.2.2.2.2.2.1
theorem dX12_init_148 : decode (mB 188) 148 = .ok (.aload_n 0, 1) := dqo gX12_init_119.2.2.2.2.2.2.2.2.2.2.2.2.2.2.1
theorem dX12_init_149 : decode (mB 188) 149 = .ok (.bipush 122, 2) := dqo gX12_init_119.2.2.2.2.2.2.2.2.2.2.2.2.2.2.2
theorem gX12_init_151 : dq 188 151 (.newarray .short) 2 = true ∧ dq 188 153 (.putfield 65) 3 = true ∧ dq 188 156 (.aload_n 0) 1 = true ∧ dq 188 157 (.bipush 6) 2 = true ∧ dq 188 159 (.newarray .int) 2 = true ∧ dq 188 161 (.putfield 68) 3 = true ∧ dq 188 164 (.aload_n 0) 1 = true ∧ dq 188 165 (.sipush 130) 3 = true ∧ dq 188 168 (.newarray .int) 2 = true ∧ dq 188 170 (.putfield 71) 3 = true ∧ dq 188 173 (.aload_n 0) 1 = true ∧ dq 188 174 (.bipush 12) 2 = true ∧ dq 188 176 (.newarray .int) 2 = true ∧ dq 188 178 (.putfield 74) 3 = true ∧ dq 188 181 (.aload_n 0) 1 = true ∧ dq 188 182 (.bipush 6) 2 = true := by decide +kernel
theorem dX12_init_151 : decode (mB 188) 151 = .ok (.newarray .short, 2) := dqo gX12_init_151.1
theorem dX12_init_153 : decode (mB 188) 153 = .ok (.putfield 65, 3) := dqo gX12_init_151.2.1
theorem dX12_init_156 : decode (mB 188) 156 = .ok (.aload_n 0, 1) := dqo gX12_init_151.2.2.1
theorem dX12_init_157 : decode (mB 188) 157 = .ok (.bipush 6, 2) := dqo gX12_init_151.2.2.2.1
theorem dX12_init_159 : decode (mB 188) 159 = .ok (.newarray .int, 2) := dqo gX12_init_151.2.2.2.2.1
theorem dX12_init_161 : decode (mB 188) 161 = .ok (.putfield 68, 3) := dqo gX12_init_151.2.2.2.2.2.1
theorem dX12_init_164 : decode (mB 188) 164 = .ok (.aload_n 0, 1) := dqo gX12_init_151.2.2.2.2.2.2.1
theorem dX12_init_165 : decode (mB 188) 165 = .ok (.sipush 130, 3) := dqo gX12_init_151.2.2.2.2.2.2.2.1
theorem dX12_init_168 : decode (mB 188) 168 = .ok (.newarray .int, 2) := dqo gX12_init_151.2.2.2.2.2.2.2.2.1
theorem dX12_init_170 : decode (mB 188) 170 = .ok (.putfield 71, 3) := dqo gX12_init_151.2.2.2.2.2.2.2.2.2.1
theorem dX12_init_173 : decode (mB 188) 173 = .ok (.aload_n 0, 1) := dqo gX12_init_151.2.2.2.2.2.2.2.2.2.2.1
theorem dX12_init_174 : decode (mB 188) 174 = .ok (.bipush 12, 2) := dqo gX12_init_151.2.2.2.2.2.2.2.2.2.2.2.1
theorem dX12_init_176 : decode (mB 188) 176 = .ok (.newarray .int, 2) := dqo gX12_init_151.2.2.2.2.2.2.2.2.2.2.2.2.1
theorem dX12_init_178 : decode (mB 188) 178 = .ok (.putfield 74, 3) := dqo gX12_init_151.2.2.2.2.2.2.2.2.2.2.2.2.2.1
theorem dX12_init_181 : decode (mB 188) 181 = .ok (.aload_n 0, 1) := dqo gX12_init_151.2.2.2.2.2.2.2.2.2.2.2.2.2.2.1
theorem dX12_init_182 : decode (mB 188) 182 = .ok (.bipush 6, 2) := dqo gX12_init_151.2.2.2.2.2.2.2.2.2.2.2.2.2.2.2
theorem gX12_init_184 : dq 188 184 (.newarray .int) 2 = true ∧ dq 188 186 (.putfield 77) 3 = true ∧ dq 188 189 (.aload_n 0) 1 = true ∧ dq 188 190 (.iconst 4) 1 = true ∧ dq 188 191 (.newarray .int) 2 = true ∧ dq 188 193 (.putfield 80) 3 = true ∧ dq 188 196 (.aload_n 0) 1 = true ∧ dq 188 197 (.bipush 12) 2 = true ∧ dq 188 199 (.newarray .int) 2 = true ∧ dq 188 201 (.putfield 83) 3 = true ∧ dq 188 204 (.aload_n 0) 1 = true ∧ dq 188 205 (.bipush 12) 2 = true ∧ dq 188 207 (.newarray .int) 2 = true ∧ dq 188 209 (.putfield 86) 3 = true ∧ dq 188 212 (.aload_n 0) 1 = true ∧ dq 188 213 (.iconst 4) 1 = true := by decide +kernel
theorem dX12_init_184 : decode (mB 188) 184 = .ok (.newarray .int, 2) := dqo gX12_init_184.1
theorem dX12_init_186 : decode (mB 188) 186 = .ok (.putfield 77, 3) := dqo gX12_init_184.2.1
theorem dX12_init_189 : decode (mB 188) 189 = .ok (.aload_n 0, 1) := dqo gX12_init_184.2.2.1
theorem dX12_init_190 : decode (mB 188) 190 = .ok (.iconst 4, 1) := dqo gX12_init_184.2.2.2.1
theorem dX12_init_191 : decode (mB 188) 191 = .ok (.newarray .int, 2) := dqo gX12_init_184.2.2.2.2.1
theorem dX12_init_193 : decode (mB 188) 193 = .ok (.putfield 80, 3) := dqo gX12_init_184.2.2.2.2.2.1
theorem dX12_init_196 : decode (mB 188) 196 = .ok (.aload_n 0, 1) := dqo gX12_init_184.2.2.2.2.2.2.1
theorem dX12_init_197 : decode (mB 188) 197 = .ok (.bipush 12, 2) := dqo gX12_init_184.2.2.2.2.2.2.2.1
theorem dX12_init_199 : decode (mB 188) 199 = .ok (.newarray .int, 2) := dqo gX12_init_184.2.2.2.2.2.2.2.2.1
theorem dX12_init_201 : decode (mB 188) 201 = .ok (.putfield 83, 3) := dqo gX12_init_184.2.2.2.2.2.2.2.2.2.1
theorem dX12_init_204 : decode (mB 188) 204 = .ok (.aload_n 0, 1) := dqo gX12_init_184.2.2.2.2.2.2.2.2.2.2.1
theorem dX12_init_205 : decode (mB 188) 205 = .ok (.bipush 12, 2) := dqo gX12_init_184.2.2.2.2.2.2.2.2.2.2.2.1
theorem dX12_init_207 : decode (mB 188) 207 = .ok (.newarray .int, 2) := dqo gX12_init_184.2.2.2.2.2.2.2.2.2.2.2.2.1
theorem dX12_init_209 : decode (mB 188) 209 = .ok (.putfield 86, 3) := dqo gX12_init_184.2.2.2.2.2.2.2.2.2.2.2.2.2.1
theorem dX12_init_212 : decode (mB 188) 212 = .ok (.aload_n 0, 1) := dqo gX12_init_184.2.2.2.2.2.2.2.2.2.2.2.2.2.2.1
theorem dX12_init_213 : decode (mB 188) 213 = .ok (.iconst 4, 1) := dqo gX12_init_184.2.2.2.2.2.2.2.2.2.2.2.2.2.2.2
theorem gX12_init_214 : dq 188 214 (.newarray .int) 2 = true ∧ dq 188 216 (.putfield 89) 3 = true ∧ dq 188 219 (.aload_n 0) 1 = true ∧ dq 188 220 (.bipush 50) 2 = true ∧ dq 188 222 (.newarray .int) 2 = true ∧ dq 188 224 (.putfield 92) 3 = true ∧ dq 188 227 (.aload_n 0) 1 = true ∧ dq 188 228 (.bipush 24) 2 = true ∧ dq 188 230 (.newarray .int) 2 = true ∧ dq 188 232 (.putfield 95) 3 = true ∧ dq 188 235 (.aload_n 0) 1 = true ∧ dq 188 236 (.bipush 6) 2 = true ∧ dq 188 238 (.newarray .int) 2 = true ∧ dq 188 240 (.dup) 1 = true ∧ dq 188 241 (.iconst 0) 1 = true ∧ dq 188 242 (.iconst (-1)) 1 = true := by decide +kernel
theorem dX12_init_214 : decode (mB 188) 214 = .ok (.newarray .int, 2) := dqo gX12_init_214.1
theorem dX12_init_216 : decode (mB 188) 216 = .ok (.putfield 89, 3) := dqo gX12_init_214.2.1
theorem dX12_init_219 : decode (mB 188) 219 = .ok (.aload_n 0, 1) := dqo gX12_init_214.2.2.1
theorem dX12_init_220 : decode (mB 188) 220 = .ok (.bipush 50, 2) := dqo gX12_init_214.2.2.2.1
theorem dX12_init_222 : decode (mB 188) 222 = .ok (.newarray .int, 2) := dqo gX12_init_214.2.2.2.2.1
theorem dX12_init_224 : decode (mB 188) 224 = .ok (.putfield 92, 3) := dqo gX12_init_214.2.2.2.2.2.1
theorem dX12_init_227 : decode (mB 188) 227 = .ok (.aload_n 0, 1) := dqo gX12_init_214.2.2.2.2.2.2.1
theorem dX12_init_228 : decode (mB 188) 228 = .ok (.bipush 24, 2) := dqo gX12_init_214.2.2.2.2.2.2.2.1
theorem dX12_init_230 : decode (mB 188) 230 = .ok (.newarray .int, 2) := dqo gX12_init_214.2.2.2.2.2.2.2.2.1
theorem dX12_init_232 : decode (mB 188) 232 = .ok (.putfield 95, 3) := dqo gX12_init_214.2.2.2.2.2.2.2.2.2.1
theorem dX12_init_235 : decode (mB 188) 235 = .ok (.aload_n 0, 1) := dqo gX12_init_214.2.2.2.2.2.2.2.2.2.2.1
theorem dX12_init_236 : decode (mB 188) 236 = .ok (.bipush 6, 2) := dqo gX12_init_214.2.2.2.2.2.2.2.2.2.2.2.1
theorem dX12_init_238 : decode (mB 188) 238 = .ok (.newarray .int, 2) := dqo gX12_init_214.2.2.2.2.2.2.2.2.2.2.2.2.1
theorem dX12_init_240 : decode (mB 188) 240 = .ok (.dup, 1) := dqo gX12_init_214.2.2.2.2.2.2.2.2.2.2.2.2.2.1
theorem dX12_init_241 : decode (mB 188) 241 = .ok (.iconst 0, 1) := dqo gX12_init_214.2.2.2.2.2.2.2.2.2.2.2.2.2.2.1
theorem dX12_init_242 : decode (mB 188) 242 = .ok (.iconst (-1), 1) := dqo gX12_init_214.2.2.2.2.2.2.2.2.2.2.2.2.2.2.2
theorem gX12_init_243 : dq 188 243 (.iastore) 1 = true ∧ dq 188 244 (.dup) 1 = true ∧ dq 188 245 (.iconst 1) 1 = true ∧ dq 188 246 (.iconst (-1)) 1 = true ∧ dq 188 247 (.iastore) 1 = true ∧ dq 188 248 (.dup) 1 = true ∧ dq 188 249 (.iconst 2) 1 = true ∧ dq 188 250 (.iconst (-1)) 1 = true ∧ dq 188 251 (.iastore) 1 = true ∧ dq 188 252 (.dup) 1 = true ∧ dq 188 253 (.iconst 3) 1 = true ∧ dq 188 254 (.iconst (-1)) 1 = true ∧ dq 188 255 (.iastore) 1 = true ∧ dq 188 256 (.dup) 1 = true ∧ dq 188 257 (.iconst 4) 1 = true ∧ dq 188 258 (.iconst (-1)) 1 = true := by decide +kernel
theorem dX12_init_243 : decode (mB 188) 243 = .ok (.iastore, 1) := dqo gX12_init_243.1
theorem dX12_init_244 : decode (mB 188) 244 = .ok (.dup, 1) := dqo gX12_init_243.2.1
theorem dX12_init_245 : decode (mB 188) 245 = .ok (.iconst 1, 1) := dqo gX12_init_243.2.2.1
theorem dX12_init_246 : decode (mB 188) 246 = .ok (.iconst (-1), 1) := dqo gX12_init_243.2.2.2.1
theorem dX12_init_247 : decode (mB 188) 247 = .ok (.iastore, 1) := dqo gX12_init_243.2.2.2.2.1
theorem dX12_init_248 : decode (mB 188) 248 = .ok (.dup, 1) := dqo gX12_init_243.2.2.2.2.2.1
theorem dX12_init_249 : decode (mB 188) 249 = .ok (.iconst 2, 1) := dqo gX12_init_243.2.2.2.2.2.2.1
theorem dX12_init_250 : decode (mB 188) 250 = .ok (.iconst (-1), 1) := dqo gX12_init_243.2.2.2.2.2.2.2.1
theorem dX12_init_251 : decode (mB 188) 251 = .ok (.iastore, 1) := dqo gX12_init_243.2.2.2.2.2.2.2.2.1
theorem dX12_init_252 : decode (mB 188) 252 = .ok (.dup, 1) := dqo gX12_init_243.2.2.2.2.2.2.2.2.2.1
theorem dX12_init_253 : decode (mB 188) 253 = .ok (.iconst 3, 1) := dqo gX12_init_243.2.2.2.2.2.2.2.2.2.2.1
theorem dX12_init_254 : decode (mB 188) 254 = .ok (.iconst (-1), 1) := dqo gX12_init_243.2.2.2.2.2.2.2.2.2.2.2.1
theorem dX12_init_255 : decode (mB 188) 255 = .ok (.iastore, 1) := dqo gX12_init_243.2.2.2.2.2.2.2.2.2.2.2.2.1
theorem dX12_init_256 : decode (mB 188) 256 = .ok (.dup, 1) := dqo gX12_init_243.2.2.2.2.2.2.2.2.2.2.2.2.2.1
theorem dX12_init_257 : decode (mB 188) 257 = .ok (.iconst 4, 1) := dqo gX12_init_243.2.2.2.2.2.2.2.2.2.2.2.2.2.2.1
theorem dX12_init_258 : decode (mB 188) 258 = .ok (.iconst (-1), 1) := dqo gX12_init_243.2.2.2.2.2.2.2.2.2.2.2.2.2.2.2
theorem gX12_init_259 : dq 188 259 (.iastore) 1 = true ∧ dq 188 260 (.dup) 1 = true ∧ dq 188 261 (.iconst 5) 1 = true ∧ dq 188 262 (.iconst (-1)) 1 = true ∧ dq 188 263 (.iastore) 1 = true ∧ dq 188 264 (.putfield 98) 3 = true ∧ dq 188 267 (.aload_n 0) 1 = true ∧ dq 188 268 (.bipush 6) 2 = true ∧ dq 188 270 (.newarray .int) 2 = true ∧ dq 188 272 (.putfield 101) 3 = true ∧ dq 188 275 (.aload_n 0) 1 = true ∧ dq 188 276 (.sipush 360) 3 = true ∧ dq 188 279 (.newarray .long) 2 = true ∧ dq 188 281 (.putfield 104) 3 = true ∧ dq 188 284 (.aload_n 0) 1 = true ∧ dq 188 285 (.bipush 60) 2 = true := by decide +kernel
theorem dX12_init_259 : decode (mB 188) 259 = .ok (.iastore, 1) := dqo gX12_init_259.1
theorem dX12_init_260 : decode (mB 188) 260 = .ok (.dup, 1) := dqo gX12_init_259.2.1
theorem dX12_init_261 : decode (mB 188) 261 = .ok (.iconst 5, 1) := dqo gX12_init_259.2.2.1
theorem dX12_init_262 : decode (mB 188) 262 = .ok (.iconst (-1), 1) := dqo gX12_init_259.2.2.2.1
theorem dX12_init_263 : decode (mB 188) 263 = .ok (.iastore, 1) := dqo gX12_init_259.2.2.2.2.1
theorem dX12_init_264 : decode (mB 188) 264 = .ok (.putfield 98, 3) := dqo gX12_init_259.2.2.2.2.2.1
theorem dX12_init_267 : decode (mB 188) 267 = .ok (.aload_n 0, 1) := dqo gX12_init_259.2.2.2.2.2.2.1
theorem dX12_init_268 : decode (mB 188) 268 = .ok (.bipush 6, 2) := dqo gX12_init_259.2.2.2.2.2.2.2.1
theorem dX12_init_270 : decode (mB 188) 270 = .ok (.newarray .int, 2) := dqo gX12_init_259.2.2.2.2.2.2.2.2.1
theorem dX12_init_272 : decode (mB 188) 272 = .ok (.putfield 101, 3) := dqo gX12_init_259.2.2.2.2.2.2.2.2.2.1
theorem dX12_init_275 : decode (mB 188) 275 = .ok (.aload_n 0, 1) := dqo gX12_init_259.2.2.2.2.2.2.2.2.2.2.1
theorem dX12_init_276 : decode (mB 188) 276 = .ok (.sipush 360, 3) := dqo gX12_init_259.2.2.2.2.2.2.2.2.2.2.2.1
theorem dX12_init_279 : decode (mB 188) 279 = .ok (.newarray .long, 2) := dqo gX12_init_259.2.2.2.2.2.2.2.2.2.2.2.2.1
theorem dX12_init_281 : decode (mB 188) 281 = .ok (.putfield 104, 3) := dqo gX12_init_259.2.2.2.2.2.2.2.2.2.2.2.2.2.1
theorem dX12_init_284 : decode (mB 188) 284 = .ok (.aload_n 0, 1) := dqo gX12_init_259.2.2.2.2.2.2.2.2.2.2.2.2.2.2.1
theorem dX12_init_285 : decode (mB 188) 285 = .ok (.bipush 60, 2) := dqo gX12_init_259.2.2.2.2.2.2.2.2.2.2.2.2.2.2.2
theorem gX12_init_287 : dq 188 287 (.newarray .long) 2 = true ∧ dq 188 289 (.putfield 108) 3 = true ∧ dq 188 292 (.return_) 1 = true := by decide +kernel
theorem dX12_init_287 : decode (mB 188) 287 = .ok (.newarray .long, 2) := dqo gX12_init_287.1
theorem dX12_init_289 : decode (mB 188) 289 = .ok (.putfield 108, 3) := dqo gX12_init_287.2.1
theorem dX12_init_292 : decode (mB 188) 292 = .ok (.return_, 1) := dqo gX12_init_287.2.2
