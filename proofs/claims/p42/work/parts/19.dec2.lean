theorem gX12_in_0 : dq 189 0 (.iload_n 0) 1 = true ∧ dq 189 1 (.iload_n 1) 1 = true ∧ dq 189 2 (.if_icmp .lt 12) 3 = true ∧ dq 189 5 (.iload_n 0) 1 = true ∧ dq 189 6 (.iload_n 2) 1 = true ∧ dq 189 7 (.if_icmp .gt 7) 3 = true ∧ dq 189 10 (.iconst 1) 1 = true ∧ dq 189 11 (.goto 4) 3 = true ∧ dq 189 14 (.iconst 0) 1 = true ∧ dq 189 15 (.ireturn) 1 = true := by decide +kernel
theorem dX12_in_0 : decode (mB 189) 0 = .ok (.iload_n 0, 1) := dqo gX12_in_0.1
theorem dX12_in_1 : decode (mB 189) 1 = .ok (.iload_n 1, 1) := dqo gX12_in_0.2.1
theorem dX12_in_2 : decode (mB 189) 2 = .ok (.if_icmp .lt 12, 3) := dqo gX12_in_0.2.2.1
theorem dX12_in_5 : decode (mB 189) 5 = .ok (.iload_n 0, 1) := dqo gX12_in_0.2.2.2.1
theorem dX12_in_6 : decode (mB 189) 6 = .ok (.iload_n 2, 1) := dqo gX12_in_0.2.2.2.2.1
theorem dX12_in_7 : decode (mB 189) 7 = .ok (.if_icmp .gt 7, 3) := dqo gX12_in_0.2.2.2.2.2.1
theorem dX12_in_10 : decode (mB 189) 10 = .ok (.iconst 1, 1) := dqo gX12_in_0.2.2.2.2.2.2.1
theorem dX12_in_11 : decode (mB 189) 11 = .ok (.goto 4, 3) := dqo gX12_in_0.2.2.2.2.2.2.2.1
theorem dX12_in_14 : decode (mB 189) 14 = .ok (.iconst 0, 1) := dqo gX12_in_0.2.2.2.2.2.2.2.2.1
theorem dX12_in_15 : decode (mB 189) 15 = .ok (.ireturn, 1) := dqo gX12_in_0.2.2.2.2.2.2.2.2.2
theorem gX12_bitsOf_0 : dq 190 0 (.iconst 0) 1 = true ∧ dq 190 1 (.istore_n 1) 1 = true ∧ dq 190 2 (.iload_n 0) 1 = true ∧ dq 190 3 (.istore_n 2) 1 = true ∧ dq 190 4 (.iload_n 2) 1 = true ∧ dq 190 5 (.ifCond .eq 15) 3 = true ∧ dq 190 8 (.iinc 1 1) 3 = true ∧ dq 190 11 (.iload_n 2) 1 = true ∧ dq 190 12 (.iload_n 2) 1 = true ∧ dq 190 13 (.iconst 1) 1 = true ∧ dq 190 14 (.isub) 1 = true ∧ dq 190 15 (.iand) 1 = true ∧ dq 190 16 (.istore_n 2) 1 = true ∧ dq 190 17 (.goto (-13)) 3 = true ∧ dq 190 20 (.iload_n 1) 1 = true ∧ dq 190 21 (.ireturn) 1 = true := by decide +kernel
theorem dX12_bitsOf_0 : decode (mB 190) 0 = .ok (.iconst 0, 1) := dqo gX12_bitsOf_0.1
theorem dX12_bitsOf_1 : decode (mB 190) 1 = .ok (.istore_n 1, 1) := dqo gX12_bitsOf_0.2.1
theorem dX12_bitsOf_2 : decode (mB 190) 2 = .ok (.iload_n 0, 1) := dqo gX12_bitsOf_0.2.2.1
theorem dX12_bitsOf_3 : decode (mB 190) 3 = .ok (.istore_n 2, 1) := dqo gX12_bitsOf_0.2.2.2.1
theorem dX12_bitsOf_4 : decode (mB 190) 4 = .ok (.iload_n 2, 1) := dqo gX12_bitsOf_0.2.2.2.2.1
theorem dX12_bitsOf_5 : decode (mB 190) 5 = .ok (.ifCond .eq 15, 3) := dqo gX12_bitsOf_0.2.2.2.2.2.1
theorem dX12_bitsOf_8 : decode (mB 190) 8 = .ok (.iinc 1 1, 3) := dqo gX12_bitsOf_0.2.2.2.2.2.2.1
theorem dX12_bitsOf_11 : decode (mB 190) 11 = .ok (.iload_n 2, 1) := dqo gX12_bitsOf_0.2.2.2.2.2.2.2.1
theorem dX12_bitsOf_12 : decode (mB 190) 12 = .ok (.iload_n 2, 1) := dqo gX12_bitsOf_0.2.2.2.2.2.2.2.2.1
theorem dX12_bitsOf_13 : decode (mB 190) 13 = .ok (.iconst 1, 1) := dqo gX12_bitsOf_0.2.2.2.2.2.2.2.2.2.1
theorem dX12_bitsOf_14 : decode (mB 190) 14 = .ok (.isub, 1) := dqo gX12_bitsOf_0.2.2.2.2.2.2.2.2.2.2.1
theorem dX12_bitsOf_15 : decode (mB 190) 15 = .ok (.iand, 1) := dqo gX12_bitsOf_0.2.2.2.2.2.2.2.2.2.2.2.1
theorem dX12_bitsOf_16 : decode (mB 190) 16 = .ok (.istore_n 2, 1) := dqo gX12_bitsOf_0.2.2.2.2.2.2.2.2.2.2.2.2.1
theorem dX12_bitsOf_17 : decode (mB 190) 17 = .ok (.goto (-13), 3) := dqo gX12_bitsOf_0.2.2.2.2.2.2.2.2.2.2.2.2.2.1
theorem dX12_bitsOf_20 : decode (mB 190) 20 = .ok (.iload_n 1, 1) := dqo gX12_bitsOf_0.2.2.2.2.2.2.2.2.2.2.2.2.2.2.1
theorem dX12_bitsOf_21 : decode (mB 190) 21 = .ok (.ireturn, 1) := dqo gX12_bitsOf_0.2.2.2.2.2.2.2.2.2.2.2.2.2.2.2
theorem gX12_isOne_0 : dq 191 0 (.iload_n 1) 1 = true ∧ dq 191 1 (.iconst 0) 1 = true ∧ dq 191 2 (.aload_n 0) 1 = true ∧ dq 191 3 (.getfield 115) 3 = true ∧ dq 191 6 (.iconst 1) 1 = true ∧ dq 191 7 (.isub) 1 = true ∧ dq 191 8 (.invokestatic 118) 3 = true ∧ dq 191 11 (.ireturn) 1 = true := by decide +kernel
theorem dX12_isOne_0 : decode (mB 191) 0 = .ok (.iload_n 1, 1) := dqo gX12_isOne_0.1
theorem dX12_isOne_1 : decode (mB 191) 1 = .ok (.iconst 0, 1) := dqo gX12_isOne_0.2.1
theorem dX12_isOne_2 : decode (mB 191) 2 = .ok (.aload_n 0, 1) := dqo gX12_isOne_0.2.2.1
theorem dX12_isOne_3 : decode (mB 191) 3 = .ok (.getfield 115, 3) := dqo gX12_isOne_0.2.2.2.1
theorem dX12_isOne_6 : decode (mB 191) 6 = .ok (.iconst 1, 1) := dqo gX12_isOne_0.2.2.2.2.1
theorem dX12_isOne_7 : decode (mB 191) 7 = .ok (.isub, 1) := dqo gX12_isOne_0.2.2.2.2.2.1
theorem dX12_isOne_8 : decode (mB 191) 8 = .ok (.invokestatic 118, 3) := dqo gX12_isOne_0.2.2.2.2.2.2.1
theorem dX12_isOne_11 : decode (mB 191) 11 = .ok (.ireturn, 1) := dqo gX12_isOne_0.2.2.2.2.2.2.2
theorem gX12_isTicket_0 : dq 192 0 (.iload_n 1) 1 = true ∧ dq 192 1 (.iconst 0) 1 = true ∧ dq 192 2 (.aload_n 0) 1 = true ∧ dq 192 3 (.getfield 122) 3 = true ∧ dq 192 6 (.iconst 1) 1 = true ∧ dq 192 7 (.isub) 1 = true ∧ dq 192 8 (.invokestatic 118) 3 = true ∧ dq 192 11 (.ireturn) 1 = true := by decide +kernel
theorem dX12_isTicket_0 : decode (mB 192) 0 = .ok (.iload_n 1, 1) := dqo gX12_isTicket_0.1
theorem dX12_isTicket_1 : decode (mB 192) 1 = .ok (.iconst 0, 1) := dqo gX12_isTicket_0.2.1
theorem dX12_isTicket_2 : decode (mB 192) 2 = .ok (.aload_n 0, 1) := dqo gX12_isTicket_0.2.2.1
theorem dX12_isTicket_3 : decode (mB 192) 3 = .ok (.getfield 122, 3) := dqo gX12_isTicket_0.2.2.2.1
theorem dX12_isTicket_6 : decode (mB 192) 6 = .ok (.iconst 1, 1) := dqo gX12_isTicket_0.2.2.2.2.1
theorem dX12_isTicket_7 : decode (mB 192) 7 = .ok (.isub, 1) := dqo gX12_isTicket_0.2.2.2.2.2.1
theorem dX12_isTicket_8 : decode (mB 192) 8 = .ok (.invokestatic 118, 3) := dqo gX12_isTicket_0.2.2.2.2.2.2.1
theorem dX12_isTicket_11 : decode (mB 192) 11 = .ok (.ireturn, 1) := dqo gX12_isTicket_0.2.2.2.2.2.2.2
theorem gX12_person_0 : dq 193 0 (.iload_n 1) 1 = true ∧ dq 193 1 (.iconst 0) 1 = true ∧ dq 193 2 (.bipush 12) 2 = true ∧ dq 193 4 (.invokestatic 118) 3 = true ∧ dq 193 7 (.ifCond .ne 5) 3 = true ∧ dq 193 10 (.iconst (-1)) 1 = true ∧ dq 193 11 (.ireturn) 1 = true ∧ dq 193 12 (.aload_n 0) 1 = true ∧ dq 193 13 (.getfield 115) 3 = true ∧ dq 193 16 (.bipush 6) 2 = true ∧ dq 193 18 (.if_icmp .ne 6) 3 = true ∧ dq 193 21 (.bipush (-3)) 2 = true ∧ dq 193 23 (.ireturn) 1 = true ∧ dq 193 24 (.aload_n 0) 1 = true ∧ dq 193 25 (.getfield 9) 3 = true ∧ dq 193 28 (.aload_n 0) 1 = true := by decide +kernel
theorem dX12_person_0 : decode (mB 193) 0 = .ok (.iload_n 1, 1) := dqo gX12_person_0.1
theorem dX12_person_1 : decode (mB 193) 1 = .ok (.iconst 0, 1) := dqo gX12_person_0.2.1
theorem dX12_person_2 : decode (mB 193) 2 = .ok (.bipush 12, 2) := dqo gX12_person_0.2.2.1
theorem dX12_person_4 : decode (mB 193) 4 = .ok (.invokestatic 118, 3) := dqo gX12_person_0.2.2.2.1
theorem dX12_person_7 : decode (mB 193) 7 = .ok (.ifCond .ne 5, 3) := dqo gX12_person_0.2.2.2.2.1
theorem dX12_person_10 : decode (mB 193) 10 = .ok (.iconst (-1), 1) := dqo gX12_person_0.2.2.2.2.2.1
theorem dX12_person_11 : decode (mB 193) 11 = .ok (.ireturn, 1) := dqo gX12_person_0.2.2.2.2.2.2.1
theorem dX12_person_12 : decode (mB 193) 12 = .ok (.aload_n 0, 1) := dqo gX12_person_0.2.2.2.2.2.2.2.1
theorem dX12_person_13 : decode (mB 193) 13 = .ok (.getfield 115, 3) := dqo gX12_person_0.2.2.2.2.2.2.2.2.1
theorem dX12_person_16 : decode (mB 193) 16 = .ok (.bipush 6, 2) := dqo gX12_person_0.2.2.2.2.2.2.2.2.2.1
theorem dX12_person_18 : decode (mB 193) 18 = .ok (.if_icmp .ne 6, 3) := dqo gX12_person_0.2.2.2.2.2.2.2.2.2.2.1
theorem dX12_person_21 : decode (mB 193) 21 = .ok (.bipush (-3), 2) := dqo gX12_person_0.2.2.2.2.2.2.2.2.2.2.2.1
theorem dX12_person_23 : decode (mB 193) 23 = .ok (.ireturn, 1) := dqo gX12_person_0.2.2.2.2.2.2.2.2.2.2.2.2.1
theorem dX12_person_24 : decode (mB 193) 24 = .ok (.aload_n 0, 1) := dqo gX12_person_0.2.2.2.2.2.2.2.2.2.2.2.2.2.1
theorem dX12_person_25 : decode (mB 193) 25 = .ok (.getfield 9, 3) := dqo gX12_person_0.2.2.2.2.2.2.2.2.2.2.2.2.2.2.1
theorem dX12_person_28 : decode (mB 193) 28 = .ok (.aload_n 0, 1) := dqo gX12_person_0.2.2.2.2.2.2.2.2.2.2.2.2.2.2.2
theorem gX12_person_29 : dq 193 29 (.getfield 115) 3 = true ∧ dq 193 32 (.iload_n 1) 1 = true ∧ dq 193 33 (.iastore) 1 = true ∧ dq 193 34 (.aload_n 0) 1 = true ∧ dq 193 35 (.getfield 15) 3 = true ∧ dq 193 38 (.aload_n 0) 1 = true ∧ dq 193 39 (.getfield 115) 3 = true ∧ dq 193 42 (.iconst 0) 1 = true ∧ dq 193 43 (.iastore) 1 = true ∧ dq 193 44 (.aload_n 0) 1 = true ∧ dq 193 45 (.getfield 18) 3 = true ∧ dq 193 48 (.aload_n 0) 1 = true ∧ dq 193 49 (.getfield 115) 3 = true ∧ dq 193 52 (.bipush 10) 2 = true ∧ dq 193 54 (.iastore) 1 = true ∧ dq 193 55 (.aload_n 0) 1 = true := by decide +kernel
theorem dX12_person_29 : decode (mB 193) 29 = .ok (.getfield 115, 3) := dqo gX12_person_29.1
theorem dX12_person_32 : decode (mB 193) 32 = .ok (.iload_n 1, 1) := dqo gX12_person_29.2.1
theorem dX12_person_33 : decode (mB 193) 33 = .ok (.iastore, 1) := dqo gX12_person_29.2.2.1
theorem dX12_person_34 : decode (mB 193) 34 = .ok (.aload_n 0, 1) := dqo gX12_person_29.2.2.2.1
theorem dX12_person_35 : decode (mB 193) 35 = .ok (.getfield 15, 3) := dqo gX12_person_29.2.2.2.2.1
theorem dX12_person_38 : decode (mB 193) 38 = .ok (.aload_n 0, 1) := dqo gX12_person_29.2.2.2.2.2.1
theorem dX12_person_39 : decode (mB 193) 39 = .ok (.getfield 115, 3) := dqo gX12_person_29.2.2.2.2.2.2.1
theorem dX12_person_42 : decode (mB 193) 42 = .ok (.iconst 0, 1) := dqo gX12_person_29.2.2.2.2.2.2.2.1
theorem dX12_person_43 : decode (mB 193) 43 = .ok (.iastore, 1) := dqo gX12_person_29.2.2.2.2.2.2.2.2.1
theorem dX12_person_44 : decode (mB 193) 44 = .ok (.aload_n 0, 1) := dqo gX12_person_29.2.2.2.2.2.2.2.2.2.1
theorem dX12_person_45 : decode (mB 193) 45 = .ok (.getfield 18, 3) := dqo gX12_person_29.2.2.2.2.2.2.2.2.2.2.1
theorem dX12_person_48 : decode (mB 193) 48 = .ok (.aload_n 0, 1) := dqo gX12_person_29.2.2.2.2.2.2.2.2.2.2.2.1
theorem dX12_person_49 : decode (mB 193) 49 = .ok (.getfield 115, 3) := dqo gX12_person_29.2.2.2.2.2.2.2.2.2.2.2.2.1
theorem dX12_person_52 : decode (mB 193) 52 = .ok (.bipush 10, 2) := dqo gX12_person_29.2.2.2.2.2.2.2.2.2.2.2.2.2.1
theorem dX12_person_54 : decode (mB 193) 54 = .ok (.iastore, 1) := dqo gX12_person_29.2.2.2.2.2.2.2.2.2.2.2.2.2.2.1
theorem dX12_person_55 : decode (mB 193) 55 = .ok (.aload_n 0, 1) := dqo gX12_person_29.2.2.2.2.2.2.2.2.2.2.2.2.2.2.2
theorem gX12_person_56 : dq 193 56 (.getfield 21) 3 = true ∧ dq 193 59 (.aload_n 0) 1 = true ∧ dq 193 60 (.getfield 115) 3 = true ∧ dq 193 63 (.iconst 0) 1 = true ∧ dq 193 64 (.iastore) 1 = true ∧ dq 193 65 (.aload_n 0) 1 = true ∧ dq 193 66 (.dup) 1 = true ∧ dq 193 67 (.getfield 115) 3 = true ∧ dq 193 70 (.iconst 1) 1 = true ∧ dq 193 71 (.iadd) 1 = true ∧ dq 193 72 (.putfield 115) 3 = true ∧ dq 193 75 (.aload_n 0) 1 = true ∧ dq 193 76 (.getfield 115) 3 = true ∧ dq 193 79 (.iconst 1) 1 = true ∧ dq 193 80 (.isub) 1 = true ∧ dq 193 81 (.ireturn) 1 = true := by decide +kernel
theorem dX12_person_56 : decode (mB 193) 56 = .ok (.getfield 21, 3) := dqo gX12_person_56.1
theorem dX12_person_59 : decode (mB 193) 59 = .ok (.aload_n 0, 1) := dqo gX12_person_56.2.1
theorem dX12_person_60 : decode (mB 193) 60 = .ok (.getfield 115, 3) := dqo gX12_person_56.2.2.1
theorem dX12_person_63 : decode (mB 193) 63 = .ok (.iconst 0, 1) := dqo gX12_person_56.2.2.2.1
theorem dX12_person_64 : decode (mB 193) 64 = .ok (.iastore, 1) := dqo gX12_person_56.2.2.2.2.1
theorem dX12_person_65 : decode (mB 193) 65 = .ok (.aload_n 0, 1) := dqo gX12_person_56.2.2.2.2.2.1
theorem dX12_person_66 : decode (mB 193) 66 = .ok (.dup, 1) := dqo gX12_person_56.2.2.2.2.2.2.1
theorem dX12_person_67 : decode (mB 193) 67 = .ok (.getfield 115, 3) := dqo gX12_person_56.2.2.2.2.2.2.2.1
theorem dX12_person_70 : decode (mB 193) 70 = .ok (.iconst 1, 1) := dqo gX12_person_56.2.2.2.2.2.2.2.2.1
theorem dX12_person_71 : decode (mB 193) 71 = .ok (.iadd, 1) := dqo gX12_person_56.2.2.2.2.2.2.2.2.2.1
theorem dX12_person_72 : decode (mB 193) 72 = .ok (.putfield 115, 3) := dqo gX12_person_56.2.2.2.2.2.2.2.2.2.2.1
theorem dX12_person_75 : decode (mB 193) 75 = .ok (.aload_n 0, 1) := dqo gX12_person_56.2.2.2.2.2.2.2.2.2.2.2.1
theorem dX12_person_76 : decode (mB 193) 76 = .ok (.getfield 115, 3) := dqo gX12_person_56.2.2.2.2.2.2.2.2.2.2.2.2.1
theorem dX12_person_79 : decode (mB 193) 79 = .ok (.iconst 1, 1) := dqo gX12_person_56.2.2.2.2.2.2.2.2.2.2.2.2.2.1
theorem dX12_person_80 : decode (mB 193) 80 = .ok (.isub, 1) := dqo gX12_person_56.2.2.2.2.2.2.2.2.2.2.2.2.2.2.1
theorem dX12_person_81 : decode (mB 193) 81 = .ok (.ireturn, 1) := dqo gX12_person_56.2.2.2.2.2.2.2.2.2.2.2.2.2.2.2
theorem gX12_areTicket_0 : dq 194 0 (.aload_n 0) 1 = true ∧ dq 194 1 (.iload_n 1) 1 = true ∧ dq 194 2 (.invokevirtual 125) 3 = true ∧ dq 194 5 (.ifCond .eq 16) 3 = true ∧ dq 194 8 (.iload_n 2) 1 = true ∧ dq 194 9 (.iconst 0) 1 = true ∧ dq 194 10 (.iconst 1) 1 = true ∧ dq 194 11 (.invokestatic 118) 3 = true ∧ dq 194 14 (.ifCond .eq 7) 3 = true ∧ dq 194 17 (.iconst 1) 1 = true ∧ dq 194 18 (.goto 4) 3 = true ∧ dq 194 21 (.iconst 0) 1 = true ∧ dq 194 22 (.ireturn) 1 = true := by decide +kernel
theorem dX12_areTicket_0 : decode (mB 194) 0 = .ok (.aload_n 0, 1) := dqo gX12_areTicket_0.1
theorem dX12_areTicket_1 : decode (mB 194) 1 = .ok (.iload_n 1, 1) := dqo gX12_areTicket_0.2.1
theorem dX12_areTicket_2 : decode (mB 194) 2 = .ok (.invokevirtual 125, 3) := dqo gX12_areTicket_0.2.2.1
theorem dX12_areTicket_5 : decode (mB 194) 5 = .ok (.ifCond .eq 16, 3) := dqo gX12_areTicket_0.2.2.2.1
theorem dX12_areTicket_8 : decode (mB 194) 8 = .ok (.iload_n 2, 1) := dqo gX12_areTicket_0.2.2.2.2.1
theorem dX12_areTicket_9 : decode (mB 194) 9 = .ok (.iconst 0, 1) := dqo gX12_areTicket_0.2.2.2.2.2.1
theorem dX12_areTicket_10 : decode (mB 194) 10 = .ok (.iconst 1, 1) := dqo gX12_areTicket_0.2.2.2.2.2.2.1
theorem dX12_areTicket_11 : decode (mB 194) 11 = .ok (.invokestatic 118, 3) := dqo gX12_areTicket_0.2.2.2.2.2.2.2.1
theorem dX12_areTicket_14 : decode (mB 194) 14 = .ok (.ifCond .eq 7, 3) := dqo gX12_areTicket_0.2.2.2.2.2.2.2.2.1
theorem dX12_areTicket_17 : decode (mB 194) 17 = .ok (.iconst 1, 1) := dqo gX12_areTicket_0.2.2.2.2.2.2.2.2.2.1
theorem dX12_areTicket_18 : decode (mB 194) 18 = .ok (.goto 4, 3) := dqo gX12_areTicket_0.2.2.2.2.2.2.2.2.2.2.1
theorem dX12_areTicket_21 : decode (mB 194) 21 = .ok (.iconst 0, 1) := dqo gX12_areTicket_0.2.2.2.2.2.2.2.2.2.2.2.1
theorem dX12_areTicket_22 : decode (mB 194) 22 = .ok (.ireturn, 1) := dqo gX12_areTicket_0.2.2.2.2.2.2.2.2.2.2.2.2
theorem gX12_addTicket_0 : dq 195 0 (.aload_n 0) 1 = true ∧ dq 195 1 (.getfield 24) 3 = true ∧ dq 195 4 (.aload_n 0) 1 = true ∧ dq 195 5 (.getfield 122) 3 = true ∧ dq 195 8 (.iload_n 1) 1 = true ∧ dq 195 9 (.iastore) 1 = true ∧ dq 195 10 (.aload_n 0) 1 = true ∧ dq 195 11 (.getfield 27) 3 = true ∧ dq 195 14 (.aload_n 0) 1 = true ∧ dq 195 15 (.getfield 122) 3 = true ∧ dq 195 18 (.iload_n 2) 1 = true ∧ dq 195 19 (.iastore) 1 = true ∧ dq 195 20 (.aload_n 0) 1 = true ∧ dq 195 21 (.getfield 30) 3 = true ∧ dq 195 24 (.aload_n 0) 1 = true ∧ dq 195 25 (.getfield 122) 3 = true := by decide +kernel
theorem dX12_addTicket_0 : decode (mB 195) 0 = .ok (.aload_n 0, 1) := dqo gX12_addTicket_0.1
theorem dX12_addTicket_1 : decode (mB 195) 1 = .ok (.getfield 24, 3) := dqo gX12_addTicket_0.2.1
theorem dX12_addTicket_4 : decode (mB 195) 4 = .ok (.aload_n 0, 1) := dqo gX12_addTicket_0.2.2.1
theorem dX12_addTicket_5 : decode (mB 195) 5 = .ok (.getfield 122, 3) := dqo gX12_addTicket_0.2.2.2.1
theorem dX12_addTicket_8 : decode (mB 195) 8 = .ok (.iload_n 1, 1) := dqo gX12_addTicket_0.2.2.2.2.1
theorem dX12_addTicket_9 : decode (mB 195) 9 = .ok (.iastore, 1) := dqo gX12_addTicket_0.2.2.2.2.2.1
theorem dX12_addTicket_10 : decode (mB 195) 10 = .ok (.aload_n 0, 1) := dqo gX12_addTicket_0.2.2.2.2.2.2.1
theorem dX12_addTicket_11 : decode (mB 195) 11 = .ok (.getfield 27, 3) := dqo gX12_addTicket_0.2.2.2.2.2.2.2.1
theorem dX12_addTicket_14 : decode (mB 195) 14 = .ok (.aload_n 0, 1) := dqo gX12_addTicket_0.2.2.2.2.2.2.2.2.1
theorem dX12_addTicket_15 : decode (mB 195) 15 = .ok (.getfield 122, 3) := dqo gX12_addTicket_0.2.2.2.2.2.2.2.2.2.1
theorem dX12_addTicket_18 : decode (mB 195) 18 = .ok (.iload_n 2, 1) := dqo gX12_addTicket_0.2.2.2.2.2.2.2.2.2.2.1
theorem dX12_addTicket_19 : decode (mB 195) 19 = .ok (.iastore, 1) := dqo gX12_addTicket_0.2.2.2.2.2.2.2.2.2.2.2.1
theorem dX12_addTicket_20 : decode (mB 195) 20 = .ok (.aload_n 0, 1) := dqo gX12_addTicket_0.2.2.2.2.2.2.2.2.2.2.2.2.1
theorem dX12_addTicket_21 : decode (mB 195) 21 = .ok (.getfield 30, 3) := dqo gX12_addTicket_0.2.2.2.2.2.2.2.2.2.2.2.2.2.1
theorem dX12_addTicket_24 : decode (mB 195) 24 = .ok (.aload_n 0, 1) := dqo gX12_addTicket_0.2.2.2.2.2.2.2.2.2.2.2.2.2.2.1
theorem dX12_addTicket_25 : decode (mB 195) 25 = .ok (.getfield 122, 3) := dqo gX12_addTicket_0.2.2.2.2.2.2.2.2.2.2.2.2.2.2.2
theorem gX12_addTicket_28 : dq 195 28 (.iload_n 3) 1 = true ∧ dq 195 29 (.iastore) 1 = true ∧ dq 195 30 (.aload_n 0) 1 = true ∧ dq 195 31 (.dup) 1 = true ∧ dq 195 32 (.getfield 122) 3 = true ∧ dq 195 35 (.iconst 1) 1 = true ∧ dq 195 36 (.iadd) 1 = true ∧ dq 195 37 (.putfield 122) 3 = true ∧ dq 195 40 (.aload_n 0) 1 = true ∧ dq 195 41 (.getfield 122) 3 = true ∧ dq 195 44 (.iconst 1) 1 = true ∧ dq 195 45 (.isub) 1 = true ∧ dq 195 46 (.ireturn) 1 = true := by decide +kernel
theorem dX12_addTicket_28 : decode (mB 195) 28 = .ok (.iload_n 3, 1) := dqo gX12_addTicket_28.1
theorem dX12_addTicket_29 : decode (mB 195) 29 = .ok (.iastore, 1) := dqo gX12_addTicket_28.2.1
theorem dX12_addTicket_30 : decode (mB 195) 30 = .ok (.aload_n 0, 1) := dqo gX12_addTicket_28.2.2.1
theorem dX12_addTicket_31 : decode (mB 195) 31 = .ok (.dup, 1) := dqo gX12_addTicket_28.2.2.2.1
theorem dX12_addTicket_32 : decode (mB 195) 32 = .ok (.getfield 122, 3) := dqo gX12_addTicket_28.2.2.2.2.1
theorem dX12_addTicket_35 : decode (mB 195) 35 = .ok (.iconst 1, 1) := dqo gX12_addTicket_28.2.2.2.2.2.1
theorem dX12_addTicket_36 : decode (mB 195) 36 = .ok (.iadd, 1) := dqo gX12_addTicket_28.2.2.2.2.2.2.1
theorem dX12_addTicket_37 : decode (mB 195) 37 = .ok (.putfield 122, 3) := dqo gX12_addTicket_28.2.2.2.2.2.2.2.1
theorem dX12_addTicket_40 : decode (mB 195) 40 = .ok (.aload_n 0, 1) := dqo gX12_addTicket_28.2.2.2.2.2.2.2.2.1
theorem dX12_addTicket_41 : decode (mB 195) 41 = .ok (.getfield 122, 3) := dqo gX12_addTicket_28.2.2.2.2.2.2.2.2.2.1
theorem dX12_addTicket_44 : decode (mB 195) 44 = .ok (.iconst 1, 1) := dqo gX12_addTicket_28.2.2.2.2.2.2.2.2.2.2.1
theorem dX12_addTicket_45 : decode (mB 195) 45 = .ok (.isub, 1) := dqo gX12_addTicket_28.2.2.2.2.2.2.2.2.2.2.2.1
theorem dX12_addTicket_46 : decode (mB 195) 46 = .ok (.ireturn, 1) := dqo gX12_addTicket_28.2.2.2.2.2.2.2.2.2.2.2.2
theorem gX12_ticket_0 : dq 196 0 (.aload_n 0) 1 = true ∧ dq 196 1 (.iload_n 1) 1 = true ∧ dq 196 2 (.iload_n 2) 1 = true ∧ dq 196 3 (.invokevirtual 129) 3 = true ∧ dq 196 6 (.ifCond .ne 5) 3 = true ∧ dq 196 9 (.iconst (-1)) 1 = true ∧ dq 196 10 (.ireturn) 1 = true ∧ dq 196 11 (.aload_n 0) 1 = true ∧ dq 196 12 (.getfield 122) 3 = true ∧ dq 196 15 (.bipush 12) 2 = true ∧ dq 196 17 (.if_icmp .ne 8) 3 = true ∧ dq 196 20 (.bipush (-3)) 2 = true ∧ dq 196 22 (.goto 10) 3 = true ∧ dq 196 25 (.aload_n 0) 1 = true ∧ dq 196 26 (.iload_n 1) 1 = true ∧ dq 196 27 (.iload_n 2) 1 = true := by decide +kernel
theorem dX12_ticket_0 : decode (mB 196) 0 = .ok (.aload_n 0, 1) := dqo gX12_ticket_0.1
theorem dX12_ticket_1 : decode (mB 196) 1 = .ok (.iload_n 1, 1) := dqo gX12_ticket_0.2.1
theorem dX12_ticket_2 : decode (mB 196) 2 = .ok (.iload_n 2, 1) := dqo gX12_ticket_0.2.2.1
theorem dX12_ticket_3 : decode (mB 196) 3 = .ok (.invokevirtual 129, 3) := dqo gX12_ticket_0.2.2.2.1
theorem dX12_ticket_6 : decode (mB 196) 6 = .ok (.ifCond .ne 5, 3) := dqo gX12_ticket_0.2.2.2.2.1
theorem dX12_ticket_9 : decode (mB 196) 9 = .ok (.iconst (-1), 1) := dqo gX12_ticket_0.2.2.2.2.2.1
theorem dX12_ticket_10 : decode (mB 196) 10 = .ok (.ireturn, 1) := dqo gX12_ticket_0.2.2.2.2.2.2.1
theorem dX12_ticket_11 : decode (mB 196) 11 = .ok (.aload_n 0, 1) := dqo gX12_ticket_0.2.2.2.2.2.2.2.1
theorem dX12_ticket_12 : decode (mB 196) 12 = .ok (.getfield 122, 3) := dqo gX12_ticket_0.2.2.2.2.2.2.2.2.1
theorem dX12_ticket_15 : decode (mB 196) 15 = .ok (.bipush 12, 2) := dqo gX12_ticket_0.2.2.2.2.2.2.2.2.2.1
theorem dX12_ticket_17 : decode (mB 196) 17 = .ok (.if_icmp .ne 8, 3) := dqo gX12_ticket_0.2.2.2.2.2.2.2.2.2.2.1
theorem dX12_ticket_20 : decode (mB 196) 20 = .ok (.bipush (-3), 2) := dqo gX12_ticket_0.2.2.2.2.2.2.2.2.2.2.2.1
theorem dX12_ticket_22 : decode (mB 196) 22 = .ok (.goto 10, 3) := dqo gX12_ticket_0.2.2.2.2.2.2.2.2.2.2.2.2.1
theorem dX12_ticket_25 : decode (mB 196) 25 = .ok (.aload_n 0, 1) := dqo gX12_ticket_0.2.2.2.2.2.2.2.2.2.2.2.2.2.1
theorem dX12_ticket_26 : decode (mB 196) 26 = .ok (.iload_n 1, 1) := dqo gX12_ticket_0.2.2.2.2.2.2.2.2.2.2.2.2.2.2.1
theorem dX12_ticket_27 : decode (mB 196) 27 = .ok (.iload_n 2, 1) := dqo gX12_ticket_0.2.2.2.2.2.2.2.2.2.2.2.2.2.2.2
theorem gX12_ticket_28 : dq 196 28 (.iconst 0) 1 = true ∧ dq 196 29 (.invokevirtual 133) 3 = true ∧ dq 196 32 (.ireturn) 1 = true := by decide +kernel
theorem dX12_ticket_28 : decode (mB 196) 28 = .ok (.iconst 0, 1) := dqo gX12_ticket_28.1
theorem dX12_ticket_29 : decode (mB 196) 29 = .ok (.invokevirtual 133, 3) := dqo gX12_ticket_28.2.1
theorem dX12_ticket_32 : decode (mB 196) 32 = .ok (.ireturn, 1) := dqo gX12_ticket_28.2.2
theorem gX12_tickets_0 : dq 197 0 (.iload_n 1) 1 = true ∧ dq 197 1 (.invokestatic 137) 3 = true ∧ dq 197 4 (.ifCond .eq 13) 3 = true ∧ dq 197 7 (.iload_n 3) 1 = true ∧ dq 197 8 (.iconst 1) 1 = true ∧ dq 197 9 (.bipush 12) 2 = true ∧ dq 197 11 (.invokestatic 118) 3 = true ∧ dq 197 14 (.ifCond .ne 5) 3 = true ∧ dq 197 17 (.iconst (-1)) 1 = true ∧ dq 197 18 (.ireturn) 1 = true ∧ dq 197 19 (.aload_n 0) 1 = true ∧ dq 197 20 (.getfield 98) 3 = true ∧ dq 197 23 (.iload_n 1) 1 = true ∧ dq 197 24 (.iaload) 1 = true ∧ dq 197 25 (.iconst (-1)) 1 = true ∧ dq 197 26 (.if_icmp .eq 17) 3 = true := by decide +kernel
theorem dX12_tickets_0 : decode (mB 197) 0 = .ok (.iload_n 1, 1) := dqo gX12_tickets_0.1
theorem dX12_tickets_1 : decode (mB 197) 1 = .ok (.invokestatic 137, 3) := dqo gX12_tickets_0.2.1
theorem dX12_tickets_4 : decode (mB 197) 4 = .ok (.ifCond .eq 13, 3) := dqo gX12_tickets_0.2.2.1
theorem dX12_tickets_7 : decode (mB 197) 7 = .ok (.iload_n 3, 1) := dqo gX12_tickets_0.2.2.2.1
theorem dX12_tickets_8 : decode (mB 197) 8 = .ok (.iconst 1, 1) := dqo gX12_tickets_0.2.2.2.2.1
theorem dX12_tickets_9 : decode (mB 197) 9 = .ok (.bipush 12, 2) := dqo gX12_tickets_0.2.2.2.2.2.1
theorem dX12_tickets_11 : decode (mB 197) 11 = .ok (.invokestatic 118, 3) := dqo gX12_tickets_0.2.2.2.2.2.2.1
theorem dX12_tickets_14 : decode (mB 197) 14 = .ok (.ifCond .ne 5, 3) := dqo gX12_tickets_0.2.2.2.2.2.2.2.1
theorem dX12_tickets_17 : decode (mB 197) 17 = .ok (.iconst (-1), 1) := dqo gX12_tickets_0.2.2.2.2.2.2.2.2.1
theorem dX12_tickets_18 : decode (mB 197) 18 = .ok (.ireturn, 1) := dqo gX12_tickets_0.2.2.2.2.2.2.2.2.2.1
theorem dX12_tickets_19 : decode (mB 197) 19 = .ok (.aload_n 0, 1) := dqo gX12_tickets_0.2.2.2.2.2.2.2.2.2.2.1
theorem dX12_tickets_20 : decode (mB 197) 20 = .ok (.getfield 98, 3) := dqo gX12_tickets_0.2.2.2.2.2.2.2.2.2.2.2.1
theorem dX12_tickets_23 : decode (mB 197) 23 = .ok (.iload_n 1, 1) := dqo gX12_tickets_0.2.2.2.2.2.2.2.2.2.2.2.2.1
theorem dX12_tickets_24 : decode (mB 197) 24 = .ok (.iaload, 1) := dqo gX12_tickets_0.2.2.2.2.2.2.2.2.2.2.2.2.2.1
theorem dX12_tickets_25 : decode (mB 197) 25 = .ok (.iconst (-1), 1) := dqo gX12_tickets_0.2.2.2.2.2.2.2.2.2.2.2.2.2.2.1
theorem dX12_tickets_26 : decode (mB 197) 26 = .ok (.if_icmp .eq 17, 3) := dqo gX12_tickets_0.2.2.2.2.2.2.2.2.2.2.2.2.2.2.2
theorem gX12_tickets_29 : dq 197 29 (.aload_n 0) 1 = true ∧ dq 197 30 (.getfield 98) 3 = true ∧ dq 197 33 (.iload_n 1) 1 = true ∧ dq 197 34 (.iaload) 1 = true ∧ dq 197 35 (.bipush (-2)) 2 = true ∧ dq 197 37 (.if_icmp .eq 6) 3 = true ∧ dq 197 40 (.bipush (-12)) 2 = true ∧ dq 197 42 (.ireturn) 1 = true ∧ dq 197 43 (.aload_n 0) 1 = true ∧ dq 197 44 (.getfield 98) 3 = true ∧ dq 197 47 (.iload_n 1) 1 = true ∧ dq 197 48 (.iaload) 1 = true ∧ dq 197 49 (.iconst (-1)) 1 = true ∧ dq 197 50 (.if_icmp .ne 5) 3 = true ∧ dq 197 53 (.iconst 0) 1 = true ∧ dq 197 54 (.ireturn) 1 = true := by decide +kernel
theorem dX12_tickets_29 : decode (mB 197) 29 = .ok (.aload_n 0, 1) := dqo gX12_tickets_29.1
theorem dX12_tickets_30 : decode (mB 197) 30 = .ok (.getfield 98, 3) := dqo gX12_tickets_29.2.1
theorem dX12_tickets_33 : decode (mB 197) 33 = .ok (.iload_n 1, 1) := dqo gX12_tickets_29.2.2.1
theorem dX12_tickets_34 : decode (mB 197) 34 = .ok (.iaload, 1) := dqo gX12_tickets_29.2.2.2.1
theorem dX12_tickets_35 : decode (mB 197) 35 = .ok (.bipush (-2), 2) := dqo gX12_tickets_29.2.2.2.2.1
theorem dX12_tickets_37 : decode (mB 197) 37 = .ok (.if_icmp .eq 6, 3) := dqo gX12_tickets_29.2.2.2.2.2.1
theorem dX12_tickets_40 : decode (mB 197) 40 = .ok (.bipush (-12), 2) := dqo gX12_tickets_29.2.2.2.2.2.2.1
theorem dX12_tickets_42 : decode (mB 197) 42 = .ok (.ireturn, 1) := dqo gX12_tickets_29.2.2.2.2.2.2.2.1
theorem dX12_tickets_43 : decode (mB 197) 43 = .ok (.aload_n 0, 1) := dqo gX12_tickets_29.2.2.2.2.2.2.2.2.1
theorem dX12_tickets_44 : decode (mB 197) 44 = .ok (.getfield 98, 3) := dqo gX12_tickets_29.2.2.2.2.2.2.2.2.2.1
theorem dX12_tickets_47 : decode (mB 197) 47 = .ok (.iload_n 1, 1) := dqo gX12_tickets_29.2.2.2.2.2.2.2.2.2.2.1
theorem dX12_tickets_48 : decode (mB 197) 48 = .ok (.iaload, 1) := dqo gX12_tickets_29.2.2.2.2.2.2.2.2.2.2.2.1
theorem dX12_tickets_49 : decode (mB 197) 49 = .ok (.iconst (-1), 1) := dqo gX12_tickets_29.2.2.2.2.2.2.2.2.2.2.2.2.1
theorem dX12_tickets_50 : decode (mB 197) 50 = .ok (.if_icmp .ne 5, 3) := dqo gX12_tickets_29.2.2.2.2.2.2.2.2.2.2.2.2.2.1
theorem dX12_tickets_53 : decode (mB 197) 53 = .ok (.iconst 0, 1) := dqo gX12_tickets_29.2.2.2.2.2.2.2.2.2.2.2.2.2.2.1
theorem dX12_tickets_54 : decode (mB 197) 54 = .ok (.ireturn, 1) := dqo gX12_tickets_29.2.2.2.2.2.2.2.2.2.2.2.2.2.2.2
theorem gX12_tickets_55 : dq 197 55 (.iconst 0) 1 = true ∧ dq 197 56 (.istore 4) 2 = true ∧ dq 197 58 (.iload 4) 2 = true ∧ dq 197 60 (.iload_n 3) 1 = true ∧ dq 197 61 (.if_icmp .ge 144) 3 = true ∧ dq 197 64 (.iload_n 2) 1 = true ∧ dq 197 65 (.i2l) 1 = true ∧ dq 197 66 (.iconst 3) 1 = true ∧ dq 197 67 (.iload 4) 2 = true ∧ dq 197 69 (.imul) 1 = true ∧ dq 197 70 (.i2l) 1 = true ∧ dq 197 71 (.ladd) 1 = true ∧ dq 197 72 (.lstore 5) 2 = true ∧ dq 197 74 (.lload 5) 2 = true ∧ dq 197 76 (.lconst 0) 1 = true ∧ dq 197 77 (.lcmp) 1 = true := by decide +kernel
theorem dX12_tickets_55 : decode (mB 197) 55 = .ok (.iconst 0, 1) := dqo gX12_tickets_55.1
theorem dX12_tickets_56 : decode (mB 197) 56 = .ok (.istore 4, 2) := dqo gX12_tickets_55.2.1
theorem dX12_tickets_58 : decode (mB 197) 58 = .ok (.iload 4, 2) := dqo gX12_tickets_55.2.2.1
theorem dX12_tickets_60 : decode (mB 197) 60 = .ok (.iload_n 3, 1) := dqo gX12_tickets_55.2.2.2.1
theorem dX12_tickets_61 : decode (mB 197) 61 = .ok (.if_icmp .ge 144, 3) := dqo gX12_tickets_55.2.2.2.2.1
theorem dX12_tickets_64 : decode (mB 197) 64 = .ok (.iload_n 2, 1) := dqo gX12_tickets_55.2.2.2.2.2.1
theorem dX12_tickets_65 : decode (mB 197) 65 = .ok (.i2l, 1) := dqo gX12_tickets_55.2.2.2.2.2.2.1
theorem dX12_tickets_66 : decode (mB 197) 66 = .ok (.iconst 3, 1) := dqo gX12_tickets_55.2.2.2.2.2.2.2.1
theorem dX12_tickets_67 : decode (mB 197) 67 = .ok (.iload 4, 2) := dqo gX12_tickets_55.2.2.2.2.2.2.2.2.1
theorem dX12_tickets_69 : decode (mB 197) 69 = .ok (.imul, 1) := dqo gX12_tickets_55.2.2.2.2.2.2.2.2.2.1
theorem dX12_tickets_70 : decode (mB 197) 70 = .ok (.i2l, 1) := dqo gX12_tickets_55.2.2.2.2.2.2.2.2.2.2.1
theorem dX12_tickets_71 : decode (mB 197) 71 = .ok (.ladd, 1) := dqo gX12_tickets_55.2.2.2.2.2.2.2.2.2.2.2.1
theorem dX12_tickets_72 : decode (mB 197) 72 = .ok (.lstore 5, 2) := dqo gX12_tickets_55.2.2.2.2.2.2.2.2.2.2.2.2.1
theorem dX12_tickets_74 : decode (mB 197) 74 = .ok (.lload 5, 2) := dqo gX12_tickets_55.2.2.2.2.2.2.2.2.2.2.2.2.2.1
theorem dX12_tickets_76 : decode (mB 197) 76 = .ok (.lconst 0, 1) := dqo gX12_tickets_55.2.2.2.2.2.2.2.2.2.2.2.2.2.2.1
theorem dX12_tickets_77 : decode (mB 197) 77 = .ok (.lcmp, 1) := dqo gX12_tickets_55.2.2.2.2.2.2.2.2.2.2.2.2.2.2.2
theorem gX12_tickets_78 : dq 197 78 (.ifCond .lt 29) 3 = true ∧ dq 197 81 (.lload 5) 2 = true ∧ dq 197 83 (.ldc2_w 140) 3 = true ∧ dq 197 86 (.ladd) 1 = true ∧ dq 197 87 (.aload_n 0) 1 = true ∧ dq 197 88 (.getfield 101) 3 = true ∧ dq 197 91 (.iload_n 1) 1 = true ∧ dq 197 92 (.iaload) 1 = true ∧ dq 197 93 (.i2l) 1 = true ∧ dq 197 94 (.lcmp) 1 = true ∧ dq 197 95 (.ifCond .ge 12) 3 = true ∧ dq 197 98 (.aload_n 0) 1 = true ∧ dq 197 99 (.getfield 122) 3 = true ∧ dq 197 102 (.bipush 12) 2 = true ∧ dq 197 104 (.if_icmp .ne 6) 3 = true ∧ dq 197 107 (.iload 4) 2 = true := by decide +kernel
theorem dX12_tickets_78 : decode (mB 197) 78 = .ok (.ifCond .lt 29, 3) := dqo gX12_tickets_78.1
theorem dX12_tickets_81 : decode (mB 197) 81 = .ok (.lload 5, 2) := dqo gX12_tickets_78.2.1
theorem dX12_tickets_83 : decode (mB 197) 83 = .ok (.ldc2_w 140, 3) := dqo gX12_tickets_78.2.2.1
theorem dX12_tickets_86 : decode (mB 197) 86 = .ok (.ladd, 1) := dqo gX12_tickets_78.2.2.2.1
theorem dX12_tickets_87 : decode (mB 197) 87 = .ok (.aload_n 0, 1) := dqo gX12_tickets_78.2.2.2.2.1
theorem dX12_tickets_88 : decode (mB 197) 88 = .ok (.getfield 101, 3) := dqo gX12_tickets_78.2.2.2.2.2.1
theorem dX12_tickets_91 : decode (mB 197) 91 = .ok (.iload_n 1, 1) := dqo gX12_tickets_78.2.2.2.2.2.2.1
theorem dX12_tickets_92 : decode (mB 197) 92 = .ok (.iaload, 1) := dqo gX12_tickets_78.2.2.2.2.2.2.2.1
theorem dX12_tickets_93 : decode (mB 197) 93 = .ok (.i2l, 1) := dqo gX12_tickets_78.2.2.2.2.2.2.2.2.1
theorem dX12_tickets_94 : decode (mB 197) 94 = .ok (.lcmp, 1) := dqo gX12_tickets_78.2.2.2.2.2.2.2.2.2.1
theorem dX12_tickets_95 : decode (mB 197) 95 = .ok (.ifCond .ge 12, 3) := dqo gX12_tickets_78.2.2.2.2.2.2.2.2.2.2.1
theorem dX12_tickets_98 : decode (mB 197) 98 = .ok (.aload_n 0, 1) := dqo gX12_tickets_78.2.2.2.2.2.2.2.2.2.2.2.1
theorem dX12_tickets_99 : decode (mB 197) 99 = .ok (.getfield 122, 3) := dqo gX12_tickets_78.2.2.2.2.2.2.2.2.2.2.2.2.1
theorem dX12_tickets_102 : decode (mB 197) 102 = .ok (.bipush 12, 2) := dqo gX12_tickets_78.2.2.2.2.2.2.2.2.2.2.2.2.2.1
theorem dX12_tickets_104 : decode (mB 197) 104 = .ok (.if_icmp .ne 6, 3) := dqo gX12_tickets_78.2.2.2.2.2.2.2.2.2.2.2.2.2.2.1
theorem dX12_tickets_107 : decode (mB 197) 107 = .ok (.iload 4, 2) := dqo gX12_tickets_78.2.2.2.2.2.2.2.2.2.2.2.2.2.2.2
theorem gX12_tickets_109 : dq 197 109 (.ireturn) 1 = true ∧ dq 197 110 (.bipush 60) 2 = true ∧ dq 197 112 (.iload_n 1) 1 = true ∧ dq 197 113 (.imul) 1 = true ∧ dq 197 114 (.lload 5) 2 = true ∧ dq 197 116 (.l2i) 1 = true ∧ dq 197 117 (.iadd) 1 = true ∧ dq 197 118 (.istore 7) 2 = true ∧ dq 197 120 (.aload_n 0) 1 = true ∧ dq 197 121 (.aload_n 0) 1 = true ∧ dq 197 122 (.getfield 104) 3 = true ∧ dq 197 125 (.iload 7) 2 = true ∧ dq 197 127 (.laload) 1 = true ∧ dq 197 128 (.l2i) 1 = true ∧ dq 197 129 (.aload_n 0) 1 = true ∧ dq 197 130 (.getfield 104) 3 = true := by decide +kernel
theorem dX12_tickets_109 : decode (mB 197) 109 = .ok (.ireturn, 1) := dqo gX12_tickets_109.1
theorem dX12_tickets_110 : decode (mB 197) 110 = .ok (.bipush 60, 2) := dqo gX12_tickets_109.2.1
theorem dX12_tickets_112 : decode (mB 197) 112 = .ok (.iload_n 1, 1) := dqo gX12_tickets_109.2.2.1
theorem dX12_tickets_113 : decode (mB 197) 113 = .ok (.imul, 1) := dqo gX12_tickets_109.2.2.2.1
theorem dX12_tickets_114 : decode (mB 197) 114 = .ok (.lload 5, 2) := dqo gX12_tickets_109.2.2.2.2.1
theorem dX12_tickets_116 : decode (mB 197) 116 = .ok (.l2i, 1) := dqo gX12_tickets_109.2.2.2.2.2.1
theorem dX12_tickets_117 : decode (mB 197) 117 = .ok (.iadd, 1) := dqo gX12_tickets_109.2.2.2.2.2.2.1
theorem dX12_tickets_118 : decode (mB 197) 118 = .ok (.istore 7, 2) := dqo gX12_tickets_109.2.2.2.2.2.2.2.1
theorem dX12_tickets_120 : decode (mB 197) 120 = .ok (.aload_n 0, 1) := dqo gX12_tickets_109.2.2.2.2.2.2.2.2.1
theorem dX12_tickets_121 : decode (mB 197) 121 = .ok (.aload_n 0, 1) := dqo gX12_tickets_109.2.2.2.2.2.2.2.2.2.1
theorem dX12_tickets_122 : decode (mB 197) 122 = .ok (.getfield 104, 3) := dqo gX12_tickets_109.2.2.2.2.2.2.2.2.2.2.1
theorem dX12_tickets_125 : decode (mB 197) 125 = .ok (.iload 7, 2) := dqo gX12_tickets_109.2.2.2.2.2.2.2.2.2.2.2.1
theorem dX12_tickets_127 : decode (mB 197) 127 = .ok (.laload, 1) := dqo gX12_tickets_109.2.2.2.2.2.2.2.2.2.2.2.2.1
theorem dX12_tickets_128 : decode (mB 197) 128 = .ok (.l2i, 1) := dqo gX12_tickets_109.2.2.2.2.2.2.2.2.2.2.2.2.2.1
theorem dX12_tickets_129 : decode (mB 197) 129 = .ok (.aload_n 0, 1) := dqo gX12_tickets_109.2.2.2.2.2.2.2.2.2.2.2.2.2.2.1
theorem dX12_tickets_130 : decode (mB 197) 130 = .ok (.getfield 104, 3) := dqo gX12_tickets_109.2.2.2.2.2.2.2.2.2.2.2.2.2.2.2
theorem gX12_tickets_133 : dq 197 133 (.iload 7) 2 = true ∧ dq 197 135 (.iconst 1) 1 = true ∧ dq 197 136 (.iadd) 1 = true ∧ dq 197 137 (.laload) 1 = true ∧ dq 197 138 (.l2i) 1 = true ∧ dq 197 139 (.invokevirtual 129) 3 = true ∧ dq 197 142 (.ifCond .eq 21) 3 = true ∧ dq 197 145 (.aload_n 0) 1 = true ∧ dq 197 146 (.getfield 104) 3 = true ∧ dq 197 149 (.iload 7) 2 = true ∧ dq 197 151 (.iconst 2) 1 = true ∧ dq 197 152 (.iadd) 1 = true ∧ dq 197 153 (.laload) 1 = true ∧ dq 197 154 (.l2i) 1 = true ∧ dq 197 155 (.iconst 0) 1 = true ∧ dq 197 156 (.iconst 4) 1 = true := by decide +kernel
theorem dX12_tickets_133 : decode (mB 197) 133 = .ok (.iload 7, 2) := dqo gX12_tickets_133.1
theorem dX12_tickets_135 : decode (mB 197) 135 = .ok (.iconst 1, 1) := dqo gX12_tickets_133.2.1
theorem dX12_tickets_136 : decode (mB 197) 136 = .ok (.iadd, 1) := dqo gX12_tickets_133.2.2.1
theorem dX12_tickets_137 : decode (mB 197) 137 = .ok (.laload, 1) := dqo gX12_tickets_133.2.2.2.1
theorem dX12_tickets_138 : decode (mB 197) 138 = .ok (.l2i, 1) := dqo gX12_tickets_133.2.2.2.2.1
theorem dX12_tickets_139 : decode (mB 197) 139 = .ok (.invokevirtual 129, 3) := dqo gX12_tickets_133.2.2.2.2.2.1
theorem dX12_tickets_142 : decode (mB 197) 142 = .ok (.ifCond .eq 21, 3) := dqo gX12_tickets_133.2.2.2.2.2.2.1
theorem dX12_tickets_145 : decode (mB 197) 145 = .ok (.aload_n 0, 1) := dqo gX12_tickets_133.2.2.2.2.2.2.2.1
theorem dX12_tickets_146 : decode (mB 197) 146 = .ok (.getfield 104, 3) := dqo gX12_tickets_133.2.2.2.2.2.2.2.2.1
theorem dX12_tickets_149 : decode (mB 197) 149 = .ok (.iload 7, 2) := dqo gX12_tickets_133.2.2.2.2.2.2.2.2.2.1
theorem dX12_tickets_151 : decode (mB 197) 151 = .ok (.iconst 2, 1) := dqo gX12_tickets_133.2.2.2.2.2.2.2.2.2.2.1
theorem dX12_tickets_152 : decode (mB 197) 152 = .ok (.iadd, 1) := dqo gX12_tickets_133.2.2.2.2.2.2.2.2.2.2.2.1
theorem dX12_tickets_153 : decode (mB 197) 153 = .ok (.laload, 1) := dqo gX12_tickets_133.2.2.2.2.2.2.2.2.2.2.2.2.1
theorem dX12_tickets_154 : decode (mB 197) 154 = .ok (.l2i, 1) := dqo gX12_tickets_133.2.2.2.2.2.2.2.2.2.2.2.2.2.1
theorem dX12_tickets_155 : decode (mB 197) 155 = .ok (.iconst 0, 1) := dqo gX12_tickets_133.2.2.2.2.2.2.2.2.2.2.2.2.2.2.1
theorem dX12_tickets_156 : decode (mB 197) 156 = .ok (.iconst 4, 1) := dqo gX12_tickets_133.2.2.2.2.2.2.2.2.2.2.2.2.2.2.2
theorem gX12_tickets_157 : dq 197 157 (.invokestatic 118) 3 = true ∧ dq 197 160 (.ifCond .ne 6) 3 = true ∧ dq 197 163 (.iload 4) 2 = true ∧ dq 197 165 (.ireturn) 1 = true ∧ dq 197 166 (.aload_n 0) 1 = true ∧ dq 197 167 (.aload_n 0) 1 = true ∧ dq 197 168 (.getfield 104) 3 = true ∧ dq 197 171 (.iload 7) 2 = true ∧ dq 197 173 (.laload) 1 = true ∧ dq 197 174 (.l2i) 1 = true ∧ dq 197 175 (.aload_n 0) 1 = true ∧ dq 197 176 (.getfield 104) 3 = true ∧ dq 197 179 (.iload 7) 2 = true ∧ dq 197 181 (.iconst 1) 1 = true ∧ dq 197 182 (.iadd) 1 = true ∧ dq 197 183 (.laload) 1 = true := by decide +kernel
theorem dX12_tickets_157 : decode (mB 197) 157 = .ok (.invokestatic 118, 3) := dqo gX12_tickets_157.1
theorem dX12_tickets_160 : decode (mB 197) 160 = .ok (.ifCond .ne 6, 3) := dqo gX12_tickets_157.2.1
theorem dX12_tickets_163 : decode (mB 197) 163 = .ok (.iload 4, 2) := dqo gX12_tickets_157.2.2.1
theorem dX12_tickets_165 : decode (mB 197) 165 = .ok (.ireturn, 1) := dqo gX12_tickets_157.2.2.2.1
theorem dX12_tickets_166 : decode (mB 197) 166 = .ok (.aload_n 0, 1) := dqo gX12_tickets_157.2.2.2.2.1
theorem dX12_tickets_167 : decode (mB 197) 167 = .ok (.aload_n 0, 1) := dqo gX12_tickets_157.2.2.2.2.2.1
theorem dX12_tickets_168 : decode (mB 197) 168 = .ok (.getfield 104, 3) := dqo gX12_tickets_157.2.2.2.2.2.2.1
theorem dX12_tickets_171 : decode (mB 197) 171 = .ok (.iload 7, 2) := dqo gX12_tickets_157.2.2.2.2.2.2.2.1
theorem dX12_tickets_173 : decode (mB 197) 173 = .ok (.laload, 1) := dqo gX12_tickets_157.2.2.2.2.2.2.2.2.1
theorem dX12_tickets_174 : decode (mB 197) 174 = .ok (.l2i, 1) := dqo gX12_tickets_157.2.2.2.2.2.2.2.2.2.1
theorem dX12_tickets_175 : decode (mB 197) 175 = .ok (.aload_n 0, 1) := dqo gX12_tickets_157.2.2.2.2.2.2.2.2.2.2.1
theorem dX12_tickets_176 : decode (mB 197) 176 = .ok (.getfield 104, 3) := dqo gX12_tickets_157.2.2.2.2.2.2.2.2.2.2.2.1
theorem dX12_tickets_179 : decode (mB 197) 179 = .ok (.iload 7, 2) := dqo gX12_tickets_157.2.2.2.2.2.2.2.2.2.2.2.2.1
theorem dX12_tickets_181 : decode (mB 197) 181 = .ok (.iconst 1, 1) := dqo gX12_tickets_157.2.2.2.2.2.2.2.2.2.2.2.2.2.1
theorem dX12_tickets_182 : decode (mB 197) 182 = .ok (.iadd, 1) := dqo gX12_tickets_157.2.2.2.2.2.2.2.2.2.2.2.2.2.2.1
theorem dX12_tickets_183 : decode (mB 197) 183 = .ok (.laload, 1) := dqo gX12_tickets_157.2.2.2.2.2.2.2.2.2.2.2.2.2.2.2
theorem gX12_tickets_184 : dq 197 184 (.l2i) 1 = true ∧ dq 197 185 (.aload_n 0) 1 = true ∧ dq 197 186 (.getfield 104) 3 = true ∧ dq 197 189 (.iload 7) 2 = true ∧ dq 197 191 (.iconst 2) 1 = true ∧ dq 197 192 (.iadd) 1 = true ∧ dq 197 193 (.laload) 1 = true ∧ dq 197 194 (.l2i) 1 = true ∧ dq 197 195 (.invokevirtual 133) 3 = true ∧ dq 197 198 (.pop) 1 = true ∧ dq 197 199 (.iinc 4 1) 3 = true ∧ dq 197 202 (.goto (-144)) 3 = true ∧ dq 197 205 (.iload_n 3) 1 = true ∧ dq 197 206 (.ireturn) 1 = true := by decide +kernel
theorem dX12_tickets_184 : decode (mB 197) 184 = .ok (.l2i, 1) := dqo gX12_tickets_184.1
theorem dX12_tickets_185 : decode (mB 197) 185 = .ok (.aload_n 0, 1) := dqo gX12_tickets_184.2.1
theorem dX12_tickets_186 : decode (mB 197) 186 = .ok (.getfield 104, 3) := dqo gX12_tickets_184.2.2.1
theorem dX12_tickets_189 : decode (mB 197) 189 = .ok (.iload 7, 2) := dqo gX12_tickets_184.2.2.2.1
theorem dX12_tickets_191 : decode (mB 197) 191 = .ok (.iconst 2, 1) := dqo gX12_tickets_184.2.2.2.2.1
theorem dX12_tickets_192 : decode (mB 197) 192 = .ok (.iadd, 1) := dqo gX12_tickets_184.2.2.2.2.2.1
theorem dX12_tickets_193 : decode (mB 197) 193 = .ok (.laload, 1) := dqo gX12_tickets_184.2.2.2.2.2.2.1
theorem dX12_tickets_194 : decode (mB 197) 194 = .ok (.l2i, 1) := dqo gX12_tickets_184.2.2.2.2.2.2.2.1
theorem dX12_tickets_195 : decode (mB 197) 195 = .ok (.invokevirtual 133, 3) := dqo gX12_tickets_184.2.2.2.2.2.2.2.2.1
theorem dX12_tickets_198 : decode (mB 197) 198 = .ok (.pop, 1) := dqo gX12_tickets_184.2.2.2.2.2.2.2.2.2.1
theorem dX12_tickets_199 : decode (mB 197) 199 = .ok (.iinc 4 1, 3) := dqo gX12_tickets_184.2.2.2.2.2.2.2.2.2.2.1
theorem dX12_tickets_202 : decode (mB 197) 202 = .ok (.goto (-144), 3) := dqo gX12_tickets_184.2.2.2.2.2.2.2.2.2.2.2.1
theorem dX12_tickets_205 : decode (mB 197) 205 = .ok (.iload_n 3, 1) := dqo gX12_tickets_184.2.2.2.2.2.2.2.2.2.2.2.2.1
theorem dX12_tickets_206 : decode (mB 197) 206 = .ok (.ireturn, 1) := dqo gX12_tickets_184.2.2.2.2.2.2.2.2.2.2.2.2.2
theorem gX12_valueAt_0 : dq 198 0 (.iload_n 1) 1 = true ∧ dq 198 1 (.tableswitch 92 0 6 #[43, 50, 57, 64, 71, 78, 85]) 43 = true ∧ dq 198 44 (.aload_n 0) 1 = true ∧ dq 198 45 (.getfield 9) 3 = true ∧ dq 198 48 (.iload_n 2) 1 = true ∧ dq 198 49 (.iaload) 1 = true ∧ dq 198 50 (.ireturn) 1 = true ∧ dq 198 51 (.aload_n 0) 1 = true ∧ dq 198 52 (.getfield 15) 3 = true ∧ dq 198 55 (.iload_n 2) 1 = true ∧ dq 198 56 (.iaload) 1 = true ∧ dq 198 57 (.ireturn) 1 = true ∧ dq 198 58 (.aload_n 0) 1 = true ∧ dq 198 59 (.getfield 18) 3 = true ∧ dq 198 62 (.iload_n 2) 1 = true ∧ dq 198 63 (.iaload) 1 = true := by decide +kernel
theorem dX12_valueAt_0 : decode (mB 198) 0 = .ok (.iload_n 1, 1) := dqo gX12_valueAt_0.1
theorem dX12_valueAt_1 : decode (mB 198) 1 = .ok (.tableswitch 92 0 6 #[43, 50, 57, 64, 71, 78, 85], 43) := dqo gX12_valueAt_0.2.1
theorem dX12_valueAt_44 : decode (mB 198) 44 = .ok (.aload_n 0, 1) := dqo gX12_valueAt_0.2.2.1
theorem dX12_valueAt_45 : decode (mB 198) 45 = .ok (.getfield 9, 3) := dqo gX12_valueAt_0.2.2.2.1
theorem dX12_valueAt_48 : decode (mB 198) 48 = .ok (.iload_n 2, 1) := dqo gX12_valueAt_0.2.2.2.2.1
theorem dX12_valueAt_49 : decode (mB 198) 49 = .ok (.iaload, 1) := dqo gX12_valueAt_0.2.2.2.2.2.1
theorem dX12_valueAt_50 : decode (mB 198) 50 = .ok (.ireturn, 1) := dqo gX12_valueAt_0.2.2.2.2.2.2.1
theorem dX12_valueAt_51 : decode (mB 198) 51 = .ok (.aload_n 0, 1) := dqo gX12_valueAt_0.2.2.2.2.2.2.2.1
theorem dX12_valueAt_52 : decode (mB 198) 52 = .ok (.getfield 15, 3) := dqo gX12_valueAt_0.2.2.2.2.2.2.2.2.1
theorem dX12_valueAt_55 : decode (mB 198) 55 = .ok (.iload_n 2, 1) := dqo gX12_valueAt_0.2.2.2.2.2.2.2.2.2.1
theorem dX12_valueAt_56 : decode (mB 198) 56 = .ok (.iaload, 1) := dqo gX12_valueAt_0.2.2.2.2.2.2.2.2.2.2.1
theorem dX12_valueAt_57 : decode (mB 198) 57 = .ok (.ireturn, 1) := dqo gX12_valueAt_0.2.2.2.2.2.2.2.2.2.2.2.1
theorem dX12_valueAt_58 : decode (mB 198) 58 = .ok (.aload_n 0, 1) := dqo gX12_valueAt_0.2.2.2.2.2.2.2.2.2.2.2.2.1
theorem dX12_valueAt_59 : decode (mB 198) 59 = .ok (.getfield 18, 3) := dqo gX12_valueAt_0.2.2.2.2.2.2.2.2.2.2.2.2.2.1
theorem dX12_valueAt_62 : decode (mB 198) 62 = .ok (.iload_n 2, 1) := dqo gX12_valueAt_0.2.2.2.2.2.2.2.2.2.2.2.2.2.2.1
theorem dX12_valueAt_63 : decode (mB 198) 63 = .ok (.iaload, 1) := dqo gX12_valueAt_0.2.2.2.2.2.2.2.2.2.2.2.2.2.2.2
theorem gX12_valueAt_64 : dq 198 64 (.ireturn) 1 = true ∧ dq 198 65 (.aload_n 0) 1 = true ∧ dq 198 66 (.getfield 21) 3 = true ∧ dq 198 69 (.iload_n 2) 1 = true ∧ dq 198 70 (.iaload) 1 = true ∧ dq 198 71 (.ireturn) 1 = true ∧ dq 198 72 (.aload_n 0) 1 = true ∧ dq 198 73 (.getfield 24) 3 = true ∧ dq 198 76 (.iload_n 2) 1 = true ∧ dq 198 77 (.iaload) 1 = true ∧ dq 198 78 (.ireturn) 1 = true ∧ dq 198 79 (.aload_n 0) 1 = true ∧ dq 198 80 (.getfield 27) 3 = true ∧ dq 198 83 (.iload_n 2) 1 = true ∧ dq 198 84 (.iaload) 1 = true ∧ dq 198 85 (.ireturn) 1 = true := by decide +kernel
theorem dX12_valueAt_64 : decode (mB 198) 64 = .ok (.ireturn, 1) := dqo gX12_valueAt_64.1
theorem dX12_valueAt_65 : decode (mB 198) 65 = .ok (.aload_n 0, 1) := dqo gX12_valueAt_64.2.1
theorem dX12_valueAt_66 : decode (mB 198) 66 = .ok (.getfield 21, 3) := dqo gX12_valueAt_64.2.2.1
theorem dX12_valueAt_69 : decode (mB 198) 69 = .ok (.iload_n 2, 1) := dqo gX12_valueAt_64.2.2.2.1
theorem dX12_valueAt_70 : decode (mB 198) 70 = .ok (.iaload, 1) := dqo gX12_valueAt_64.2.2.2.2.1
theorem dX12_valueAt_71 : decode (mB 198) 71 = .ok (.ireturn, 1) := dqo gX12_valueAt_64.2.2.2.2.2.1
theorem dX12_valueAt_72 : decode (mB 198) 72 = .ok (.aload_n 0, 1) := dqo gX12_valueAt_64.2.2.2.2.2.2.1
theorem dX12_valueAt_73 : decode (mB 198) 73 = .ok (.getfield 24, 3) := dqo gX12_valueAt_64.2.2.2.2.2.2.2.1
theorem dX12_valueAt_76 : decode (mB 198) 76 = .ok (.iload_n 2, 1) := dqo gX12_valueAt_64.2.2.2.2.2.2.2.2.1
theorem dX12_valueAt_77 : decode (mB 198) 77 = .ok (.iaload, 1) := dqo gX12_valueAt_64.2.2.2.2.2.2.2.2.2.1
theorem dX12_valueAt_78 : decode (mB 198) 78 = .ok (.ireturn, 1) := dqo gX12_valueAt_64.2.2.2.2.2.2.2.2.2.2.1
theorem dX12_valueAt_79 : decode (mB 198) 79 = .ok (.aload_n 0, 1) := dqo gX12_valueAt_64.2.2.2.2.2.2.2.2.2.2.2.1
theorem dX12_valueAt_80 : decode (mB 198) 80 = .ok (.getfield 27, 3) := dqo gX12_valueAt_64.2.2.2.2.2.2.2.2.2.2.2.2.1
theorem dX12_valueAt_83 : decode (mB 198) 83 = .ok (.iload_n 2, 1) := dqo gX12_valueAt_64.2.2.2.2.2.2.2.2.2.2.2.2.2.1
theorem dX12_valueAt_84 : decode (mB 198) 84 = .ok (.iaload, 1) := dqo gX12_valueAt_64.2.2.2.2.2.2.2.2.2.2.2.2.2.2.1
theorem dX12_valueAt_85 : decode (mB 198) 85 = .ok (.ireturn, 1) := dqo gX12_valueAt_64.2.2.2.2.2.2.2.2.2.2.2.2.2.2.2
theorem gX12_valueAt_86 : dq 198 86 (.aload_n 0) 1 = true ∧ dq 198 87 (.getfield 30) 3 = true ∧ dq 198 90 (.iload_n 2) 1 = true ∧ dq 198 91 (.iaload) 1 = true ∧ dq 198 92 (.ireturn) 1 = true ∧ dq 198 93 (.aload_n 0) 1 = true ∧ dq 198 94 (.getfield 33) 3 = true ∧ dq 198 97 (.iload_n 1) 1 = true ∧ dq 198 98 (.bipush 7) 2 = true ∧ dq 198 100 (.isub) 1 = true ∧ dq 198 101 (.iaload) 1 = true ∧ dq 198 102 (.ireturn) 1 = true := by decide +kernel
theorem dX12_valueAt_86 : decode (mB 198) 86 = .ok (.aload_n 0, 1) := dqo gX12_valueAt_86.1
theorem dX12_valueAt_87 : decode (mB 198) 87 = .ok (.getfield 30, 3) := dqo gX12_valueAt_86.2.1
theorem dX12_valueAt_90 : decode (mB 198) 90 = .ok (.iload_n 2, 1) := dqo gX12_valueAt_86.2.2.1
theorem dX12_valueAt_91 : decode (mB 198) 91 = .ok (.iaload, 1) := dqo gX12_valueAt_86.2.2.2.1
theorem dX12_valueAt_92 : decode (mB 198) 92 = .ok (.ireturn, 1) := dqo gX12_valueAt_86.2.2.2.2.1
theorem dX12_valueAt_93 : decode (mB 198) 93 = .ok (.aload_n 0, 1) := dqo gX12_valueAt_86.2.2.2.2.2.1
theorem dX12_valueAt_94 : decode (mB 198) 94 = .ok (.getfield 33, 3) := dqo gX12_valueAt_86.2.2.2.2.2.2.1
theorem dX12_valueAt_97 : decode (mB 198) 97 = .ok (.iload_n 1, 1) := dqo gX12_valueAt_86.2.2.2.2.2.2.2.1
theorem dX12_valueAt_98 : decode (mB 198) 98 = .ok (.bipush 7, 2) := dqo gX12_valueAt_86.2.2.2.2.2.2.2.2.1
theorem dX12_valueAt_100 : decode (mB 198) 100 = .ok (.isub, 1) := dqo gX12_valueAt_86.2.2.2.2.2.2.2.2.2.1
theorem dX12_valueAt_101 : decode (mB 198) 101 = .ok (.iaload, 1) := dqo gX12_valueAt_86.2.2.2.2.2.2.2.2.2.2.1
theorem dX12_valueAt_102 : decode (mB 198) 102 = .ok (.ireturn, 1) := dqo gX12_valueAt_86.2.2.2.2.2.2.2.2.2.2.2
theorem gX12_lays_0 : dq 199 0 (.iload_n 1) 1 = true ∧ dq 199 1 (.tableswitch 113 0 6 #[43, 53, 63, 73, 83, 93, 103]) 43 = true ∧ dq 199 44 (.aload_n 0) 1 = true ∧ dq 199 45 (.getfield 9) 3 = true ∧ dq 199 48 (.iload_n 2) 1 = true ∧ dq 199 49 (.iload_n 3) 1 = true ∧ dq 199 50 (.iastore) 1 = true ∧ dq 199 51 (.goto 73) 3 = true ∧ dq 199 54 (.aload_n 0) 1 = true ∧ dq 199 55 (.getfield 15) 3 = true ∧ dq 199 58 (.iload_n 2) 1 = true ∧ dq 199 59 (.iload_n 3) 1 = true ∧ dq 199 60 (.iastore) 1 = true ∧ dq 199 61 (.goto 63) 3 = true ∧ dq 199 64 (.aload_n 0) 1 = true ∧ dq 199 65 (.getfield 18) 3 = true := by decide +kernel
theorem dX12_lays_0 : decode (mB 199) 0 = .ok (.iload_n 1, 1) := dqo gX12_lays_0.1
theorem dX12_lays_1 : decode (mB 199) 1 = .ok (.tableswitch 113 0 6 #[43, 53, 63, 73, 83, 93, 103], 43) := dqo gX12_lays_0.2.1
theorem dX12_lays_44 : decode (mB 199) 44 = .ok (.aload_n 0, 1) := dqo gX12_lays_0.2.2.1
theorem dX12_lays_45 : decode (mB 199) 45 = .ok (.getfield 9, 3) := dqo gX12_lays_0.2.2.2.1
theorem dX12_lays_48 : decode (mB 199) 48 = .ok (.iload_n 2, 1) := dqo gX12_lays_0.2.2.2.2.1
theorem dX12_lays_49 : decode (mB 199) 49 = .ok (.iload_n 3, 1) := dqo gX12_lays_0.2.2.2.2.2.1
theorem dX12_lays_50 : decode (mB 199) 50 = .ok (.iastore, 1) := dqo gX12_lays_0.2.2.2.2.2.2.1
theorem dX12_lays_51 : decode (mB 199) 51 = .ok (.goto 73, 3) := dqo gX12_lays_0.2.2.2.2.2.2.2.1
theorem dX12_lays_54 : decode (mB 199) 54 = .ok (.aload_n 0, 1) := dqo gX12_lays_0.2.2.2.2.2.2.2.2.1
theorem dX12_lays_55 : decode (mB 199) 55 = .ok (.getfield 15, 3) := dqo gX12_lays_0.2.2.2.2.2.2.2.2.2.1
theorem dX12_lays_58 : decode (mB 199) 58 = .ok (.iload_n 2, 1) := dqo gX12_lays_0.2.2.2.2.2.2.2.2.2.2.1
theorem dX12_lays_59 : decode (mB 199) 59 = .ok (.iload_n 3, 1) := dqo gX12_lays_0.2.2.2.2.2.2.2.2.2.2.2.1
theorem dX12_lays_60 : decode (mB 199) 60 = .ok (.iastore, 1) := dqo gX12_lays_0.2.2.2.2.2.2.2.2.2.2.2.2.1
theorem dX12_lays_61 : decode (mB 199) 61 = .ok (.goto 63, 3) := dqo gX12_lays_0.2.2.2.2.2.2.2.2.2.2.2.2.2.1
theorem dX12_lays_64 : decode (mB 199) 64 = .ok (.aload_n 0, 1) := dqo gX12_lays_0.2.2.2.2.2.2.2.2.2.2.2.2.2.2.1
theorem dX12_lays_65 : decode (mB 199) 65 = .ok (.getfield 18, 3) := dqo gX12_lays_0.2.2.2.2.2.2.2.2.2.2.2.2.2.2.2
theorem gX12_lays_68 : dq 199 68 (.iload_n 2) 1 = true ∧ dq 199 69 (.iload_n 3) 1 = true ∧ dq 199 70 (.iastore) 1 = true ∧ dq 199 71 (.goto 53) 3 = true ∧ dq 199 74 (.aload_n 0) 1 = true ∧ dq 199 75 (.getfield 21) 3 = true ∧ dq 199 78 (.iload_n 2) 1 = true ∧ dq 199 79 (.iload_n 3) 1 = true ∧ dq 199 80 (.iastore) 1 = true ∧ dq 199 81 (.goto 43) 3 = true ∧ dq 199 84 (.aload_n 0) 1 = true ∧ dq 199 85 (.getfield 24) 3 = true ∧ dq 199 88 (.iload_n 2) 1 = true ∧ dq 199 89 (.iload_n 3) 1 = true ∧ dq 199 90 (.iastore) 1 = true ∧ dq 199 91 (.goto 33) 3 = true := by decide +kernel
theorem dX12_lays_68 : decode (mB 199) 68 = .ok (.iload_n 2, 1) := dqo gX12_lays_68.1
theorem dX12_lays_69 : decode (mB 199) 69 = .ok (.iload_n 3, 1) := dqo gX12_lays_68.2.1
theorem dX12_lays_70 : decode (mB 199) 70 = .ok (.iastore, 1) := dqo gX12_lays_68.2.2.1
theorem dX12_lays_71 : decode (mB 199) 71 = .ok (.goto 53, 3) := dqo gX12_lays_68.2.2.2.1
theorem dX12_lays_74 : decode (mB 199) 74 = .ok (.aload_n 0, 1) := dqo gX12_lays_68.2.2.2.2.1
theorem dX12_lays_75 : decode (mB 199) 75 = .ok (.getfield 21, 3) := dqo gX12_lays_68.2.2.2.2.2.1
theorem dX12_lays_78 : decode (mB 199) 78 = .ok (.iload_n 2, 1) := dqo gX12_lays_68.2.2.2.2.2.2.1
theorem dX12_lays_79 : decode (mB 199) 79 = .ok (.iload_n 3, 1) := dqo gX12_lays_68.2.2.2.2.2.2.2.1
theorem dX12_lays_80 : decode (mB 199) 80 = .ok (.iastore, 1) := dqo gX12_lays_68.2.2.2.2.2.2.2.2.1
theorem dX12_lays_81 : decode (mB 199) 81 = .ok (.goto 43, 3) := dqo gX12_lays_68.2.2.2.2.2.2.2.2.2.1
theorem dX12_lays_84 : decode (mB 199) 84 = .ok (.aload_n 0, 1) := dqo gX12_lays_68.2.2.2.2.2.2.2.2.2.2.1
theorem dX12_lays_85 : decode (mB 199) 85 = .ok (.getfield 24, 3) := dqo gX12_lays_68.2.2.2.2.2.2.2.2.2.2.2.1
theorem dX12_lays_88 : decode (mB 199) 88 = .ok (.iload_n 2, 1) := dqo gX12_lays_68.2.2.2.2.2.2.2.2.2.2.2.2.1
theorem dX12_lays_89 : decode (mB 199) 89 = .ok (.iload_n 3, 1) := dqo gX12_lays_68.2.2.2.2.2.2.2.2.2.2.2.2.2.1
theorem dX12_lays_90 : decode (mB 199) 90 = .ok (.iastore, 1) := dqo gX12_lays_68.2.2.2.2.2.2.2.2.2.2.2.2.2.2.1
theorem dX12_lays_91 : decode (mB 199) 91 = .ok (.goto 33, 3) := dqo gX12_lays_68.2.2.2.2.2.2.2.2.2.2.2.2.2.2.2
theorem gX12_lays_94 : dq 199 94 (.aload_n 0) 1 = true ∧ dq 199 95 (.getfield 27) 3 = true ∧ dq 199 98 (.iload_n 2) 1 = true ∧ dq 199 99 (.iload_n 3) 1 = true ∧ dq 199 100 (.iastore) 1 = true ∧ dq 199 101 (.goto 23) 3 = true ∧ dq 199 104 (.aload_n 0) 1 = true ∧ dq 199 105 (.getfield 30) 3 = true ∧ dq 199 108 (.iload_n 2) 1 = true ∧ dq 199 109 (.iload_n 3) 1 = true ∧ dq 199 110 (.iastore) 1 = true ∧ dq 199 111 (.goto 13) 3 = true ∧ dq 199 114 (.aload_n 0) 1 = true ∧ dq 199 115 (.getfield 33) 3 = true ∧ dq 199 118 (.iload_n 1) 1 = true ∧ dq 199 119 (.bipush 7) 2 = true := by decide +kernel
theorem dX12_lays_94 : decode (mB 199) 94 = .ok (.aload_n 0, 1) := dqo gX12_lays_94.1
theorem dX12_lays_95 : decode (mB 199) 95 = .ok (.getfield 27, 3) := dqo gX12_lays_94.2.1
theorem dX12_lays_98 : decode (mB 199) 98 = .ok (.iload_n 2, 1) := dqo gX12_lays_94.2.2.1
theorem dX12_lays_99 : decode (mB 199) 99 = .ok (.iload_n 3, 1) := dqo gX12_lays_94.2.2.2.1
theorem dX12_lays_100 : decode (mB 199) 100 = .ok (.iastore, 1) := dqo gX12_lays_94.2.2.2.2.1
theorem dX12_lays_101 : decode (mB 199) 101 = .ok (.goto 23, 3) := dqo gX12_lays_94.2.2.2.2.2.1
theorem dX12_lays_104 : decode (mB 199) 104 = .ok (.aload_n 0, 1) := dqo gX12_lays_94.2.2.2.2.2.2.1
theorem dX12_lays_105 : decode (mB 199) 105 = .ok (.getfield 30, 3) := dqo gX12_lays_94.2.2.2.2.2.2.2.1
theorem dX12_lays_108 : decode (mB 199) 108 = .ok (.iload_n 2, 1) := dqo gX12_lays_94.2.2.2.2.2.2.2.2.1
theorem dX12_lays_109 : decode (mB 199) 109 = .ok (.iload_n 3, 1) := dqo gX12_lays_94.2.2.2.2.2.2.2.2.2.1
theorem dX12_lays_110 : decode (mB 199) 110 = .ok (.iastore, 1) := dqo gX12_lays_94.2.2.2.2.2.2.2.2.2.2.1
theorem dX12_lays_111 : decode (mB 199) 111 = .ok (.goto 13, 3) := dqo gX12_lays_94.2.2.2.2.2.2.2.2.2.2.2.1
theorem dX12_lays_114 : decode (mB 199) 114 = .ok (.aload_n 0, 1) := dqo gX12_lays_94.2.2.2.2.2.2.2.2.2.2.2.2.1
theorem dX12_lays_115 : decode (mB 199) 115 = .ok (.getfield 33, 3) := dqo gX12_lays_94.2.2.2.2.2.2.2.2.2.2.2.2.2.1
theorem dX12_lays_118 : decode (mB 199) 118 = .ok (.iload_n 1, 1) := dqo gX12_lays_94.2.2.2.2.2.2.2.2.2.2.2.2.2.2.1
theorem dX12_lays_119 : decode (mB 199) 119 = .ok (.bipush 7, 2) := dqo gX12_lays_94.2.2.2.2.2.2.2.2.2.2.2.2.2.2.2
theorem gX12_lays_121 : dq 199 121 (.isub) 1 = true ∧ dq 199 122 (.iload_n 3) 1 = true ∧ dq 199 123 (.iastore) 1 = true ∧ dq 199 124 (.return_) 1 = true := by decide +kernel
theorem dX12_lays_121 : decode (mB 199) 121 = .ok (.isub, 1) := dqo gX12_lays_121.1
theorem dX12_lays_122 : decode (mB 199) 122 = .ok (.iload_n 3, 1) := dqo gX12_lays_121.2.1
theorem dX12_lays_123 : decode (mB 199) 123 = .ok (.iastore, 1) := dqo gX12_lays_121.2.2.1
theorem dX12_lays_124 : decode (mB 199) 124 = .ok (.return_, 1) := dqo gX12_lays_121.2.2.2
theorem gX12_changes_0 : dq 200 0 (.aload_n 0) 1 = true ∧ dq 200 1 (.iload_n 1) 1 = true ∧ dq 200 2 (.iload_n 2) 1 = true ∧ dq 200 3 (.invokevirtual 142) 3 = true ∧ dq 200 6 (.istore 4) 2 = true ∧ dq 200 8 (.iload 4) 2 = true ∧ dq 200 10 (.iload_n 3) 1 = true ∧ dq 200 11 (.if_icmp .ne 6) 3 = true ∧ dq 200 14 (.iload 4) 2 = true ∧ dq 200 16 (.ireturn) 1 = true ∧ dq 200 17 (.aload_n 0) 1 = true ∧ dq 200 18 (.iconst 0) 1 = true ∧ dq 200 19 (.putfield 146) 3 = true ∧ dq 200 22 (.aload_n 0) 1 = true ∧ dq 200 23 (.getfield 149) 3 = true ∧ dq 200 26 (.bipush 40) 2 = true := by decide +kernel
theorem dX12_changes_0 : decode (mB 200) 0 = .ok (.aload_n 0, 1) := dqo gX12_changes_0.1
theorem dX12_changes_1 : decode (mB 200) 1 = .ok (.iload_n 1, 1) := dqo gX12_changes_0.2.1
theorem dX12_changes_2 : decode (mB 200) 2 = .ok (.iload_n 2, 1) := dqo gX12_changes_0.2.2.1
theorem dX12_changes_3 : decode (mB 200) 3 = .ok (.invokevirtual 142, 3) := dqo gX12_changes_0.2.2.2.1
theorem dX12_changes_6 : decode (mB 200) 6 = .ok (.istore 4, 2) := dqo gX12_changes_0.2.2.2.2.1
theorem dX12_changes_8 : decode (mB 200) 8 = .ok (.iload 4, 2) := dqo gX12_changes_0.2.2.2.2.2.1
theorem dX12_changes_10 : decode (mB 200) 10 = .ok (.iload_n 3, 1) := dqo gX12_changes_0.2.2.2.2.2.2.1
theorem dX12_changes_11 : decode (mB 200) 11 = .ok (.if_icmp .ne 6, 3) := dqo gX12_changes_0.2.2.2.2.2.2.2.1
theorem dX12_changes_14 : decode (mB 200) 14 = .ok (.iload 4, 2) := dqo gX12_changes_0.2.2.2.2.2.2.2.2.1
theorem dX12_changes_16 : decode (mB 200) 16 = .ok (.ireturn, 1) := dqo gX12_changes_0.2.2.2.2.2.2.2.2.2.1
theorem dX12_changes_17 : decode (mB 200) 17 = .ok (.aload_n 0, 1) := dqo gX12_changes_0.2.2.2.2.2.2.2.2.2.2.1
theorem dX12_changes_18 : decode (mB 200) 18 = .ok (.iconst 0, 1) := dqo gX12_changes_0.2.2.2.2.2.2.2.2.2.2.2.1
theorem dX12_changes_19 : decode (mB 200) 19 = .ok (.putfield 146, 3) := dqo gX12_changes_0.2.2.2.2.2.2.2.2.2.2.2.2.1
theorem dX12_changes_22 : decode (mB 200) 22 = .ok (.aload_n 0, 1) := dqo gX12_changes_0.2.2.2.2.2.2.2.2.2.2.2.2.2.1
theorem dX12_changes_23 : decode (mB 200) 23 = .ok (.getfield 149, 3) := dqo gX12_changes_0.2.2.2.2.2.2.2.2.2.2.2.2.2.2.1
theorem dX12_changes_26 : decode (mB 200) 26 = .ok (.bipush 40, 2) := dqo gX12_changes_0.2.2.2.2.2.2.2.2.2.2.2.2.2.2.2
theorem gX12_changes_28 : dq 200 28 (.if_icmp .ne 93) 3 = true ∧ dq 200 31 (.iconst 1) 1 = true ∧ dq 200 32 (.istore 5) 2 = true ∧ dq 200 34 (.iload 5) 2 = true ∧ dq 200 36 (.bipush 40) 2 = true ∧ dq 200 38 (.if_icmp .ge 73) 3 = true ∧ dq 200 41 (.aload_n 0) 1 = true ∧ dq 200 42 (.getfield 36) 3 = true ∧ dq 200 45 (.iload 5) 2 = true ∧ dq 200 47 (.iconst 1) 1 = true ∧ dq 200 48 (.isub) 1 = true ∧ dq 200 49 (.aload_n 0) 1 = true ∧ dq 200 50 (.getfield 36) 3 = true ∧ dq 200 53 (.iload 5) 2 = true ∧ dq 200 55 (.iaload) 1 = true ∧ dq 200 56 (.iastore) 1 = true := by decide +kernel
theorem dX12_changes_28 : decode (mB 200) 28 = .ok (.if_icmp .ne 93, 3) := dqo gX12_changes_28.1
theorem dX12_changes_31 : decode (mB 200) 31 = .ok (.iconst 1, 1) := dqo gX12_changes_28.2.1
theorem dX12_changes_32 : decode (mB 200) 32 = .ok (.istore 5, 2) := dqo gX12_changes_28.2.2.1
theorem dX12_changes_34 : decode (mB 200) 34 = .ok (.iload 5, 2) := dqo gX12_changes_28.2.2.2.1
theorem dX12_changes_36 : decode (mB 200) 36 = .ok (.bipush 40, 2) := dqo gX12_changes_28.2.2.2.2.1
theorem dX12_changes_38 : decode (mB 200) 38 = .ok (.if_icmp .ge 73, 3) := dqo gX12_changes_28.2.2.2.2.2.1
theorem dX12_changes_41 : decode (mB 200) 41 = .ok (.aload_n 0, 1) := dqo gX12_changes_28.2.2.2.2.2.2.1
theorem dX12_changes_42 : decode (mB 200) 42 = .ok (.getfield 36, 3) := dqo gX12_changes_28.2.2.2.2.2.2.2.1
theorem dX12_changes_45 : decode (mB 200) 45 = .ok (.iload 5, 2) := dqo gX12_changes_28.2.2.2.2.2.2.2.2.1
theorem dX12_changes_47 : decode (mB 200) 47 = .ok (.iconst 1, 1) := dqo gX12_changes_28.2.2.2.2.2.2.2.2.2.1
theorem dX12_changes_48 : decode (mB 200) 48 = .ok (.isub, 1) := dqo gX12_changes_28.2.2.2.2.2.2.2.2.2.2.1
theorem dX12_changes_49 : decode (mB 200) 49 = .ok (.aload_n 0, 1) := dqo gX12_changes_28.2.2.2.2.2.2.2.2.2.2.2.1
theorem dX12_changes_50 : decode (mB 200) 50 = .ok (.getfield 36, 3) := dqo gX12_changes_28.2.2.2.2.2.2.2.2.2.2.2.2.1
theorem dX12_changes_53 : decode (mB 200) 53 = .ok (.iload 5, 2) := dqo gX12_changes_28.2.2.2.2.2.2.2.2.2.2.2.2.2.1
theorem dX12_changes_55 : decode (mB 200) 55 = .ok (.iaload, 1) := dqo gX12_changes_28.2.2.2.2.2.2.2.2.2.2.2.2.2.2.1
theorem dX12_changes_56 : decode (mB 200) 56 = .ok (.iastore, 1) := dqo gX12_changes_28.2.2.2.2.2.2.2.2.2.2.2.2.2.2.2
theorem gX12_changes_57 : dq 200 57 (.aload_n 0) 1 = true ∧ dq 200 58 (.getfield 39) 3 = true ∧ dq 200 61 (.iload 5) 2 = true ∧ dq 200 63 (.iconst 1) 1 = true ∧ dq 200 64 (.isub) 1 = true ∧ dq 200 65 (.aload_n 0) 1 = true ∧ dq 200 66 (.getfield 39) 3 = true ∧ dq 200 69 (.iload 5) 2 = true ∧ dq 200 71 (.iaload) 1 = true ∧ dq 200 72 (.iastore) 1 = true ∧ dq 200 73 (.aload_n 0) 1 = true ∧ dq 200 74 (.getfield 42) 3 = true ∧ dq 200 77 (.iload 5) 2 = true ∧ dq 200 79 (.iconst 1) 1 = true ∧ dq 200 80 (.isub) 1 = true ∧ dq 200 81 (.aload_n 0) 1 = true := by decide +kernel
theorem dX12_changes_57 : decode (mB 200) 57 = .ok (.aload_n 0, 1) := dqo gX12_changes_57.1
theorem dX12_changes_58 : decode (mB 200) 58 = .ok (.getfield 39, 3) := dqo gX12_changes_57.2.1
theorem dX12_changes_61 : decode (mB 200) 61 = .ok (.iload 5, 2) := dqo gX12_changes_57.2.2.1
theorem dX12_changes_63 : decode (mB 200) 63 = .ok (.iconst 1, 1) := dqo gX12_changes_57.2.2.2.1
theorem dX12_changes_64 : decode (mB 200) 64 = .ok (.isub, 1) := dqo gX12_changes_57.2.2.2.2.1
theorem dX12_changes_65 : decode (mB 200) 65 = .ok (.aload_n 0, 1) := dqo gX12_changes_57.2.2.2.2.2.1
theorem dX12_changes_66 : decode (mB 200) 66 = .ok (.getfield 39, 3) := dqo gX12_changes_57.2.2.2.2.2.2.1
theorem dX12_changes_69 : decode (mB 200) 69 = .ok (.iload 5, 2) := dqo gX12_changes_57.2.2.2.2.2.2.2.1
theorem dX12_changes_71 : decode (mB 200) 71 = .ok (.iaload, 1) := dqo gX12_changes_57.2.2.2.2.2.2.2.2.1
theorem dX12_changes_72 : decode (mB 200) 72 = .ok (.iastore, 1) := dqo gX12_changes_57.2.2.2.2.2.2.2.2.2.1
theorem dX12_changes_73 : decode (mB 200) 73 = .ok (.aload_n 0, 1) := dqo gX12_changes_57.2.2.2.2.2.2.2.2.2.2.1
theorem dX12_changes_74 : decode (mB 200) 74 = .ok (.getfield 42, 3) := dqo gX12_changes_57.2.2.2.2.2.2.2.2.2.2.2.1
theorem dX12_changes_77 : decode (mB 200) 77 = .ok (.iload 5, 2) := dqo gX12_changes_57.2.2.2.2.2.2.2.2.2.2.2.2.1
theorem dX12_changes_79 : decode (mB 200) 79 = .ok (.iconst 1, 1) := dqo gX12_changes_57.2.2.2.2.2.2.2.2.2.2.2.2.2.1
theorem dX12_changes_80 : decode (mB 200) 80 = .ok (.isub, 1) := dqo gX12_changes_57.2.2.2.2.2.2.2.2.2.2.2.2.2.2.1
theorem dX12_changes_81 : decode (mB 200) 81 = .ok (.aload_n 0, 1) := dqo gX12_changes_57.2.2.2.2.2.2.2.2.2.2.2.2.2.2.2
theorem gX12_changes_82 : dq 200 82 (.getfield 42) 3 = true ∧ dq 200 85 (.iload 5) 2 = true ∧ dq 200 87 (.iaload) 1 = true ∧ dq 200 88 (.iastore) 1 = true ∧ dq 200 89 (.aload_n 0) 1 = true ∧ dq 200 90 (.getfield 45) 3 = true ∧ dq 200 93 (.iload 5) 2 = true ∧ dq 200 95 (.iconst 1) 1 = true ∧ dq 200 96 (.isub) 1 = true ∧ dq 200 97 (.aload_n 0) 1 = true ∧ dq 200 98 (.getfield 45) 3 = true ∧ dq 200 101 (.iload 5) 2 = true ∧ dq 200 103 (.iaload) 1 = true ∧ dq 200 104 (.iastore) 1 = true ∧ dq 200 105 (.iinc 5 1) 3 = true ∧ dq 200 108 (.goto (-74)) 3 = true := by decide +kernel
theorem dX12_changes_82 : decode (mB 200) 82 = .ok (.getfield 42, 3) := dqo gX12_changes_82.1
theorem dX12_changes_85 : decode (mB 200) 85 = .ok (.iload 5, 2) := dqo gX12_changes_82.2.1
theorem dX12_changes_87 : decode (mB 200) 87 = .ok (.iaload, 1) := dqo gX12_changes_82.2.2.1
theorem dX12_changes_88 : decode (mB 200) 88 = .ok (.iastore, 1) := dqo gX12_changes_82.2.2.2.1
theorem dX12_changes_89 : decode (mB 200) 89 = .ok (.aload_n 0, 1) := dqo gX12_changes_82.2.2.2.2.1
theorem dX12_changes_90 : decode (mB 200) 90 = .ok (.getfield 45, 3) := dqo gX12_changes_82.2.2.2.2.2.1
theorem dX12_changes_93 : decode (mB 200) 93 = .ok (.iload 5, 2) := dqo gX12_changes_82.2.2.2.2.2.2.1
theorem dX12_changes_95 : decode (mB 200) 95 = .ok (.iconst 1, 1) := dqo gX12_changes_82.2.2.2.2.2.2.2.1
theorem dX12_changes_96 : decode (mB 200) 96 = .ok (.isub, 1) := dqo gX12_changes_82.2.2.2.2.2.2.2.2.1
theorem dX12_changes_97 : decode (mB 200) 97 = .ok (.aload_n 0, 1) := dqo gX12_changes_82.2.2.2.2.2.2.2.2.2.1
theorem dX12_changes_98 : decode (mB 200) 98 = .ok (.getfield 45, 3) := dqo gX12_changes_82.2.2.2.2.2.2.2.2.2.2.1
theorem dX12_changes_101 : decode (mB 200) 101 = .ok (.iload 5, 2) := dqo gX12_changes_82.2.2.2.2.2.2.2.2.2.2.2.1
theorem dX12_changes_103 : decode (mB 200) 103 = .ok (.iaload, 1) := dqo gX12_changes_82.2.2.2.2.2.2.2.2.2.2.2.2.1
theorem dX12_changes_104 : decode (mB 200) 104 = .ok (.iastore, 1) := dqo gX12_changes_82.2.2.2.2.2.2.2.2.2.2.2.2.2.1
theorem dX12_changes_105 : decode (mB 200) 105 = .ok (.iinc 5 1, 3) := dqo gX12_changes_82.2.2.2.2.2.2.2.2.2.2.2.2.2.2.1
theorem dX12_changes_108 : decode (mB 200) 108 = .ok (.goto (-74), 3) := dqo gX12_changes_82.2.2.2.2.2.2.2.2.2.2.2.2.2.2.2
theorem gX12_changes_111 : dq 200 111 (.aload_n 0) 1 = true ∧ dq 200 112 (.dup) 1 = true ∧ dq 200 113 (.getfield 149) 3 = true ∧ dq 200 116 (.iconst 1) 1 = true ∧ dq 200 117 (.isub) 1 = true ∧ dq 200 118 (.putfield 149) 3 = true ∧ dq 200 121 (.aload_n 0) 1 = true ∧ dq 200 122 (.getfield 36) 3 = true ∧ dq 200 125 (.aload_n 0) 1 = true ∧ dq 200 126 (.getfield 149) 3 = true ∧ dq 200 129 (.iload_n 1) 1 = true ∧ dq 200 130 (.iastore) 1 = true ∧ dq 200 131 (.aload_n 0) 1 = true ∧ dq 200 132 (.getfield 39) 3 = true ∧ dq 200 135 (.aload_n 0) 1 = true ∧ dq 200 136 (.getfield 149) 3 = true := by decide +kernel
theorem dX12_changes_111 : decode (mB 200) 111 = .ok (.aload_n 0, 1) := dqo gX12_changes_111.1
theorem dX12_changes_112 : decode (mB 200) 112 = .ok (.dup, 1) := dqo gX12_changes_111.2.1
theorem dX12_changes_113 : decode (mB 200) 113 = .ok (.getfield 149, 3) := dqo gX12_changes_111.2.2.1
theorem dX12_changes_116 : decode (mB 200) 116 = .ok (.iconst 1, 1) := dqo gX12_changes_111.2.2.2.1
theorem dX12_changes_117 : decode (mB 200) 117 = .ok (.isub, 1) := dqo gX12_changes_111.2.2.2.2.1
theorem dX12_changes_118 : decode (mB 200) 118 = .ok (.putfield 149, 3) := dqo gX12_changes_111.2.2.2.2.2.1
theorem dX12_changes_121 : decode (mB 200) 121 = .ok (.aload_n 0, 1) := dqo gX12_changes_111.2.2.2.2.2.2.1
theorem dX12_changes_122 : decode (mB 200) 122 = .ok (.getfield 36, 3) := dqo gX12_changes_111.2.2.2.2.2.2.2.1
theorem dX12_changes_125 : decode (mB 200) 125 = .ok (.aload_n 0, 1) := dqo gX12_changes_111.2.2.2.2.2.2.2.2.1
theorem dX12_changes_126 : decode (mB 200) 126 = .ok (.getfield 149, 3) := dqo gX12_changes_111.2.2.2.2.2.2.2.2.2.1
theorem dX12_changes_129 : decode (mB 200) 129 = .ok (.iload_n 1, 1) := dqo gX12_changes_111.2.2.2.2.2.2.2.2.2.2.1
theorem dX12_changes_130 : decode (mB 200) 130 = .ok (.iastore, 1) := dqo gX12_changes_111.2.2.2.2.2.2.2.2.2.2.2.1
theorem dX12_changes_131 : decode (mB 200) 131 = .ok (.aload_n 0, 1) := dqo gX12_changes_111.2.2.2.2.2.2.2.2.2.2.2.2.1
theorem dX12_changes_132 : decode (mB 200) 132 = .ok (.getfield 39, 3) := dqo gX12_changes_111.2.2.2.2.2.2.2.2.2.2.2.2.2.1
theorem dX12_changes_135 : decode (mB 200) 135 = .ok (.aload_n 0, 1) := dqo gX12_changes_111.2.2.2.2.2.2.2.2.2.2.2.2.2.2.1
theorem dX12_changes_136 : decode (mB 200) 136 = .ok (.getfield 149, 3) := dqo gX12_changes_111.2.2.2.2.2.2.2.2.2.2.2.2.2.2.2
theorem gX12_changes_139 : dq 200 139 (.iload_n 2) 1 = true ∧ dq 200 140 (.iastore) 1 = true ∧ dq 200 141 (.aload_n 0) 1 = true ∧ dq 200 142 (.getfield 42) 3 = true ∧ dq 200 145 (.aload_n 0) 1 = true ∧ dq 200 146 (.getfield 149) 3 = true ∧ dq 200 149 (.iload 4) 2 = true ∧ dq 200 151 (.iastore) 1 = true ∧ dq 200 152 (.aload_n 0) 1 = true ∧ dq 200 153 (.getfield 45) 3 = true ∧ dq 200 156 (.aload_n 0) 1 = true ∧ dq 200 157 (.getfield 149) 3 = true ∧ dq 200 160 (.iload_n 3) 1 = true ∧ dq 200 161 (.iastore) 1 = true ∧ dq 200 162 (.aload_n 0) 1 = true ∧ dq 200 163 (.dup) 1 = true := by decide +kernel
theorem dX12_changes_139 : decode (mB 200) 139 = .ok (.iload_n 2, 1) := dqo gX12_changes_139.1
theorem dX12_changes_140 : decode (mB 200) 140 = .ok (.iastore, 1) := dqo gX12_changes_139.2.1
theorem dX12_changes_141 : decode (mB 200) 141 = .ok (.aload_n 0, 1) := dqo gX12_changes_139.2.2.1
theorem dX12_changes_142 : decode (mB 200) 142 = .ok (.getfield 42, 3) := dqo gX12_changes_139.2.2.2.1
theorem dX12_changes_145 : decode (mB 200) 145 = .ok (.aload_n 0, 1) := dqo gX12_changes_139.2.2.2.2.1
theorem dX12_changes_146 : decode (mB 200) 146 = .ok (.getfield 149, 3) := dqo gX12_changes_139.2.2.2.2.2.1
theorem dX12_changes_149 : decode (mB 200) 149 = .ok (.iload 4, 2) := dqo gX12_changes_139.2.2.2.2.2.2.1
theorem dX12_changes_151 : decode (mB 200) 151 = .ok (.iastore, 1) := dqo gX12_changes_139.2.2.2.2.2.2.2.1
theorem dX12_changes_152 : decode (mB 200) 152 = .ok (.aload_n 0, 1) := dqo gX12_changes_139.2.2.2.2.2.2.2.2.1
theorem dX12_changes_153 : decode (mB 200) 153 = .ok (.getfield 45, 3) := dqo gX12_changes_139.2.2.2.2.2.2.2.2.2.1
theorem dX12_changes_156 : decode (mB 200) 156 = .ok (.aload_n 0, 1) := dqo gX12_changes_139.2.2.2.2.2.2.2.2.2.2.1
theorem dX12_changes_157 : decode (mB 200) 157 = .ok (.getfield 149, 3) := dqo gX12_changes_139.2.2.2.2.2.2.2.2.2.2.2.1
theorem dX12_changes_160 : decode (mB 200) 160 = .ok (.iload_n 3, 1) := dqo gX12_changes_139.2.2.2.2.2.2.2.2.2.2.2.2.1
theorem dX12_changes_161 : decode (mB 200) 161 = .ok (.iastore, 1) := dqo gX12_changes_139.2.2.2.2.2.2.2.2.2.2.2.2.2.1
theorem dX12_changes_162 : decode (mB 200) 162 = .ok (.aload_n 0, 1) := dqo gX12_changes_139.2.2.2.2.2.2.2.2.2.2.2.2.2.2.1
theorem dX12_changes_163 : decode (mB 200) 163 = .ok (.dup, 1) := dqo gX12_changes_139.2.2.2.2.2.2.2.2.2.2.2.2.2.2.2
theorem gX12_changes_164 : dq 200 164 (.getfield 149) 3 = true ∧ dq 200 167 (.iconst 1) 1 = true ∧ dq 200 168 (.iadd) 1 = true ∧ dq 200 169 (.putfield 149) 3 = true ∧ dq 200 172 (.aload_n 0) 1 = true ∧ dq 200 173 (.iload_n 1) 1 = true ∧ dq 200 174 (.iload_n 2) 1 = true ∧ dq 200 175 (.iload_n 3) 1 = true ∧ dq 200 176 (.invokevirtual 152) 3 = true ∧ dq 200 179 (.iload 4) 2 = true ∧ dq 200 181 (.ireturn) 1 = true := by decide +kernel
theorem dX12_changes_164 : decode (mB 200) 164 = .ok (.getfield 149, 3) := dqo gX12_changes_164.1
theorem dX12_changes_167 : decode (mB 200) 167 = .ok (.iconst 1, 1) := dqo gX12_changes_164.2.1
theorem dX12_changes_168 : decode (mB 200) 168 = .ok (.iadd, 1) := dqo gX12_changes_164.2.2.1
theorem dX12_changes_169 : decode (mB 200) 169 = .ok (.putfield 149, 3) := dqo gX12_changes_164.2.2.2.1
theorem dX12_changes_172 : decode (mB 200) 172 = .ok (.aload_n 0, 1) := dqo gX12_changes_164.2.2.2.2.1
theorem dX12_changes_173 : decode (mB 200) 173 = .ok (.iload_n 1, 1) := dqo gX12_changes_164.2.2.2.2.2.1
theorem dX12_changes_174 : decode (mB 200) 174 = .ok (.iload_n 2, 1) := dqo gX12_changes_164.2.2.2.2.2.2.1
theorem dX12_changes_175 : decode (mB 200) 175 = .ok (.iload_n 3, 1) := dqo gX12_changes_164.2.2.2.2.2.2.2.1
theorem dX12_changes_176 : decode (mB 200) 176 = .ok (.invokevirtual 152, 3) := dqo gX12_changes_164.2.2.2.2.2.2.2.2.1
theorem dX12_changes_179 : decode (mB 200) 179 = .ok (.iload 4, 2) := dqo gX12_changes_164.2.2.2.2.2.2.2.2.2.1
theorem dX12_changes_181 : decode (mB 200) 181 = .ok (.ireturn, 1) := dqo gX12_changes_164.2.2.2.2.2.2.2.2.2.2
theorem gX12_undo_0 : dq 201 0 (.aload_n 0) 1 = true ∧ dq 201 1 (.getfield 149) 3 = true ∧ dq 201 4 (.ifCond .ne 6) 3 = true ∧ dq 201 7 (.bipush (-5)) 2 = true ∧ dq 201 9 (.ireturn) 1 = true ∧ dq 201 10 (.aload_n 0) 1 = true ∧ dq 201 11 (.dup) 1 = true ∧ dq 201 12 (.getfield 149) 3 = true ∧ dq 201 15 (.iconst 1) 1 = true ∧ dq 201 16 (.isub) 1 = true ∧ dq 201 17 (.putfield 149) 3 = true ∧ dq 201 20 (.aload_n 0) 1 = true ∧ dq 201 21 (.dup) 1 = true ∧ dq 201 22 (.getfield 146) 3 = true ∧ dq 201 25 (.iconst 1) 1 = true ∧ dq 201 26 (.iadd) 1 = true := by decide +kernel
theorem dX12_undo_0 : decode (mB 201) 0 = .ok (.aload_n 0, 1) := dqo gX12_undo_0.1
theorem dX12_undo_1 : decode (mB 201) 1 = .ok (.getfield 149, 3) := dqo gX12_undo_0.2.1
theorem dX12_undo_4 : decode (mB 201) 4 = .ok (.ifCond .ne 6, 3) := dqo gX12_undo_0.2.2.1
theorem dX12_undo_7 : decode (mB 201) 7 = .ok (.bipush (-5), 2) := dqo gX12_undo_0.2.2.2.1
theorem dX12_undo_9 : decode (mB 201) 9 = .ok (.ireturn, 1) := dqo gX12_undo_0.2.2.2.2.1
theorem dX12_undo_10 : decode (mB 201) 10 = .ok (.aload_n 0, 1) := dqo gX12_undo_0.2.2.2.2.2.1
theorem dX12_undo_11 : decode (mB 201) 11 = .ok (.dup, 1) := dqo gX12_undo_0.2.2.2.2.2.2.1
theorem dX12_undo_12 : decode (mB 201) 12 = .ok (.getfield 149, 3) := dqo gX12_undo_0.2.2.2.2.2.2.2.1
theorem dX12_undo_15 : decode (mB 201) 15 = .ok (.iconst 1, 1) := dqo gX12_undo_0.2.2.2.2.2.2.2.2.1
theorem dX12_undo_16 : decode (mB 201) 16 = .ok (.isub, 1) := dqo gX12_undo_0.2.2.2.2.2.2.2.2.2.1
theorem dX12_undo_17 : decode (mB 201) 17 = .ok (.putfield 149, 3) := dqo gX12_undo_0.2.2.2.2.2.2.2.2.2.2.1
theorem dX12_undo_20 : decode (mB 201) 20 = .ok (.aload_n 0, 1) := dqo gX12_undo_0.2.2.2.2.2.2.2.2.2.2.2.1
theorem dX12_undo_21 : decode (mB 201) 21 = .ok (.dup, 1) := dqo gX12_undo_0.2.2.2.2.2.2.2.2.2.2.2.2.1
theorem dX12_undo_22 : decode (mB 201) 22 = .ok (.getfield 146, 3) := dqo gX12_undo_0.2.2.2.2.2.2.2.2.2.2.2.2.2.1
theorem dX12_undo_25 : decode (mB 201) 25 = .ok (.iconst 1, 1) := dqo gX12_undo_0.2.2.2.2.2.2.2.2.2.2.2.2.2.2.1
theorem dX12_undo_26 : decode (mB 201) 26 = .ok (.iadd, 1) := dqo gX12_undo_0.2.2.2.2.2.2.2.2.2.2.2.2.2.2.2
theorem gX12_undo_27 : dq 201 27 (.putfield 146) 3 = true ∧ dq 201 30 (.aload_n 0) 1 = true ∧ dq 201 31 (.aload_n 0) 1 = true ∧ dq 201 32 (.getfield 36) 3 = true ∧ dq 201 35 (.aload_n 0) 1 = true ∧ dq 201 36 (.getfield 149) 3 = true ∧ dq 201 39 (.iaload) 1 = true ∧ dq 201 40 (.aload_n 0) 1 = true ∧ dq 201 41 (.getfield 39) 3 = true ∧ dq 201 44 (.aload_n 0) 1 = true ∧ dq 201 45 (.getfield 149) 3 = true ∧ dq 201 48 (.iaload) 1 = true ∧ dq 201 49 (.aload_n 0) 1 = true ∧ dq 201 50 (.getfield 42) 3 = true ∧ dq 201 53 (.aload_n 0) 1 = true ∧ dq 201 54 (.getfield 149) 3 = true := by decide +kernel
theorem dX12_undo_27 : decode (mB 201) 27 = .ok (.putfield 146, 3) := dqo gX12_undo_27.1
theorem dX12_undo_30 : decode (mB 201) 30 = .ok (.aload_n 0, 1) := dqo gX12_undo_27.2.1
theorem dX12_undo_31 : decode (mB 201) 31 = .ok (.aload_n 0, 1) := dqo gX12_undo_27.2.2.1
theorem dX12_undo_32 : decode (mB 201) 32 = .ok (.getfield 36, 3) := dqo gX12_undo_27.2.2.2.1
theorem dX12_undo_35 : decode (mB 201) 35 = .ok (.aload_n 0, 1) := dqo gX12_undo_27.2.2.2.2.1
theorem dX12_undo_36 : decode (mB 201) 36 = .ok (.getfield 149, 3) := dqo gX12_undo_27.2.2.2.2.2.1
theorem dX12_undo_39 : decode (mB 201) 39 = .ok (.iaload, 1) := dqo gX12_undo_27.2.2.2.2.2.2.1
theorem dX12_undo_40 : decode (mB 201) 40 = .ok (.aload_n 0, 1) := dqo gX12_undo_27.2.2.2.2.2.2.2.1
theorem dX12_undo_41 : decode (mB 201) 41 = .ok (.getfield 39, 3) := dqo gX12_undo_27.2.2.2.2.2.2.2.2.1
theorem dX12_undo_44 : decode (mB 201) 44 = .ok (.aload_n 0, 1) := dqo gX12_undo_27.2.2.2.2.2.2.2.2.2.1
theorem dX12_undo_45 : decode (mB 201) 45 = .ok (.getfield 149, 3) := dqo gX12_undo_27.2.2.2.2.2.2.2.2.2.2.1
theorem dX12_undo_48 : decode (mB 201) 48 = .ok (.iaload, 1) := dqo gX12_undo_27.2.2.2.2.2.2.2.2.2.2.2.1
theorem dX12_undo_49 : decode (mB 201) 49 = .ok (.aload_n 0, 1) := dqo gX12_undo_27.2.2.2.2.2.2.2.2.2.2.2.2.1
theorem dX12_undo_50 : decode (mB 201) 50 = .ok (.getfield 42, 3) := dqo gX12_undo_27.2.2.2.2.2.2.2.2.2.2.2.2.2.1
theorem dX12_undo_53 : decode (mB 201) 53 = .ok (.aload_n 0, 1) := dqo gX12_undo_27.2.2.2.2.2.2.2.2.2.2.2.2.2.2.1
theorem dX12_undo_54 : decode (mB 201) 54 = .ok (.getfield 149, 3) := dqo gX12_undo_27.2.2.2.2.2.2.2.2.2.2.2.2.2.2.2
theorem gX12_undo_57 : dq 201 57 (.iaload) 1 = true ∧ dq 201 58 (.invokevirtual 152) 3 = true ∧ dq 201 61 (.aload_n 0) 1 = true ∧ dq 201 62 (.getfield 149) 3 = true ∧ dq 201 65 (.ireturn) 1 = true := by decide +kernel
theorem dX12_undo_57 : decode (mB 201) 57 = .ok (.iaload, 1) := dqo gX12_undo_57.1
theorem dX12_undo_58 : decode (mB 201) 58 = .ok (.invokevirtual 152, 3) := dqo gX12_undo_57.2.1
theorem dX12_undo_61 : decode (mB 201) 61 = .ok (.aload_n 0, 1) := dqo gX12_undo_57.2.2.1
theorem dX12_undo_62 : decode (mB 201) 62 = .ok (.getfield 149, 3) := dqo gX12_undo_57.2.2.2.1
theorem dX12_undo_65 : decode (mB 201) 65 = .ok (.ireturn, 1) := dqo gX12_undo_57.2.2.2.2
theorem gX12_redo_0 : dq 202 0 (.aload_n 0) 1 = true ∧ dq 202 1 (.getfield 146) 3 = true ∧ dq 202 4 (.ifCond .ne 6) 3 = true ∧ dq 202 7 (.bipush (-5)) 2 = true ∧ dq 202 9 (.ireturn) 1 = true ∧ dq 202 10 (.aload_n 0) 1 = true ∧ dq 202 11 (.aload_n 0) 1 = true ∧ dq 202 12 (.getfield 36) 3 = true ∧ dq 202 15 (.aload_n 0) 1 = true ∧ dq 202 16 (.getfield 149) 3 = true ∧ dq 202 19 (.iaload) 1 = true ∧ dq 202 20 (.aload_n 0) 1 = true ∧ dq 202 21 (.getfield 39) 3 = true ∧ dq 202 24 (.aload_n 0) 1 = true ∧ dq 202 25 (.getfield 149) 3 = true ∧ dq 202 28 (.iaload) 1 = true := by decide +kernel
theorem dX12_redo_0 : decode (mB 202) 0 = .ok (.aload_n 0, 1) := dqo gX12_redo_0.1
theorem dX12_redo_1 : decode (mB 202) 1 = .ok (.getfield 146, 3) := dqo gX12_redo_0.2.1
theorem dX12_redo_4 : decode (mB 202) 4 = .ok (.ifCond .ne 6, 3) := dqo gX12_redo_0.2.2.1
theorem dX12_redo_7 : decode (mB 202) 7 = .ok (.bipush (-5), 2) := dqo gX12_redo_0.2.2.2.1
theorem dX12_redo_9 : decode (mB 202) 9 = .ok (.ireturn, 1) := dqo gX12_redo_0.2.2.2.2.1
theorem dX12_redo_10 : decode (mB 202) 10 = .ok (.aload_n 0, 1) := dqo gX12_redo_0.2.2.2.2.2.1
theorem dX12_redo_11 : decode (mB 202) 11 = .ok (.aload_n 0, 1) := dqo gX12_redo_0.2.2.2.2.2.2.1
theorem dX12_redo_12 : decode (mB 202) 12 = .ok (.getfield 36, 3) := dqo gX12_redo_0.2.2.2.2.2.2.2.1
theorem dX12_redo_15 : decode (mB 202) 15 = .ok (.aload_n 0, 1) := dqo gX12_redo_0.2.2.2.2.2.2.2.2.1
theorem dX12_redo_16 : decode (mB 202) 16 = .ok (.getfield 149, 3) := dqo gX12_redo_0.2.2.2.2.2.2.2.2.2.1
theorem dX12_redo_19 : decode (mB 202) 19 = .ok (.iaload, 1) := dqo gX12_redo_0.2.2.2.2.2.2.2.2.2.2.1
theorem dX12_redo_20 : decode (mB 202) 20 = .ok (.aload_n 0, 1) := dqo gX12_redo_0.2.2.2.2.2.2.2.2.2.2.2.1
theorem dX12_redo_21 : decode (mB 202) 21 = .ok (.getfield 39, 3) := dqo gX12_redo_0.2.2.2.2.2.2.2.2.2.2.2.2.1
theorem dX12_redo_24 : decode (mB 202) 24 = .ok (.aload_n 0, 1) := dqo gX12_redo_0.2.2.2.2.2.2.2.2.2.2.2.2.2.1
theorem dX12_redo_25 : decode (mB 202) 25 = .ok (.getfield 149, 3) := dqo gX12_redo_0.2.2.2.2.2.2.2.2.2.2.2.2.2.2.1
theorem dX12_redo_28 : decode (mB 202) 28 = .ok (.iaload, 1) := dqo gX12_redo_0.2.2.2.2.2.2.2.2.2.2.2.2.2.2.2
theorem gX12_redo_29 : dq 202 29 (.aload_n 0) 1 = true ∧ dq 202 30 (.getfield 45) 3 = true ∧ dq 202 33 (.aload_n 0) 1 = true ∧ dq 202 34 (.getfield 149) 3 = true ∧ dq 202 37 (.iaload) 1 = true ∧ dq 202 38 (.invokevirtual 152) 3 = true ∧ dq 202 41 (.aload_n 0) 1 = true ∧ dq 202 42 (.dup) 1 = true ∧ dq 202 43 (.getfield 149) 3 = true ∧ dq 202 46 (.iconst 1) 1 = true ∧ dq 202 47 (.iadd) 1 = true ∧ dq 202 48 (.putfield 149) 3 = true ∧ dq 202 51 (.aload_n 0) 1 = true ∧ dq 202 52 (.dup) 1 = true ∧ dq 202 53 (.getfield 146) 3 = true ∧ dq 202 56 (.iconst 1) 1 = true := by decide +kernel
theorem dX12_redo_29 : decode (mB 202) 29 = .ok (.aload_n 0, 1) := dqo gX12_redo_29.1
theorem dX12_redo_30 : decode (mB 202) 30 = .ok (.getfield 45, 3) := dqo gX12_redo_29.2.1
theorem dX12_redo_33 : decode (mB 202) 33 = .ok (.aload_n 0, 1) := dqo gX12_redo_29.2.2.1
theorem dX12_redo_34 : decode (mB 202) 34 = .ok (.getfield 149, 3) := dqo gX12_redo_29.2.2.2.1
theorem dX12_redo_37 : decode (mB 202) 37 = .ok (.iaload, 1) := dqo gX12_redo_29.2.2.2.2.1
theorem dX12_redo_38 : decode (mB 202) 38 = .ok (.invokevirtual 152, 3) := dqo gX12_redo_29.2.2.2.2.2.1
theorem dX12_redo_41 : decode (mB 202) 41 = .ok (.aload_n 0, 1) := dqo gX12_redo_29.2.2.2.2.2.2.1
theorem dX12_redo_42 : decode (mB 202) 42 = .ok (.dup, 1) := dqo gX12_redo_29.2.2.2.2.2.2.2.1
theorem dX12_redo_43 : decode (mB 202) 43 = .ok (.getfield 149, 3) := dqo gX12_redo_29.2.2.2.2.2.2.2.2.1
theorem dX12_redo_46 : decode (mB 202) 46 = .ok (.iconst 1, 1) := dqo gX12_redo_29.2.2.2.2.2.2.2.2.2.1
theorem dX12_redo_47 : decode (mB 202) 47 = .ok (.iadd, 1) := dqo gX12_redo_29.2.2.2.2.2.2.2.2.2.2.1
theorem dX12_redo_48 : decode (mB 202) 48 = .ok (.putfield 149, 3) := dqo gX12_redo_29.2.2.2.2.2.2.2.2.2.2.2.1
theorem dX12_redo_51 : decode (mB 202) 51 = .ok (.aload_n 0, 1) := dqo gX12_redo_29.2.2.2.2.2.2.2.2.2.2.2.2.1
theorem dX12_redo_52 : decode (mB 202) 52 = .ok (.dup, 1) := dqo gX12_redo_29.2.2.2.2.2.2.2.2.2.2.2.2.2.1
theorem dX12_redo_53 : decode (mB 202) 53 = .ok (.getfield 146, 3) := dqo gX12_redo_29.2.2.2.2.2.2.2.2.2.2.2.2.2.2.1
theorem dX12_redo_56 : decode (mB 202) 56 = .ok (.iconst 1, 1) := dqo gX12_redo_29.2.2.2.2.2.2.2.2.2.2.2.2.2.2.2
theorem gX12_redo_57 : dq 202 57 (.isub) 1 = true ∧ dq 202 58 (.putfield 146) 3 = true ∧ dq 202 61 (.aload_n 0) 1 = true ∧ dq 202 62 (.getfield 146) 3 = true ∧ dq 202 65 (.ireturn) 1 = true := by decide +kernel
theorem dX12_redo_57 : decode (mB 202) 57 = .ok (.isub, 1) := dqo gX12_redo_57.1
theorem dX12_redo_58 : decode (mB 202) 58 = .ok (.putfield 146, 3) := dqo gX12_redo_57.2.1
theorem dX12_redo_61 : decode (mB 202) 61 = .ok (.aload_n 0, 1) := dqo gX12_redo_57.2.2.1
theorem dX12_redo_62 : decode (mB 202) 62 = .ok (.getfield 146, 3) := dqo gX12_redo_57.2.2.2.1
theorem dX12_redo_65 : decode (mB 202) 65 = .ok (.ireturn, 1) := dqo gX12_redo_57.2.2.2.2
theorem gX12_isPlace_0 : dq 203 0 (.iload_n 2) 1 = true ∧ dq 203 1 (.iconst 0) 1 = true ∧ dq 203 2 (.iconst 3) 1 = true ∧ dq 203 3 (.invokestatic 118) 3 = true ∧ dq 203 6 (.ifCond .eq 11) 3 = true ∧ dq 203 9 (.aload_n 0) 1 = true ∧ dq 203 10 (.iload_n 1) 1 = true ∧ dq 203 11 (.invokevirtual 125) 3 = true ∧ dq 203 14 (.goto 41) 3 = true ∧ dq 203 17 (.iload_n 2) 1 = true ∧ dq 203 18 (.iconst 4) 1 = true ∧ dq 203 19 (.bipush 6) 2 = true ∧ dq 203 21 (.invokestatic 118) 3 = true ∧ dq 203 24 (.ifCond .eq 11) 3 = true ∧ dq 203 27 (.aload_n 0) 1 = true ∧ dq 203 28 (.iload_n 1) 1 = true := by decide +kernel
theorem dX12_isPlace_0 : decode (mB 203) 0 = .ok (.iload_n 2, 1) := dqo gX12_isPlace_0.1
theorem dX12_isPlace_1 : decode (mB 203) 1 = .ok (.iconst 0, 1) := dqo gX12_isPlace_0.2.1
theorem dX12_isPlace_2 : decode (mB 203) 2 = .ok (.iconst 3, 1) := dqo gX12_isPlace_0.2.2.1
theorem dX12_isPlace_3 : decode (mB 203) 3 = .ok (.invokestatic 118, 3) := dqo gX12_isPlace_0.2.2.2.1
theorem dX12_isPlace_6 : decode (mB 203) 6 = .ok (.ifCond .eq 11, 3) := dqo gX12_isPlace_0.2.2.2.2.1
theorem dX12_isPlace_9 : decode (mB 203) 9 = .ok (.aload_n 0, 1) := dqo gX12_isPlace_0.2.2.2.2.2.1
theorem dX12_isPlace_10 : decode (mB 203) 10 = .ok (.iload_n 1, 1) := dqo gX12_isPlace_0.2.2.2.2.2.2.1
theorem dX12_isPlace_11 : decode (mB 203) 11 = .ok (.invokevirtual 125, 3) := dqo gX12_isPlace_0.2.2.2.2.2.2.2.1
theorem dX12_isPlace_14 : decode (mB 203) 14 = .ok (.goto 41, 3) := dqo gX12_isPlace_0.2.2.2.2.2.2.2.2.1
theorem dX12_isPlace_17 : decode (mB 203) 17 = .ok (.iload_n 2, 1) := dqo gX12_isPlace_0.2.2.2.2.2.2.2.2.2.1
theorem dX12_isPlace_18 : decode (mB 203) 18 = .ok (.iconst 4, 1) := dqo gX12_isPlace_0.2.2.2.2.2.2.2.2.2.2.1
theorem dX12_isPlace_19 : decode (mB 203) 19 = .ok (.bipush 6, 2) := dqo gX12_isPlace_0.2.2.2.2.2.2.2.2.2.2.2.1
theorem dX12_isPlace_21 : decode (mB 203) 21 = .ok (.invokestatic 118, 3) := dqo gX12_isPlace_0.2.2.2.2.2.2.2.2.2.2.2.2.1
theorem dX12_isPlace_24 : decode (mB 203) 24 = .ok (.ifCond .eq 11, 3) := dqo gX12_isPlace_0.2.2.2.2.2.2.2.2.2.2.2.2.2.1
theorem dX12_isPlace_27 : decode (mB 203) 27 = .ok (.aload_n 0, 1) := dqo gX12_isPlace_0.2.2.2.2.2.2.2.2.2.2.2.2.2.2.1
theorem dX12_isPlace_28 : decode (mB 203) 28 = .ok (.iload_n 1, 1) := dqo gX12_isPlace_0.2.2.2.2.2.2.2.2.2.2.2.2.2.2.2
theorem gX12_isPlace_29 : dq 203 29 (.invokevirtual 156) 3 = true ∧ dq 203 32 (.goto 23) 3 = true ∧ dq 203 35 (.iload_n 2) 1 = true ∧ dq 203 36 (.bipush 7) 2 = true ∧ dq 203 38 (.bipush 8) 2 = true ∧ dq 203 40 (.invokestatic 118) 3 = true ∧ dq 203 43 (.ifCond .eq 11) 3 = true ∧ dq 203 46 (.iload_n 1) 1 = true ∧ dq 203 47 (.ifCond .ne 7) 3 = true ∧ dq 203 50 (.iconst 1) 1 = true ∧ dq 203 51 (.goto 4) 3 = true ∧ dq 203 54 (.iconst 0) 1 = true ∧ dq 203 55 (.ireturn) 1 = true := by decide +kernel
theorem dX12_isPlace_29 : decode (mB 203) 29 = .ok (.invokevirtual 156, 3) := dqo gX12_isPlace_29.1
theorem dX12_isPlace_32 : decode (mB 203) 32 = .ok (.goto 23, 3) := dqo gX12_isPlace_29.2.1
theorem dX12_isPlace_35 : decode (mB 203) 35 = .ok (.iload_n 2, 1) := dqo gX12_isPlace_29.2.2.1
theorem dX12_isPlace_36 : decode (mB 203) 36 = .ok (.bipush 7, 2) := dqo gX12_isPlace_29.2.2.2.1
theorem dX12_isPlace_38 : decode (mB 203) 38 = .ok (.bipush 8, 2) := dqo gX12_isPlace_29.2.2.2.2.1
theorem dX12_isPlace_40 : decode (mB 203) 40 = .ok (.invokestatic 118, 3) := dqo gX12_isPlace_29.2.2.2.2.2.1
theorem dX12_isPlace_43 : decode (mB 203) 43 = .ok (.ifCond .eq 11, 3) := dqo gX12_isPlace_29.2.2.2.2.2.2.1
theorem dX12_isPlace_46 : decode (mB 203) 46 = .ok (.iload_n 1, 1) := dqo gX12_isPlace_29.2.2.2.2.2.2.2.1
theorem dX12_isPlace_47 : decode (mB 203) 47 = .ok (.ifCond .ne 7, 3) := dqo gX12_isPlace_29.2.2.2.2.2.2.2.2.1
theorem dX12_isPlace_50 : decode (mB 203) 50 = .ok (.iconst 1, 1) := dqo gX12_isPlace_29.2.2.2.2.2.2.2.2.2.1
theorem dX12_isPlace_51 : decode (mB 203) 51 = .ok (.goto 4, 3) := dqo gX12_isPlace_29.2.2.2.2.2.2.2.2.2.2.1
theorem dX12_isPlace_54 : decode (mB 203) 54 = .ok (.iconst 0, 1) := dqo gX12_isPlace_29.2.2.2.2.2.2.2.2.2.2.2.1
theorem dX12_isPlace_55 : decode (mB 203) 55 = .ok (.ireturn, 1) := dqo gX12_isPlace_29.2.2.2.2.2.2.2.2.2.2.2.2
theorem gX12_mayHave_0 : dq 204 0 (.iload_n 1) 1 = true ∧ dq 204 1 (.tableswitch 106 0 7 #[47, 55, 62, 70, 78, 84, 91, 98]) 47 = true ∧ dq 204 48 (.iload_n 2) 1 = true ∧ dq 204 49 (.iconst 0) 1 = true ∧ dq 204 50 (.bipush 12) 2 = true ∧ dq 204 52 (.invokestatic 118) 3 = true ∧ dq 204 55 (.ireturn) 1 = true ∧ dq 204 56 (.iload_n 2) 1 = true ∧ dq 204 57 (.iconst 0) 1 = true ∧ dq 204 58 (.iconst 1) 1 = true ∧ dq 204 59 (.invokestatic 118) 3 = true ∧ dq 204 62 (.ireturn) 1 = true ∧ dq 204 63 (.iload_n 2) 1 = true ∧ dq 204 64 (.iconst 0) 1 = true ∧ dq 204 65 (.bipush 99) 2 = true ∧ dq 204 67 (.invokestatic 118) 3 = true := by decide +kernel
theorem dX12_mayHave_0 : decode (mB 204) 0 = .ok (.iload_n 1, 1) := dqo gX12_mayHave_0.1
theorem dX12_mayHave_1 : decode (mB 204) 1 = .ok (.tableswitch 106 0 7 #[47, 55, 62, 70, 78, 84, 91, 98], 47) := dqo gX12_mayHave_0.2.1
theorem dX12_mayHave_48 : decode (mB 204) 48 = .ok (.iload_n 2, 1) := dqo gX12_mayHave_0.2.2.1
theorem dX12_mayHave_49 : decode (mB 204) 49 = .ok (.iconst 0, 1) := dqo gX12_mayHave_0.2.2.2.1
theorem dX12_mayHave_50 : decode (mB 204) 50 = .ok (.bipush 12, 2) := dqo gX12_mayHave_0.2.2.2.2.1
theorem dX12_mayHave_52 : decode (mB 204) 52 = .ok (.invokestatic 118, 3) := dqo gX12_mayHave_0.2.2.2.2.2.1
theorem dX12_mayHave_55 : decode (mB 204) 55 = .ok (.ireturn, 1) := dqo gX12_mayHave_0.2.2.2.2.2.2.1
theorem dX12_mayHave_56 : decode (mB 204) 56 = .ok (.iload_n 2, 1) := dqo gX12_mayHave_0.2.2.2.2.2.2.2.1
theorem dX12_mayHave_57 : decode (mB 204) 57 = .ok (.iconst 0, 1) := dqo gX12_mayHave_0.2.2.2.2.2.2.2.2.1
theorem dX12_mayHave_58 : decode (mB 204) 58 = .ok (.iconst 1, 1) := dqo gX12_mayHave_0.2.2.2.2.2.2.2.2.2.1
theorem dX12_mayHave_59 : decode (mB 204) 59 = .ok (.invokestatic 118, 3) := dqo gX12_mayHave_0.2.2.2.2.2.2.2.2.2.2.1
theorem dX12_mayHave_62 : decode (mB 204) 62 = .ok (.ireturn, 1) := dqo gX12_mayHave_0.2.2.2.2.2.2.2.2.2.2.2.1
theorem dX12_mayHave_63 : decode (mB 204) 63 = .ok (.iload_n 2, 1) := dqo gX12_mayHave_0.2.2.2.2.2.2.2.2.2.2.2.2.1
theorem dX12_mayHave_64 : decode (mB 204) 64 = .ok (.iconst 0, 1) := dqo gX12_mayHave_0.2.2.2.2.2.2.2.2.2.2.2.2.2.1
theorem dX12_mayHave_65 : decode (mB 204) 65 = .ok (.bipush 99, 2) := dqo gX12_mayHave_0.2.2.2.2.2.2.2.2.2.2.2.2.2.2.1
theorem dX12_mayHave_67 : decode (mB 204) 67 = .ok (.invokestatic 118, 3) := dqo gX12_mayHave_0.2.2.2.2.2.2.2.2.2.2.2.2.2.2.2
theorem gX12_mayHave_70 : dq 204 70 (.ireturn) 1 = true ∧ dq 204 71 (.iload_n 2) 1 = true ∧ dq 204 72 (.iconst 0) 1 = true ∧ dq 204 73 (.bipush 9) 2 = true ∧ dq 204 75 (.invokestatic 118) 3 = true ∧ dq 204 78 (.ireturn) 1 = true ∧ dq 204 79 (.aload_n 0) 1 = true ∧ dq 204 80 (.iload_n 2) 1 = true ∧ dq 204 81 (.invokevirtual 125) 3 = true ∧ dq 204 84 (.ireturn) 1 = true ∧ dq 204 85 (.iload_n 2) 1 = true ∧ dq 204 86 (.iconst 0) 1 = true ∧ dq 204 87 (.iconst 1) 1 = true ∧ dq 204 88 (.invokestatic 118) 3 = true ∧ dq 204 91 (.ireturn) 1 = true ∧ dq 204 92 (.iload_n 2) 1 = true := by decide +kernel
theorem dX12_mayHave_70 : decode (mB 204) 70 = .ok (.ireturn, 1) := dqo gX12_mayHave_70.1
theorem dX12_mayHave_71 : decode (mB 204) 71 = .ok (.iload_n 2, 1) := dqo gX12_mayHave_70.2.1
theorem dX12_mayHave_72 : decode (mB 204) 72 = .ok (.iconst 0, 1) := dqo gX12_mayHave_70.2.2.1
theorem dX12_mayHave_73 : decode (mB 204) 73 = .ok (.bipush 9, 2) := dqo gX12_mayHave_70.2.2.2.1
theorem dX12_mayHave_75 : decode (mB 204) 75 = .ok (.invokestatic 118, 3) := dqo gX12_mayHave_70.2.2.2.2.1
theorem dX12_mayHave_78 : decode (mB 204) 78 = .ok (.ireturn, 1) := dqo gX12_mayHave_70.2.2.2.2.2.1
theorem dX12_mayHave_79 : decode (mB 204) 79 = .ok (.aload_n 0, 1) := dqo gX12_mayHave_70.2.2.2.2.2.2.1
theorem dX12_mayHave_80 : decode (mB 204) 80 = .ok (.iload_n 2, 1) := dqo gX12_mayHave_70.2.2.2.2.2.2.2.1
theorem dX12_mayHave_81 : decode (mB 204) 81 = .ok (.invokevirtual 125, 3) := dqo gX12_mayHave_70.2.2.2.2.2.2.2.2.1
theorem dX12_mayHave_84 : decode (mB 204) 84 = .ok (.ireturn, 1) := dqo gX12_mayHave_70.2.2.2.2.2.2.2.2.2.1
theorem dX12_mayHave_85 : decode (mB 204) 85 = .ok (.iload_n 2, 1) := dqo gX12_mayHave_70.2.2.2.2.2.2.2.2.2.2.1
theorem dX12_mayHave_86 : decode (mB 204) 86 = .ok (.iconst 0, 1) := dqo gX12_mayHave_70.2.2.2.2.2.2.2.2.2.2.2.1
theorem dX12_mayHave_87 : decode (mB 204) 87 = .ok (.iconst 1, 1) := dqo gX12_mayHave_70.2.2.2.2.2.2.2.2.2.2.2.2.1
theorem dX12_mayHave_88 : decode (mB 204) 88 = .ok (.invokestatic 118, 3) := dqo gX12_mayHave_70.2.2.2.2.2.2.2.2.2.2.2.2.2.1
theorem dX12_mayHave_91 : decode (mB 204) 91 = .ok (.ireturn, 1) := dqo gX12_mayHave_70.2.2.2.2.2.2.2.2.2.2.2.2.2.2.1
theorem dX12_mayHave_92 : decode (mB 204) 92 = .ok (.iload_n 2, 1) := dqo gX12_mayHave_70.2.2.2.2.2.2.2.2.2.2.2.2.2.2.2
theorem gX12_mayHave_93 : dq 204 93 (.iconst 0) 1 = true ∧ dq 204 94 (.iconst 4) 1 = true ∧ dq 204 95 (.invokestatic 118) 3 = true ∧ dq 204 98 (.ireturn) 1 = true ∧ dq 204 99 (.iload_n 2) 1 = true ∧ dq 204 100 (.iconst 0) 1 = true ∧ dq 204 101 (.bipush 11) 2 = true ∧ dq 204 103 (.invokestatic 118) 3 = true ∧ dq 204 106 (.ireturn) 1 = true ∧ dq 204 107 (.iload_n 2) 1 = true ∧ dq 204 108 (.iconst 0) 1 = true ∧ dq 204 109 (.bipush 9) 2 = true ∧ dq 204 111 (.invokestatic 118) 3 = true ∧ dq 204 114 (.ireturn) 1 = true := by decide +kernel
theorem dX12_mayHave_93 : decode (mB 204) 93 = .ok (.iconst 0, 1) := dqo gX12_mayHave_93.1
theorem dX12_mayHave_94 : decode (mB 204) 94 = .ok (.iconst 4, 1) := dqo gX12_mayHave_93.2.1
theorem dX12_mayHave_95 : decode (mB 204) 95 = .ok (.invokestatic 118, 3) := dqo gX12_mayHave_93.2.2.1
theorem dX12_mayHave_98 : decode (mB 204) 98 = .ok (.ireturn, 1) := dqo gX12_mayHave_93.2.2.2.1
theorem dX12_mayHave_99 : decode (mB 204) 99 = .ok (.iload_n 2, 1) := dqo gX12_mayHave_93.2.2.2.2.1
theorem dX12_mayHave_100 : decode (mB 204) 100 = .ok (.iconst 0, 1) := dqo gX12_mayHave_93.2.2.2.2.2.1
theorem dX12_mayHave_101 : decode (mB 204) 101 = .ok (.bipush 11, 2) := dqo gX12_mayHave_93.2.2.2.2.2.2.1
theorem dX12_mayHave_103 : decode (mB 204) 103 = .ok (.invokestatic 118, 3) := dqo gX12_mayHave_93.2.2.2.2.2.2.2.1
theorem dX12_mayHave_106 : decode (mB 204) 106 = .ok (.ireturn, 1) := dqo gX12_mayHave_93.2.2.2.2.2.2.2.2.1
theorem dX12_mayHave_107 : decode (mB 204) 107 = .ok (.iload_n 2, 1) := dqo gX12_mayHave_93.2.2.2.2.2.2.2.2.2.1
theorem dX12_mayHave_108 : decode (mB 204) 108 = .ok (.iconst 0, 1) := dqo gX12_mayHave_93.2.2.2.2.2.2.2.2.2.2.1
theorem dX12_mayHave_109 : decode (mB 204) 109 = .ok (.bipush 9, 2) := dqo gX12_mayHave_93.2.2.2.2.2.2.2.2.2.2.2.1
theorem dX12_mayHave_111 : decode (mB 204) 111 = .ok (.invokestatic 118, 3) := dqo gX12_mayHave_93.2.2.2.2.2.2.2.2.2.2.2.2.1
theorem dX12_mayHave_114 : decode (mB 204) 114 = .ok (.ireturn, 1) := dqo gX12_mayHave_93.2.2.2.2.2.2.2.2.2.2.2.2.2
theorem gX12_mend_0 : dq 205 0 (.aload_n 0) 1 = true ∧ dq 205 1 (.iload_n 1) 1 = true ∧ dq 205 2 (.iload_n 2) 1 = true ∧ dq 205 3 (.invokevirtual 159) 3 = true ∧ dq 205 6 (.ifCond .eq 22) 3 = true ∧ dq 205 9 (.aload_n 0) 1 = true ∧ dq 205 10 (.iload_n 2) 1 = true ∧ dq 205 11 (.iload_n 3) 1 = true ∧ dq 205 12 (.invokevirtual 162) 3 = true ∧ dq 205 15 (.ifCond .eq 13) 3 = true ∧ dq 205 18 (.aload_n 0) 1 = true ∧ dq 205 19 (.iload_n 2) 1 = true ∧ dq 205 20 (.iload_n 1) 1 = true ∧ dq 205 21 (.iload_n 3) 1 = true ∧ dq 205 22 (.invokevirtual 165) 3 = true ∧ dq 205 25 (.goto 4) 3 = true := by decide +kernel
theorem dX12_mend_0 : decode (mB 205) 0 = .ok (.aload_n 0, 1) := dqo gX12_mend_0.1
theorem dX12_mend_1 : decode (mB 205) 1 = .ok (.iload_n 1, 1) := dqo gX12_mend_0.2.1
theorem dX12_mend_2 : decode (mB 205) 2 = .ok (.iload_n 2, 1) := dqo gX12_mend_0.2.2.1
theorem dX12_mend_3 : decode (mB 205) 3 = .ok (.invokevirtual 159, 3) := dqo gX12_mend_0.2.2.2.1
theorem dX12_mend_6 : decode (mB 205) 6 = .ok (.ifCond .eq 22, 3) := dqo gX12_mend_0.2.2.2.2.1
theorem dX12_mend_9 : decode (mB 205) 9 = .ok (.aload_n 0, 1) := dqo gX12_mend_0.2.2.2.2.2.1
theorem dX12_mend_10 : decode (mB 205) 10 = .ok (.iload_n 2, 1) := dqo gX12_mend_0.2.2.2.2.2.2.1
theorem dX12_mend_11 : decode (mB 205) 11 = .ok (.iload_n 3, 1) := dqo gX12_mend_0.2.2.2.2.2.2.2.1
theorem dX12_mend_12 : decode (mB 205) 12 = .ok (.invokevirtual 162, 3) := dqo gX12_mend_0.2.2.2.2.2.2.2.2.1
theorem dX12_mend_15 : decode (mB 205) 15 = .ok (.ifCond .eq 13, 3) := dqo gX12_mend_0.2.2.2.2.2.2.2.2.2.1
theorem dX12_mend_18 : decode (mB 205) 18 = .ok (.aload_n 0, 1) := dqo gX12_mend_0.2.2.2.2.2.2.2.2.2.2.1
theorem dX12_mend_19 : decode (mB 205) 19 = .ok (.iload_n 2, 1) := dqo gX12_mend_0.2.2.2.2.2.2.2.2.2.2.2.1
theorem dX12_mend_20 : decode (mB 205) 20 = .ok (.iload_n 1, 1) := dqo gX12_mend_0.2.2.2.2.2.2.2.2.2.2.2.2.1
theorem dX12_mend_21 : decode (mB 205) 21 = .ok (.iload_n 3, 1) := dqo gX12_mend_0.2.2.2.2.2.2.2.2.2.2.2.2.2.1
theorem dX12_mend_22 : decode (mB 205) 22 = .ok (.invokevirtual 165, 3) := dqo gX12_mend_0.2.2.2.2.2.2.2.2.2.2.2.2.2.2.1
theorem dX12_mend_25 : decode (mB 205) 25 = .ok (.goto 4, 3) := dqo gX12_mend_0.2.2.2.2.2.2.2.2.2.2.2.2.2.2.2
theorem gX12_mend_28 : dq 205 28 (.iconst (-1)) 1 = true ∧ dq 205 29 (.ireturn) 1 = true := by decide +kernel
theorem dX12_mend_28 : decode (mB 205) 28 = .ok (.iconst (-1), 1) := dqo gX12_mend_28.1
theorem dX12_mend_29 : decode (mB 205) 29 = .ok (.ireturn, 1) := dqo gX12_mend_28.2
theorem gX12_of_0 : dq 206 0 (.iload_n 2) 1 = true ∧ dq 206 1 (.bipush 9) 2 = true ∧ dq 206 3 (.bipush 10) 2 = true ∧ dq 206 5 (.invokestatic 118) 3 = true ∧ dq 206 8 (.ifCond .eq 37) 3 = true ∧ dq 206 11 (.aload_n 0) 1 = true ∧ dq 206 12 (.iload_n 1) 1 = true ∧ dq 206 13 (.invokevirtual 125) 3 = true ∧ dq 206 16 (.ifCond .ne 5) 3 = true ∧ dq 206 19 (.iconst (-1)) 1 = true ∧ dq 206 20 (.ireturn) 1 = true ∧ dq 206 21 (.aload_n 0) 1 = true ∧ dq 206 22 (.invokevirtual 168) 3 = true ∧ dq 206 25 (.iload_n 2) 1 = true ∧ dq 206 26 (.bipush 9) 2 = true ∧ dq 206 28 (.if_icmp .ne 11) 3 = true := by decide +kernel
theorem dX12_of_0 : decode (mB 206) 0 = .ok (.iload_n 2, 1) := dqo gX12_of_0.1
theorem dX12_of_1 : decode (mB 206) 1 = .ok (.bipush 9, 2) := dqo gX12_of_0.2.1
theorem dX12_of_3 : decode (mB 206) 3 = .ok (.bipush 10, 2) := dqo gX12_of_0.2.2.1
theorem dX12_of_5 : decode (mB 206) 5 = .ok (.invokestatic 118, 3) := dqo gX12_of_0.2.2.2.1
theorem dX12_of_8 : decode (mB 206) 8 = .ok (.ifCond .eq 37, 3) := dqo gX12_of_0.2.2.2.2.1
theorem dX12_of_11 : decode (mB 206) 11 = .ok (.aload_n 0, 1) := dqo gX12_of_0.2.2.2.2.2.1
theorem dX12_of_12 : decode (mB 206) 12 = .ok (.iload_n 1, 1) := dqo gX12_of_0.2.2.2.2.2.2.1
theorem dX12_of_13 : decode (mB 206) 13 = .ok (.invokevirtual 125, 3) := dqo gX12_of_0.2.2.2.2.2.2.2.1
theorem dX12_of_16 : decode (mB 206) 16 = .ok (.ifCond .ne 5, 3) := dqo gX12_of_0.2.2.2.2.2.2.2.2.1
theorem dX12_of_19 : decode (mB 206) 19 = .ok (.iconst (-1), 1) := dqo gX12_of_0.2.2.2.2.2.2.2.2.2.1
theorem dX12_of_20 : decode (mB 206) 20 = .ok (.ireturn, 1) := dqo gX12_of_0.2.2.2.2.2.2.2.2.2.2.1
theorem dX12_of_21 : decode (mB 206) 21 = .ok (.aload_n 0, 1) := dqo gX12_of_0.2.2.2.2.2.2.2.2.2.2.2.1
theorem dX12_of_22 : decode (mB 206) 22 = .ok (.invokevirtual 168, 3) := dqo gX12_of_0.2.2.2.2.2.2.2.2.2.2.2.2.1
theorem dX12_of_25 : decode (mB 206) 25 = .ok (.iload_n 2, 1) := dqo gX12_of_0.2.2.2.2.2.2.2.2.2.2.2.2.2.1
theorem dX12_of_26 : decode (mB 206) 26 = .ok (.bipush 9, 2) := dqo gX12_of_0.2.2.2.2.2.2.2.2.2.2.2.2.2.2.1
theorem dX12_of_28 : decode (mB 206) 28 = .ok (.if_icmp .ne 11, 3) := dqo gX12_of_0.2.2.2.2.2.2.2.2.2.2.2.2.2.2.2
theorem gX12_of_31 : dq 206 31 (.aload_n 0) 1 = true ∧ dq 206 32 (.iload_n 1) 1 = true ∧ dq 206 33 (.invokevirtual 171) 3 = true ∧ dq 206 36 (.goto 8) 3 = true ∧ dq 206 39 (.aload_n 0) 1 = true ∧ dq 206 40 (.iload_n 1) 1 = true ∧ dq 206 41 (.invokevirtual 175) 3 = true ∧ dq 206 44 (.ireturn) 1 = true ∧ dq 206 45 (.aload_n 0) 1 = true ∧ dq 206 46 (.iload_n 1) 1 = true ∧ dq 206 47 (.iload_n 2) 1 = true ∧ dq 206 48 (.invokevirtual 159) 3 = true ∧ dq 206 51 (.ifCond .eq 12) 3 = true ∧ dq 206 54 (.aload_n 0) 1 = true ∧ dq 206 55 (.iload_n 2) 1 = true ∧ dq 206 56 (.iload_n 1) 1 = true := by decide +kernel
theorem dX12_of_31 : decode (mB 206) 31 = .ok (.aload_n 0, 1) := dqo gX12_of_31.1
theorem dX12_of_32 : decode (mB 206) 32 = .ok (.iload_n 1, 1) := dqo gX12_of_31.2.1
theorem dX12_of_33 : decode (mB 206) 33 = .ok (.invokevirtual 171, 3) := dqo gX12_of_31.2.2.1
theorem dX12_of_36 : decode (mB 206) 36 = .ok (.goto 8, 3) := dqo gX12_of_31.2.2.2.1
theorem dX12_of_39 : decode (mB 206) 39 = .ok (.aload_n 0, 1) := dqo gX12_of_31.2.2.2.2.1
theorem dX12_of_40 : decode (mB 206) 40 = .ok (.iload_n 1, 1) := dqo gX12_of_31.2.2.2.2.2.1
theorem dX12_of_41 : decode (mB 206) 41 = .ok (.invokevirtual 175, 3) := dqo gX12_of_31.2.2.2.2.2.2.1
theorem dX12_of_44 : decode (mB 206) 44 = .ok (.ireturn, 1) := dqo gX12_of_31.2.2.2.2.2.2.2.1
theorem dX12_of_45 : decode (mB 206) 45 = .ok (.aload_n 0, 1) := dqo gX12_of_31.2.2.2.2.2.2.2.2.1
theorem dX12_of_46 : decode (mB 206) 46 = .ok (.iload_n 1, 1) := dqo gX12_of_31.2.2.2.2.2.2.2.2.2.1
theorem dX12_of_47 : decode (mB 206) 47 = .ok (.iload_n 2, 1) := dqo gX12_of_31.2.2.2.2.2.2.2.2.2.2.1
theorem dX12_of_48 : decode (mB 206) 48 = .ok (.invokevirtual 159, 3) := dqo gX12_of_31.2.2.2.2.2.2.2.2.2.2.2.1
theorem dX12_of_51 : decode (mB 206) 51 = .ok (.ifCond .eq 12, 3) := dqo gX12_of_31.2.2.2.2.2.2.2.2.2.2.2.2.1
theorem dX12_of_54 : decode (mB 206) 54 = .ok (.aload_n 0, 1) := dqo gX12_of_31.2.2.2.2.2.2.2.2.2.2.2.2.2.1
theorem dX12_of_55 : decode (mB 206) 55 = .ok (.iload_n 2, 1) := dqo gX12_of_31.2.2.2.2.2.2.2.2.2.2.2.2.2.2.1
theorem dX12_of_56 : decode (mB 206) 56 = .ok (.iload_n 1, 1) := dqo gX12_of_31.2.2.2.2.2.2.2.2.2.2.2.2.2.2.2
theorem gX12_of_57 : dq 206 57 (.invokevirtual 142) 3 = true ∧ dq 206 60 (.goto 4) 3 = true ∧ dq 206 63 (.iconst (-1)) 1 = true ∧ dq 206 64 (.ireturn) 1 = true := by decide +kernel
theorem dX12_of_57 : decode (mB 206) 57 = .ok (.invokevirtual 142, 3) := dqo gX12_of_57.1
theorem dX12_of_60 : decode (mB 206) 60 = .ok (.goto 4, 3) := dqo gX12_of_57.2.1
theorem dX12_of_63 : decode (mB 206) 63 = .ok (.iconst (-1), 1) := dqo gX12_of_57.2.2.1
theorem dX12_of_64 : decode (mB 206) 64 = .ok (.ireturn, 1) := dqo gX12_of_57.2.2.2
theorem gX12_feed_0 : dq 207 0 (.iload_n 1) 1 = true ∧ dq 207 1 (.iconst 0) 1 = true ∧ dq 207 2 (.sipush 255) 3 = true ∧ dq 207 5 (.invokestatic 118) 3 = true ∧ dq 207 8 (.ifCond .ne 5) 3 = true ∧ dq 207 11 (.iconst (-1)) 1 = true ∧ dq 207 12 (.ireturn) 1 = true ∧ dq 207 13 (.aload_n 0) 1 = true ∧ dq 207 14 (.getfield 178) 3 = true ∧ dq 207 17 (.bipush 120) 2 = true ∧ dq 207 19 (.if_icmp .ne 6) 3 = true ∧ dq 207 22 (.bipush (-3)) 2 = true ∧ dq 207 24 (.ireturn) 1 = true ∧ dq 207 25 (.aload_n 0) 1 = true ∧ dq 207 26 (.getfield 48) 3 = true ∧ dq 207 29 (.aload_n 0) 1 = true := by decide +kernel
theorem dX12_feed_0 : decode (mB 207) 0 = .ok (.iload_n 1, 1) := dqo gX12_feed_0.1
theorem dX12_feed_1 : decode (mB 207) 1 = .ok (.iconst 0, 1) := dqo gX12_feed_0.2.1
theorem dX12_feed_2 : decode (mB 207) 2 = .ok (.sipush 255, 3) := dqo gX12_feed_0.2.2.1
theorem dX12_feed_5 : decode (mB 207) 5 = .ok (.invokestatic 118, 3) := dqo gX12_feed_0.2.2.2.1
theorem dX12_feed_8 : decode (mB 207) 8 = .ok (.ifCond .ne 5, 3) := dqo gX12_feed_0.2.2.2.2.1
theorem dX12_feed_11 : decode (mB 207) 11 = .ok (.iconst (-1), 1) := dqo gX12_feed_0.2.2.2.2.2.1
theorem dX12_feed_12 : decode (mB 207) 12 = .ok (.ireturn, 1) := dqo gX12_feed_0.2.2.2.2.2.2.1
theorem dX12_feed_13 : decode (mB 207) 13 = .ok (.aload_n 0, 1) := dqo gX12_feed_0.2.2.2.2.2.2.2.1
theorem dX12_feed_14 : decode (mB 207) 14 = .ok (.getfield 178, 3) := dqo gX12_feed_0.2.2.2.2.2.2.2.2.1
theorem dX12_feed_17 : decode (mB 207) 17 = .ok (.bipush 120, 2) := dqo gX12_feed_0.2.2.2.2.2.2.2.2.2.1
theorem dX12_feed_19 : decode (mB 207) 19 = .ok (.if_icmp .ne 6, 3) := dqo gX12_feed_0.2.2.2.2.2.2.2.2.2.2.1
theorem dX12_feed_22 : decode (mB 207) 22 = .ok (.bipush (-3), 2) := dqo gX12_feed_0.2.2.2.2.2.2.2.2.2.2.2.1
theorem dX12_feed_24 : decode (mB 207) 24 = .ok (.ireturn, 1) := dqo gX12_feed_0.2.2.2.2.2.2.2.2.2.2.2.2.1
theorem dX12_feed_25 : decode (mB 207) 25 = .ok (.aload_n 0, 1) := dqo gX12_feed_0.2.2.2.2.2.2.2.2.2.2.2.2.2.1
theorem dX12_feed_26 : decode (mB 207) 26 = .ok (.getfield 48, 3) := dqo gX12_feed_0.2.2.2.2.2.2.2.2.2.2.2.2.2.2.1
theorem dX12_feed_29 : decode (mB 207) 29 = .ok (.aload_n 0, 1) := dqo gX12_feed_0.2.2.2.2.2.2.2.2.2.2.2.2.2.2.2
theorem gX12_feed_30 : dq 207 30 (.getfield 178) 3 = true ∧ dq 207 33 (.iload_n 1) 1 = true ∧ dq 207 34 (.i2b) 1 = true ∧ dq 207 35 (.bastore) 1 = true ∧ dq 207 36 (.aload_n 0) 1 = true ∧ dq 207 37 (.dup) 1 = true ∧ dq 207 38 (.getfield 178) 3 = true ∧ dq 207 41 (.iconst 1) 1 = true ∧ dq 207 42 (.iadd) 1 = true ∧ dq 207 43 (.putfield 178) 3 = true ∧ dq 207 46 (.aload_n 0) 1 = true ∧ dq 207 47 (.getfield 178) 3 = true ∧ dq 207 50 (.ireturn) 1 = true := by decide +kernel
theorem dX12_feed_30 : decode (mB 207) 30 = .ok (.getfield 178, 3) := dqo gX12_feed_30.1
theorem dX12_feed_33 : decode (mB 207) 33 = .ok (.iload_n 1, 1) := dqo gX12_feed_30.2.1
theorem dX12_feed_34 : decode (mB 207) 34 = .ok (.i2b, 1) := dqo gX12_feed_30.2.2.1
theorem dX12_feed_35 : decode (mB 207) 35 = .ok (.bastore, 1) := dqo gX12_feed_30.2.2.2.1
theorem dX12_feed_36 : decode (mB 207) 36 = .ok (.aload_n 0, 1) := dqo gX12_feed_30.2.2.2.2.1
theorem dX12_feed_37 : decode (mB 207) 37 = .ok (.dup, 1) := dqo gX12_feed_30.2.2.2.2.2.1
theorem dX12_feed_38 : decode (mB 207) 38 = .ok (.getfield 178, 3) := dqo gX12_feed_30.2.2.2.2.2.2.1
theorem dX12_feed_41 : decode (mB 207) 41 = .ok (.iconst 1, 1) := dqo gX12_feed_30.2.2.2.2.2.2.2.1
theorem dX12_feed_42 : decode (mB 207) 42 = .ok (.iadd, 1) := dqo gX12_feed_30.2.2.2.2.2.2.2.2.1
theorem dX12_feed_43 : decode (mB 207) 43 = .ok (.putfield 178, 3) := dqo gX12_feed_30.2.2.2.2.2.2.2.2.2.1
theorem dX12_feed_46 : decode (mB 207) 46 = .ok (.aload_n 0, 1) := dqo gX12_feed_30.2.2.2.2.2.2.2.2.2.2.1
theorem dX12_feed_47 : decode (mB 207) 47 = .ok (.getfield 178, 3) := dqo gX12_feed_30.2.2.2.2.2.2.2.2.2.2.2.1
theorem dX12_feed_50 : decode (mB 207) 50 = .ok (.ireturn, 1) := dqo gX12_feed_30.2.2.2.2.2.2.2.2.2.2.2.2
theorem gX12_look_0 : dq 208 0 (.aload_n 0) 1 = true ∧ dq 208 1 (.getfield 181) 3 = true ∧ dq 208 4 (.aload_n 0) 1 = true ∧ dq 208 5 (.getfield 178) 3 = true ∧ dq 208 8 (.if_icmp .ge 15) 3 = true ∧ dq 208 11 (.aload_n 0) 1 = true ∧ dq 208 12 (.getfield 48) 3 = true ∧ dq 208 15 (.aload_n 0) 1 = true ∧ dq 208 16 (.getfield 181) 3 = true ∧ dq 208 19 (.baload) 1 = true ∧ dq 208 20 (.goto 4) 3 = true ∧ dq 208 23 (.iconst (-1)) 1 = true ∧ dq 208 24 (.ireturn) 1 = true := by decide +kernel
theorem dX12_look_0 : decode (mB 208) 0 = .ok (.aload_n 0, 1) := dqo gX12_look_0.1
theorem dX12_look_1 : decode (mB 208) 1 = .ok (.getfield 181, 3) := dqo gX12_look_0.2.1
theorem dX12_look_4 : decode (mB 208) 4 = .ok (.aload_n 0, 1) := dqo gX12_look_0.2.2.1
theorem dX12_look_5 : decode (mB 208) 5 = .ok (.getfield 178, 3) := dqo gX12_look_0.2.2.2.1
theorem dX12_look_8 : decode (mB 208) 8 = .ok (.if_icmp .ge 15, 3) := dqo gX12_look_0.2.2.2.2.1
theorem dX12_look_11 : decode (mB 208) 11 = .ok (.aload_n 0, 1) := dqo gX12_look_0.2.2.2.2.2.1
theorem dX12_look_12 : decode (mB 208) 12 = .ok (.getfield 48, 3) := dqo gX12_look_0.2.2.2.2.2.2.1
theorem dX12_look_15 : decode (mB 208) 15 = .ok (.aload_n 0, 1) := dqo gX12_look_0.2.2.2.2.2.2.2.1
theorem dX12_look_16 : decode (mB 208) 16 = .ok (.getfield 181, 3) := dqo gX12_look_0.2.2.2.2.2.2.2.2.1
theorem dX12_look_19 : decode (mB 208) 19 = .ok (.baload, 1) := dqo gX12_look_0.2.2.2.2.2.2.2.2.2.1
theorem dX12_look_20 : decode (mB 208) 20 = .ok (.goto 4, 3) := dqo gX12_look_0.2.2.2.2.2.2.2.2.2.2.1
theorem dX12_look_23 : decode (mB 208) 23 = .ok (.iconst (-1), 1) := dqo gX12_look_0.2.2.2.2.2.2.2.2.2.2.2.1
theorem dX12_look_24 : decode (mB 208) 24 = .ok (.ireturn, 1) := dqo gX12_look_0.2.2.2.2.2.2.2.2.2.2.2.2
theorem gX12_wrong_0 : dq 209 0 (.aload_n 0) 1 = true ∧ dq 209 1 (.getfield 184) 3 = true ∧ dq 209 4 (.ifCond .ge 11) 3 = true ∧ dq 209 7 (.aload_n 0) 1 = true ∧ dq 209 8 (.aload_n 0) 1 = true ∧ dq 209 9 (.getfield 181) 3 = true ∧ dq 209 12 (.putfield 184) 3 = true ∧ dq 209 15 (.return_) 1 = true := by decide +kernel
theorem dX12_wrong_0 : decode (mB 209) 0 = .ok (.aload_n 0, 1) := dqo gX12_wrong_0.1
theorem dX12_wrong_1 : decode (mB 209) 1 = .ok (.getfield 184, 3) := dqo gX12_wrong_0.2.1
theorem dX12_wrong_4 : decode (mB 209) 4 = .ok (.ifCond .ge 11, 3) := dqo gX12_wrong_0.2.2.1
theorem dX12_wrong_7 : decode (mB 209) 7 = .ok (.aload_n 0, 1) := dqo gX12_wrong_0.2.2.2.1
theorem dX12_wrong_8 : decode (mB 209) 8 = .ok (.aload_n 0, 1) := dqo gX12_wrong_0.2.2.2.2.1
theorem dX12_wrong_9 : decode (mB 209) 9 = .ok (.getfield 181, 3) := dqo gX12_wrong_0.2.2.2.2.2.1
theorem dX12_wrong_12 : decode (mB 209) 12 = .ok (.putfield 184, 3) := dqo gX12_wrong_0.2.2.2.2.2.2.1
theorem dX12_wrong_15 : decode (mB 209) 15 = .ok (.return_, 1) := dqo gX12_wrong_0.2.2.2.2.2.2.2
theorem gX12_addStep_0 : dq 210 0 (.aload_n 0) 1 = true ∧ dq 210 1 (.getfield 52) 3 = true ∧ dq 210 4 (.sipush 130) 3 = true ∧ dq 210 7 (.aload_n 0) 1 = true ∧ dq 210 8 (.getfield 187) 3 = true ∧ dq 210 11 (.iadd) 1 = true ∧ dq 210 12 (.iload_n 1) 1 = true ∧ dq 210 13 (.i2b) 1 = true ∧ dq 210 14 (.bastore) 1 = true ∧ dq 210 15 (.aload_n 0) 1 = true ∧ dq 210 16 (.getfield 55) 3 = true ∧ dq 210 19 (.sipush 130) 3 = true ∧ dq 210 22 (.aload_n 0) 1 = true ∧ dq 210 23 (.getfield 187) 3 = true ∧ dq 210 26 (.iadd) 1 = true ∧ dq 210 27 (.iload_n 2) 1 = true := by decide +kernel
theorem dX12_addStep_0 : decode (mB 210) 0 = .ok (.aload_n 0, 1) := dqo gX12_addStep_0.1
theorem dX12_addStep_1 : decode (mB 210) 1 = .ok (.getfield 52, 3) := dqo gX12_addStep_0.2.1
theorem dX12_addStep_4 : decode (mB 210) 4 = .ok (.sipush 130, 3) := dqo gX12_addStep_0.2.2.1
theorem dX12_addStep_7 : decode (mB 210) 7 = .ok (.aload_n 0, 1) := dqo gX12_addStep_0.2.2.2.1
theorem dX12_addStep_8 : decode (mB 210) 8 = .ok (.getfield 187, 3) := dqo gX12_addStep_0.2.2.2.2.1
theorem dX12_addStep_11 : decode (mB 210) 11 = .ok (.iadd, 1) := dqo gX12_addStep_0.2.2.2.2.2.1
theorem dX12_addStep_12 : decode (mB 210) 12 = .ok (.iload_n 1, 1) := dqo gX12_addStep_0.2.2.2.2.2.2.1
theorem dX12_addStep_13 : decode (mB 210) 13 = .ok (.i2b, 1) := dqo gX12_addStep_0.2.2.2.2.2.2.2.1
theorem dX12_addStep_14 : decode (mB 210) 14 = .ok (.bastore, 1) := dqo gX12_addStep_0.2.2.2.2.2.2.2.2.1
theorem dX12_addStep_15 : decode (mB 210) 15 = .ok (.aload_n 0, 1) := dqo gX12_addStep_0.2.2.2.2.2.2.2.2.2.1
theorem dX12_addStep_16 : decode (mB 210) 16 = .ok (.getfield 55, 3) := dqo gX12_addStep_0.2.2.2.2.2.2.2.2.2.2.1
theorem dX12_addStep_19 : decode (mB 210) 19 = .ok (.sipush 130, 3) := dqo gX12_addStep_0.2.2.2.2.2.2.2.2.2.2.2.1
theorem dX12_addStep_22 : decode (mB 210) 22 = .ok (.aload_n 0, 1) := dqo gX12_addStep_0.2.2.2.2.2.2.2.2.2.2.2.2.1
theorem dX12_addStep_23 : decode (mB 210) 23 = .ok (.getfield 187, 3) := dqo gX12_addStep_0.2.2.2.2.2.2.2.2.2.2.2.2.2.1
theorem dX12_addStep_26 : decode (mB 210) 26 = .ok (.iadd, 1) := dqo gX12_addStep_0.2.2.2.2.2.2.2.2.2.2.2.2.2.2.1
theorem dX12_addStep_27 : decode (mB 210) 27 = .ok (.iload_n 2, 1) := dqo gX12_addStep_0.2.2.2.2.2.2.2.2.2.2.2.2.2.2.2
theorem gX12_addStep_28 : dq 210 28 (.iastore) 1 = true ∧ dq 210 29 (.aload_n 0) 1 = true ∧ dq 210 30 (.dup) 1 = true ∧ dq 210 31 (.getfield 187) 3 = true ∧ dq 210 34 (.iconst 1) 1 = true ∧ dq 210 35 (.iadd) 1 = true ∧ dq 210 36 (.putfield 187) 3 = true ∧ dq 210 39 (.return_) 1 = true := by decide +kernel
theorem dX12_addStep_28 : decode (mB 210) 28 = .ok (.iastore, 1) := dqo gX12_addStep_28.1
theorem dX12_addStep_29 : decode (mB 210) 29 = .ok (.aload_n 0, 1) := dqo gX12_addStep_28.2.1
theorem dX12_addStep_30 : decode (mB 210) 30 = .ok (.dup, 1) := dqo gX12_addStep_28.2.2.1
theorem dX12_addStep_31 : decode (mB 210) 31 = .ok (.getfield 187, 3) := dqo gX12_addStep_28.2.2.2.1
theorem dX12_addStep_34 : decode (mB 210) 34 = .ok (.iconst 1, 1) := dqo gX12_addStep_28.2.2.2.2.1
theorem dX12_addStep_35 : decode (mB 210) 35 = .ok (.iadd, 1) := dqo gX12_addStep_28.2.2.2.2.2.1
theorem dX12_addStep_36 : decode (mB 210) 36 = .ok (.putfield 187, 3) := dqo gX12_addStep_28.2.2.2.2.2.2.1
theorem dX12_addStep_39 : decode (mB 210) 39 = .ok (.return_, 1) := dqo gX12_addStep_28.2.2.2.2.2.2.2
theorem gX12_nameOf_0 : dq 211 0 (.iload_n 0) 1 = true ∧ dq 211 1 (.lookupswitch 71 #[(98, 61), (102, 65), (104, 67), (110, 63), (115, 69), (119, 59)]) 59 = true ∧ dq 211 60 (.iconst 0) 1 = true ∧ dq 211 61 (.ireturn) 1 = true ∧ dq 211 62 (.iconst 1) 1 = true ∧ dq 211 63 (.ireturn) 1 = true ∧ dq 211 64 (.iconst 2) 1 = true ∧ dq 211 65 (.ireturn) 1 = true ∧ dq 211 66 (.iconst 3) 1 = true ∧ dq 211 67 (.ireturn) 1 = true ∧ dq 211 68 (.iconst 4) 1 = true ∧ dq 211 69 (.ireturn) 1 = true ∧ dq 211 70 (.iconst 5) 1 = true ∧ dq 211 71 (.ireturn) 1 = true ∧ dq 211 72 (.iconst (-1)) 1 = true ∧ dq 211 73 (.ireturn) 1 = true := by decide +kernel
theorem dX12_nameOf_0 : decode (mB 211) 0 = .ok (.iload_n 0, 1) := dqo gX12_nameOf_0.1
theorem dX12_nameOf_1 : decode (mB 211) 1 = .ok (.lookupswitch 71 #[(98, 61), (102, 65), (104, 67), (110, 63), (115, 69), (119, 59)], 59) := dqo gX12_nameOf_0.2.1
theorem dX12_nameOf_60 : decode (mB 211) 60 = .ok (.iconst 0, 1) := dqo gX12_nameOf_0.2.2.1
theorem dX12_nameOf_61 : decode (mB 211) 61 = .ok (.ireturn, 1) := dqo gX12_nameOf_0.2.2.2.1
theorem dX12_nameOf_62 : decode (mB 211) 62 = .ok (.iconst 1, 1) := dqo gX12_nameOf_0.2.2.2.2.1
theorem dX12_nameOf_63 : decode (mB 211) 63 = .ok (.ireturn, 1) := dqo gX12_nameOf_0.2.2.2.2.2.1
theorem dX12_nameOf_64 : decode (mB 211) 64 = .ok (.iconst 2, 1) := dqo gX12_nameOf_0.2.2.2.2.2.2.1
theorem dX12_nameOf_65 : decode (mB 211) 65 = .ok (.ireturn, 1) := dqo gX12_nameOf_0.2.2.2.2.2.2.2.1
theorem dX12_nameOf_66 : decode (mB 211) 66 = .ok (.iconst 3, 1) := dqo gX12_nameOf_0.2.2.2.2.2.2.2.2.1
theorem dX12_nameOf_67 : decode (mB 211) 67 = .ok (.ireturn, 1) := dqo gX12_nameOf_0.2.2.2.2.2.2.2.2.2.1
theorem dX12_nameOf_68 : decode (mB 211) 68 = .ok (.iconst 4, 1) := dqo gX12_nameOf_0.2.2.2.2.2.2.2.2.2.2.1
theorem dX12_nameOf_69 : decode (mB 211) 69 = .ok (.ireturn, 1) := dqo gX12_nameOf_0.2.2.2.2.2.2.2.2.2.2.2.1
theorem dX12_nameOf_70 : decode (mB 211) 70 = .ok (.iconst 5, 1) := dqo gX12_nameOf_0.2.2.2.2.2.2.2.2.2.2.2.2.1
theorem dX12_nameOf_71 : decode (mB 211) 71 = .ok (.ireturn, 1) := dqo gX12_nameOf_0.2.2.2.2.2.2.2.2.2.2.2.2.2.1
theorem dX12_nameOf_72 : decode (mB 211) 72 = .ok (.iconst (-1), 1) := dqo gX12_nameOf_0.2.2.2.2.2.2.2.2.2.2.2.2.2.2.1
theorem dX12_nameOf_73 : decode (mB 211) 73 = .ok (.ireturn, 1) := dqo gX12_nameOf_0.2.2.2.2.2.2.2.2.2.2.2.2.2.2.2
theorem gX12_opens_0 : dq 212 0 (.aload_n 0) 1 = true ∧ dq 212 1 (.getfield 190) 3 = true ∧ dq 212 4 (.bipush 6) 2 = true ∧ dq 212 6 (.if_icmp .ne 9) 3 = true ∧ dq 212 9 (.aload_n 0) 1 = true ∧ dq 212 10 (.invokevirtual 193) 3 = true ∧ dq 212 13 (.iconst 0) 1 = true ∧ dq 212 14 (.ireturn) 1 = true ∧ dq 212 15 (.aload_n 0) 1 = true ∧ dq 212 16 (.dup) 1 = true ∧ dq 212 17 (.getfield 190) 3 = true ∧ dq 212 20 (.iconst 1) 1 = true ∧ dq 212 21 (.iadd) 1 = true ∧ dq 212 22 (.putfield 190) 3 = true ∧ dq 212 25 (.aload_n 0) 1 = true ∧ dq 212 26 (.dup) 1 = true := by decide +kernel
theorem dX12_opens_0 : decode (mB 212) 0 = .ok (.aload_n 0, 1) := dqo gX12_opens_0.1
theorem dX12_opens_1 : decode (mB 212) 1 = .ok (.getfield 190, 3) := dqo gX12_opens_0.2.1
theorem dX12_opens_4 : decode (mB 212) 4 = .ok (.bipush 6, 2) := dqo gX12_opens_0.2.2.1
theorem dX12_opens_6 : decode (mB 212) 6 = .ok (.if_icmp .ne 9, 3) := dqo gX12_opens_0.2.2.2.1
theorem dX12_opens_9 : decode (mB 212) 9 = .ok (.aload_n 0, 1) := dqo gX12_opens_0.2.2.2.2.1
theorem dX12_opens_10 : decode (mB 212) 10 = .ok (.invokevirtual 193, 3) := dqo gX12_opens_0.2.2.2.2.2.1
theorem dX12_opens_13 : decode (mB 212) 13 = .ok (.iconst 0, 1) := dqo gX12_opens_0.2.2.2.2.2.2.1
theorem dX12_opens_14 : decode (mB 212) 14 = .ok (.ireturn, 1) := dqo gX12_opens_0.2.2.2.2.2.2.2.1
theorem dX12_opens_15 : decode (mB 212) 15 = .ok (.aload_n 0, 1) := dqo gX12_opens_0.2.2.2.2.2.2.2.2.1
theorem dX12_opens_16 : decode (mB 212) 16 = .ok (.dup, 1) := dqo gX12_opens_0.2.2.2.2.2.2.2.2.2.1
theorem dX12_opens_17 : decode (mB 212) 17 = .ok (.getfield 190, 3) := dqo gX12_opens_0.2.2.2.2.2.2.2.2.2.2.1
theorem dX12_opens_20 : decode (mB 212) 20 = .ok (.iconst 1, 1) := dqo gX12_opens_0.2.2.2.2.2.2.2.2.2.2.2.1
theorem dX12_opens_21 : decode (mB 212) 21 = .ok (.iadd, 1) := dqo gX12_opens_0.2.2.2.2.2.2.2.2.2.2.2.2.1
theorem dX12_opens_22 : decode (mB 212) 22 = .ok (.putfield 190, 3) := dqo gX12_opens_0.2.2.2.2.2.2.2.2.2.2.2.2.2.1
theorem dX12_opens_25 : decode (mB 212) 25 = .ok (.aload_n 0, 1) := dqo gX12_opens_0.2.2.2.2.2.2.2.2.2.2.2.2.2.2.1
theorem dX12_opens_26 : decode (mB 212) 26 = .ok (.dup, 1) := dqo gX12_opens_0.2.2.2.2.2.2.2.2.2.2.2.2.2.2.2
theorem gX12_opens_27 : dq 212 27 (.getfield 181) 3 = true ∧ dq 212 30 (.iconst 1) 1 = true ∧ dq 212 31 (.iadd) 1 = true ∧ dq 212 32 (.putfield 181) 3 = true ∧ dq 212 35 (.iconst 1) 1 = true ∧ dq 212 36 (.ireturn) 1 = true := by decide +kernel
theorem dX12_opens_27 : decode (mB 212) 27 = .ok (.getfield 181, 3) := dqo gX12_opens_27.1
theorem dX12_opens_30 : decode (mB 212) 30 = .ok (.iconst 1, 1) := dqo gX12_opens_27.2.1
theorem dX12_opens_31 : decode (mB 212) 31 = .ok (.iadd, 1) := dqo gX12_opens_27.2.2.1
theorem dX12_opens_32 : decode (mB 212) 32 = .ok (.putfield 181, 3) := dqo gX12_opens_27.2.2.2.1
theorem dX12_opens_35 : decode (mB 212) 35 = .ok (.iconst 1, 1) := dqo gX12_opens_27.2.2.2.2.1
theorem dX12_opens_36 : decode (mB 212) 36 = .ok (.ireturn, 1) := dqo gX12_opens_27.2.2.2.2.2
theorem gX12_figure_0 : dq 213 0 (.iconst 0) 1 = true ∧ dq 213 1 (.istore_n 1) 1 = true ∧ dq 213 2 (.iconst 0) 1 = true ∧ dq 213 3 (.istore_n 2) 1 = true ∧ dq 213 4 (.iload_n 2) 1 = true ∧ dq 213 5 (.iconst 4) 1 = true ∧ dq 213 6 (.if_icmp .ge 46) 3 = true ∧ dq 213 9 (.aload_n 0) 1 = true ∧ dq 213 10 (.invokevirtual 196) 3 = true ∧ dq 213 13 (.bipush 48) 2 = true ∧ dq 213 15 (.bipush 57) 2 = true ∧ dq 213 17 (.invokestatic 118) 3 = true ∧ dq 213 20 (.ifCond .eq 32) 3 = true ∧ dq 213 23 (.bipush 10) 2 = true ∧ dq 213 25 (.iload_n 1) 1 = true ∧ dq 213 26 (.imul) 1 = true := by decide +kernel
theorem dX12_figure_0 : decode (mB 213) 0 = .ok (.iconst 0, 1) := dqo gX12_figure_0.1
theorem dX12_figure_1 : decode (mB 213) 1 = .ok (.istore_n 1, 1) := dqo gX12_figure_0.2.1
theorem dX12_figure_2 : decode (mB 213) 2 = .ok (.iconst 0, 1) := dqo gX12_figure_0.2.2.1
theorem dX12_figure_3 : decode (mB 213) 3 = .ok (.istore_n 2, 1) := dqo gX12_figure_0.2.2.2.1
theorem dX12_figure_4 : decode (mB 213) 4 = .ok (.iload_n 2, 1) := dqo gX12_figure_0.2.2.2.2.1
theorem dX12_figure_5 : decode (mB 213) 5 = .ok (.iconst 4, 1) := dqo gX12_figure_0.2.2.2.2.2.1
theorem dX12_figure_6 : decode (mB 213) 6 = .ok (.if_icmp .ge 46, 3) := dqo gX12_figure_0.2.2.2.2.2.2.1
theorem dX12_figure_9 : decode (mB 213) 9 = .ok (.aload_n 0, 1) := dqo gX12_figure_0.2.2.2.2.2.2.2.1
theorem dX12_figure_10 : decode (mB 213) 10 = .ok (.invokevirtual 196, 3) := dqo gX12_figure_0.2.2.2.2.2.2.2.2.1
theorem dX12_figure_13 : decode (mB 213) 13 = .ok (.bipush 48, 2) := dqo gX12_figure_0.2.2.2.2.2.2.2.2.2.1
theorem dX12_figure_15 : decode (mB 213) 15 = .ok (.bipush 57, 2) := dqo gX12_figure_0.2.2.2.2.2.2.2.2.2.2.1
theorem dX12_figure_17 : decode (mB 213) 17 = .ok (.invokestatic 118, 3) := dqo gX12_figure_0.2.2.2.2.2.2.2.2.2.2.2.1
theorem dX12_figure_20 : decode (mB 213) 20 = .ok (.ifCond .eq 32, 3) := dqo gX12_figure_0.2.2.2.2.2.2.2.2.2.2.2.2.1
theorem dX12_figure_23 : decode (mB 213) 23 = .ok (.bipush 10, 2) := dqo gX12_figure_0.2.2.2.2.2.2.2.2.2.2.2.2.2.1
theorem dX12_figure_25 : decode (mB 213) 25 = .ok (.iload_n 1, 1) := dqo gX12_figure_0.2.2.2.2.2.2.2.2.2.2.2.2.2.2.1
theorem dX12_figure_26 : decode (mB 213) 26 = .ok (.imul, 1) := dqo gX12_figure_0.2.2.2.2.2.2.2.2.2.2.2.2.2.2.2
theorem gX12_figure_27 : dq 213 27 (.aload_n 0) 1 = true ∧ dq 213 28 (.invokevirtual 196) 3 = true ∧ dq 213 31 (.iadd) 1 = true ∧ dq 213 32 (.bipush 48) 2 = true ∧ dq 213 34 (.isub) 1 = true ∧ dq 213 35 (.istore_n 1) 1 = true ∧ dq 213 36 (.iinc 2 1) 3 = true ∧ dq 213 39 (.aload_n 0) 1 = true ∧ dq 213 40 (.dup) 1 = true ∧ dq 213 41 (.getfield 181) 3 = true ∧ dq 213 44 (.iconst 1) 1 = true ∧ dq 213 45 (.iadd) 1 = true ∧ dq 213 46 (.putfield 181) 3 = true ∧ dq 213 49 (.goto (-45)) 3 = true ∧ dq 213 52 (.iload_n 2) 1 = true ∧ dq 213 53 (.ifCond .eq 17) 3 = true := by decide +kernel
theorem dX12_figure_27 : decode (mB 213) 27 = .ok (.aload_n 0, 1) := dqo gX12_figure_27.1
theorem dX12_figure_28 : decode (mB 213) 28 = .ok (.invokevirtual 196, 3) := dqo gX12_figure_27.2.1
theorem dX12_figure_31 : decode (mB 213) 31 = .ok (.iadd, 1) := dqo gX12_figure_27.2.2.1
theorem dX12_figure_32 : decode (mB 213) 32 = .ok (.bipush 48, 2) := dqo gX12_figure_27.2.2.2.1
theorem dX12_figure_34 : decode (mB 213) 34 = .ok (.isub, 1) := dqo gX12_figure_27.2.2.2.2.1
theorem dX12_figure_35 : decode (mB 213) 35 = .ok (.istore_n 1, 1) := dqo gX12_figure_27.2.2.2.2.2.1
theorem dX12_figure_36 : decode (mB 213) 36 = .ok (.iinc 2 1, 3) := dqo gX12_figure_27.2.2.2.2.2.2.1
theorem dX12_figure_39 : decode (mB 213) 39 = .ok (.aload_n 0, 1) := dqo gX12_figure_27.2.2.2.2.2.2.2.1
theorem dX12_figure_40 : decode (mB 213) 40 = .ok (.dup, 1) := dqo gX12_figure_27.2.2.2.2.2.2.2.2.1
theorem dX12_figure_41 : decode (mB 213) 41 = .ok (.getfield 181, 3) := dqo gX12_figure_27.2.2.2.2.2.2.2.2.2.1
theorem dX12_figure_44 : decode (mB 213) 44 = .ok (.iconst 1, 1) := dqo gX12_figure_27.2.2.2.2.2.2.2.2.2.2.1
theorem dX12_figure_45 : decode (mB 213) 45 = .ok (.iadd, 1) := dqo gX12_figure_27.2.2.2.2.2.2.2.2.2.2.2.1
theorem dX12_figure_46 : decode (mB 213) 46 = .ok (.putfield 181, 3) := dqo gX12_figure_27.2.2.2.2.2.2.2.2.2.2.2.2.1
theorem dX12_figure_49 : decode (mB 213) 49 = .ok (.goto (-45), 3) := dqo gX12_figure_27.2.2.2.2.2.2.2.2.2.2.2.2.2.1
theorem dX12_figure_52 : decode (mB 213) 52 = .ok (.iload_n 2, 1) := dqo gX12_figure_27.2.2.2.2.2.2.2.2.2.2.2.2.2.2.1
theorem dX12_figure_53 : decode (mB 213) 53 = .ok (.ifCond .eq 17, 3) := dqo gX12_figure_27.2.2.2.2.2.2.2.2.2.2.2.2.2.2.2
theorem gX12_figure_56 : dq 213 56 (.aload_n 0) 1 = true ∧ dq 213 57 (.invokevirtual 196) 3 = true ∧ dq 213 60 (.bipush 48) 2 = true ∧ dq 213 62 (.bipush 57) 2 = true ∧ dq 213 64 (.invokestatic 118) 3 = true ∧ dq 213 67 (.ifCond .eq 7) 3 = true ∧ dq 213 70 (.aload_n 0) 1 = true ∧ dq 213 71 (.invokevirtual 193) 3 = true ∧ dq 213 74 (.aload_n 0) 1 = true ∧ dq 213 75 (.iconst 1) 1 = true ∧ dq 213 76 (.iload_n 1) 1 = true ∧ dq 213 77 (.invokevirtual 200) 3 = true ∧ dq 213 80 (.return_) 1 = true := by decide +kernel
theorem dX12_figure_56 : decode (mB 213) 56 = .ok (.aload_n 0, 1) := dqo gX12_figure_56.1
theorem dX12_figure_57 : decode (mB 213) 57 = .ok (.invokevirtual 196, 3) := dqo gX12_figure_56.2.1
theorem dX12_figure_60 : decode (mB 213) 60 = .ok (.bipush 48, 2) := dqo gX12_figure_56.2.2.1
theorem dX12_figure_62 : decode (mB 213) 62 = .ok (.bipush 57, 2) := dqo gX12_figure_56.2.2.2.1
theorem dX12_figure_64 : decode (mB 213) 64 = .ok (.invokestatic 118, 3) := dqo gX12_figure_56.2.2.2.2.1
theorem dX12_figure_67 : decode (mB 213) 67 = .ok (.ifCond .eq 7, 3) := dqo gX12_figure_56.2.2.2.2.2.1
theorem dX12_figure_70 : decode (mB 213) 70 = .ok (.aload_n 0, 1) := dqo gX12_figure_56.2.2.2.2.2.2.1
theorem dX12_figure_71 : decode (mB 213) 71 = .ok (.invokevirtual 193, 3) := dqo gX12_figure_56.2.2.2.2.2.2.2.1
theorem dX12_figure_74 : decode (mB 213) 74 = .ok (.aload_n 0, 1) := dqo gX12_figure_56.2.2.2.2.2.2.2.2.1
theorem dX12_figure_75 : decode (mB 213) 75 = .ok (.iconst 1, 1) := dqo gX12_figure_56.2.2.2.2.2.2.2.2.2.1
theorem dX12_figure_76 : decode (mB 213) 76 = .ok (.iload_n 1, 1) := dqo gX12_figure_56.2.2.2.2.2.2.2.2.2.2.1
theorem dX12_figure_77 : decode (mB 213) 77 = .ok (.invokevirtual 200, 3) := dqo gX12_figure_56.2.2.2.2.2.2.2.2.2.2.2.1
theorem dX12_figure_80 : decode (mB 213) 80 = .ok (.return_, 1) := dqo gX12_figure_56.2.2.2.2.2.2.2.2.2.2.2.2
theorem gX12_operand_0 : dq 214 0 (.aload_n 0) 1 = true ∧ dq 214 1 (.invokevirtual 196) 3 = true ∧ dq 214 4 (.istore_n 1) 1 = true ∧ dq 214 5 (.iload_n 1) 1 = true ∧ dq 214 6 (.invokestatic 204) 3 = true ∧ dq 214 9 (.ifCond .lt 25) 3 = true ∧ dq 214 12 (.aload_n 0) 1 = true ∧ dq 214 13 (.iconst 2) 1 = true ∧ dq 214 14 (.iload_n 1) 1 = true ∧ dq 214 15 (.invokestatic 204) 3 = true ∧ dq 214 18 (.invokevirtual 200) 3 = true ∧ dq 214 21 (.aload_n 0) 1 = true ∧ dq 214 22 (.dup) 1 = true ∧ dq 214 23 (.getfield 181) 3 = true ∧ dq 214 26 (.iconst 1) 1 = true ∧ dq 214 27 (.iadd) 1 = true := by decide +kernel
theorem dX12_operand_0 : decode (mB 214) 0 = .ok (.aload_n 0, 1) := dqo gX12_operand_0.1
theorem dX12_operand_1 : decode (mB 214) 1 = .ok (.invokevirtual 196, 3) := dqo gX12_operand_0.2.1
theorem dX12_operand_4 : decode (mB 214) 4 = .ok (.istore_n 1, 1) := dqo gX12_operand_0.2.2.1
theorem dX12_operand_5 : decode (mB 214) 5 = .ok (.iload_n 1, 1) := dqo gX12_operand_0.2.2.2.1
theorem dX12_operand_6 : decode (mB 214) 6 = .ok (.invokestatic 204, 3) := dqo gX12_operand_0.2.2.2.2.1
theorem dX12_operand_9 : decode (mB 214) 9 = .ok (.ifCond .lt 25, 3) := dqo gX12_operand_0.2.2.2.2.2.1
theorem dX12_operand_12 : decode (mB 214) 12 = .ok (.aload_n 0, 1) := dqo gX12_operand_0.2.2.2.2.2.2.1
theorem dX12_operand_13 : decode (mB 214) 13 = .ok (.iconst 2, 1) := dqo gX12_operand_0.2.2.2.2.2.2.2.1
theorem dX12_operand_14 : decode (mB 214) 14 = .ok (.iload_n 1, 1) := dqo gX12_operand_0.2.2.2.2.2.2.2.2.1
theorem dX12_operand_15 : decode (mB 214) 15 = .ok (.invokestatic 204, 3) := dqo gX12_operand_0.2.2.2.2.2.2.2.2.2.1
theorem dX12_operand_18 : decode (mB 214) 18 = .ok (.invokevirtual 200, 3) := dqo gX12_operand_0.2.2.2.2.2.2.2.2.2.2.1
theorem dX12_operand_21 : decode (mB 214) 21 = .ok (.aload_n 0, 1) := dqo gX12_operand_0.2.2.2.2.2.2.2.2.2.2.2.1
theorem dX12_operand_22 : decode (mB 214) 22 = .ok (.dup, 1) := dqo gX12_operand_0.2.2.2.2.2.2.2.2.2.2.2.2.1
theorem dX12_operand_23 : decode (mB 214) 23 = .ok (.getfield 181, 3) := dqo gX12_operand_0.2.2.2.2.2.2.2.2.2.2.2.2.2.1
theorem dX12_operand_26 : decode (mB 214) 26 = .ok (.iconst 1, 1) := dqo gX12_operand_0.2.2.2.2.2.2.2.2.2.2.2.2.2.2.1
theorem dX12_operand_27 : decode (mB 214) 27 = .ok (.iadd, 1) := dqo gX12_operand_0.2.2.2.2.2.2.2.2.2.2.2.2.2.2.2
theorem gX12_operand_28 : dq 214 28 (.putfield 181) 3 = true ∧ dq 214 31 (.goto 123) 3 = true ∧ dq 214 34 (.iload_n 1) 1 = true ∧ dq 214 35 (.bipush 33) 2 = true ∧ dq 214 37 (.if_icmp .eq 9) 3 = true ∧ dq 214 40 (.iload_n 1) 1 = true ∧ dq 214 41 (.bipush 45) 2 = true ∧ dq 214 43 (.if_icmp .ne 44) 3 = true ∧ dq 214 46 (.aload_n 0) 1 = true ∧ dq 214 47 (.invokevirtual 207) 3 = true ∧ dq 214 50 (.ifCond .ne 4) 3 = true ∧ dq 214 53 (.return_) 1 = true ∧ dq 214 54 (.aload_n 0) 1 = true ∧ dq 214 55 (.invokevirtual 211) 3 = true ∧ dq 214 58 (.aload_n 0) 1 = true ∧ dq 214 59 (.dup) 1 = true := by decide +kernel
theorem dX12_operand_28 : decode (mB 214) 28 = .ok (.putfield 181, 3) := dqo gX12_operand_28.1
theorem dX12_operand_31 : decode (mB 214) 31 = .ok (.goto 123, 3) := dqo gX12_operand_28.2.1
theorem dX12_operand_34 : decode (mB 214) 34 = .ok (.iload_n 1, 1) := dqo gX12_operand_28.2.2.1
theorem dX12_operand_35 : decode (mB 214) 35 = .ok (.bipush 33, 2) := dqo gX12_operand_28.2.2.2.1
theorem dX12_operand_37 : decode (mB 214) 37 = .ok (.if_icmp .eq 9, 3) := dqo gX12_operand_28.2.2.2.2.1
theorem dX12_operand_40 : decode (mB 214) 40 = .ok (.iload_n 1, 1) := dqo gX12_operand_28.2.2.2.2.2.1
theorem dX12_operand_41 : decode (mB 214) 41 = .ok (.bipush 45, 2) := dqo gX12_operand_28.2.2.2.2.2.2.1
theorem dX12_operand_43 : decode (mB 214) 43 = .ok (.if_icmp .ne 44, 3) := dqo gX12_operand_28.2.2.2.2.2.2.2.1
theorem dX12_operand_46 : decode (mB 214) 46 = .ok (.aload_n 0, 1) := dqo gX12_operand_28.2.2.2.2.2.2.2.2.1
theorem dX12_operand_47 : decode (mB 214) 47 = .ok (.invokevirtual 207, 3) := dqo gX12_operand_28.2.2.2.2.2.2.2.2.2.1
theorem dX12_operand_50 : decode (mB 214) 50 = .ok (.ifCond .ne 4, 3) := dqo gX12_operand_28.2.2.2.2.2.2.2.2.2.2.1
theorem dX12_operand_53 : decode (mB 214) 53 = .ok (.return_, 1) := dqo gX12_operand_28.2.2.2.2.2.2.2.2.2.2.2.1
theorem dX12_operand_54 : decode (mB 214) 54 = .ok (.aload_n 0, 1) := dqo gX12_operand_28.2.2.2.2.2.2.2.2.2.2.2.2.1
theorem dX12_operand_55 : decode (mB 214) 55 = .ok (.invokevirtual 211, 3) := dqo gX12_operand_28.2.2.2.2.2.2.2.2.2.2.2.2.2.1
theorem dX12_operand_58 : decode (mB 214) 58 = .ok (.aload_n 0, 1) := dqo gX12_operand_28.2.2.2.2.2.2.2.2.2.2.2.2.2.2.1
theorem dX12_operand_59 : decode (mB 214) 59 = .ok (.dup, 1) := dqo gX12_operand_28.2.2.2.2.2.2.2.2.2.2.2.2.2.2.2
theorem gX12_operand_60 : dq 214 60 (.getfield 190) 3 = true ∧ dq 214 63 (.iconst 1) 1 = true ∧ dq 214 64 (.isub) 1 = true ∧ dq 214 65 (.putfield 190) 3 = true ∧ dq 214 68 (.aload_n 0) 1 = true ∧ dq 214 69 (.iload_n 1) 1 = true ∧ dq 214 70 (.bipush 33) 2 = true ∧ dq 214 72 (.if_icmp .ne 7) 3 = true ∧ dq 214 75 (.iconst 3) 1 = true ∧ dq 214 76 (.goto 4) 3 = true ∧ dq 214 79 (.iconst 4) 1 = true ∧ dq 214 80 (.iconst 0) 1 = true ∧ dq 214 81 (.invokevirtual 200) 3 = true ∧ dq 214 84 (.goto 70) 3 = true ∧ dq 214 87 (.iload_n 1) 1 = true ∧ dq 214 88 (.bipush 40) 2 = true := by decide +kernel
theorem dX12_operand_60 : decode (mB 214) 60 = .ok (.getfield 190, 3) := dqo gX12_operand_60.1
theorem dX12_operand_63 : decode (mB 214) 63 = .ok (.iconst 1, 1) := dqo gX12_operand_60.2.1
theorem dX12_operand_64 : decode (mB 214) 64 = .ok (.isub, 1) := dqo gX12_operand_60.2.2.1
theorem dX12_operand_65 : decode (mB 214) 65 = .ok (.putfield 190, 3) := dqo gX12_operand_60.2.2.2.1
theorem dX12_operand_68 : decode (mB 214) 68 = .ok (.aload_n 0, 1) := dqo gX12_operand_60.2.2.2.2.1
theorem dX12_operand_69 : decode (mB 214) 69 = .ok (.iload_n 1, 1) := dqo gX12_operand_60.2.2.2.2.2.1
theorem dX12_operand_70 : decode (mB 214) 70 = .ok (.bipush 33, 2) := dqo gX12_operand_60.2.2.2.2.2.2.1
theorem dX12_operand_72 : decode (mB 214) 72 = .ok (.if_icmp .ne 7, 3) := dqo gX12_operand_60.2.2.2.2.2.2.2.1
theorem dX12_operand_75 : decode (mB 214) 75 = .ok (.iconst 3, 1) := dqo gX12_operand_60.2.2.2.2.2.2.2.2.1
theorem dX12_operand_76 : decode (mB 214) 76 = .ok (.goto 4, 3) := dqo gX12_operand_60.2.2.2.2.2.2.2.2.2.1
theorem dX12_operand_79 : decode (mB 214) 79 = .ok (.iconst 4, 1) := dqo gX12_operand_60.2.2.2.2.2.2.2.2.2.2.1
theorem dX12_operand_80 : decode (mB 214) 80 = .ok (.iconst 0, 1) := dqo gX12_operand_60.2.2.2.2.2.2.2.2.2.2.2.1
theorem dX12_operand_81 : decode (mB 214) 81 = .ok (.invokevirtual 200, 3) := dqo gX12_operand_60.2.2.2.2.2.2.2.2.2.2.2.2.1
theorem dX12_operand_84 : decode (mB 214) 84 = .ok (.goto 70, 3) := dqo gX12_operand_60.2.2.2.2.2.2.2.2.2.2.2.2.2.1
theorem dX12_operand_87 : decode (mB 214) 87 = .ok (.iload_n 1, 1) := dqo gX12_operand_60.2.2.2.2.2.2.2.2.2.2.2.2.2.2.1
theorem dX12_operand_88 : decode (mB 214) 88 = .ok (.bipush 40, 2) := dqo gX12_operand_60.2.2.2.2.2.2.2.2.2.2.2.2.2.2.2
theorem gX12_operand_90 : dq 214 90 (.if_icmp .ne 60) 3 = true ∧ dq 214 93 (.aload_n 0) 1 = true ∧ dq 214 94 (.invokevirtual 207) 3 = true ∧ dq 214 97 (.ifCond .ne 4) 3 = true ∧ dq 214 100 (.return_) 1 = true ∧ dq 214 101 (.aload_n 0) 1 = true ∧ dq 214 102 (.invokevirtual 214) 3 = true ∧ dq 214 105 (.aload_n 0) 1 = true ∧ dq 214 106 (.getfield 184) 3 = true ∧ dq 214 109 (.ifCond .lt 4) 3 = true ∧ dq 214 112 (.return_) 1 = true ∧ dq 214 113 (.aload_n 0) 1 = true ∧ dq 214 114 (.invokevirtual 196) 3 = true ∧ dq 214 117 (.bipush 41) 2 = true ∧ dq 214 119 (.if_icmp .eq 8) 3 = true ∧ dq 214 122 (.aload_n 0) 1 = true := by decide +kernel
theorem dX12_operand_90 : decode (mB 214) 90 = .ok (.if_icmp .ne 60, 3) := dqo gX12_operand_90.1
theorem dX12_operand_93 : decode (mB 214) 93 = .ok (.aload_n 0, 1) := dqo gX12_operand_90.2.1
theorem dX12_operand_94 : decode (mB 214) 94 = .ok (.invokevirtual 207, 3) := dqo gX12_operand_90.2.2.1
theorem dX12_operand_97 : decode (mB 214) 97 = .ok (.ifCond .ne 4, 3) := dqo gX12_operand_90.2.2.2.1
theorem dX12_operand_100 : decode (mB 214) 100 = .ok (.return_, 1) := dqo gX12_operand_90.2.2.2.2.1
theorem dX12_operand_101 : decode (mB 214) 101 = .ok (.aload_n 0, 1) := dqo gX12_operand_90.2.2.2.2.2.1
theorem dX12_operand_102 : decode (mB 214) 102 = .ok (.invokevirtual 214, 3) := dqo gX12_operand_90.2.2.2.2.2.2.1
theorem dX12_operand_105 : decode (mB 214) 105 = .ok (.aload_n 0, 1) := dqo gX12_operand_90.2.2.2.2.2.2.2.1
theorem dX12_operand_106 : decode (mB 214) 106 = .ok (.getfield 184, 3) := dqo gX12_operand_90.2.2.2.2.2.2.2.2.1
theorem dX12_operand_109 : decode (mB 214) 109 = .ok (.ifCond .lt 4, 3) := dqo gX12_operand_90.2.2.2.2.2.2.2.2.2.1
theorem dX12_operand_112 : decode (mB 214) 112 = .ok (.return_, 1) := dqo gX12_operand_90.2.2.2.2.2.2.2.2.2.2.1
theorem dX12_operand_113 : decode (mB 214) 113 = .ok (.aload_n 0, 1) := dqo gX12_operand_90.2.2.2.2.2.2.2.2.2.2.2.1
theorem dX12_operand_114 : decode (mB 214) 114 = .ok (.invokevirtual 196, 3) := dqo gX12_operand_90.2.2.2.2.2.2.2.2.2.2.2.2.1
theorem dX12_operand_117 : decode (mB 214) 117 = .ok (.bipush 41, 2) := dqo gX12_operand_90.2.2.2.2.2.2.2.2.2.2.2.2.2.1
theorem dX12_operand_119 : decode (mB 214) 119 = .ok (.if_icmp .eq 8, 3) := dqo gX12_operand_90.2.2.2.2.2.2.2.2.2.2.2.2.2.2.1
theorem dX12_operand_122 : decode (mB 214) 122 = .ok (.aload_n 0, 1) := dqo gX12_operand_90.2.2.2.2.2.2.2.2.2.2.2.2.2.2.2
theorem gX12_operand_123 : dq 214 123 (.invokevirtual 193) 3 = true ∧ dq 214 126 (.return_) 1 = true ∧ dq 214 127 (.aload_n 0) 1 = true ∧ dq 214 128 (.dup) 1 = true ∧ dq 214 129 (.getfield 181) 3 = true ∧ dq 214 132 (.iconst 1) 1 = true ∧ dq 214 133 (.iadd) 1 = true ∧ dq 214 134 (.putfield 181) 3 = true ∧ dq 214 137 (.aload_n 0) 1 = true ∧ dq 214 138 (.dup) 1 = true ∧ dq 214 139 (.getfield 190) 3 = true ∧ dq 214 142 (.iconst 1) 1 = true ∧ dq 214 143 (.isub) 1 = true ∧ dq 214 144 (.putfield 190) 3 = true ∧ dq 214 147 (.goto 7) 3 = true ∧ dq 214 150 (.aload_n 0) 1 = true := by decide +kernel
theorem dX12_operand_123 : decode (mB 214) 123 = .ok (.invokevirtual 193, 3) := dqo gX12_operand_123.1
theorem dX12_operand_126 : decode (mB 214) 126 = .ok (.return_, 1) := dqo gX12_operand_123.2.1
theorem dX12_operand_127 : decode (mB 214) 127 = .ok (.aload_n 0, 1) := dqo gX12_operand_123.2.2.1
theorem dX12_operand_128 : decode (mB 214) 128 = .ok (.dup, 1) := dqo gX12_operand_123.2.2.2.1
theorem dX12_operand_129 : decode (mB 214) 129 = .ok (.getfield 181, 3) := dqo gX12_operand_123.2.2.2.2.1
theorem dX12_operand_132 : decode (mB 214) 132 = .ok (.iconst 1, 1) := dqo gX12_operand_123.2.2.2.2.2.1
theorem dX12_operand_133 : decode (mB 214) 133 = .ok (.iadd, 1) := dqo gX12_operand_123.2.2.2.2.2.2.1
theorem dX12_operand_134 : decode (mB 214) 134 = .ok (.putfield 181, 3) := dqo gX12_operand_123.2.2.2.2.2.2.2.1
theorem dX12_operand_137 : decode (mB 214) 137 = .ok (.aload_n 0, 1) := dqo gX12_operand_123.2.2.2.2.2.2.2.2.1
theorem dX12_operand_138 : decode (mB 214) 138 = .ok (.dup, 1) := dqo gX12_operand_123.2.2.2.2.2.2.2.2.2.1
theorem dX12_operand_139 : decode (mB 214) 139 = .ok (.getfield 190, 3) := dqo gX12_operand_123.2.2.2.2.2.2.2.2.2.2.1
theorem dX12_operand_142 : decode (mB 214) 142 = .ok (.iconst 1, 1) := dqo gX12_operand_123.2.2.2.2.2.2.2.2.2.2.2.1
theorem dX12_operand_143 : decode (mB 214) 143 = .ok (.isub, 1) := dqo gX12_operand_123.2.2.2.2.2.2.2.2.2.2.2.2.1
theorem dX12_operand_144 : decode (mB 214) 144 = .ok (.putfield 190, 3) := dqo gX12_operand_123.2.2.2.2.2.2.2.2.2.2.2.2.2.1
theorem dX12_operand_147 : decode (mB 214) 147 = .ok (.goto 7, 3) := dqo gX12_operand_123.2.2.2.2.2.2.2.2.2.2.2.2.2.2.1
theorem dX12_operand_150 : decode (mB 214) 150 = .ok (.aload_n 0, 1) := dqo gX12_operand_123.2.2.2.2.2.2.2.2.2.2.2.2.2.2.2
theorem gX12_operand_151 : dq 214 151 (.invokevirtual 217) 3 = true ∧ dq 214 154 (.return_) 1 = true := by decide +kernel
theorem dX12_operand_151 : decode (mB 214) 151 = .ok (.invokevirtual 217, 3) := dqo gX12_operand_151.1
theorem dX12_operand_154 : decode (mB 214) 154 = .ok (.return_, 1) := dqo gX12_operand_151.2
theorem gX12_product_0 : dq 215 0 (.aload_n 0) 1 = true ∧ dq 215 1 (.invokevirtual 211) 3 = true ∧ dq 215 4 (.aload_n 0) 1 = true ∧ dq 215 5 (.getfield 184) 3 = true ∧ dq 215 8 (.ifCond .ge 58) 3 = true ∧ dq 215 11 (.aload_n 0) 1 = true ∧ dq 215 12 (.invokevirtual 196) 3 = true ∧ dq 215 15 (.bipush 42) 2 = true ∧ dq 215 17 (.if_icmp .eq 21) 3 = true ∧ dq 215 20 (.aload_n 0) 1 = true ∧ dq 215 21 (.invokevirtual 196) 3 = true ∧ dq 215 24 (.bipush 47) 2 = true ∧ dq 215 26 (.if_icmp .eq 12) 3 = true ∧ dq 215 29 (.aload_n 0) 1 = true ∧ dq 215 30 (.invokevirtual 196) 3 = true ∧ dq 215 33 (.bipush 37) 2 = true := by decide +kernel
theorem dX12_product_0 : decode (mB 215) 0 = .ok (.aload_n 0, 1) := dqo gX12_product_0.1
theorem dX12_product_1 : decode (mB 215) 1 = .ok (.invokevirtual 211, 3) := dqo gX12_product_0.2.1
theorem dX12_product_4 : decode (mB 215) 4 = .ok (.aload_n 0, 1) := dqo gX12_product_0.2.2.1
theorem dX12_product_5 : decode (mB 215) 5 = .ok (.getfield 184, 3) := dqo gX12_product_0.2.2.2.1
theorem dX12_product_8 : decode (mB 215) 8 = .ok (.ifCond .ge 58, 3) := dqo gX12_product_0.2.2.2.2.1
theorem dX12_product_11 : decode (mB 215) 11 = .ok (.aload_n 0, 1) := dqo gX12_product_0.2.2.2.2.2.1
theorem dX12_product_12 : decode (mB 215) 12 = .ok (.invokevirtual 196, 3) := dqo gX12_product_0.2.2.2.2.2.2.1
theorem dX12_product_15 : decode (mB 215) 15 = .ok (.bipush 42, 2) := dqo gX12_product_0.2.2.2.2.2.2.2.1
theorem dX12_product_17 : decode (mB 215) 17 = .ok (.if_icmp .eq 21, 3) := dqo gX12_product_0.2.2.2.2.2.2.2.2.1
theorem dX12_product_20 : decode (mB 215) 20 = .ok (.aload_n 0, 1) := dqo gX12_product_0.2.2.2.2.2.2.2.2.2.1
theorem dX12_product_21 : decode (mB 215) 21 = .ok (.invokevirtual 196, 3) := dqo gX12_product_0.2.2.2.2.2.2.2.2.2.2.1
theorem dX12_product_24 : decode (mB 215) 24 = .ok (.bipush 47, 2) := dqo gX12_product_0.2.2.2.2.2.2.2.2.2.2.2.1
theorem dX12_product_26 : decode (mB 215) 26 = .ok (.if_icmp .eq 12, 3) := dqo gX12_product_0.2.2.2.2.2.2.2.2.2.2.2.2.1
theorem dX12_product_29 : decode (mB 215) 29 = .ok (.aload_n 0, 1) := dqo gX12_product_0.2.2.2.2.2.2.2.2.2.2.2.2.2.1
theorem dX12_product_30 : decode (mB 215) 30 = .ok (.invokevirtual 196, 3) := dqo gX12_product_0.2.2.2.2.2.2.2.2.2.2.2.2.2.2.1
theorem dX12_product_33 : decode (mB 215) 33 = .ok (.bipush 37, 2) := dqo gX12_product_0.2.2.2.2.2.2.2.2.2.2.2.2.2.2.2
theorem gX12_product_35 : dq 215 35 (.if_icmp .ne 31) 3 = true ∧ dq 215 38 (.aload_n 0) 1 = true ∧ dq 215 39 (.invokevirtual 196) 3 = true ∧ dq 215 42 (.istore_n 1) 1 = true ∧ dq 215 43 (.aload_n 0) 1 = true ∧ dq 215 44 (.dup) 1 = true ∧ dq 215 45 (.getfield 181) 3 = true ∧ dq 215 48 (.iconst 1) 1 = true ∧ dq 215 49 (.iadd) 1 = true ∧ dq 215 50 (.putfield 181) 3 = true ∧ dq 215 53 (.aload_n 0) 1 = true ∧ dq 215 54 (.invokevirtual 211) 3 = true ∧ dq 215 57 (.aload_n 0) 1 = true ∧ dq 215 58 (.iload_n 1) 1 = true ∧ dq 215 59 (.iconst 0) 1 = true ∧ dq 215 60 (.invokevirtual 200) 3 = true := by decide +kernel
theorem dX12_product_35 : decode (mB 215) 35 = .ok (.if_icmp .ne 31, 3) := dqo gX12_product_35.1
theorem dX12_product_38 : decode (mB 215) 38 = .ok (.aload_n 0, 1) := dqo gX12_product_35.2.1
theorem dX12_product_39 : decode (mB 215) 39 = .ok (.invokevirtual 196, 3) := dqo gX12_product_35.2.2.1
theorem dX12_product_42 : decode (mB 215) 42 = .ok (.istore_n 1, 1) := dqo gX12_product_35.2.2.2.1
theorem dX12_product_43 : decode (mB 215) 43 = .ok (.aload_n 0, 1) := dqo gX12_product_35.2.2.2.2.1
theorem dX12_product_44 : decode (mB 215) 44 = .ok (.dup, 1) := dqo gX12_product_35.2.2.2.2.2.1
theorem dX12_product_45 : decode (mB 215) 45 = .ok (.getfield 181, 3) := dqo gX12_product_35.2.2.2.2.2.2.1
theorem dX12_product_48 : decode (mB 215) 48 = .ok (.iconst 1, 1) := dqo gX12_product_35.2.2.2.2.2.2.2.1
theorem dX12_product_49 : decode (mB 215) 49 = .ok (.iadd, 1) := dqo gX12_product_35.2.2.2.2.2.2.2.2.1
theorem dX12_product_50 : decode (mB 215) 50 = .ok (.putfield 181, 3) := dqo gX12_product_35.2.2.2.2.2.2.2.2.2.1
theorem dX12_product_53 : decode (mB 215) 53 = .ok (.aload_n 0, 1) := dqo gX12_product_35.2.2.2.2.2.2.2.2.2.2.1
theorem dX12_product_54 : decode (mB 215) 54 = .ok (.invokevirtual 211, 3) := dqo gX12_product_35.2.2.2.2.2.2.2.2.2.2.2.1
theorem dX12_product_57 : decode (mB 215) 57 = .ok (.aload_n 0, 1) := dqo gX12_product_35.2.2.2.2.2.2.2.2.2.2.2.2.1
theorem dX12_product_58 : decode (mB 215) 58 = .ok (.iload_n 1, 1) := dqo gX12_product_35.2.2.2.2.2.2.2.2.2.2.2.2.2.1
theorem dX12_product_59 : decode (mB 215) 59 = .ok (.iconst 0, 1) := dqo gX12_product_35.2.2.2.2.2.2.2.2.2.2.2.2.2.2.1
theorem dX12_product_60 : decode (mB 215) 60 = .ok (.invokevirtual 200, 3) := dqo gX12_product_35.2.2.2.2.2.2.2.2.2.2.2.2.2.2.2
theorem gX12_product_63 : dq 215 63 (.goto (-59)) 3 = true ∧ dq 215 66 (.return_) 1 = true := by decide +kernel
theorem dX12_product_63 : decode (mB 215) 63 = .ok (.goto (-59), 3) := dqo gX12_product_63.1
theorem dX12_product_66 : decode (mB 215) 66 = .ok (.return_, 1) := dqo gX12_product_63.2
theorem gX12_sum_0 : dq 216 0 (.aload_n 0) 1 = true ∧ dq 216 1 (.invokevirtual 220) 3 = true ∧ dq 216 4 (.aload_n 0) 1 = true ∧ dq 216 5 (.getfield 184) 3 = true ∧ dq 216 8 (.ifCond .ge 49) 3 = true ∧ dq 216 11 (.aload_n 0) 1 = true ∧ dq 216 12 (.invokevirtual 196) 3 = true ∧ dq 216 15 (.bipush 43) 2 = true ∧ dq 216 17 (.if_icmp .eq 12) 3 = true ∧ dq 216 20 (.aload_n 0) 1 = true ∧ dq 216 21 (.invokevirtual 196) 3 = true ∧ dq 216 24 (.bipush 45) 2 = true ∧ dq 216 26 (.if_icmp .ne 31) 3 = true ∧ dq 216 29 (.aload_n 0) 1 = true ∧ dq 216 30 (.invokevirtual 196) 3 = true ∧ dq 216 33 (.istore_n 1) 1 = true := by decide +kernel
theorem dX12_sum_0 : decode (mB 216) 0 = .ok (.aload_n 0, 1) := dqo gX12_sum_0.1
theorem dX12_sum_1 : decode (mB 216) 1 = .ok (.invokevirtual 220, 3) := dqo gX12_sum_0.2.1
theorem dX12_sum_4 : decode (mB 216) 4 = .ok (.aload_n 0, 1) := dqo gX12_sum_0.2.2.1
theorem dX12_sum_5 : decode (mB 216) 5 = .ok (.getfield 184, 3) := dqo gX12_sum_0.2.2.2.1
theorem dX12_sum_8 : decode (mB 216) 8 = .ok (.ifCond .ge 49, 3) := dqo gX12_sum_0.2.2.2.2.1
theorem dX12_sum_11 : decode (mB 216) 11 = .ok (.aload_n 0, 1) := dqo gX12_sum_0.2.2.2.2.2.1
theorem dX12_sum_12 : decode (mB 216) 12 = .ok (.invokevirtual 196, 3) := dqo gX12_sum_0.2.2.2.2.2.2.1
theorem dX12_sum_15 : decode (mB 216) 15 = .ok (.bipush 43, 2) := dqo gX12_sum_0.2.2.2.2.2.2.2.1
theorem dX12_sum_17 : decode (mB 216) 17 = .ok (.if_icmp .eq 12, 3) := dqo gX12_sum_0.2.2.2.2.2.2.2.2.1
theorem dX12_sum_20 : decode (mB 216) 20 = .ok (.aload_n 0, 1) := dqo gX12_sum_0.2.2.2.2.2.2.2.2.2.1
theorem dX12_sum_21 : decode (mB 216) 21 = .ok (.invokevirtual 196, 3) := dqo gX12_sum_0.2.2.2.2.2.2.2.2.2.2.1
theorem dX12_sum_24 : decode (mB 216) 24 = .ok (.bipush 45, 2) := dqo gX12_sum_0.2.2.2.2.2.2.2.2.2.2.2.1
theorem dX12_sum_26 : decode (mB 216) 26 = .ok (.if_icmp .ne 31, 3) := dqo gX12_sum_0.2.2.2.2.2.2.2.2.2.2.2.2.1
theorem dX12_sum_29 : decode (mB 216) 29 = .ok (.aload_n 0, 1) := dqo gX12_sum_0.2.2.2.2.2.2.2.2.2.2.2.2.2.1
theorem dX12_sum_30 : decode (mB 216) 30 = .ok (.invokevirtual 196, 3) := dqo gX12_sum_0.2.2.2.2.2.2.2.2.2.2.2.2.2.2.1
theorem dX12_sum_33 : decode (mB 216) 33 = .ok (.istore_n 1, 1) := dqo gX12_sum_0.2.2.2.2.2.2.2.2.2.2.2.2.2.2.2
theorem gX12_sum_34 : dq 216 34 (.aload_n 0) 1 = true ∧ dq 216 35 (.dup) 1 = true ∧ dq 216 36 (.getfield 181) 3 = true ∧ dq 216 39 (.iconst 1) 1 = true ∧ dq 216 40 (.iadd) 1 = true ∧ dq 216 41 (.putfield 181) 3 = true ∧ dq 216 44 (.aload_n 0) 1 = true ∧ dq 216 45 (.invokevirtual 220) 3 = true ∧ dq 216 48 (.aload_n 0) 1 = true ∧ dq 216 49 (.iload_n 1) 1 = true ∧ dq 216 50 (.iconst 0) 1 = true ∧ dq 216 51 (.invokevirtual 200) 3 = true ∧ dq 216 54 (.goto (-50)) 3 = true ∧ dq 216 57 (.return_) 1 = true := by decide +kernel
theorem dX12_sum_34 : decode (mB 216) 34 = .ok (.aload_n 0, 1) := dqo gX12_sum_34.1
theorem dX12_sum_35 : decode (mB 216) 35 = .ok (.dup, 1) := dqo gX12_sum_34.2.1
theorem dX12_sum_36 : decode (mB 216) 36 = .ok (.getfield 181, 3) := dqo gX12_sum_34.2.2.1
theorem dX12_sum_39 : decode (mB 216) 39 = .ok (.iconst 1, 1) := dqo gX12_sum_34.2.2.2.1
theorem dX12_sum_40 : decode (mB 216) 40 = .ok (.iadd, 1) := dqo gX12_sum_34.2.2.2.2.1
theorem dX12_sum_41 : decode (mB 216) 41 = .ok (.putfield 181, 3) := dqo gX12_sum_34.2.2.2.2.2.1
theorem dX12_sum_44 : decode (mB 216) 44 = .ok (.aload_n 0, 1) := dqo gX12_sum_34.2.2.2.2.2.2.1
theorem dX12_sum_45 : decode (mB 216) 45 = .ok (.invokevirtual 220, 3) := dqo gX12_sum_34.2.2.2.2.2.2.2.1
theorem dX12_sum_48 : decode (mB 216) 48 = .ok (.aload_n 0, 1) := dqo gX12_sum_34.2.2.2.2.2.2.2.2.1
theorem dX12_sum_49 : decode (mB 216) 49 = .ok (.iload_n 1, 1) := dqo gX12_sum_34.2.2.2.2.2.2.2.2.2.1
theorem dX12_sum_50 : decode (mB 216) 50 = .ok (.iconst 0, 1) := dqo gX12_sum_34.2.2.2.2.2.2.2.2.2.2.1
theorem dX12_sum_51 : decode (mB 216) 51 = .ok (.invokevirtual 200, 3) := dqo gX12_sum_34.2.2.2.2.2.2.2.2.2.2.2.1
theorem dX12_sum_54 : decode (mB 216) 54 = .ok (.goto (-50), 3) := dqo gX12_sum_34.2.2.2.2.2.2.2.2.2.2.2.2.1
theorem dX12_sum_57 : decode (mB 216) 57 = .ok (.return_, 1) := dqo gX12_sum_34.2.2.2.2.2.2.2.2.2.2.2.2.2
theorem gX12_compared_0 : dq 217 0 (.aload_n 0) 1 = true ∧ dq 217 1 (.invokevirtual 223) 3 = true ∧ dq 217 4 (.aload_n 0) 1 = true ∧ dq 217 5 (.invokevirtual 196) 3 = true ∧ dq 217 8 (.istore_n 1) 1 = true ∧ dq 217 9 (.aload_n 0) 1 = true ∧ dq 217 10 (.getfield 184) 3 = true ∧ dq 217 13 (.ifCond .ge 21) 3 = true ∧ dq 217 16 (.iload_n 1) 1 = true ∧ dq 217 17 (.bipush 60) 2 = true ∧ dq 217 19 (.if_icmp .eq 16) 3 = true ∧ dq 217 22 (.iload_n 1) 1 = true ∧ dq 217 23 (.bipush 61) 2 = true ∧ dq 217 25 (.if_icmp .eq 10) 3 = true ∧ dq 217 28 (.iload_n 1) 1 = true ∧ dq 217 29 (.bipush 62) 2 = true := by decide +kernel
theorem dX12_compared_0 : decode (mB 217) 0 = .ok (.aload_n 0, 1) := dqo gX12_compared_0.1
theorem dX12_compared_1 : decode (mB 217) 1 = .ok (.invokevirtual 223, 3) := dqo gX12_compared_0.2.1
theorem dX12_compared_4 : decode (mB 217) 4 = .ok (.aload_n 0, 1) := dqo gX12_compared_0.2.2.1
theorem dX12_compared_5 : decode (mB 217) 5 = .ok (.invokevirtual 196, 3) := dqo gX12_compared_0.2.2.2.1
theorem dX12_compared_8 : decode (mB 217) 8 = .ok (.istore_n 1, 1) := dqo gX12_compared_0.2.2.2.2.1
theorem dX12_compared_9 : decode (mB 217) 9 = .ok (.aload_n 0, 1) := dqo gX12_compared_0.2.2.2.2.2.1
theorem dX12_compared_10 : decode (mB 217) 10 = .ok (.getfield 184, 3) := dqo gX12_compared_0.2.2.2.2.2.2.1
theorem dX12_compared_13 : decode (mB 217) 13 = .ok (.ifCond .ge 21, 3) := dqo gX12_compared_0.2.2.2.2.2.2.2.1
theorem dX12_compared_16 : decode (mB 217) 16 = .ok (.iload_n 1, 1) := dqo gX12_compared_0.2.2.2.2.2.2.2.2.1
theorem dX12_compared_17 : decode (mB 217) 17 = .ok (.bipush 60, 2) := dqo gX12_compared_0.2.2.2.2.2.2.2.2.2.1
theorem dX12_compared_19 : decode (mB 217) 19 = .ok (.if_icmp .eq 16, 3) := dqo gX12_compared_0.2.2.2.2.2.2.2.2.2.2.1
theorem dX12_compared_22 : decode (mB 217) 22 = .ok (.iload_n 1, 1) := dqo gX12_compared_0.2.2.2.2.2.2.2.2.2.2.2.1
theorem dX12_compared_23 : decode (mB 217) 23 = .ok (.bipush 61, 2) := dqo gX12_compared_0.2.2.2.2.2.2.2.2.2.2.2.2.1
theorem dX12_compared_25 : decode (mB 217) 25 = .ok (.if_icmp .eq 10, 3) := dqo gX12_compared_0.2.2.2.2.2.2.2.2.2.2.2.2.2.1
theorem dX12_compared_28 : decode (mB 217) 28 = .ok (.iload_n 1, 1) := dqo gX12_compared_0.2.2.2.2.2.2.2.2.2.2.2.2.2.2.1
theorem dX12_compared_29 : decode (mB 217) 29 = .ok (.bipush 62, 2) := dqo gX12_compared_0.2.2.2.2.2.2.2.2.2.2.2.2.2.2.2
theorem gX12_compared_31 : dq 217 31 (.if_icmp .eq 4) 3 = true ∧ dq 217 34 (.return_) 1 = true ∧ dq 217 35 (.aload_n 0) 1 = true ∧ dq 217 36 (.dup) 1 = true ∧ dq 217 37 (.getfield 181) 3 = true ∧ dq 217 40 (.iconst 1) 1 = true ∧ dq 217 41 (.iadd) 1 = true ∧ dq 217 42 (.putfield 181) 3 = true ∧ dq 217 45 (.aload_n 0) 1 = true ∧ dq 217 46 (.invokevirtual 223) 3 = true ∧ dq 217 49 (.aload_n 0) 1 = true ∧ dq 217 50 (.iload_n 1) 1 = true ∧ dq 217 51 (.iconst 0) 1 = true ∧ dq 217 52 (.invokevirtual 200) 3 = true ∧ dq 217 55 (.return_) 1 = true := by decide +kernel
theorem dX12_compared_31 : decode (mB 217) 31 = .ok (.if_icmp .eq 4, 3) := dqo gX12_compared_31.1
theorem dX12_compared_34 : decode (mB 217) 34 = .ok (.return_, 1) := dqo gX12_compared_31.2.1
theorem dX12_compared_35 : decode (mB 217) 35 = .ok (.aload_n 0, 1) := dqo gX12_compared_31.2.2.1
theorem dX12_compared_36 : decode (mB 217) 36 = .ok (.dup, 1) := dqo gX12_compared_31.2.2.2.1
theorem dX12_compared_37 : decode (mB 217) 37 = .ok (.getfield 181, 3) := dqo gX12_compared_31.2.2.2.2.1
theorem dX12_compared_40 : decode (mB 217) 40 = .ok (.iconst 1, 1) := dqo gX12_compared_31.2.2.2.2.2.1
theorem dX12_compared_41 : decode (mB 217) 41 = .ok (.iadd, 1) := dqo gX12_compared_31.2.2.2.2.2.2.1
theorem dX12_compared_42 : decode (mB 217) 42 = .ok (.putfield 181, 3) := dqo gX12_compared_31.2.2.2.2.2.2.2.1
theorem dX12_compared_45 : decode (mB 217) 45 = .ok (.aload_n 0, 1) := dqo gX12_compared_31.2.2.2.2.2.2.2.2.1
theorem dX12_compared_46 : decode (mB 217) 46 = .ok (.invokevirtual 223, 3) := dqo gX12_compared_31.2.2.2.2.2.2.2.2.2.1
theorem dX12_compared_49 : decode (mB 217) 49 = .ok (.aload_n 0, 1) := dqo gX12_compared_31.2.2.2.2.2.2.2.2.2.2.1
theorem dX12_compared_50 : decode (mB 217) 50 = .ok (.iload_n 1, 1) := dqo gX12_compared_31.2.2.2.2.2.2.2.2.2.2.2.1
theorem dX12_compared_51 : decode (mB 217) 51 = .ok (.iconst 0, 1) := dqo gX12_compared_31.2.2.2.2.2.2.2.2.2.2.2.2.1
theorem dX12_compared_52 : decode (mB 217) 52 = .ok (.invokevirtual 200, 3) := dqo gX12_compared_31.2.2.2.2.2.2.2.2.2.2.2.2.2.1
theorem dX12_compared_55 : decode (mB 217) 55 = .ok (.return_, 1) := dqo gX12_compared_31.2.2.2.2.2.2.2.2.2.2.2.2.2.2
theorem gX12_both_0 : dq 218 0 (.aload_n 0) 1 = true ∧ dq 218 1 (.invokevirtual 226) 3 = true ∧ dq 218 4 (.aload_n 0) 1 = true ∧ dq 218 5 (.getfield 184) 3 = true ∧ dq 218 8 (.ifCond .ge 36) 3 = true ∧ dq 218 11 (.aload_n 0) 1 = true ∧ dq 218 12 (.invokevirtual 196) 3 = true ∧ dq 218 15 (.bipush 38) 2 = true ∧ dq 218 17 (.if_icmp .ne 27) 3 = true ∧ dq 218 20 (.aload_n 0) 1 = true ∧ dq 218 21 (.dup) 1 = true ∧ dq 218 22 (.getfield 181) 3 = true ∧ dq 218 25 (.iconst 1) 1 = true ∧ dq 218 26 (.iadd) 1 = true ∧ dq 218 27 (.putfield 181) 3 = true ∧ dq 218 30 (.aload_n 0) 1 = true := by decide +kernel
theorem dX12_both_0 : decode (mB 218) 0 = .ok (.aload_n 0, 1) := dqo gX12_both_0.1
theorem dX12_both_1 : decode (mB 218) 1 = .ok (.invokevirtual 226, 3) := dqo gX12_both_0.2.1
theorem dX12_both_4 : decode (mB 218) 4 = .ok (.aload_n 0, 1) := dqo gX12_both_0.2.2.1
theorem dX12_both_5 : decode (mB 218) 5 = .ok (.getfield 184, 3) := dqo gX12_both_0.2.2.2.1
theorem dX12_both_8 : decode (mB 218) 8 = .ok (.ifCond .ge 36, 3) := dqo gX12_both_0.2.2.2.2.1
theorem dX12_both_11 : decode (mB 218) 11 = .ok (.aload_n 0, 1) := dqo gX12_both_0.2.2.2.2.2.1
theorem dX12_both_12 : decode (mB 218) 12 = .ok (.invokevirtual 196, 3) := dqo gX12_both_0.2.2.2.2.2.2.1
theorem dX12_both_15 : decode (mB 218) 15 = .ok (.bipush 38, 2) := dqo gX12_both_0.2.2.2.2.2.2.2.1
theorem dX12_both_17 : decode (mB 218) 17 = .ok (.if_icmp .ne 27, 3) := dqo gX12_both_0.2.2.2.2.2.2.2.2.1
theorem dX12_both_20 : decode (mB 218) 20 = .ok (.aload_n 0, 1) := dqo gX12_both_0.2.2.2.2.2.2.2.2.2.1
theorem dX12_both_21 : decode (mB 218) 21 = .ok (.dup, 1) := dqo gX12_both_0.2.2.2.2.2.2.2.2.2.2.1
theorem dX12_both_22 : decode (mB 218) 22 = .ok (.getfield 181, 3) := dqo gX12_both_0.2.2.2.2.2.2.2.2.2.2.2.1
theorem dX12_both_25 : decode (mB 218) 25 = .ok (.iconst 1, 1) := dqo gX12_both_0.2.2.2.2.2.2.2.2.2.2.2.2.1
theorem dX12_both_26 : decode (mB 218) 26 = .ok (.iadd, 1) := dqo gX12_both_0.2.2.2.2.2.2.2.2.2.2.2.2.2.1
theorem dX12_both_27 : decode (mB 218) 27 = .ok (.putfield 181, 3) := dqo gX12_both_0.2.2.2.2.2.2.2.2.2.2.2.2.2.2.1
theorem dX12_both_30 : decode (mB 218) 30 = .ok (.aload_n 0, 1) := dqo gX12_both_0.2.2.2.2.2.2.2.2.2.2.2.2.2.2.2
theorem gX12_both_31 : dq 218 31 (.invokevirtual 226) 3 = true ∧ dq 218 34 (.aload_n 0) 1 = true ∧ dq 218 35 (.bipush 38) 2 = true ∧ dq 218 37 (.iconst 0) 1 = true ∧ dq 218 38 (.invokevirtual 200) 3 = true ∧ dq 218 41 (.goto (-37)) 3 = true ∧ dq 218 44 (.return_) 1 = true := by decide +kernel
theorem dX12_both_31 : decode (mB 218) 31 = .ok (.invokevirtual 226, 3) := dqo gX12_both_31.1
theorem dX12_both_34 : decode (mB 218) 34 = .ok (.aload_n 0, 1) := dqo gX12_both_31.2.1
theorem dX12_both_35 : decode (mB 218) 35 = .ok (.bipush 38, 2) := dqo gX12_both_31.2.2.1
theorem dX12_both_37 : decode (mB 218) 37 = .ok (.iconst 0, 1) := dqo gX12_both_31.2.2.2.1
theorem dX12_both_38 : decode (mB 218) 38 = .ok (.invokevirtual 200, 3) := dqo gX12_both_31.2.2.2.2.1
theorem dX12_both_41 : decode (mB 218) 41 = .ok (.goto (-37), 3) := dqo gX12_both_31.2.2.2.2.2.1
theorem dX12_both_44 : decode (mB 218) 44 = .ok (.return_, 1) := dqo gX12_both_31.2.2.2.2.2.2
theorem gX12_either_0 : dq 219 0 (.aload_n 0) 1 = true ∧ dq 219 1 (.invokevirtual 229) 3 = true ∧ dq 219 4 (.aload_n 0) 1 = true ∧ dq 219 5 (.getfield 184) 3 = true ∧ dq 219 8 (.ifCond .ge 36) 3 = true ∧ dq 219 11 (.aload_n 0) 1 = true ∧ dq 219 12 (.invokevirtual 196) 3 = true ∧ dq 219 15 (.bipush 124) 2 = true ∧ dq 219 17 (.if_icmp .ne 27) 3 = true ∧ dq 219 20 (.aload_n 0) 1 = true ∧ dq 219 21 (.dup) 1 = true ∧ dq 219 22 (.getfield 181) 3 = true ∧ dq 219 25 (.iconst 1) 1 = true ∧ dq 219 26 (.iadd) 1 = true ∧ dq 219 27 (.putfield 181) 3 = true ∧ dq 219 30 (.aload_n 0) 1 = true := by decide +kernel
theorem dX12_either_0 : decode (mB 219) 0 = .ok (.aload_n 0, 1) := dqo gX12_either_0.1
theorem dX12_either_1 : decode (mB 219) 1 = .ok (.invokevirtual 229, 3) := dqo gX12_either_0.2.1
theorem dX12_either_4 : decode (mB 219) 4 = .ok (.aload_n 0, 1) := dqo gX12_either_0.2.2.1
theorem dX12_either_5 : decode (mB 219) 5 = .ok (.getfield 184, 3) := dqo gX12_either_0.2.2.2.1
theorem dX12_either_8 : decode (mB 219) 8 = .ok (.ifCond .ge 36, 3) := dqo gX12_either_0.2.2.2.2.1
theorem dX12_either_11 : decode (mB 219) 11 = .ok (.aload_n 0, 1) := dqo gX12_either_0.2.2.2.2.2.1
theorem dX12_either_12 : decode (mB 219) 12 = .ok (.invokevirtual 196, 3) := dqo gX12_either_0.2.2.2.2.2.2.1
theorem dX12_either_15 : decode (mB 219) 15 = .ok (.bipush 124, 2) := dqo gX12_either_0.2.2.2.2.2.2.2.1
theorem dX12_either_17 : decode (mB 219) 17 = .ok (.if_icmp .ne 27, 3) := dqo gX12_either_0.2.2.2.2.2.2.2.2.1
theorem dX12_either_20 : decode (mB 219) 20 = .ok (.aload_n 0, 1) := dqo gX12_either_0.2.2.2.2.2.2.2.2.2.1
theorem dX12_either_21 : decode (mB 219) 21 = .ok (.dup, 1) := dqo gX12_either_0.2.2.2.2.2.2.2.2.2.2.1
theorem dX12_either_22 : decode (mB 219) 22 = .ok (.getfield 181, 3) := dqo gX12_either_0.2.2.2.2.2.2.2.2.2.2.2.1
theorem dX12_either_25 : decode (mB 219) 25 = .ok (.iconst 1, 1) := dqo gX12_either_0.2.2.2.2.2.2.2.2.2.2.2.2.1
theorem dX12_either_26 : decode (mB 219) 26 = .ok (.iadd, 1) := dqo gX12_either_0.2.2.2.2.2.2.2.2.2.2.2.2.2.1
theorem dX12_either_27 : decode (mB 219) 27 = .ok (.putfield 181, 3) := dqo gX12_either_0.2.2.2.2.2.2.2.2.2.2.2.2.2.2.1
theorem dX12_either_30 : decode (mB 219) 30 = .ok (.aload_n 0, 1) := dqo gX12_either_0.2.2.2.2.2.2.2.2.2.2.2.2.2.2.2
theorem gX12_either_31 : dq 219 31 (.invokevirtual 229) 3 = true ∧ dq 219 34 (.aload_n 0) 1 = true ∧ dq 219 35 (.bipush 124) 2 = true ∧ dq 219 37 (.iconst 0) 1 = true ∧ dq 219 38 (.invokevirtual 200) 3 = true ∧ dq 219 41 (.goto (-37)) 3 = true ∧ dq 219 44 (.return_) 1 = true := by decide +kernel
theorem dX12_either_31 : decode (mB 219) 31 = .ok (.invokevirtual 229, 3) := dqo gX12_either_31.1
theorem dX12_either_34 : decode (mB 219) 34 = .ok (.aload_n 0, 1) := dqo gX12_either_31.2.1
theorem dX12_either_35 : decode (mB 219) 35 = .ok (.bipush 124, 2) := dqo gX12_either_31.2.2.1
theorem dX12_either_37 : decode (mB 219) 37 = .ok (.iconst 0, 1) := dqo gX12_either_31.2.2.2.1
theorem dX12_either_38 : decode (mB 219) 38 = .ok (.invokevirtual 200, 3) := dqo gX12_either_31.2.2.2.2.1
theorem dX12_either_41 : decode (mB 219) 41 = .ok (.goto (-37), 3) := dqo gX12_either_31.2.2.2.2.2.1
theorem dX12_either_44 : decode (mB 219) 44 = .ok (.return_, 1) := dqo gX12_either_31.2.2.2.2.2.2
theorem gX12_line_0 : dq 220 0 (.bipush 61) 2 = true ∧ dq 220 2 (.aload_n 0) 1 = true ∧ dq 220 3 (.getfield 58) 3 = true ∧ dq 220 6 (.iconst 1) 1 = true ∧ dq 220 7 (.iaload) 1 = true ∧ dq 220 8 (.iadd) 1 = true ∧ dq 220 9 (.istore_n 1) 1 = true ∧ dq 220 10 (.aload_n 0) 1 = true ∧ dq 220 11 (.getfield 61) 3 = true ∧ dq 220 14 (.iload_n 1) 1 = true ∧ dq 220 15 (.aload_n 0) 1 = true ∧ dq 220 16 (.getfield 187) 3 = true ∧ dq 220 19 (.i2s) 1 = true ∧ dq 220 20 (.sastore) 1 = true ∧ dq 220 21 (.aload_n 0) 1 = true ∧ dq 220 22 (.invokevirtual 214) 3 = true := by decide +kernel
theorem dX12_line_0 : decode (mB 220) 0 = .ok (.bipush 61, 2) := dqo gX12_line_0.1
theorem dX12_line_2 : decode (mB 220) 2 = .ok (.aload_n 0, 1) := dqo gX12_line_0.2.1
theorem dX12_line_3 : decode (mB 220) 3 = .ok (.getfield 58, 3) := dqo gX12_line_0.2.2.1
theorem dX12_line_6 : decode (mB 220) 6 = .ok (.iconst 1, 1) := dqo gX12_line_0.2.2.2.1
theorem dX12_line_7 : decode (mB 220) 7 = .ok (.iaload, 1) := dqo gX12_line_0.2.2.2.2.1
theorem dX12_line_8 : decode (mB 220) 8 = .ok (.iadd, 1) := dqo gX12_line_0.2.2.2.2.2.1
theorem dX12_line_9 : decode (mB 220) 9 = .ok (.istore_n 1, 1) := dqo gX12_line_0.2.2.2.2.2.2.1
theorem dX12_line_10 : decode (mB 220) 10 = .ok (.aload_n 0, 1) := dqo gX12_line_0.2.2.2.2.2.2.2.1
theorem dX12_line_11 : decode (mB 220) 11 = .ok (.getfield 61, 3) := dqo gX12_line_0.2.2.2.2.2.2.2.2.1
theorem dX12_line_14 : decode (mB 220) 14 = .ok (.iload_n 1, 1) := dqo gX12_line_0.2.2.2.2.2.2.2.2.2.1
theorem dX12_line_15 : decode (mB 220) 15 = .ok (.aload_n 0, 1) := dqo gX12_line_0.2.2.2.2.2.2.2.2.2.2.1
theorem dX12_line_16 : decode (mB 220) 16 = .ok (.getfield 187, 3) := dqo gX12_line_0.2.2.2.2.2.2.2.2.2.2.2.1
theorem dX12_line_19 : decode (mB 220) 19 = .ok (.i2s, 1) := dqo gX12_line_0.2.2.2.2.2.2.2.2.2.2.2.2.1
theorem dX12_line_20 : decode (mB 220) 20 = .ok (.sastore, 1) := dqo gX12_line_0.2.2.2.2.2.2.2.2.2.2.2.2.2.1
theorem dX12_line_21 : decode (mB 220) 21 = .ok (.aload_n 0, 1) := dqo gX12_line_0.2.2.2.2.2.2.2.2.2.2.2.2.2.2.1
theorem dX12_line_22 : decode (mB 220) 22 = .ok (.invokevirtual 214, 3) := dqo gX12_line_0.2.2.2.2.2.2.2.2.2.2.2.2.2.2.2
theorem gX12_line_25 : dq 220 25 (.aload_n 0) 1 = true ∧ dq 220 26 (.getfield 184) 3 = true ∧ dq 220 29 (.ifCond .ge 37) 3 = true ∧ dq 220 32 (.aload_n 0) 1 = true ∧ dq 220 33 (.invokevirtual 196) 3 = true ∧ dq 220 36 (.bipush 63) 2 = true ∧ dq 220 38 (.if_icmp .ne 28) 3 = true ∧ dq 220 41 (.aload_n 0) 1 = true ∧ dq 220 42 (.dup) 1 = true ∧ dq 220 43 (.getfield 181) 3 = true ∧ dq 220 46 (.iconst 1) 1 = true ∧ dq 220 47 (.iadd) 1 = true ∧ dq 220 48 (.putfield 181) 3 = true ∧ dq 220 51 (.aload_n 0) 1 = true ∧ dq 220 52 (.getfield 61) 3 = true ∧ dq 220 55 (.iload_n 1) 1 = true := by decide +kernel
theorem dX12_line_25 : decode (mB 220) 25 = .ok (.aload_n 0, 1) := dqo gX12_line_25.1
theorem dX12_line_26 : decode (mB 220) 26 = .ok (.getfield 184, 3) := dqo gX12_line_25.2.1
theorem dX12_line_29 : decode (mB 220) 29 = .ok (.ifCond .ge 37, 3) := dqo gX12_line_25.2.2.1
theorem dX12_line_32 : decode (mB 220) 32 = .ok (.aload_n 0, 1) := dqo gX12_line_25.2.2.2.1
theorem dX12_line_33 : decode (mB 220) 33 = .ok (.invokevirtual 196, 3) := dqo gX12_line_25.2.2.2.2.1
theorem dX12_line_36 : decode (mB 220) 36 = .ok (.bipush 63, 2) := dqo gX12_line_25.2.2.2.2.2.1
theorem dX12_line_38 : decode (mB 220) 38 = .ok (.if_icmp .ne 28, 3) := dqo gX12_line_25.2.2.2.2.2.2.1
theorem dX12_line_41 : decode (mB 220) 41 = .ok (.aload_n 0, 1) := dqo gX12_line_25.2.2.2.2.2.2.2.1
theorem dX12_line_42 : decode (mB 220) 42 = .ok (.dup, 1) := dqo gX12_line_25.2.2.2.2.2.2.2.2.1
theorem dX12_line_43 : decode (mB 220) 43 = .ok (.getfield 181, 3) := dqo gX12_line_25.2.2.2.2.2.2.2.2.2.1
theorem dX12_line_46 : decode (mB 220) 46 = .ok (.iconst 1, 1) := dqo gX12_line_25.2.2.2.2.2.2.2.2.2.2.1
theorem dX12_line_47 : decode (mB 220) 47 = .ok (.iadd, 1) := dqo gX12_line_25.2.2.2.2.2.2.2.2.2.2.2.1
theorem dX12_line_48 : decode (mB 220) 48 = .ok (.putfield 181, 3) := dqo gX12_line_25.2.2.2.2.2.2.2.2.2.2.2.2.1
theorem dX12_line_51 : decode (mB 220) 51 = .ok (.aload_n 0, 1) := dqo gX12_line_25.2.2.2.2.2.2.2.2.2.2.2.2.2.1
theorem dX12_line_52 : decode (mB 220) 52 = .ok (.getfield 61, 3) := dqo gX12_line_25.2.2.2.2.2.2.2.2.2.2.2.2.2.2.1
theorem dX12_line_55 : decode (mB 220) 55 = .ok (.iload_n 1, 1) := dqo gX12_line_25.2.2.2.2.2.2.2.2.2.2.2.2.2.2.2
theorem gX12_line_56 : dq 220 56 (.aload_n 0) 1 = true ∧ dq 220 57 (.getfield 187) 3 = true ∧ dq 220 60 (.i2s) 1 = true ∧ dq 220 61 (.sastore) 1 = true ∧ dq 220 62 (.aload_n 0) 1 = true ∧ dq 220 63 (.invokevirtual 214) 3 = true ∧ dq 220 66 (.aload_n 0) 1 = true ∧ dq 220 67 (.getfield 65) 3 = true ∧ dq 220 70 (.iload_n 1) 1 = true ∧ dq 220 71 (.aload_n 0) 1 = true ∧ dq 220 72 (.getfield 187) 3 = true ∧ dq 220 75 (.i2s) 1 = true ∧ dq 220 76 (.sastore) 1 = true ∧ dq 220 77 (.aload_n 0) 1 = true ∧ dq 220 78 (.getfield 58) 3 = true ∧ dq 220 81 (.iconst 1) 1 = true := by decide +kernel
theorem dX12_line_56 : decode (mB 220) 56 = .ok (.aload_n 0, 1) := dqo gX12_line_56.1
theorem dX12_line_57 : decode (mB 220) 57 = .ok (.getfield 187, 3) := dqo gX12_line_56.2.1
theorem dX12_line_60 : decode (mB 220) 60 = .ok (.i2s, 1) := dqo gX12_line_56.2.2.1
theorem dX12_line_61 : decode (mB 220) 61 = .ok (.sastore, 1) := dqo gX12_line_56.2.2.2.1
theorem dX12_line_62 : decode (mB 220) 62 = .ok (.aload_n 0, 1) := dqo gX12_line_56.2.2.2.2.1
theorem dX12_line_63 : decode (mB 220) 63 = .ok (.invokevirtual 214, 3) := dqo gX12_line_56.2.2.2.2.2.1
theorem dX12_line_66 : decode (mB 220) 66 = .ok (.aload_n 0, 1) := dqo gX12_line_56.2.2.2.2.2.2.1
theorem dX12_line_67 : decode (mB 220) 67 = .ok (.getfield 65, 3) := dqo gX12_line_56.2.2.2.2.2.2.2.1
theorem dX12_line_70 : decode (mB 220) 70 = .ok (.iload_n 1, 1) := dqo gX12_line_56.2.2.2.2.2.2.2.2.1
theorem dX12_line_71 : decode (mB 220) 71 = .ok (.aload_n 0, 1) := dqo gX12_line_56.2.2.2.2.2.2.2.2.2.1
theorem dX12_line_72 : decode (mB 220) 72 = .ok (.getfield 187, 3) := dqo gX12_line_56.2.2.2.2.2.2.2.2.2.2.1
theorem dX12_line_75 : decode (mB 220) 75 = .ok (.i2s, 1) := dqo gX12_line_56.2.2.2.2.2.2.2.2.2.2.2.1
theorem dX12_line_76 : decode (mB 220) 76 = .ok (.sastore, 1) := dqo gX12_line_56.2.2.2.2.2.2.2.2.2.2.2.2.1
theorem dX12_line_77 : decode (mB 220) 77 = .ok (.aload_n 0, 1) := dqo gX12_line_56.2.2.2.2.2.2.2.2.2.2.2.2.2.1
theorem dX12_line_78 : decode (mB 220) 78 = .ok (.getfield 58, 3) := dqo gX12_line_56.2.2.2.2.2.2.2.2.2.2.2.2.2.2.1
theorem dX12_line_81 : decode (mB 220) 81 = .ok (.iconst 1, 1) := dqo gX12_line_56.2.2.2.2.2.2.2.2.2.2.2.2.2.2.2
theorem gX12_line_82 : dq 220 82 (.dup2) 1 = true ∧ dq 220 83 (.iaload) 1 = true ∧ dq 220 84 (.iconst 1) 1 = true ∧ dq 220 85 (.iadd) 1 = true ∧ dq 220 86 (.iastore) 1 = true ∧ dq 220 87 (.return_) 1 = true := by decide +kernel
theorem dX12_line_82 : decode (mB 220) 82 = .ok (.dup2, 1) := dqo gX12_line_82.1
theorem dX12_line_83 : decode (mB 220) 83 = .ok (.iaload, 1) := dqo gX12_line_82.2.1
theorem dX12_line_84 : decode (mB 220) 84 = .ok (.iconst 1, 1) := dqo gX12_line_82.2.2.1
theorem dX12_line_85 : decode (mB 220) 85 = .ok (.iadd, 1) := dqo gX12_line_82.2.2.2.1
theorem dX12_line_86 : decode (mB 220) 86 = .ok (.iastore, 1) := dqo gX12_line_82.2.2.2.2.1
theorem dX12_line_87 : decode (mB 220) 87 = .ok (.return_, 1) := dqo gX12_line_82.2.2.2.2.2
theorem gX12_readText_0 : dq 221 0 (.aload_n 0) 1 = true ∧ dq 221 1 (.iconst 0) 1 = true ∧ dq 221 2 (.putfield 181) 3 = true ∧ dq 221 5 (.aload_n 0) 1 = true ∧ dq 221 6 (.iconst (-1)) 1 = true ∧ dq 221 7 (.putfield 184) 3 = true ∧ dq 221 10 (.aload_n 0) 1 = true ∧ dq 221 11 (.iconst 0) 1 = true ∧ dq 221 12 (.putfield 190) 3 = true ∧ dq 221 15 (.aload_n 0) 1 = true ∧ dq 221 16 (.iconst 0) 1 = true ∧ dq 221 17 (.putfield 187) 3 = true ∧ dq 221 20 (.aload_n 0) 1 = true ∧ dq 221 21 (.getfield 58) 3 = true ∧ dq 221 24 (.iconst 1) 1 = true ∧ dq 221 25 (.iconst 0) 1 = true := by decide +kernel
theorem dX12_readText_0 : decode (mB 221) 0 = .ok (.aload_n 0, 1) := dqo gX12_readText_0.1
theorem dX12_readText_1 : decode (mB 221) 1 = .ok (.iconst 0, 1) := dqo gX12_readText_0.2.1
theorem dX12_readText_2 : decode (mB 221) 2 = .ok (.putfield 181, 3) := dqo gX12_readText_0.2.2.1
theorem dX12_readText_5 : decode (mB 221) 5 = .ok (.aload_n 0, 1) := dqo gX12_readText_0.2.2.2.1
theorem dX12_readText_6 : decode (mB 221) 6 = .ok (.iconst (-1), 1) := dqo gX12_readText_0.2.2.2.2.1
theorem dX12_readText_7 : decode (mB 221) 7 = .ok (.putfield 184, 3) := dqo gX12_readText_0.2.2.2.2.2.1
theorem dX12_readText_10 : decode (mB 221) 10 = .ok (.aload_n 0, 1) := dqo gX12_readText_0.2.2.2.2.2.2.1
theorem dX12_readText_11 : decode (mB 221) 11 = .ok (.iconst 0, 1) := dqo gX12_readText_0.2.2.2.2.2.2.2.1
theorem dX12_readText_12 : decode (mB 221) 12 = .ok (.putfield 190, 3) := dqo gX12_readText_0.2.2.2.2.2.2.2.2.1
theorem dX12_readText_15 : decode (mB 221) 15 = .ok (.aload_n 0, 1) := dqo gX12_readText_0.2.2.2.2.2.2.2.2.2.1
theorem dX12_readText_16 : decode (mB 221) 16 = .ok (.iconst 0, 1) := dqo gX12_readText_0.2.2.2.2.2.2.2.2.2.2.1
theorem dX12_readText_17 : decode (mB 221) 17 = .ok (.putfield 187, 3) := dqo gX12_readText_0.2.2.2.2.2.2.2.2.2.2.2.1
theorem dX12_readText_20 : decode (mB 221) 20 = .ok (.aload_n 0, 1) := dqo gX12_readText_0.2.2.2.2.2.2.2.2.2.2.2.2.1
theorem dX12_readText_21 : decode (mB 221) 21 = .ok (.getfield 58, 3) := dqo gX12_readText_0.2.2.2.2.2.2.2.2.2.2.2.2.2.1
theorem dX12_readText_24 : decode (mB 221) 24 = .ok (.iconst 1, 1) := dqo gX12_readText_0.2.2.2.2.2.2.2.2.2.2.2.2.2.2.1
theorem dX12_readText_25 : decode (mB 221) 25 = .ok (.iconst 0, 1) := dqo gX12_readText_0.2.2.2.2.2.2.2.2.2.2.2.2.2.2.2
theorem gX12_readText_26 : dq 221 26 (.iastore) 1 = true ∧ dq 221 27 (.aload_n 0) 1 = true ∧ dq 221 28 (.invokevirtual 232) 3 = true ∧ dq 221 31 (.aload_n 0) 1 = true ∧ dq 221 32 (.getfield 184) 3 = true ∧ dq 221 35 (.ifCond .ge 29) 3 = true ∧ dq 221 38 (.aload_n 0) 1 = true ∧ dq 221 39 (.invokevirtual 196) 3 = true ∧ dq 221 42 (.bipush 59) 2 = true ∧ dq 221 44 (.if_icmp .ne 20) 3 = true ∧ dq 221 47 (.aload_n 0) 1 = true ∧ dq 221 48 (.dup) 1 = true ∧ dq 221 49 (.getfield 181) 3 = true ∧ dq 221 52 (.iconst 1) 1 = true ∧ dq 221 53 (.iadd) 1 = true ∧ dq 221 54 (.putfield 181) 3 = true := by decide +kernel
theorem dX12_readText_26 : decode (mB 221) 26 = .ok (.iastore, 1) := dqo gX12_readText_26.1
theorem dX12_readText_27 : decode (mB 221) 27 = .ok (.aload_n 0, 1) := dqo gX12_readText_26.2.1
theorem dX12_readText_28 : decode (mB 221) 28 = .ok (.invokevirtual 232, 3) := dqo gX12_readText_26.2.2.1
theorem dX12_readText_31 : decode (mB 221) 31 = .ok (.aload_n 0, 1) := dqo gX12_readText_26.2.2.2.1
theorem dX12_readText_32 : decode (mB 221) 32 = .ok (.getfield 184, 3) := dqo gX12_readText_26.2.2.2.2.1
theorem dX12_readText_35 : decode (mB 221) 35 = .ok (.ifCond .ge 29, 3) := dqo gX12_readText_26.2.2.2.2.2.1
theorem dX12_readText_38 : decode (mB 221) 38 = .ok (.aload_n 0, 1) := dqo gX12_readText_26.2.2.2.2.2.2.1
theorem dX12_readText_39 : decode (mB 221) 39 = .ok (.invokevirtual 196, 3) := dqo gX12_readText_26.2.2.2.2.2.2.2.1
theorem dX12_readText_42 : decode (mB 221) 42 = .ok (.bipush 59, 2) := dqo gX12_readText_26.2.2.2.2.2.2.2.2.1
theorem dX12_readText_44 : decode (mB 221) 44 = .ok (.if_icmp .ne 20, 3) := dqo gX12_readText_26.2.2.2.2.2.2.2.2.2.1
theorem dX12_readText_47 : decode (mB 221) 47 = .ok (.aload_n 0, 1) := dqo gX12_readText_26.2.2.2.2.2.2.2.2.2.2.1
theorem dX12_readText_48 : decode (mB 221) 48 = .ok (.dup, 1) := dqo gX12_readText_26.2.2.2.2.2.2.2.2.2.2.2.1
theorem dX12_readText_49 : decode (mB 221) 49 = .ok (.getfield 181, 3) := dqo gX12_readText_26.2.2.2.2.2.2.2.2.2.2.2.2.1
theorem dX12_readText_52 : decode (mB 221) 52 = .ok (.iconst 1, 1) := dqo gX12_readText_26.2.2.2.2.2.2.2.2.2.2.2.2.2.1
theorem dX12_readText_53 : decode (mB 221) 53 = .ok (.iadd, 1) := dqo gX12_readText_26.2.2.2.2.2.2.2.2.2.2.2.2.2.2.1
theorem dX12_readText_54 : decode (mB 221) 54 = .ok (.putfield 181, 3) := dqo gX12_readText_26.2.2.2.2.2.2.2.2.2.2.2.2.2.2.2
theorem gX12_readText_57 : dq 221 57 (.aload_n 0) 1 = true ∧ dq 221 58 (.invokevirtual 232) 3 = true ∧ dq 221 61 (.goto (-30)) 3 = true ∧ dq 221 64 (.aload_n 0) 1 = true ∧ dq 221 65 (.getfield 184) 3 = true ∧ dq 221 68 (.ifCond .ge 18) 3 = true ∧ dq 221 71 (.aload_n 0) 1 = true ∧ dq 221 72 (.getfield 181) 3 = true ∧ dq 221 75 (.aload_n 0) 1 = true ∧ dq 221 76 (.getfield 178) 3 = true ∧ dq 221 79 (.if_icmp .ge 7) 3 = true ∧ dq 221 82 (.aload_n 0) 1 = true ∧ dq 221 83 (.invokevirtual 193) 3 = true ∧ dq 221 86 (.aload_n 0) 1 = true ∧ dq 221 87 (.iconst 0) 1 = true ∧ dq 221 88 (.putfield 178) 3 = true := by decide +kernel
theorem dX12_readText_57 : decode (mB 221) 57 = .ok (.aload_n 0, 1) := dqo gX12_readText_57.1
theorem dX12_readText_58 : decode (mB 221) 58 = .ok (.invokevirtual 232, 3) := dqo gX12_readText_57.2.1
theorem dX12_readText_61 : decode (mB 221) 61 = .ok (.goto (-30), 3) := dqo gX12_readText_57.2.2.1
theorem dX12_readText_64 : decode (mB 221) 64 = .ok (.aload_n 0, 1) := dqo gX12_readText_57.2.2.2.1
theorem dX12_readText_65 : decode (mB 221) 65 = .ok (.getfield 184, 3) := dqo gX12_readText_57.2.2.2.2.1
theorem dX12_readText_68 : decode (mB 221) 68 = .ok (.ifCond .ge 18, 3) := dqo gX12_readText_57.2.2.2.2.2.1
theorem dX12_readText_71 : decode (mB 221) 71 = .ok (.aload_n 0, 1) := dqo gX12_readText_57.2.2.2.2.2.2.1
theorem dX12_readText_72 : decode (mB 221) 72 = .ok (.getfield 181, 3) := dqo gX12_readText_57.2.2.2.2.2.2.2.1
theorem dX12_readText_75 : decode (mB 221) 75 = .ok (.aload_n 0, 1) := dqo gX12_readText_57.2.2.2.2.2.2.2.2.1
theorem dX12_readText_76 : decode (mB 221) 76 = .ok (.getfield 178, 3) := dqo gX12_readText_57.2.2.2.2.2.2.2.2.2.1
theorem dX12_readText_79 : decode (mB 221) 79 = .ok (.if_icmp .ge 7, 3) := dqo gX12_readText_57.2.2.2.2.2.2.2.2.2.2.1
theorem dX12_readText_82 : decode (mB 221) 82 = .ok (.aload_n 0, 1) := dqo gX12_readText_57.2.2.2.2.2.2.2.2.2.2.2.1
theorem dX12_readText_83 : decode (mB 221) 83 = .ok (.invokevirtual 193, 3) := dqo gX12_readText_57.2.2.2.2.2.2.2.2.2.2.2.2.1
theorem dX12_readText_86 : decode (mB 221) 86 = .ok (.aload_n 0, 1) := dqo gX12_readText_57.2.2.2.2.2.2.2.2.2.2.2.2.2.1
theorem dX12_readText_87 : decode (mB 221) 87 = .ok (.iconst 0, 1) := dqo gX12_readText_57.2.2.2.2.2.2.2.2.2.2.2.2.2.2.1
theorem dX12_readText_88 : decode (mB 221) 88 = .ok (.putfield 178, 3) := dqo gX12_readText_57.2.2.2.2.2.2.2.2.2.2.2.2.2.2.2
theorem gX12_readText_91 : dq 221 91 (.aload_n 0) 1 = true ∧ dq 221 92 (.getfield 184) 3 = true ∧ dq 221 95 (.ifCond .lt 8) 3 = true ∧ dq 221 98 (.aload_n 0) 1 = true ∧ dq 221 99 (.getfield 184) 3 = true ∧ dq 221 102 (.ireturn) 1 = true ∧ dq 221 103 (.iconst 0) 1 = true ∧ dq 221 104 (.istore_n 2) 1 = true ∧ dq 221 105 (.iload_n 2) 1 = true ∧ dq 221 106 (.aload_n 0) 1 = true ∧ dq 221 107 (.getfield 187) 3 = true ∧ dq 221 110 (.if_icmp .ge 53) 3 = true ∧ dq 221 113 (.aload_n 0) 1 = true ∧ dq 221 114 (.getfield 52) 3 = true ∧ dq 221 117 (.sipush 130) 3 = true ∧ dq 221 120 (.iload_n 1) 1 = true := by decide +kernel
theorem dX12_readText_91 : decode (mB 221) 91 = .ok (.aload_n 0, 1) := dqo gX12_readText_91.1
theorem dX12_readText_92 : decode (mB 221) 92 = .ok (.getfield 184, 3) := dqo gX12_readText_91.2.1
theorem dX12_readText_95 : decode (mB 221) 95 = .ok (.ifCond .lt 8, 3) := dqo gX12_readText_91.2.2.1
theorem dX12_readText_98 : decode (mB 221) 98 = .ok (.aload_n 0, 1) := dqo gX12_readText_91.2.2.2.1
theorem dX12_readText_99 : decode (mB 221) 99 = .ok (.getfield 184, 3) := dqo gX12_readText_91.2.2.2.2.1
theorem dX12_readText_102 : decode (mB 221) 102 = .ok (.ireturn, 1) := dqo gX12_readText_91.2.2.2.2.2.1
theorem dX12_readText_103 : decode (mB 221) 103 = .ok (.iconst 0, 1) := dqo gX12_readText_91.2.2.2.2.2.2.1
theorem dX12_readText_104 : decode (mB 221) 104 = .ok (.istore_n 2, 1) := dqo gX12_readText_91.2.2.2.2.2.2.2.1
theorem dX12_readText_105 : decode (mB 221) 105 = .ok (.iload_n 2, 1) := dqo gX12_readText_91.2.2.2.2.2.2.2.2.1
theorem dX12_readText_106 : decode (mB 221) 106 = .ok (.aload_n 0, 1) := dqo gX12_readText_91.2.2.2.2.2.2.2.2.2.1
theorem dX12_readText_107 : decode (mB 221) 107 = .ok (.getfield 187, 3) := dqo gX12_readText_91.2.2.2.2.2.2.2.2.2.2.1
theorem dX12_readText_110 : decode (mB 221) 110 = .ok (.if_icmp .ge 53, 3) := dqo gX12_readText_91.2.2.2.2.2.2.2.2.2.2.2.1
theorem dX12_readText_113 : decode (mB 221) 113 = .ok (.aload_n 0, 1) := dqo gX12_readText_91.2.2.2.2.2.2.2.2.2.2.2.2.1
theorem dX12_readText_114 : decode (mB 221) 114 = .ok (.getfield 52, 3) := dqo gX12_readText_91.2.2.2.2.2.2.2.2.2.2.2.2.2.1
theorem dX12_readText_117 : decode (mB 221) 117 = .ok (.sipush 130, 3) := dqo gX12_readText_91.2.2.2.2.2.2.2.2.2.2.2.2.2.2.1
theorem dX12_readText_120 : decode (mB 221) 120 = .ok (.iload_n 1, 1) := dqo gX12_readText_91.2.2.2.2.2.2.2.2.2.2.2.2.2.2.2
theorem gX12_readText_121 : dq 221 121 (.imul) 1 = true ∧ dq 221 122 (.iload_n 2) 1 = true ∧ dq 221 123 (.iadd) 1 = true ∧ dq 221 124 (.aload_n 0) 1 = true ∧ dq 221 125 (.getfield 52) 3 = true ∧ dq 221 128 (.sipush 130) 3 = true ∧ dq 221 131 (.iload_n 2) 1 = true ∧ dq 221 132 (.iadd) 1 = true ∧ dq 221 133 (.baload) 1 = true ∧ dq 221 134 (.bastore) 1 = true ∧ dq 221 135 (.aload_n 0) 1 = true ∧ dq 221 136 (.getfield 55) 3 = true ∧ dq 221 139 (.sipush 130) 3 = true ∧ dq 221 142 (.iload_n 1) 1 = true ∧ dq 221 143 (.imul) 1 = true ∧ dq 221 144 (.iload_n 2) 1 = true := by decide +kernel
theorem dX12_readText_121 : decode (mB 221) 121 = .ok (.imul, 1) := dqo gX12_readText_121.1
theorem dX12_readText_122 : decode (mB 221) 122 = .ok (.iload_n 2, 1) := dqo gX12_readText_121.2.1
theorem dX12_readText_123 : decode (mB 221) 123 = .ok (.iadd, 1) := dqo gX12_readText_121.2.2.1
theorem dX12_readText_124 : decode (mB 221) 124 = .ok (.aload_n 0, 1) := dqo gX12_readText_121.2.2.2.1
theorem dX12_readText_125 : decode (mB 221) 125 = .ok (.getfield 52, 3) := dqo gX12_readText_121.2.2.2.2.1
theorem dX12_readText_128 : decode (mB 221) 128 = .ok (.sipush 130, 3) := dqo gX12_readText_121.2.2.2.2.2.1
theorem dX12_readText_131 : decode (mB 221) 131 = .ok (.iload_n 2, 1) := dqo gX12_readText_121.2.2.2.2.2.2.1
theorem dX12_readText_132 : decode (mB 221) 132 = .ok (.iadd, 1) := dqo gX12_readText_121.2.2.2.2.2.2.2.1
theorem dX12_readText_133 : decode (mB 221) 133 = .ok (.baload, 1) := dqo gX12_readText_121.2.2.2.2.2.2.2.2.1
theorem dX12_readText_134 : decode (mB 221) 134 = .ok (.bastore, 1) := dqo gX12_readText_121.2.2.2.2.2.2.2.2.2.1
theorem dX12_readText_135 : decode (mB 221) 135 = .ok (.aload_n 0, 1) := dqo gX12_readText_121.2.2.2.2.2.2.2.2.2.2.1
theorem dX12_readText_136 : decode (mB 221) 136 = .ok (.getfield 55, 3) := dqo gX12_readText_121.2.2.2.2.2.2.2.2.2.2.2.1
theorem dX12_readText_139 : decode (mB 221) 139 = .ok (.sipush 130, 3) := dqo gX12_readText_121.2.2.2.2.2.2.2.2.2.2.2.2.1
theorem dX12_readText_142 : decode (mB 221) 142 = .ok (.iload_n 1, 1) := dqo gX12_readText_121.2.2.2.2.2.2.2.2.2.2.2.2.2.1
theorem dX12_readText_143 : decode (mB 221) 143 = .ok (.imul, 1) := dqo gX12_readText_121.2.2.2.2.2.2.2.2.2.2.2.2.2.2.1
theorem dX12_readText_144 : decode (mB 221) 144 = .ok (.iload_n 2, 1) := dqo gX12_readText_121.2.2.2.2.2.2.2.2.2.2.2.2.2.2.2
theorem gX12_readText_145 : dq 221 145 (.iadd) 1 = true ∧ dq 221 146 (.aload_n 0) 1 = true ∧ dq 221 147 (.getfield 55) 3 = true ∧ dq 221 150 (.sipush 130) 3 = true ∧ dq 221 153 (.iload_n 2) 1 = true ∧ dq 221 154 (.iadd) 1 = true ∧ dq 221 155 (.iaload) 1 = true ∧ dq 221 156 (.iastore) 1 = true ∧ dq 221 157 (.iinc 2 1) 3 = true ∧ dq 221 160 (.goto (-55)) 3 = true ∧ dq 221 163 (.aload_n 0) 1 = true ∧ dq 221 164 (.getfield 58) 3 = true ∧ dq 221 167 (.iload_n 1) 1 = true ∧ dq 221 168 (.aload_n 0) 1 = true ∧ dq 221 169 (.getfield 58) 3 = true ∧ dq 221 172 (.iconst 1) 1 = true := by decide +kernel
theorem dX12_readText_145 : decode (mB 221) 145 = .ok (.iadd, 1) := dqo gX12_readText_145.1
theorem dX12_readText_146 : decode (mB 221) 146 = .ok (.aload_n 0, 1) := dqo gX12_readText_145.2.1
theorem dX12_readText_147 : decode (mB 221) 147 = .ok (.getfield 55, 3) := dqo gX12_readText_145.2.2.1
theorem dX12_readText_150 : decode (mB 221) 150 = .ok (.sipush 130, 3) := dqo gX12_readText_145.2.2.2.1
theorem dX12_readText_153 : decode (mB 221) 153 = .ok (.iload_n 2, 1) := dqo gX12_readText_145.2.2.2.2.1
theorem dX12_readText_154 : decode (mB 221) 154 = .ok (.iadd, 1) := dqo gX12_readText_145.2.2.2.2.2.1
theorem dX12_readText_155 : decode (mB 221) 155 = .ok (.iaload, 1) := dqo gX12_readText_145.2.2.2.2.2.2.1
theorem dX12_readText_156 : decode (mB 221) 156 = .ok (.iastore, 1) := dqo gX12_readText_145.2.2.2.2.2.2.2.1
theorem dX12_readText_157 : decode (mB 221) 157 = .ok (.iinc 2 1, 3) := dqo gX12_readText_145.2.2.2.2.2.2.2.2.1
theorem dX12_readText_160 : decode (mB 221) 160 = .ok (.goto (-55), 3) := dqo gX12_readText_145.2.2.2.2.2.2.2.2.2.1
theorem dX12_readText_163 : decode (mB 221) 163 = .ok (.aload_n 0, 1) := dqo gX12_readText_145.2.2.2.2.2.2.2.2.2.2.1
theorem dX12_readText_164 : decode (mB 221) 164 = .ok (.getfield 58, 3) := dqo gX12_readText_145.2.2.2.2.2.2.2.2.2.2.2.1
theorem dX12_readText_167 : decode (mB 221) 167 = .ok (.iload_n 1, 1) := dqo gX12_readText_145.2.2.2.2.2.2.2.2.2.2.2.2.1
theorem dX12_readText_168 : decode (mB 221) 168 = .ok (.aload_n 0, 1) := dqo gX12_readText_145.2.2.2.2.2.2.2.2.2.2.2.2.2.1
theorem dX12_readText_169 : decode (mB 221) 169 = .ok (.getfield 58, 3) := dqo gX12_readText_145.2.2.2.2.2.2.2.2.2.2.2.2.2.2.1
theorem dX12_readText_172 : decode (mB 221) 172 = .ok (.iconst 1, 1) := dqo gX12_readText_145.2.2.2.2.2.2.2.2.2.2.2.2.2.2.2
theorem gX12_readText_173 : dq 221 173 (.iaload) 1 = true ∧ dq 221 174 (.iastore) 1 = true ∧ dq 221 175 (.iconst 0) 1 = true ∧ dq 221 176 (.istore_n 2) 1 = true ∧ dq 221 177 (.iload_n 2) 1 = true ∧ dq 221 178 (.aload_n 0) 1 = true ∧ dq 221 179 (.getfield 58) 3 = true ∧ dq 221 182 (.iload_n 1) 1 = true ∧ dq 221 183 (.iaload) 1 = true ∧ dq 221 184 (.if_icmp .ge 49) 3 = true ∧ dq 221 187 (.aload_n 0) 1 = true ∧ dq 221 188 (.getfield 61) 3 = true ∧ dq 221 191 (.bipush 61) 2 = true ∧ dq 221 193 (.iload_n 1) 1 = true ∧ dq 221 194 (.imul) 1 = true ∧ dq 221 195 (.iload_n 2) 1 = true := by decide +kernel
theorem dX12_readText_173 : decode (mB 221) 173 = .ok (.iaload, 1) := dqo gX12_readText_173.1
theorem dX12_readText_174 : decode (mB 221) 174 = .ok (.iastore, 1) := dqo gX12_readText_173.2.1
theorem dX12_readText_175 : decode (mB 221) 175 = .ok (.iconst 0, 1) := dqo gX12_readText_173.2.2.1
theorem dX12_readText_176 : decode (mB 221) 176 = .ok (.istore_n 2, 1) := dqo gX12_readText_173.2.2.2.1
theorem dX12_readText_177 : decode (mB 221) 177 = .ok (.iload_n 2, 1) := dqo gX12_readText_173.2.2.2.2.1
theorem dX12_readText_178 : decode (mB 221) 178 = .ok (.aload_n 0, 1) := dqo gX12_readText_173.2.2.2.2.2.1
theorem dX12_readText_179 : decode (mB 221) 179 = .ok (.getfield 58, 3) := dqo gX12_readText_173.2.2.2.2.2.2.1
theorem dX12_readText_182 : decode (mB 221) 182 = .ok (.iload_n 1, 1) := dqo gX12_readText_173.2.2.2.2.2.2.2.1
theorem dX12_readText_183 : decode (mB 221) 183 = .ok (.iaload, 1) := dqo gX12_readText_173.2.2.2.2.2.2.2.2.1
theorem dX12_readText_184 : decode (mB 221) 184 = .ok (.if_icmp .ge 49, 3) := dqo gX12_readText_173.2.2.2.2.2.2.2.2.2.1
theorem dX12_readText_187 : decode (mB 221) 187 = .ok (.aload_n 0, 1) := dqo gX12_readText_173.2.2.2.2.2.2.2.2.2.2.1
theorem dX12_readText_188 : decode (mB 221) 188 = .ok (.getfield 61, 3) := dqo gX12_readText_173.2.2.2.2.2.2.2.2.2.2.2.1
theorem dX12_readText_191 : decode (mB 221) 191 = .ok (.bipush 61, 2) := dqo gX12_readText_173.2.2.2.2.2.2.2.2.2.2.2.2.1
theorem dX12_readText_193 : decode (mB 221) 193 = .ok (.iload_n 1, 1) := dqo gX12_readText_173.2.2.2.2.2.2.2.2.2.2.2.2.2.1
theorem dX12_readText_194 : decode (mB 221) 194 = .ok (.imul, 1) := dqo gX12_readText_173.2.2.2.2.2.2.2.2.2.2.2.2.2.2.1
theorem dX12_readText_195 : decode (mB 221) 195 = .ok (.iload_n 2, 1) := dqo gX12_readText_173.2.2.2.2.2.2.2.2.2.2.2.2.2.2.2
theorem gX12_readText_196 : dq 221 196 (.iadd) 1 = true ∧ dq 221 197 (.aload_n 0) 1 = true ∧ dq 221 198 (.getfield 61) 3 = true ∧ dq 221 201 (.bipush 61) 2 = true ∧ dq 221 203 (.iload_n 2) 1 = true ∧ dq 221 204 (.iadd) 1 = true ∧ dq 221 205 (.saload) 1 = true ∧ dq 221 206 (.sastore) 1 = true ∧ dq 221 207 (.aload_n 0) 1 = true ∧ dq 221 208 (.getfield 65) 3 = true ∧ dq 221 211 (.bipush 61) 2 = true ∧ dq 221 213 (.iload_n 1) 1 = true ∧ dq 221 214 (.imul) 1 = true ∧ dq 221 215 (.iload_n 2) 1 = true ∧ dq 221 216 (.iadd) 1 = true ∧ dq 221 217 (.aload_n 0) 1 = true := by decide +kernel
theorem dX12_readText_196 : decode (mB 221) 196 = .ok (.iadd, 1) := dqo gX12_readText_196.1
theorem dX12_readText_197 : decode (mB 221) 197 = .ok (.aload_n 0, 1) := dqo gX12_readText_196.2.1
theorem dX12_readText_198 : decode (mB 221) 198 = .ok (.getfield 61, 3) := dqo gX12_readText_196.2.2.1
theorem dX12_readText_201 : decode (mB 221) 201 = .ok (.bipush 61, 2) := dqo gX12_readText_196.2.2.2.1
theorem dX12_readText_203 : decode (mB 221) 203 = .ok (.iload_n 2, 1) := dqo gX12_readText_196.2.2.2.2.1
theorem dX12_readText_204 : decode (mB 221) 204 = .ok (.iadd, 1) := dqo gX12_readText_196.2.2.2.2.2.1
theorem dX12_readText_205 : decode (mB 221) 205 = .ok (.saload, 1) := dqo gX12_readText_196.2.2.2.2.2.2.1
theorem dX12_readText_206 : decode (mB 221) 206 = .ok (.sastore, 1) := dqo gX12_readText_196.2.2.2.2.2.2.2.1
theorem dX12_readText_207 : decode (mB 221) 207 = .ok (.aload_n 0, 1) := dqo gX12_readText_196.2.2.2.2.2.2.2.2.1
theorem dX12_readText_208 : decode (mB 221) 208 = .ok (.getfield 65, 3) := dqo gX12_readText_196.2.2.2.2.2.2.2.2.2.1
theorem dX12_readText_211 : decode (mB 221) 211 = .ok (.bipush 61, 2) := dqo gX12_readText_196.2.2.2.2.2.2.2.2.2.2.1
theorem dX12_readText_213 : decode (mB 221) 213 = .ok (.iload_n 1, 1) := dqo gX12_readText_196.2.2.2.2.2.2.2.2.2.2.2.1
theorem dX12_readText_214 : decode (mB 221) 214 = .ok (.imul, 1) := dqo gX12_readText_196.2.2.2.2.2.2.2.2.2.2.2.2.1
theorem dX12_readText_215 : decode (mB 221) 215 = .ok (.iload_n 2, 1) := dqo gX12_readText_196.2.2.2.2.2.2.2.2.2.2.2.2.2.1
theorem dX12_readText_216 : decode (mB 221) 216 = .ok (.iadd, 1) := dqo gX12_readText_196.2.2.2.2.2.2.2.2.2.2.2.2.2.2.1
theorem dX12_readText_217 : decode (mB 221) 217 = .ok (.aload_n 0, 1) := dqo gX12_readText_196.2.2.2.2.2.2.2.2.2.2.2.2.2.2.2
theorem gX12_readText_218 : dq 221 218 (.getfield 65) 3 = true ∧ dq 221 221 (.bipush 61) 2 = true ∧ dq 221 223 (.iload_n 2) 1 = true ∧ dq 221 224 (.iadd) 1 = true ∧ dq 221 225 (.saload) 1 = true ∧ dq 221 226 (.sastore) 1 = true ∧ dq 221 227 (.iinc 2 1) 3 = true ∧ dq 221 230 (.goto (-53)) 3 = true ∧ dq 221 233 (.iconst (-1)) 1 = true ∧ dq 221 234 (.ireturn) 1 = true := by decide +kernel
theorem dX12_readText_218 : decode (mB 221) 218 = .ok (.getfield 65, 3) := dqo gX12_readText_218.1
theorem dX12_readText_221 : decode (mB 221) 221 = .ok (.bipush 61, 2) := dqo gX12_readText_218.2.1
theorem dX12_readText_223 : decode (mB 221) 223 = .ok (.iload_n 2, 1) := dqo gX12_readText_218.2.2.1
theorem dX12_readText_224 : decode (mB 221) 224 = .ok (.iadd, 1) := dqo gX12_readText_218.2.2.2.1
theorem dX12_readText_225 : decode (mB 221) 225 = .ok (.saload, 1) := dqo gX12_readText_218.2.2.2.2.1
theorem dX12_readText_226 : decode (mB 221) 226 = .ok (.sastore, 1) := dqo gX12_readText_218.2.2.2.2.2.1
theorem dX12_readText_227 : decode (mB 221) 227 = .ok (.iinc 2 1, 3) := dqo gX12_readText_218.2.2.2.2.2.2.1
theorem dX12_readText_230 : decode (mB 221) 230 = .ok (.goto (-53), 3) := dqo gX12_readText_218.2.2.2.2.2.2.2.1
theorem dX12_readText_233 : decode (mB 221) 233 = .ok (.iconst (-1), 1) := dqo gX12_readText_218.2.2.2.2.2.2.2.2.1
theorem dX12_readText_234 : decode (mB 221) 234 = .ok (.ireturn, 1) := dqo gX12_readText_218.2.2.2.2.2.2.2.2.2
theorem gX12_twoOf_0 : dq 222 0 (.iload_n 0) 1 = true ∧ dq 222 1 (.tableswitch 217 37 62 #[153, 203, 217, 217, 217, 127, 119, 217, 123, 217, 131, 217, 217, 217, 217, 217, 217, 217, 217, 217, 217, 217, 217, 170, 181, 192]) 119 = true ∧ dq 222 120 (.iload_n 1) 1 = true ∧ dq 222 121 (.iload_n 2) 1 = true ∧ dq 222 122 (.iadd) 1 = true ∧ dq 222 123 (.ireturn) 1 = true ∧ dq 222 124 (.iload_n 1) 1 = true ∧ dq 222 125 (.iload_n 2) 1 = true ∧ dq 222 126 (.isub) 1 = true ∧ dq 222 127 (.ireturn) 1 = true ∧ dq 222 128 (.iload_n 1) 1 = true ∧ dq 222 129 (.iload_n 2) 1 = true ∧ dq 222 130 (.imul) 1 = true ∧ dq 222 131 (.ireturn) 1 = true ∧ dq 222 132 (.iload_n 2) 1 = true ∧ dq 222 133 (.ifCond .ne 7) 3 = true := by decide +kernel
theorem dX12_twoOf_0 : decode (mB 222) 0 = .ok (.iload_n 0, 1) := dqo gX12_twoOf_0.1
theorem dX12_twoOf_1 : decode (mB 222) 1 = .ok (.tableswitch 217 37 62 #[153, 203, 217, 217, 217, 127, 119, 217, 123, 217, 131, 217, 217, 217, 217, 217, 217, 217, 217, 217, 217, 217, 217, 170, 181, 192], 119) := dqo gX12_twoOf_0.2.1
theorem dX12_twoOf_120 : decode (mB 222) 120 = .ok (.iload_n 1, 1) := dqo gX12_twoOf_0.2.2.1
theorem dX12_twoOf_121 : decode (mB 222) 121 = .ok (.iload_n 2, 1) := dqo gX12_twoOf_0.2.2.2.1
theorem dX12_twoOf_122 : decode (mB 222) 122 = .ok (.iadd, 1) := dqo gX12_twoOf_0.2.2.2.2.1
theorem dX12_twoOf_123 : decode (mB 222) 123 = .ok (.ireturn, 1) := dqo gX12_twoOf_0.2.2.2.2.2.1
theorem dX12_twoOf_124 : decode (mB 222) 124 = .ok (.iload_n 1, 1) := dqo gX12_twoOf_0.2.2.2.2.2.2.1
theorem dX12_twoOf_125 : decode (mB 222) 125 = .ok (.iload_n 2, 1) := dqo gX12_twoOf_0.2.2.2.2.2.2.2.1
theorem dX12_twoOf_126 : decode (mB 222) 126 = .ok (.isub, 1) := dqo gX12_twoOf_0.2.2.2.2.2.2.2.2.1
theorem dX12_twoOf_127 : decode (mB 222) 127 = .ok (.ireturn, 1) := dqo gX12_twoOf_0.2.2.2.2.2.2.2.2.2.1
theorem dX12_twoOf_128 : decode (mB 222) 128 = .ok (.iload_n 1, 1) := dqo gX12_twoOf_0.2.2.2.2.2.2.2.2.2.2.1
theorem dX12_twoOf_129 : decode (mB 222) 129 = .ok (.iload_n 2, 1) := dqo gX12_twoOf_0.2.2.2.2.2.2.2.2.2.2.2.1
theorem dX12_twoOf_130 : decode (mB 222) 130 = .ok (.imul, 1) := dqo gX12_twoOf_0.2.2.2.2.2.2.2.2.2.2.2.2.1
theorem dX12_twoOf_131 : decode (mB 222) 131 = .ok (.ireturn, 1) := dqo gX12_twoOf_0.2.2.2.2.2.2.2.2.2.2.2.2.2.1
theorem dX12_twoOf_132 : decode (mB 222) 132 = .ok (.iload_n 2, 1) := dqo gX12_twoOf_0.2.2.2.2.2.2.2.2.2.2.2.2.2.2.1
theorem dX12_twoOf_133 : decode (mB 222) 133 = .ok (.ifCond .ne 7, 3) := dqo gX12_twoOf_0.2.2.2.2.2.2.2.2.2.2.2.2.2.2.2
theorem gX12_twoOf_136 : dq 222 136 (.iconst 0) 1 = true ∧ dq 222 137 (.goto 16) 3 = true ∧ dq 222 140 (.iload_n 2) 1 = true ∧ dq 222 141 (.iconst (-1)) 1 = true ∧ dq 222 142 (.if_icmp .ne 8) 3 = true ∧ dq 222 145 (.iload_n 1) 1 = true ∧ dq 222 146 (.ineg) 1 = true ∧ dq 222 147 (.goto 6) 3 = true ∧ dq 222 150 (.iload_n 1) 1 = true ∧ dq 222 151 (.iload_n 2) 1 = true ∧ dq 222 152 (.idiv) 1 = true ∧ dq 222 153 (.ireturn) 1 = true ∧ dq 222 154 (.iload_n 2) 1 = true ∧ dq 222 155 (.ifCond .eq 8) 3 = true ∧ dq 222 158 (.iload_n 2) 1 = true ∧ dq 222 159 (.iconst (-1)) 1 = true := by decide +kernel
theorem dX12_twoOf_136 : decode (mB 222) 136 = .ok (.iconst 0, 1) := dqo gX12_twoOf_136.1
theorem dX12_twoOf_137 : decode (mB 222) 137 = .ok (.goto 16, 3) := dqo gX12_twoOf_136.2.1
theorem dX12_twoOf_140 : decode (mB 222) 140 = .ok (.iload_n 2, 1) := dqo gX12_twoOf_136.2.2.1
theorem dX12_twoOf_141 : decode (mB 222) 141 = .ok (.iconst (-1), 1) := dqo gX12_twoOf_136.2.2.2.1
theorem dX12_twoOf_142 : decode (mB 222) 142 = .ok (.if_icmp .ne 8, 3) := dqo gX12_twoOf_136.2.2.2.2.1
theorem dX12_twoOf_145 : decode (mB 222) 145 = .ok (.iload_n 1, 1) := dqo gX12_twoOf_136.2.2.2.2.2.1
theorem dX12_twoOf_146 : decode (mB 222) 146 = .ok (.ineg, 1) := dqo gX12_twoOf_136.2.2.2.2.2.2.1
theorem dX12_twoOf_147 : decode (mB 222) 147 = .ok (.goto 6, 3) := dqo gX12_twoOf_136.2.2.2.2.2.2.2.1
theorem dX12_twoOf_150 : decode (mB 222) 150 = .ok (.iload_n 1, 1) := dqo gX12_twoOf_136.2.2.2.2.2.2.2.2.1
theorem dX12_twoOf_151 : decode (mB 222) 151 = .ok (.iload_n 2, 1) := dqo gX12_twoOf_136.2.2.2.2.2.2.2.2.2.1
theorem dX12_twoOf_152 : decode (mB 222) 152 = .ok (.idiv, 1) := dqo gX12_twoOf_136.2.2.2.2.2.2.2.2.2.2.1
theorem dX12_twoOf_153 : decode (mB 222) 153 = .ok (.ireturn, 1) := dqo gX12_twoOf_136.2.2.2.2.2.2.2.2.2.2.2.1
theorem dX12_twoOf_154 : decode (mB 222) 154 = .ok (.iload_n 2, 1) := dqo gX12_twoOf_136.2.2.2.2.2.2.2.2.2.2.2.2.1
theorem dX12_twoOf_155 : decode (mB 222) 155 = .ok (.ifCond .eq 8, 3) := dqo gX12_twoOf_136.2.2.2.2.2.2.2.2.2.2.2.2.2.1
theorem dX12_twoOf_158 : decode (mB 222) 158 = .ok (.iload_n 2, 1) := dqo gX12_twoOf_136.2.2.2.2.2.2.2.2.2.2.2.2.2.2.1
theorem dX12_twoOf_159 : decode (mB 222) 159 = .ok (.iconst (-1), 1) := dqo gX12_twoOf_136.2.2.2.2.2.2.2.2.2.2.2.2.2.2.2
theorem gX12_twoOf_160 : dq 222 160 (.if_icmp .ne 7) 3 = true ∧ dq 222 163 (.iconst 0) 1 = true ∧ dq 222 164 (.goto 6) 3 = true ∧ dq 222 167 (.iload_n 1) 1 = true ∧ dq 222 168 (.iload_n 2) 1 = true ∧ dq 222 169 (.irem) 1 = true ∧ dq 222 170 (.ireturn) 1 = true ∧ dq 222 171 (.iload_n 1) 1 = true ∧ dq 222 172 (.iload_n 2) 1 = true ∧ dq 222 173 (.if_icmp .ge 7) 3 = true ∧ dq 222 176 (.iconst 1) 1 = true ∧ dq 222 177 (.goto 4) 3 = true ∧ dq 222 180 (.iconst 0) 1 = true ∧ dq 222 181 (.ireturn) 1 = true ∧ dq 222 182 (.iload_n 1) 1 = true ∧ dq 222 183 (.iload_n 2) 1 = true := by decide +kernel
theorem dX12_twoOf_160 : decode (mB 222) 160 = .ok (.if_icmp .ne 7, 3) := dqo gX12_twoOf_160.1
theorem dX12_twoOf_163 : decode (mB 222) 163 = .ok (.iconst 0, 1) := dqo gX12_twoOf_160.2.1
theorem dX12_twoOf_164 : decode (mB 222) 164 = .ok (.goto 6, 3) := dqo gX12_twoOf_160.2.2.1
theorem dX12_twoOf_167 : decode (mB 222) 167 = .ok (.iload_n 1, 1) := dqo gX12_twoOf_160.2.2.2.1
theorem dX12_twoOf_168 : decode (mB 222) 168 = .ok (.iload_n 2, 1) := dqo gX12_twoOf_160.2.2.2.2.1
theorem dX12_twoOf_169 : decode (mB 222) 169 = .ok (.irem, 1) := dqo gX12_twoOf_160.2.2.2.2.2.1
theorem dX12_twoOf_170 : decode (mB 222) 170 = .ok (.ireturn, 1) := dqo gX12_twoOf_160.2.2.2.2.2.2.1
theorem dX12_twoOf_171 : decode (mB 222) 171 = .ok (.iload_n 1, 1) := dqo gX12_twoOf_160.2.2.2.2.2.2.2.1
theorem dX12_twoOf_172 : decode (mB 222) 172 = .ok (.iload_n 2, 1) := dqo gX12_twoOf_160.2.2.2.2.2.2.2.2.1
theorem dX12_twoOf_173 : decode (mB 222) 173 = .ok (.if_icmp .ge 7, 3) := dqo gX12_twoOf_160.2.2.2.2.2.2.2.2.2.1
theorem dX12_twoOf_176 : decode (mB 222) 176 = .ok (.iconst 1, 1) := dqo gX12_twoOf_160.2.2.2.2.2.2.2.2.2.2.1
theorem dX12_twoOf_177 : decode (mB 222) 177 = .ok (.goto 4, 3) := dqo gX12_twoOf_160.2.2.2.2.2.2.2.2.2.2.2.1
theorem dX12_twoOf_180 : decode (mB 222) 180 = .ok (.iconst 0, 1) := dqo gX12_twoOf_160.2.2.2.2.2.2.2.2.2.2.2.2.1
theorem dX12_twoOf_181 : decode (mB 222) 181 = .ok (.ireturn, 1) := dqo gX12_twoOf_160.2.2.2.2.2.2.2.2.2.2.2.2.2.1
theorem dX12_twoOf_182 : decode (mB 222) 182 = .ok (.iload_n 1, 1) := dqo gX12_twoOf_160.2.2.2.2.2.2.2.2.2.2.2.2.2.2.1
theorem dX12_twoOf_183 : decode (mB 222) 183 = .ok (.iload_n 2, 1) := dqo gX12_twoOf_160.2.2.2.2.2.2.2.2.2.2.2.2.2.2.2
theorem gX12_twoOf_184 : dq 222 184 (.if_icmp .ne 7) 3 = true ∧ dq 222 187 (.iconst 1) 1 = true ∧ dq 222 188 (.goto 4) 3 = true ∧ dq 222 191 (.iconst 0) 1 = true ∧ dq 222 192 (.ireturn) 1 = true ∧ dq 222 193 (.iload_n 1) 1 = true ∧ dq 222 194 (.iload_n 2) 1 = true ∧ dq 222 195 (.if_icmp .le 7) 3 = true ∧ dq 222 198 (.iconst 1) 1 = true ∧ dq 222 199 (.goto 4) 3 = true ∧ dq 222 202 (.iconst 0) 1 = true ∧ dq 222 203 (.ireturn) 1 = true ∧ dq 222 204 (.iload_n 1) 1 = true ∧ dq 222 205 (.ifCond .eq 11) 3 = true ∧ dq 222 208 (.iload_n 2) 1 = true ∧ dq 222 209 (.ifCond .eq 7) 3 = true := by decide +kernel
theorem dX12_twoOf_184 : decode (mB 222) 184 = .ok (.if_icmp .ne 7, 3) := dqo gX12_twoOf_184.1
theorem dX12_twoOf_187 : decode (mB 222) 187 = .ok (.iconst 1, 1) := dqo gX12_twoOf_184.2.1
theorem dX12_twoOf_188 : decode (mB 222) 188 = .ok (.goto 4, 3) := dqo gX12_twoOf_184.2.2.1
theorem dX12_twoOf_191 : decode (mB 222) 191 = .ok (.iconst 0, 1) := dqo gX12_twoOf_184.2.2.2.1
theorem dX12_twoOf_192 : decode (mB 222) 192 = .ok (.ireturn, 1) := dqo gX12_twoOf_184.2.2.2.2.1
theorem dX12_twoOf_193 : decode (mB 222) 193 = .ok (.iload_n 1, 1) := dqo gX12_twoOf_184.2.2.2.2.2.1
theorem dX12_twoOf_194 : decode (mB 222) 194 = .ok (.iload_n 2, 1) := dqo gX12_twoOf_184.2.2.2.2.2.2.1
theorem dX12_twoOf_195 : decode (mB 222) 195 = .ok (.if_icmp .le 7, 3) := dqo gX12_twoOf_184.2.2.2.2.2.2.2.1
theorem dX12_twoOf_198 : decode (mB 222) 198 = .ok (.iconst 1, 1) := dqo gX12_twoOf_184.2.2.2.2.2.2.2.2.1
theorem dX12_twoOf_199 : decode (mB 222) 199 = .ok (.goto 4, 3) := dqo gX12_twoOf_184.2.2.2.2.2.2.2.2.2.1
theorem dX12_twoOf_202 : decode (mB 222) 202 = .ok (.iconst 0, 1) := dqo gX12_twoOf_184.2.2.2.2.2.2.2.2.2.2.1
theorem dX12_twoOf_203 : decode (mB 222) 203 = .ok (.ireturn, 1) := dqo gX12_twoOf_184.2.2.2.2.2.2.2.2.2.2.2.1
theorem dX12_twoOf_204 : decode (mB 222) 204 = .ok (.iload_n 1, 1) := dqo gX12_twoOf_184.2.2.2.2.2.2.2.2.2.2.2.2.1
theorem dX12_twoOf_205 : decode (mB 222) 205 = .ok (.ifCond .eq 11, 3) := dqo gX12_twoOf_184.2.2.2.2.2.2.2.2.2.2.2.2.2.1
theorem dX12_twoOf_208 : decode (mB 222) 208 = .ok (.iload_n 2, 1) := dqo gX12_twoOf_184.2.2.2.2.2.2.2.2.2.2.2.2.2.2.1
theorem dX12_twoOf_209 : decode (mB 222) 209 = .ok (.ifCond .eq 7, 3) := dqo gX12_twoOf_184.2.2.2.2.2.2.2.2.2.2.2.2.2.2.2
theorem gX12_twoOf_212 : dq 222 212 (.iconst 1) 1 = true ∧ dq 222 213 (.goto 4) 3 = true ∧ dq 222 216 (.iconst 0) 1 = true ∧ dq 222 217 (.ireturn) 1 = true ∧ dq 222 218 (.iload_n 1) 1 = true ∧ dq 222 219 (.ifCond .ne 7) 3 = true ∧ dq 222 222 (.iload_n 2) 1 = true ∧ dq 222 223 (.ifCond .eq 7) 3 = true ∧ dq 222 226 (.iconst 1) 1 = true ∧ dq 222 227 (.goto 4) 3 = true ∧ dq 222 230 (.iconst 0) 1 = true ∧ dq 222 231 (.ireturn) 1 = true := by decide +kernel
theorem dX12_twoOf_212 : decode (mB 222) 212 = .ok (.iconst 1, 1) := dqo gX12_twoOf_212.1
theorem dX12_twoOf_213 : decode (mB 222) 213 = .ok (.goto 4, 3) := dqo gX12_twoOf_212.2.1
theorem dX12_twoOf_216 : decode (mB 222) 216 = .ok (.iconst 0, 1) := dqo gX12_twoOf_212.2.2.1
theorem dX12_twoOf_217 : decode (mB 222) 217 = .ok (.ireturn, 1) := dqo gX12_twoOf_212.2.2.2.1
theorem dX12_twoOf_218 : decode (mB 222) 218 = .ok (.iload_n 1, 1) := dqo gX12_twoOf_212.2.2.2.2.1
theorem dX12_twoOf_219 : decode (mB 222) 219 = .ok (.ifCond .ne 7, 3) := dqo gX12_twoOf_212.2.2.2.2.2.1
theorem dX12_twoOf_222 : decode (mB 222) 222 = .ok (.iload_n 2, 1) := dqo gX12_twoOf_212.2.2.2.2.2.2.1
theorem dX12_twoOf_223 : decode (mB 222) 223 = .ok (.ifCond .eq 7, 3) := dqo gX12_twoOf_212.2.2.2.2.2.2.2.1
theorem dX12_twoOf_226 : decode (mB 222) 226 = .ok (.iconst 1, 1) := dqo gX12_twoOf_212.2.2.2.2.2.2.2.2.1
theorem dX12_twoOf_227 : decode (mB 222) 227 = .ok (.goto 4, 3) := dqo gX12_twoOf_212.2.2.2.2.2.2.2.2.2.1
theorem dX12_twoOf_230 : decode (mB 222) 230 = .ok (.iconst 0, 1) := dqo gX12_twoOf_212.2.2.2.2.2.2.2.2.2.2.1
theorem dX12_twoOf_231 : decode (mB 222) 231 = .ok (.ireturn, 1) := dqo gX12_twoOf_212.2.2.2.2.2.2.2.2.2.2.2
theorem gX12_worked_0 : dq 223 0 (.iconst 0) 1 = true ∧ dq 223 1 (.istore 4) 2 = true ∧ dq 223 3 (.sipush 130) 3 = true ∧ dq 223 6 (.iload_n 1) 1 = true ∧ dq 223 7 (.imul) 1 = true ∧ dq 223 8 (.iload_n 2) 1 = true ∧ dq 223 9 (.iadd) 1 = true ∧ dq 223 10 (.istore 5) 2 = true ∧ dq 223 12 (.iload 5) 2 = true ∧ dq 223 14 (.sipush 130) 3 = true ∧ dq 223 17 (.iload_n 1) 1 = true ∧ dq 223 18 (.imul) 1 = true ∧ dq 223 19 (.iload_n 3) 1 = true ∧ dq 223 20 (.iadd) 1 = true ∧ dq 223 21 (.if_icmp .ge 167) 3 = true ∧ dq 223 24 (.aload_n 0) 1 = true := by decide +kernel
theorem dX12_worked_0 : decode (mB 223) 0 = .ok (.iconst 0, 1) := dqo gX12_worked_0.1
theorem dX12_worked_1 : decode (mB 223) 1 = .ok (.istore 4, 2) := dqo gX12_worked_0.2.1
theorem dX12_worked_3 : decode (mB 223) 3 = .ok (.sipush 130, 3) := dqo gX12_worked_0.2.2.1
theorem dX12_worked_6 : decode (mB 223) 6 = .ok (.iload_n 1, 1) := dqo gX12_worked_0.2.2.2.1
theorem dX12_worked_7 : decode (mB 223) 7 = .ok (.imul, 1) := dqo gX12_worked_0.2.2.2.2.1
theorem dX12_worked_8 : decode (mB 223) 8 = .ok (.iload_n 2, 1) := dqo gX12_worked_0.2.2.2.2.2.1
theorem dX12_worked_9 : decode (mB 223) 9 = .ok (.iadd, 1) := dqo gX12_worked_0.2.2.2.2.2.2.1
theorem dX12_worked_10 : decode (mB 223) 10 = .ok (.istore 5, 2) := dqo gX12_worked_0.2.2.2.2.2.2.2.1
theorem dX12_worked_12 : decode (mB 223) 12 = .ok (.iload 5, 2) := dqo gX12_worked_0.2.2.2.2.2.2.2.2.1
theorem dX12_worked_14 : decode (mB 223) 14 = .ok (.sipush 130, 3) := dqo gX12_worked_0.2.2.2.2.2.2.2.2.2.1
theorem dX12_worked_17 : decode (mB 223) 17 = .ok (.iload_n 1, 1) := dqo gX12_worked_0.2.2.2.2.2.2.2.2.2.2.1
theorem dX12_worked_18 : decode (mB 223) 18 = .ok (.imul, 1) := dqo gX12_worked_0.2.2.2.2.2.2.2.2.2.2.2.1
theorem dX12_worked_19 : decode (mB 223) 19 = .ok (.iload_n 3, 1) := dqo gX12_worked_0.2.2.2.2.2.2.2.2.2.2.2.2.1
theorem dX12_worked_20 : decode (mB 223) 20 = .ok (.iadd, 1) := dqo gX12_worked_0.2.2.2.2.2.2.2.2.2.2.2.2.2.1
theorem dX12_worked_21 : decode (mB 223) 21 = .ok (.if_icmp .ge 167, 3) := dqo gX12_worked_0.2.2.2.2.2.2.2.2.2.2.2.2.2.2.1
theorem dX12_worked_24 : decode (mB 223) 24 = .ok (.aload_n 0, 1) := dqo gX12_worked_0.2.2.2.2.2.2.2.2.2.2.2.2.2.2.2
theorem gX12_worked_25 : dq 223 25 (.getfield 52) 3 = true ∧ dq 223 28 (.iload 5) 2 = true ∧ dq 223 30 (.baload) 1 = true ∧ dq 223 31 (.istore 6) 2 = true ∧ dq 223 33 (.iload 6) 2 = true ∧ dq 223 35 (.iconst 1) 1 = true ∧ dq 223 36 (.if_icmp .eq 9) 3 = true ∧ dq 223 39 (.iload 6) 2 = true ∧ dq 223 41 (.iconst 2) 1 = true ∧ dq 223 42 (.if_icmp .ne 44) 3 = true ∧ dq 223 45 (.aload_n 0) 1 = true ∧ dq 223 46 (.getfield 71) 3 = true ∧ dq 223 49 (.iload 4) 2 = true ∧ dq 223 51 (.iload 6) 2 = true ∧ dq 223 53 (.iconst 1) 1 = true ∧ dq 223 54 (.if_icmp .ne 13) 3 = true := by decide +kernel
theorem dX12_worked_25 : decode (mB 223) 25 = .ok (.getfield 52, 3) := dqo gX12_worked_25.1
theorem dX12_worked_28 : decode (mB 223) 28 = .ok (.iload 5, 2) := dqo gX12_worked_25.2.1
theorem dX12_worked_30 : decode (mB 223) 30 = .ok (.baload, 1) := dqo gX12_worked_25.2.2.1
theorem dX12_worked_31 : decode (mB 223) 31 = .ok (.istore 6, 2) := dqo gX12_worked_25.2.2.2.1
theorem dX12_worked_33 : decode (mB 223) 33 = .ok (.iload 6, 2) := dqo gX12_worked_25.2.2.2.2.1
theorem dX12_worked_35 : decode (mB 223) 35 = .ok (.iconst 1, 1) := dqo gX12_worked_25.2.2.2.2.2.1
theorem dX12_worked_36 : decode (mB 223) 36 = .ok (.if_icmp .eq 9, 3) := dqo gX12_worked_25.2.2.2.2.2.2.1
theorem dX12_worked_39 : decode (mB 223) 39 = .ok (.iload 6, 2) := dqo gX12_worked_25.2.2.2.2.2.2.2.1
theorem dX12_worked_41 : decode (mB 223) 41 = .ok (.iconst 2, 1) := dqo gX12_worked_25.2.2.2.2.2.2.2.2.1
theorem dX12_worked_42 : decode (mB 223) 42 = .ok (.if_icmp .ne 44, 3) := dqo gX12_worked_25.2.2.2.2.2.2.2.2.2.1
theorem dX12_worked_45 : decode (mB 223) 45 = .ok (.aload_n 0, 1) := dqo gX12_worked_25.2.2.2.2.2.2.2.2.2.2.1
theorem dX12_worked_46 : decode (mB 223) 46 = .ok (.getfield 71, 3) := dqo gX12_worked_25.2.2.2.2.2.2.2.2.2.2.2.1
theorem dX12_worked_49 : decode (mB 223) 49 = .ok (.iload 4, 2) := dqo gX12_worked_25.2.2.2.2.2.2.2.2.2.2.2.2.1
theorem dX12_worked_51 : decode (mB 223) 51 = .ok (.iload 6, 2) := dqo gX12_worked_25.2.2.2.2.2.2.2.2.2.2.2.2.2.1
theorem dX12_worked_53 : decode (mB 223) 53 = .ok (.iconst 1, 1) := dqo gX12_worked_25.2.2.2.2.2.2.2.2.2.2.2.2.2.2.1
theorem dX12_worked_54 : decode (mB 223) 54 = .ok (.if_icmp .ne 13, 3) := dqo gX12_worked_25.2.2.2.2.2.2.2.2.2.2.2.2.2.2.2
theorem gX12_worked_57 : dq 223 57 (.aload_n 0) 1 = true ∧ dq 223 58 (.getfield 55) 3 = true ∧ dq 223 61 (.iload 5) 2 = true ∧ dq 223 63 (.iaload) 1 = true ∧ dq 223 64 (.goto 15) 3 = true ∧ dq 223 67 (.aload_n 0) 1 = true ∧ dq 223 68 (.getfield 68) 3 = true ∧ dq 223 71 (.aload_n 0) 1 = true ∧ dq 223 72 (.getfield 55) 3 = true ∧ dq 223 75 (.iload 5) 2 = true ∧ dq 223 77 (.iaload) 1 = true ∧ dq 223 78 (.iaload) 1 = true ∧ dq 223 79 (.iastore) 1 = true ∧ dq 223 80 (.iinc 4 1) 3 = true ∧ dq 223 83 (.goto 99) 3 = true ∧ dq 223 86 (.iload 6) 2 = true := by decide +kernel
theorem dX12_worked_57 : decode (mB 223) 57 = .ok (.aload_n 0, 1) := dqo gX12_worked_57.1
theorem dX12_worked_58 : decode (mB 223) 58 = .ok (.getfield 55, 3) := dqo gX12_worked_57.2.1
theorem dX12_worked_61 : decode (mB 223) 61 = .ok (.iload 5, 2) := dqo gX12_worked_57.2.2.1
theorem dX12_worked_63 : decode (mB 223) 63 = .ok (.iaload, 1) := dqo gX12_worked_57.2.2.2.1
theorem dX12_worked_64 : decode (mB 223) 64 = .ok (.goto 15, 3) := dqo gX12_worked_57.2.2.2.2.1
theorem dX12_worked_67 : decode (mB 223) 67 = .ok (.aload_n 0, 1) := dqo gX12_worked_57.2.2.2.2.2.1
theorem dX12_worked_68 : decode (mB 223) 68 = .ok (.getfield 68, 3) := dqo gX12_worked_57.2.2.2.2.2.2.1
theorem dX12_worked_71 : decode (mB 223) 71 = .ok (.aload_n 0, 1) := dqo gX12_worked_57.2.2.2.2.2.2.2.1
theorem dX12_worked_72 : decode (mB 223) 72 = .ok (.getfield 55, 3) := dqo gX12_worked_57.2.2.2.2.2.2.2.2.1
theorem dX12_worked_75 : decode (mB 223) 75 = .ok (.iload 5, 2) := dqo gX12_worked_57.2.2.2.2.2.2.2.2.2.1
theorem dX12_worked_77 : decode (mB 223) 77 = .ok (.iaload, 1) := dqo gX12_worked_57.2.2.2.2.2.2.2.2.2.2.1
theorem dX12_worked_78 : decode (mB 223) 78 = .ok (.iaload, 1) := dqo gX12_worked_57.2.2.2.2.2.2.2.2.2.2.2.1
theorem dX12_worked_79 : decode (mB 223) 79 = .ok (.iastore, 1) := dqo gX12_worked_57.2.2.2.2.2.2.2.2.2.2.2.2.1
theorem dX12_worked_80 : decode (mB 223) 80 = .ok (.iinc 4 1, 3) := dqo gX12_worked_57.2.2.2.2.2.2.2.2.2.2.2.2.2.1
theorem dX12_worked_83 : decode (mB 223) 83 = .ok (.goto 99, 3) := dqo gX12_worked_57.2.2.2.2.2.2.2.2.2.2.2.2.2.2.1
theorem dX12_worked_86 : decode (mB 223) 86 = .ok (.iload 6, 2) := dqo gX12_worked_57.2.2.2.2.2.2.2.2.2.2.2.2.2.2.2
theorem gX12_worked_88 : dq 223 88 (.iconst 3) 1 = true ∧ dq 223 89 (.if_icmp .ne 32) 3 = true ∧ dq 223 92 (.aload_n 0) 1 = true ∧ dq 223 93 (.getfield 71) 3 = true ∧ dq 223 96 (.iload 4) 2 = true ∧ dq 223 98 (.iconst 1) 1 = true ∧ dq 223 99 (.isub) 1 = true ∧ dq 223 100 (.aload_n 0) 1 = true ∧ dq 223 101 (.getfield 71) 3 = true ∧ dq 223 104 (.iload 4) 2 = true ∧ dq 223 106 (.iconst 1) 1 = true ∧ dq 223 107 (.isub) 1 = true ∧ dq 223 108 (.iaload) 1 = true ∧ dq 223 109 (.ifCond .ne 7) 3 = true ∧ dq 223 112 (.iconst 1) 1 = true ∧ dq 223 113 (.goto 4) 3 = true := by decide +kernel
theorem dX12_worked_88 : decode (mB 223) 88 = .ok (.iconst 3, 1) := dqo gX12_worked_88.1
theorem dX12_worked_89 : decode (mB 223) 89 = .ok (.if_icmp .ne 32, 3) := dqo gX12_worked_88.2.1
theorem dX12_worked_92 : decode (mB 223) 92 = .ok (.aload_n 0, 1) := dqo gX12_worked_88.2.2.1
theorem dX12_worked_93 : decode (mB 223) 93 = .ok (.getfield 71, 3) := dqo gX12_worked_88.2.2.2.1
theorem dX12_worked_96 : decode (mB 223) 96 = .ok (.iload 4, 2) := dqo gX12_worked_88.2.2.2.2.1
theorem dX12_worked_98 : decode (mB 223) 98 = .ok (.iconst 1, 1) := dqo gX12_worked_88.2.2.2.2.2.1
theorem dX12_worked_99 : decode (mB 223) 99 = .ok (.isub, 1) := dqo gX12_worked_88.2.2.2.2.2.2.1
theorem dX12_worked_100 : decode (mB 223) 100 = .ok (.aload_n 0, 1) := dqo gX12_worked_88.2.2.2.2.2.2.2.1
theorem dX12_worked_101 : decode (mB 223) 101 = .ok (.getfield 71, 3) := dqo gX12_worked_88.2.2.2.2.2.2.2.2.1
theorem dX12_worked_104 : decode (mB 223) 104 = .ok (.iload 4, 2) := dqo gX12_worked_88.2.2.2.2.2.2.2.2.2.1
theorem dX12_worked_106 : decode (mB 223) 106 = .ok (.iconst 1, 1) := dqo gX12_worked_88.2.2.2.2.2.2.2.2.2.2.1
theorem dX12_worked_107 : decode (mB 223) 107 = .ok (.isub, 1) := dqo gX12_worked_88.2.2.2.2.2.2.2.2.2.2.2.1
theorem dX12_worked_108 : decode (mB 223) 108 = .ok (.iaload, 1) := dqo gX12_worked_88.2.2.2.2.2.2.2.2.2.2.2.2.1
theorem dX12_worked_109 : decode (mB 223) 109 = .ok (.ifCond .ne 7, 3) := dqo gX12_worked_88.2.2.2.2.2.2.2.2.2.2.2.2.2.1
theorem dX12_worked_112 : decode (mB 223) 112 = .ok (.iconst 1, 1) := dqo gX12_worked_88.2.2.2.2.2.2.2.2.2.2.2.2.2.2.1
theorem dX12_worked_113 : decode (mB 223) 113 = .ok (.goto 4, 3) := dqo gX12_worked_88.2.2.2.2.2.2.2.2.2.2.2.2.2.2.2
theorem gX12_worked_116 : dq 223 116 (.iconst 0) 1 = true ∧ dq 223 117 (.iastore) 1 = true ∧ dq 223 118 (.goto 64) 3 = true ∧ dq 223 121 (.iload 6) 2 = true ∧ dq 223 123 (.iconst 4) 1 = true ∧ dq 223 124 (.if_icmp .ne 25) 3 = true ∧ dq 223 127 (.aload_n 0) 1 = true ∧ dq 223 128 (.getfield 71) 3 = true ∧ dq 223 131 (.iload 4) 2 = true ∧ dq 223 133 (.iconst 1) 1 = true ∧ dq 223 134 (.isub) 1 = true ∧ dq 223 135 (.aload_n 0) 1 = true ∧ dq 223 136 (.getfield 71) 3 = true ∧ dq 223 139 (.iload 4) 2 = true ∧ dq 223 141 (.iconst 1) 1 = true ∧ dq 223 142 (.isub) 1 = true := by decide +kernel
theorem dX12_worked_116 : decode (mB 223) 116 = .ok (.iconst 0, 1) := dqo gX12_worked_116.1
theorem dX12_worked_117 : decode (mB 223) 117 = .ok (.iastore, 1) := dqo gX12_worked_116.2.1
theorem dX12_worked_118 : decode (mB 223) 118 = .ok (.goto 64, 3) := dqo gX12_worked_116.2.2.1
theorem dX12_worked_121 : decode (mB 223) 121 = .ok (.iload 6, 2) := dqo gX12_worked_116.2.2.2.1
theorem dX12_worked_123 : decode (mB 223) 123 = .ok (.iconst 4, 1) := dqo gX12_worked_116.2.2.2.2.1
theorem dX12_worked_124 : decode (mB 223) 124 = .ok (.if_icmp .ne 25, 3) := dqo gX12_worked_116.2.2.2.2.2.1
theorem dX12_worked_127 : decode (mB 223) 127 = .ok (.aload_n 0, 1) := dqo gX12_worked_116.2.2.2.2.2.2.1
theorem dX12_worked_128 : decode (mB 223) 128 = .ok (.getfield 71, 3) := dqo gX12_worked_116.2.2.2.2.2.2.2.1
theorem dX12_worked_131 : decode (mB 223) 131 = .ok (.iload 4, 2) := dqo gX12_worked_116.2.2.2.2.2.2.2.2.1
theorem dX12_worked_133 : decode (mB 223) 133 = .ok (.iconst 1, 1) := dqo gX12_worked_116.2.2.2.2.2.2.2.2.2.1
theorem dX12_worked_134 : decode (mB 223) 134 = .ok (.isub, 1) := dqo gX12_worked_116.2.2.2.2.2.2.2.2.2.2.1
theorem dX12_worked_135 : decode (mB 223) 135 = .ok (.aload_n 0, 1) := dqo gX12_worked_116.2.2.2.2.2.2.2.2.2.2.2.1
theorem dX12_worked_136 : decode (mB 223) 136 = .ok (.getfield 71, 3) := dqo gX12_worked_116.2.2.2.2.2.2.2.2.2.2.2.2.1
theorem dX12_worked_139 : decode (mB 223) 139 = .ok (.iload 4, 2) := dqo gX12_worked_116.2.2.2.2.2.2.2.2.2.2.2.2.2.1
theorem dX12_worked_141 : decode (mB 223) 141 = .ok (.iconst 1, 1) := dqo gX12_worked_116.2.2.2.2.2.2.2.2.2.2.2.2.2.2.1
theorem dX12_worked_142 : decode (mB 223) 142 = .ok (.isub, 1) := dqo gX12_worked_116.2.2.2.2.2.2.2.2.2.2.2.2.2.2.2
theorem gX12_worked_143 : dq 223 143 (.iaload) 1 = true ∧ dq 223 144 (.ineg) 1 = true ∧ dq 223 145 (.iastore) 1 = true ∧ dq 223 146 (.goto 36) 3 = true ∧ dq 223 149 (.iinc 4 (-1)) 3 = true ∧ dq 223 152 (.aload_n 0) 1 = true ∧ dq 223 153 (.getfield 71) 3 = true ∧ dq 223 156 (.iload 4) 2 = true ∧ dq 223 158 (.iconst 1) 1 = true ∧ dq 223 159 (.isub) 1 = true ∧ dq 223 160 (.iload 6) 2 = true ∧ dq 223 162 (.aload_n 0) 1 = true ∧ dq 223 163 (.getfield 71) 3 = true ∧ dq 223 166 (.iload 4) 2 = true ∧ dq 223 168 (.iconst 1) 1 = true ∧ dq 223 169 (.isub) 1 = true := by decide +kernel
theorem dX12_worked_143 : decode (mB 223) 143 = .ok (.iaload, 1) := dqo gX12_worked_143.1
theorem dX12_worked_144 : decode (mB 223) 144 = .ok (.ineg, 1) := dqo gX12_worked_143.2.1
theorem dX12_worked_145 : decode (mB 223) 145 = .ok (.iastore, 1) := dqo gX12_worked_143.2.2.1
theorem dX12_worked_146 : decode (mB 223) 146 = .ok (.goto 36, 3) := dqo gX12_worked_143.2.2.2.1
theorem dX12_worked_149 : decode (mB 223) 149 = .ok (.iinc 4 (-1), 3) := dqo gX12_worked_143.2.2.2.2.1
theorem dX12_worked_152 : decode (mB 223) 152 = .ok (.aload_n 0, 1) := dqo gX12_worked_143.2.2.2.2.2.1
theorem dX12_worked_153 : decode (mB 223) 153 = .ok (.getfield 71, 3) := dqo gX12_worked_143.2.2.2.2.2.2.1
theorem dX12_worked_156 : decode (mB 223) 156 = .ok (.iload 4, 2) := dqo gX12_worked_143.2.2.2.2.2.2.2.1
theorem dX12_worked_158 : decode (mB 223) 158 = .ok (.iconst 1, 1) := dqo gX12_worked_143.2.2.2.2.2.2.2.2.1
theorem dX12_worked_159 : decode (mB 223) 159 = .ok (.isub, 1) := dqo gX12_worked_143.2.2.2.2.2.2.2.2.2.1
theorem dX12_worked_160 : decode (mB 223) 160 = .ok (.iload 6, 2) := dqo gX12_worked_143.2.2.2.2.2.2.2.2.2.2.1
theorem dX12_worked_162 : decode (mB 223) 162 = .ok (.aload_n 0, 1) := dqo gX12_worked_143.2.2.2.2.2.2.2.2.2.2.2.1
theorem dX12_worked_163 : decode (mB 223) 163 = .ok (.getfield 71, 3) := dqo gX12_worked_143.2.2.2.2.2.2.2.2.2.2.2.2.1
theorem dX12_worked_166 : decode (mB 223) 166 = .ok (.iload 4, 2) := dqo gX12_worked_143.2.2.2.2.2.2.2.2.2.2.2.2.2.1
theorem dX12_worked_168 : decode (mB 223) 168 = .ok (.iconst 1, 1) := dqo gX12_worked_143.2.2.2.2.2.2.2.2.2.2.2.2.2.2.1
theorem dX12_worked_169 : decode (mB 223) 169 = .ok (.isub, 1) := dqo gX12_worked_143.2.2.2.2.2.2.2.2.2.2.2.2.2.2.2
theorem gX12_worked_170 : dq 223 170 (.iaload) 1 = true ∧ dq 223 171 (.aload_n 0) 1 = true ∧ dq 223 172 (.getfield 71) 3 = true ∧ dq 223 175 (.iload 4) 2 = true ∧ dq 223 177 (.iaload) 1 = true ∧ dq 223 178 (.invokestatic 235) 3 = true ∧ dq 223 181 (.iastore) 1 = true ∧ dq 223 182 (.iinc 5 1) 3 = true ∧ dq 223 185 (.goto (-173)) 3 = true ∧ dq 223 188 (.aload_n 0) 1 = true ∧ dq 223 189 (.getfield 71) 3 = true ∧ dq 223 192 (.iconst 0) 1 = true ∧ dq 223 193 (.iaload) 1 = true ∧ dq 223 194 (.ireturn) 1 = true := by decide +kernel
theorem dX12_worked_170 : decode (mB 223) 170 = .ok (.iaload, 1) := dqo gX12_worked_170.1
theorem dX12_worked_171 : decode (mB 223) 171 = .ok (.aload_n 0, 1) := dqo gX12_worked_170.2.1
theorem dX12_worked_172 : decode (mB 223) 172 = .ok (.getfield 71, 3) := dqo gX12_worked_170.2.2.1
theorem dX12_worked_175 : decode (mB 223) 175 = .ok (.iload 4, 2) := dqo gX12_worked_170.2.2.2.1
theorem dX12_worked_177 : decode (mB 223) 177 = .ok (.iaload, 1) := dqo gX12_worked_170.2.2.2.2.1
theorem dX12_worked_178 : decode (mB 223) 178 = .ok (.invokestatic 235, 3) := dqo gX12_worked_170.2.2.2.2.2.1
theorem dX12_worked_181 : decode (mB 223) 181 = .ok (.iastore, 1) := dqo gX12_worked_170.2.2.2.2.2.2.1
theorem dX12_worked_182 : decode (mB 223) 182 = .ok (.iinc 5 1, 3) := dqo gX12_worked_170.2.2.2.2.2.2.2.1
theorem dX12_worked_185 : decode (mB 223) 185 = .ok (.goto (-173), 3) := dqo gX12_worked_170.2.2.2.2.2.2.2.2.1
theorem dX12_worked_188 : decode (mB 223) 188 = .ok (.aload_n 0, 1) := dqo gX12_worked_170.2.2.2.2.2.2.2.2.2.1
theorem dX12_worked_189 : decode (mB 223) 189 = .ok (.getfield 71, 3) := dqo gX12_worked_170.2.2.2.2.2.2.2.2.2.2.1
theorem dX12_worked_192 : decode (mB 223) 192 = .ok (.iconst 0, 1) := dqo gX12_worked_170.2.2.2.2.2.2.2.2.2.2.2.1
theorem dX12_worked_193 : decode (mB 223) 193 = .ok (.iaload, 1) := dqo gX12_worked_170.2.2.2.2.2.2.2.2.2.2.2.2.1
theorem dX12_worked_194 : decode (mB 223) 194 = .ok (.ireturn, 1) := dqo gX12_worked_170.2.2.2.2.2.2.2.2.2.2.2.2.2
theorem gX12_gives_0 : dq 224 0 (.iconst 0) 1 = true ∧ dq 224 1 (.istore_n 2) 1 = true ∧ dq 224 2 (.bipush 61) 2 = true ∧ dq 224 4 (.iload_n 1) 1 = true ∧ dq 224 5 (.imul) 1 = true ∧ dq 224 6 (.istore_n 3) 1 = true ∧ dq 224 7 (.iload_n 3) 1 = true ∧ dq 224 8 (.bipush 61) 2 = true ∧ dq 224 10 (.iload_n 1) 1 = true ∧ dq 224 11 (.imul) 1 = true ∧ dq 224 12 (.aload_n 0) 1 = true ∧ dq 224 13 (.getfield 58) 3 = true ∧ dq 224 16 (.iload_n 1) 1 = true ∧ dq 224 17 (.iaload) 1 = true ∧ dq 224 18 (.iadd) 1 = true ∧ dq 224 19 (.if_icmp .ge 59) 3 = true := by decide +kernel
theorem dX12_gives_0 : decode (mB 224) 0 = .ok (.iconst 0, 1) := dqo gX12_gives_0.1
theorem dX12_gives_1 : decode (mB 224) 1 = .ok (.istore_n 2, 1) := dqo gX12_gives_0.2.1
theorem dX12_gives_2 : decode (mB 224) 2 = .ok (.bipush 61, 2) := dqo gX12_gives_0.2.2.1
theorem dX12_gives_4 : decode (mB 224) 4 = .ok (.iload_n 1, 1) := dqo gX12_gives_0.2.2.2.1
theorem dX12_gives_5 : decode (mB 224) 5 = .ok (.imul, 1) := dqo gX12_gives_0.2.2.2.2.1
theorem dX12_gives_6 : decode (mB 224) 6 = .ok (.istore_n 3, 1) := dqo gX12_gives_0.2.2.2.2.2.1
theorem dX12_gives_7 : decode (mB 224) 7 = .ok (.iload_n 3, 1) := dqo gX12_gives_0.2.2.2.2.2.2.1
theorem dX12_gives_8 : decode (mB 224) 8 = .ok (.bipush 61, 2) := dqo gX12_gives_0.2.2.2.2.2.2.2.1
theorem dX12_gives_10 : decode (mB 224) 10 = .ok (.iload_n 1, 1) := dqo gX12_gives_0.2.2.2.2.2.2.2.2.1
theorem dX12_gives_11 : decode (mB 224) 11 = .ok (.imul, 1) := dqo gX12_gives_0.2.2.2.2.2.2.2.2.2.1
theorem dX12_gives_12 : decode (mB 224) 12 = .ok (.aload_n 0, 1) := dqo gX12_gives_0.2.2.2.2.2.2.2.2.2.2.1
theorem dX12_gives_13 : decode (mB 224) 13 = .ok (.getfield 58, 3) := dqo gX12_gives_0.2.2.2.2.2.2.2.2.2.2.2.1
theorem dX12_gives_16 : decode (mB 224) 16 = .ok (.iload_n 1, 1) := dqo gX12_gives_0.2.2.2.2.2.2.2.2.2.2.2.2.1
theorem dX12_gives_17 : decode (mB 224) 17 = .ok (.iaload, 1) := dqo gX12_gives_0.2.2.2.2.2.2.2.2.2.2.2.2.2.1
theorem dX12_gives_18 : decode (mB 224) 18 = .ok (.iadd, 1) := dqo gX12_gives_0.2.2.2.2.2.2.2.2.2.2.2.2.2.2.1
theorem dX12_gives_19 : decode (mB 224) 19 = .ok (.if_icmp .ge 59, 3) := dqo gX12_gives_0.2.2.2.2.2.2.2.2.2.2.2.2.2.2.2
theorem gX12_gives_22 : dq 224 22 (.aload_n 0) 1 = true ∧ dq 224 23 (.getfield 61) 3 = true ∧ dq 224 26 (.iload_n 3) 1 = true ∧ dq 224 27 (.saload) 1 = true ∧ dq 224 28 (.iload_n 2) 1 = true ∧ dq 224 29 (.if_icmp .eq 18) 3 = true ∧ dq 224 32 (.aload_n 0) 1 = true ∧ dq 224 33 (.iload_n 1) 1 = true ∧ dq 224 34 (.iload_n 2) 1 = true ∧ dq 224 35 (.aload_n 0) 1 = true ∧ dq 224 36 (.getfield 61) 3 = true ∧ dq 224 39 (.iload_n 3) 1 = true ∧ dq 224 40 (.saload) 1 = true ∧ dq 224 41 (.invokevirtual 238) 3 = true ∧ dq 224 44 (.ifCond .eq 21) 3 = true ∧ dq 224 47 (.aload_n 0) 1 = true := by decide +kernel
theorem dX12_gives_22 : decode (mB 224) 22 = .ok (.aload_n 0, 1) := dqo gX12_gives_22.1
theorem dX12_gives_23 : decode (mB 224) 23 = .ok (.getfield 61, 3) := dqo gX12_gives_22.2.1
theorem dX12_gives_26 : decode (mB 224) 26 = .ok (.iload_n 3, 1) := dqo gX12_gives_22.2.2.1
theorem dX12_gives_27 : decode (mB 224) 27 = .ok (.saload, 1) := dqo gX12_gives_22.2.2.2.1
theorem dX12_gives_28 : decode (mB 224) 28 = .ok (.iload_n 2, 1) := dqo gX12_gives_22.2.2.2.2.1
theorem dX12_gives_29 : decode (mB 224) 29 = .ok (.if_icmp .eq 18, 3) := dqo gX12_gives_22.2.2.2.2.2.1
theorem dX12_gives_32 : decode (mB 224) 32 = .ok (.aload_n 0, 1) := dqo gX12_gives_22.2.2.2.2.2.2.1
theorem dX12_gives_33 : decode (mB 224) 33 = .ok (.iload_n 1, 1) := dqo gX12_gives_22.2.2.2.2.2.2.2.1
theorem dX12_gives_34 : decode (mB 224) 34 = .ok (.iload_n 2, 1) := dqo gX12_gives_22.2.2.2.2.2.2.2.2.1
theorem dX12_gives_35 : decode (mB 224) 35 = .ok (.aload_n 0, 1) := dqo gX12_gives_22.2.2.2.2.2.2.2.2.2.1
theorem dX12_gives_36 : decode (mB 224) 36 = .ok (.getfield 61, 3) := dqo gX12_gives_22.2.2.2.2.2.2.2.2.2.2.1
theorem dX12_gives_39 : decode (mB 224) 39 = .ok (.iload_n 3, 1) := dqo gX12_gives_22.2.2.2.2.2.2.2.2.2.2.2.1
theorem dX12_gives_40 : decode (mB 224) 40 = .ok (.saload, 1) := dqo gX12_gives_22.2.2.2.2.2.2.2.2.2.2.2.2.1
theorem dX12_gives_41 : decode (mB 224) 41 = .ok (.invokevirtual 238, 3) := dqo gX12_gives_22.2.2.2.2.2.2.2.2.2.2.2.2.2.1
theorem dX12_gives_44 : decode (mB 224) 44 = .ok (.ifCond .eq 21, 3) := dqo gX12_gives_22.2.2.2.2.2.2.2.2.2.2.2.2.2.2.1
theorem dX12_gives_47 : decode (mB 224) 47 = .ok (.aload_n 0, 1) := dqo gX12_gives_22.2.2.2.2.2.2.2.2.2.2.2.2.2.2.2
theorem gX12_gives_48 : dq 224 48 (.iload_n 1) 1 = true ∧ dq 224 49 (.aload_n 0) 1 = true ∧ dq 224 50 (.getfield 61) 3 = true ∧ dq 224 53 (.iload_n 3) 1 = true ∧ dq 224 54 (.saload) 1 = true ∧ dq 224 55 (.aload_n 0) 1 = true ∧ dq 224 56 (.getfield 65) 3 = true ∧ dq 224 59 (.iload_n 3) 1 = true ∧ dq 224 60 (.saload) 1 = true ∧ dq 224 61 (.invokevirtual 238) 3 = true ∧ dq 224 64 (.ireturn) 1 = true ∧ dq 224 65 (.aload_n 0) 1 = true ∧ dq 224 66 (.getfield 65) 3 = true ∧ dq 224 69 (.iload_n 3) 1 = true ∧ dq 224 70 (.saload) 1 = true ∧ dq 224 71 (.istore_n 2) 1 = true := by decide +kernel
theorem dX12_gives_48 : decode (mB 224) 48 = .ok (.iload_n 1, 1) := dqo gX12_gives_48.1
theorem dX12_gives_49 : decode (mB 224) 49 = .ok (.aload_n 0, 1) := dqo gX12_gives_48.2.1
theorem dX12_gives_50 : decode (mB 224) 50 = .ok (.getfield 61, 3) := dqo gX12_gives_48.2.2.1
theorem dX12_gives_53 : decode (mB 224) 53 = .ok (.iload_n 3, 1) := dqo gX12_gives_48.2.2.2.1
theorem dX12_gives_54 : decode (mB 224) 54 = .ok (.saload, 1) := dqo gX12_gives_48.2.2.2.2.1
theorem dX12_gives_55 : decode (mB 224) 55 = .ok (.aload_n 0, 1) := dqo gX12_gives_48.2.2.2.2.2.1
theorem dX12_gives_56 : decode (mB 224) 56 = .ok (.getfield 65, 3) := dqo gX12_gives_48.2.2.2.2.2.2.1
theorem dX12_gives_59 : decode (mB 224) 59 = .ok (.iload_n 3, 1) := dqo gX12_gives_48.2.2.2.2.2.2.2.1
theorem dX12_gives_60 : decode (mB 224) 60 = .ok (.saload, 1) := dqo gX12_gives_48.2.2.2.2.2.2.2.2.1
theorem dX12_gives_61 : decode (mB 224) 61 = .ok (.invokevirtual 238, 3) := dqo gX12_gives_48.2.2.2.2.2.2.2.2.2.1
theorem dX12_gives_64 : decode (mB 224) 64 = .ok (.ireturn, 1) := dqo gX12_gives_48.2.2.2.2.2.2.2.2.2.2.1
theorem dX12_gives_65 : decode (mB 224) 65 = .ok (.aload_n 0, 1) := dqo gX12_gives_48.2.2.2.2.2.2.2.2.2.2.2.1
theorem dX12_gives_66 : decode (mB 224) 66 = .ok (.getfield 65, 3) := dqo gX12_gives_48.2.2.2.2.2.2.2.2.2.2.2.2.1
theorem dX12_gives_69 : decode (mB 224) 69 = .ok (.iload_n 3, 1) := dqo gX12_gives_48.2.2.2.2.2.2.2.2.2.2.2.2.2.1
theorem dX12_gives_70 : decode (mB 224) 70 = .ok (.saload, 1) := dqo gX12_gives_48.2.2.2.2.2.2.2.2.2.2.2.2.2.2.1
theorem dX12_gives_71 : decode (mB 224) 71 = .ok (.istore_n 2, 1) := dqo gX12_gives_48.2.2.2.2.2.2.2.2.2.2.2.2.2.2.2
theorem gX12_gives_72 : dq 224 72 (.iinc 3 1) 3 = true ∧ dq 224 75 (.goto (-68)) 3 = true ∧ dq 224 78 (.iconst 0) 1 = true ∧ dq 224 79 (.ireturn) 1 = true := by decide +kernel
theorem dX12_gives_72 : decode (mB 224) 72 = .ok (.iinc 3 1, 3) := dqo gX12_gives_72.1
theorem dX12_gives_75 : decode (mB 224) 75 = .ok (.goto (-68), 3) := dqo gX12_gives_72.2.1
theorem dX12_gives_78 : decode (mB 224) 78 = .ok (.iconst 0, 1) := dqo gX12_gives_72.2.2.1
theorem dX12_gives_79 : decode (mB 224) 79 = .ok (.ireturn, 1) := dqo gX12_gives_72.2.2.2
theorem gX12_law_0 : dq 225 0 (.aload_n 0) 1 = true ∧ dq 225 1 (.iconst 0) 1 = true ∧ dq 225 2 (.invokevirtual 241) 3 = true ∧ dq 225 5 (.istore_n 1) 1 = true ∧ dq 225 6 (.iload_n 1) 1 = true ∧ dq 225 7 (.ifCond .lt 8) 3 = true ∧ dq 225 10 (.bipush (-100)) 2 = true ∧ dq 225 12 (.iload_n 1) 1 = true ∧ dq 225 13 (.isub) 1 = true ∧ dq 225 14 (.ireturn) 1 = true ∧ dq 225 15 (.aload_n 0) 1 = true ∧ dq 225 16 (.iconst 1) 1 = true ∧ dq 225 17 (.putfield 244) 3 = true ∧ dq 225 20 (.iconst 1) 1 = true ∧ dq 225 21 (.ireturn) 1 = true := by decide +kernel
theorem dX12_law_0 : decode (mB 225) 0 = .ok (.aload_n 0, 1) := dqo gX12_law_0.1
theorem dX12_law_1 : decode (mB 225) 1 = .ok (.iconst 0, 1) := dqo gX12_law_0.2.1
theorem dX12_law_2 : decode (mB 225) 2 = .ok (.invokevirtual 241, 3) := dqo gX12_law_0.2.2.1
theorem dX12_law_5 : decode (mB 225) 5 = .ok (.istore_n 1, 1) := dqo gX12_law_0.2.2.2.1
theorem dX12_law_6 : decode (mB 225) 6 = .ok (.iload_n 1, 1) := dqo gX12_law_0.2.2.2.2.1
theorem dX12_law_7 : decode (mB 225) 7 = .ok (.ifCond .lt 8, 3) := dqo gX12_law_0.2.2.2.2.2.1
theorem dX12_law_10 : decode (mB 225) 10 = .ok (.bipush (-100), 2) := dqo gX12_law_0.2.2.2.2.2.2.1
theorem dX12_law_12 : decode (mB 225) 12 = .ok (.iload_n 1, 1) := dqo gX12_law_0.2.2.2.2.2.2.2.1
theorem dX12_law_13 : decode (mB 225) 13 = .ok (.isub, 1) := dqo gX12_law_0.2.2.2.2.2.2.2.2.1
theorem dX12_law_14 : decode (mB 225) 14 = .ok (.ireturn, 1) := dqo gX12_law_0.2.2.2.2.2.2.2.2.2.1
theorem dX12_law_15 : decode (mB 225) 15 = .ok (.aload_n 0, 1) := dqo gX12_law_0.2.2.2.2.2.2.2.2.2.2.1
theorem dX12_law_16 : decode (mB 225) 16 = .ok (.iconst 1, 1) := dqo gX12_law_0.2.2.2.2.2.2.2.2.2.2.2.1
theorem dX12_law_17 : decode (mB 225) 17 = .ok (.putfield 244, 3) := dqo gX12_law_0.2.2.2.2.2.2.2.2.2.2.2.2.1
theorem dX12_law_20 : decode (mB 225) 20 = .ok (.iconst 1, 1) := dqo gX12_law_0.2.2.2.2.2.2.2.2.2.2.2.2.2.1
theorem dX12_law_21 : decode (mB 225) 21 = .ok (.ireturn, 1) := dqo gX12_law_0.2.2.2.2.2.2.2.2.2.2.2.2.2.2
theorem gX12_layNow_0 : dq 226 0 (.iconst 0) 1 = true ∧ dq 226 1 (.istore_n 1) 1 = true ∧ dq 226 2 (.iload_n 1) 1 = true ∧ dq 226 3 (.aload_n 0) 1 = true ∧ dq 226 4 (.getfield 122) 3 = true ∧ dq 226 7 (.if_icmp .ge 21) 3 = true ∧ dq 226 10 (.aload_n 0) 1 = true ∧ dq 226 11 (.getfield 74) 3 = true ∧ dq 226 14 (.iload_n 1) 1 = true ∧ dq 226 15 (.aload_n 0) 1 = true ∧ dq 226 16 (.getfield 24) 3 = true ∧ dq 226 19 (.iload_n 1) 1 = true ∧ dq 226 20 (.iaload) 1 = true ∧ dq 226 21 (.iastore) 1 = true ∧ dq 226 22 (.iinc 1 1) 3 = true ∧ dq 226 25 (.goto (-23)) 3 = true := by decide +kernel
theorem dX12_layNow_0 : decode (mB 226) 0 = .ok (.iconst 0, 1) := dqo gX12_layNow_0.1
theorem dX12_layNow_1 : decode (mB 226) 1 = .ok (.istore_n 1, 1) := dqo gX12_layNow_0.2.1
theorem dX12_layNow_2 : decode (mB 226) 2 = .ok (.iload_n 1, 1) := dqo gX12_layNow_0.2.2.1
theorem dX12_layNow_3 : decode (mB 226) 3 = .ok (.aload_n 0, 1) := dqo gX12_layNow_0.2.2.2.1
theorem dX12_layNow_4 : decode (mB 226) 4 = .ok (.getfield 122, 3) := dqo gX12_layNow_0.2.2.2.2.1
theorem dX12_layNow_7 : decode (mB 226) 7 = .ok (.if_icmp .ge 21, 3) := dqo gX12_layNow_0.2.2.2.2.2.1
theorem dX12_layNow_10 : decode (mB 226) 10 = .ok (.aload_n 0, 1) := dqo gX12_layNow_0.2.2.2.2.2.2.1
theorem dX12_layNow_11 : decode (mB 226) 11 = .ok (.getfield 74, 3) := dqo gX12_layNow_0.2.2.2.2.2.2.2.1
theorem dX12_layNow_14 : decode (mB 226) 14 = .ok (.iload_n 1, 1) := dqo gX12_layNow_0.2.2.2.2.2.2.2.2.1
theorem dX12_layNow_15 : decode (mB 226) 15 = .ok (.aload_n 0, 1) := dqo gX12_layNow_0.2.2.2.2.2.2.2.2.2.1
theorem dX12_layNow_16 : decode (mB 226) 16 = .ok (.getfield 24, 3) := dqo gX12_layNow_0.2.2.2.2.2.2.2.2.2.2.1
theorem dX12_layNow_19 : decode (mB 226) 19 = .ok (.iload_n 1, 1) := dqo gX12_layNow_0.2.2.2.2.2.2.2.2.2.2.2.1
theorem dX12_layNow_20 : decode (mB 226) 20 = .ok (.iaload, 1) := dqo gX12_layNow_0.2.2.2.2.2.2.2.2.2.2.2.2.1
theorem dX12_layNow_21 : decode (mB 226) 21 = .ok (.iastore, 1) := dqo gX12_layNow_0.2.2.2.2.2.2.2.2.2.2.2.2.2.1
theorem dX12_layNow_22 : decode (mB 226) 22 = .ok (.iinc 1 1, 3) := dqo gX12_layNow_0.2.2.2.2.2.2.2.2.2.2.2.2.2.2.1
theorem dX12_layNow_25 : decode (mB 226) 25 = .ok (.goto (-23), 3) := dqo gX12_layNow_0.2.2.2.2.2.2.2.2.2.2.2.2.2.2.2
theorem gX12_layNow_28 : dq 226 28 (.aload_n 0) 1 = true ∧ dq 226 29 (.aload_n 0) 1 = true ∧ dq 226 30 (.getfield 33) 3 = true ∧ dq 226 33 (.iconst 0) 1 = true ∧ dq 226 34 (.iaload) 1 = true ∧ dq 226 35 (.putfield 248) 3 = true ∧ dq 226 38 (.return_) 1 = true := by decide +kernel
theorem dX12_layNow_28 : decode (mB 226) 28 = .ok (.aload_n 0, 1) := dqo gX12_layNow_28.1
theorem dX12_layNow_29 : decode (mB 226) 29 = .ok (.aload_n 0, 1) := dqo gX12_layNow_28.2.1
theorem dX12_layNow_30 : decode (mB 226) 30 = .ok (.getfield 33, 3) := dqo gX12_layNow_28.2.2.1
theorem dX12_layNow_33 : decode (mB 226) 33 = .ok (.iconst 0, 1) := dqo gX12_layNow_28.2.2.2.1
theorem dX12_layNow_34 : decode (mB 226) 34 = .ok (.iaload, 1) := dqo gX12_layNow_28.2.2.2.2.1
theorem dX12_layNow_35 : decode (mB 226) 35 = .ok (.putfield 248, 3) := dqo gX12_layNow_28.2.2.2.2.2.1
theorem dX12_layNow_38 : decode (mB 226) 38 = .ok (.return_, 1) := dqo gX12_layNow_28.2.2.2.2.2.2
theorem gX12_manyOf_0 : dq 227 0 (.iconst 0) 1 = true ∧ dq 227 1 (.istore_n 2) 1 = true ∧ dq 227 2 (.iconst 0) 1 = true ∧ dq 227 3 (.istore_n 3) 1 = true ∧ dq 227 4 (.iload_n 3) 1 = true ∧ dq 227 5 (.aload_n 0) 1 = true ∧ dq 227 6 (.getfield 122) 3 = true ∧ dq 227 9 (.if_icmp .ge 22) 3 = true ∧ dq 227 12 (.aload_n 0) 1 = true ∧ dq 227 13 (.getfield 74) 3 = true ∧ dq 227 16 (.iload_n 3) 1 = true ∧ dq 227 17 (.iaload) 1 = true ∧ dq 227 18 (.iload_n 1) 1 = true ∧ dq 227 19 (.if_icmp .ne 6) 3 = true ∧ dq 227 22 (.iinc 2 1) 3 = true ∧ dq 227 25 (.iinc 3 1) 3 = true := by decide +kernel
theorem dX12_manyOf_0 : decode (mB 227) 0 = .ok (.iconst 0, 1) := dqo gX12_manyOf_0.1
theorem dX12_manyOf_1 : decode (mB 227) 1 = .ok (.istore_n 2, 1) := dqo gX12_manyOf_0.2.1
theorem dX12_manyOf_2 : decode (mB 227) 2 = .ok (.iconst 0, 1) := dqo gX12_manyOf_0.2.2.1
theorem dX12_manyOf_3 : decode (mB 227) 3 = .ok (.istore_n 3, 1) := dqo gX12_manyOf_0.2.2.2.1
theorem dX12_manyOf_4 : decode (mB 227) 4 = .ok (.iload_n 3, 1) := dqo gX12_manyOf_0.2.2.2.2.1
theorem dX12_manyOf_5 : decode (mB 227) 5 = .ok (.aload_n 0, 1) := dqo gX12_manyOf_0.2.2.2.2.2.1
theorem dX12_manyOf_6 : decode (mB 227) 6 = .ok (.getfield 122, 3) := dqo gX12_manyOf_0.2.2.2.2.2.2.1
theorem dX12_manyOf_9 : decode (mB 227) 9 = .ok (.if_icmp .ge 22, 3) := dqo gX12_manyOf_0.2.2.2.2.2.2.2.1
theorem dX12_manyOf_12 : decode (mB 227) 12 = .ok (.aload_n 0, 1) := dqo gX12_manyOf_0.2.2.2.2.2.2.2.2.1
theorem dX12_manyOf_13 : decode (mB 227) 13 = .ok (.getfield 74, 3) := dqo gX12_manyOf_0.2.2.2.2.2.2.2.2.2.1
theorem dX12_manyOf_16 : decode (mB 227) 16 = .ok (.iload_n 3, 1) := dqo gX12_manyOf_0.2.2.2.2.2.2.2.2.2.2.1
theorem dX12_manyOf_17 : decode (mB 227) 17 = .ok (.iaload, 1) := dqo gX12_manyOf_0.2.2.2.2.2.2.2.2.2.2.2.1
theorem dX12_manyOf_18 : decode (mB 227) 18 = .ok (.iload_n 1, 1) := dqo gX12_manyOf_0.2.2.2.2.2.2.2.2.2.2.2.2.1
theorem dX12_manyOf_19 : decode (mB 227) 19 = .ok (.if_icmp .ne 6, 3) := dqo gX12_manyOf_0.2.2.2.2.2.2.2.2.2.2.2.2.2.1
theorem dX12_manyOf_22 : decode (mB 227) 22 = .ok (.iinc 2 1, 3) := dqo gX12_manyOf_0.2.2.2.2.2.2.2.2.2.2.2.2.2.2.1
theorem dX12_manyOf_25 : decode (mB 227) 25 = .ok (.iinc 3 1, 3) := dqo gX12_manyOf_0.2.2.2.2.2.2.2.2.2.2.2.2.2.2.2
theorem gX12_manyOf_28 : dq 227 28 (.goto (-24)) 3 = true ∧ dq 227 31 (.iload_n 2) 1 = true ∧ dq 227 32 (.ireturn) 1 = true := by decide +kernel
theorem dX12_manyOf_28 : decode (mB 227) 28 = .ok (.goto (-24), 3) := dqo gX12_manyOf_28.1
theorem dX12_manyOf_31 : decode (mB 227) 31 = .ok (.iload_n 2, 1) := dqo gX12_manyOf_28.2.1
theorem dX12_manyOf_32 : decode (mB 227) 32 = .ok (.ireturn, 1) := dqo gX12_manyOf_28.2.2
theorem gX12_realOf_0 : dq 228 0 (.iconst 0) 1 = true ∧ dq 228 1 (.istore_n 2) 1 = true ∧ dq 228 2 (.iconst 0) 1 = true ∧ dq 228 3 (.istore_n 3) 1 = true ∧ dq 228 4 (.iload_n 3) 1 = true ∧ dq 228 5 (.aload_n 0) 1 = true ∧ dq 228 6 (.getfield 122) 3 = true ∧ dq 228 9 (.if_icmp .ge 31) 3 = true ∧ dq 228 12 (.aload_n 0) 1 = true ∧ dq 228 13 (.getfield 74) 3 = true ∧ dq 228 16 (.iload_n 3) 1 = true ∧ dq 228 17 (.iaload) 1 = true ∧ dq 228 18 (.iload_n 1) 1 = true ∧ dq 228 19 (.if_icmp .ne 15) 3 = true ∧ dq 228 22 (.aload_n 0) 1 = true ∧ dq 228 23 (.getfield 27) 3 = true := by decide +kernel
theorem dX12_realOf_0 : decode (mB 228) 0 = .ok (.iconst 0, 1) := dqo gX12_realOf_0.1
theorem dX12_realOf_1 : decode (mB 228) 1 = .ok (.istore_n 2, 1) := dqo gX12_realOf_0.2.1
theorem dX12_realOf_2 : decode (mB 228) 2 = .ok (.iconst 0, 1) := dqo gX12_realOf_0.2.2.1
theorem dX12_realOf_3 : decode (mB 228) 3 = .ok (.istore_n 3, 1) := dqo gX12_realOf_0.2.2.2.1
theorem dX12_realOf_4 : decode (mB 228) 4 = .ok (.iload_n 3, 1) := dqo gX12_realOf_0.2.2.2.2.1
theorem dX12_realOf_5 : decode (mB 228) 5 = .ok (.aload_n 0, 1) := dqo gX12_realOf_0.2.2.2.2.2.1
theorem dX12_realOf_6 : decode (mB 228) 6 = .ok (.getfield 122, 3) := dqo gX12_realOf_0.2.2.2.2.2.2.1
theorem dX12_realOf_9 : decode (mB 228) 9 = .ok (.if_icmp .ge 31, 3) := dqo gX12_realOf_0.2.2.2.2.2.2.2.1
theorem dX12_realOf_12 : decode (mB 228) 12 = .ok (.aload_n 0, 1) := dqo gX12_realOf_0.2.2.2.2.2.2.2.2.1
theorem dX12_realOf_13 : decode (mB 228) 13 = .ok (.getfield 74, 3) := dqo gX12_realOf_0.2.2.2.2.2.2.2.2.2.1
theorem dX12_realOf_16 : decode (mB 228) 16 = .ok (.iload_n 3, 1) := dqo gX12_realOf_0.2.2.2.2.2.2.2.2.2.2.1
theorem dX12_realOf_17 : decode (mB 228) 17 = .ok (.iaload, 1) := dqo gX12_realOf_0.2.2.2.2.2.2.2.2.2.2.2.1
theorem dX12_realOf_18 : decode (mB 228) 18 = .ok (.iload_n 1, 1) := dqo gX12_realOf_0.2.2.2.2.2.2.2.2.2.2.2.2.1
theorem dX12_realOf_19 : decode (mB 228) 19 = .ok (.if_icmp .ne 15, 3) := dqo gX12_realOf_0.2.2.2.2.2.2.2.2.2.2.2.2.2.1
theorem dX12_realOf_22 : decode (mB 228) 22 = .ok (.aload_n 0, 1) := dqo gX12_realOf_0.2.2.2.2.2.2.2.2.2.2.2.2.2.2.1
theorem dX12_realOf_23 : decode (mB 228) 23 = .ok (.getfield 27, 3) := dqo gX12_realOf_0.2.2.2.2.2.2.2.2.2.2.2.2.2.2.2
theorem gX12_realOf_26 : dq 228 26 (.iload_n 3) 1 = true ∧ dq 228 27 (.iaload) 1 = true ∧ dq 228 28 (.ifCond .ne 6) 3 = true ∧ dq 228 31 (.iinc 2 1) 3 = true ∧ dq 228 34 (.iinc 3 1) 3 = true ∧ dq 228 37 (.goto (-33)) 3 = true ∧ dq 228 40 (.iload_n 2) 1 = true ∧ dq 228 41 (.ireturn) 1 = true := by decide +kernel
theorem dX12_realOf_26 : decode (mB 228) 26 = .ok (.iload_n 3, 1) := dqo gX12_realOf_26.1
theorem dX12_realOf_27 : decode (mB 228) 27 = .ok (.iaload, 1) := dqo gX12_realOf_26.2.1
theorem dX12_realOf_28 : decode (mB 228) 28 = .ok (.ifCond .ne 6, 3) := dqo gX12_realOf_26.2.2.1
theorem dX12_realOf_31 : decode (mB 228) 31 = .ok (.iinc 2 1, 3) := dqo gX12_realOf_26.2.2.2.1
theorem dX12_realOf_34 : decode (mB 228) 34 = .ok (.iinc 3 1, 3) := dqo gX12_realOf_26.2.2.2.2.1
theorem dX12_realOf_37 : decode (mB 228) 37 = .ok (.goto (-33), 3) := dqo gX12_realOf_26.2.2.2.2.2.1
theorem dX12_realOf_40 : decode (mB 228) 40 = .ok (.iload_n 2, 1) := dqo gX12_realOf_26.2.2.2.2.2.2.1
theorem dX12_realOf_41 : decode (mB 228) 41 = .ok (.ireturn, 1) := dqo gX12_realOf_26.2.2.2.2.2.2.2
theorem gX12_allReal_0 : dq 229 0 (.iconst 0) 1 = true ∧ dq 229 1 (.istore_n 1) 1 = true ∧ dq 229 2 (.iconst 0) 1 = true ∧ dq 229 3 (.istore_n 2) 1 = true ∧ dq 229 4 (.iload_n 2) 1 = true ∧ dq 229 5 (.aload_n 0) 1 = true ∧ dq 229 6 (.getfield 122) 3 = true ∧ dq 229 9 (.if_icmp .ge 21) 3 = true ∧ dq 229 12 (.aload_n 0) 1 = true ∧ dq 229 13 (.getfield 27) 3 = true ∧ dq 229 16 (.iload_n 2) 1 = true ∧ dq 229 17 (.iaload) 1 = true ∧ dq 229 18 (.ifCond .ne 6) 3 = true ∧ dq 229 21 (.iinc 1 1) 3 = true ∧ dq 229 24 (.iinc 2 1) 3 = true ∧ dq 229 27 (.goto (-23)) 3 = true := by decide +kernel
theorem dX12_allReal_0 : decode (mB 229) 0 = .ok (.iconst 0, 1) := dqo gX12_allReal_0.1
theorem dX12_allReal_1 : decode (mB 229) 1 = .ok (.istore_n 1, 1) := dqo gX12_allReal_0.2.1
theorem dX12_allReal_2 : decode (mB 229) 2 = .ok (.iconst 0, 1) := dqo gX12_allReal_0.2.2.1
theorem dX12_allReal_3 : decode (mB 229) 3 = .ok (.istore_n 2, 1) := dqo gX12_allReal_0.2.2.2.1
theorem dX12_allReal_4 : decode (mB 229) 4 = .ok (.iload_n 2, 1) := dqo gX12_allReal_0.2.2.2.2.1
theorem dX12_allReal_5 : decode (mB 229) 5 = .ok (.aload_n 0, 1) := dqo gX12_allReal_0.2.2.2.2.2.1
theorem dX12_allReal_6 : decode (mB 229) 6 = .ok (.getfield 122, 3) := dqo gX12_allReal_0.2.2.2.2.2.2.1
theorem dX12_allReal_9 : decode (mB 229) 9 = .ok (.if_icmp .ge 21, 3) := dqo gX12_allReal_0.2.2.2.2.2.2.2.1
theorem dX12_allReal_12 : decode (mB 229) 12 = .ok (.aload_n 0, 1) := dqo gX12_allReal_0.2.2.2.2.2.2.2.2.1
theorem dX12_allReal_13 : decode (mB 229) 13 = .ok (.getfield 27, 3) := dqo gX12_allReal_0.2.2.2.2.2.2.2.2.2.1
theorem dX12_allReal_16 : decode (mB 229) 16 = .ok (.iload_n 2, 1) := dqo gX12_allReal_0.2.2.2.2.2.2.2.2.2.2.1
theorem dX12_allReal_17 : decode (mB 229) 17 = .ok (.iaload, 1) := dqo gX12_allReal_0.2.2.2.2.2.2.2.2.2.2.2.1
theorem dX12_allReal_18 : decode (mB 229) 18 = .ok (.ifCond .ne 6, 3) := dqo gX12_allReal_0.2.2.2.2.2.2.2.2.2.2.2.2.1
theorem dX12_allReal_21 : decode (mB 229) 21 = .ok (.iinc 1 1, 3) := dqo gX12_allReal_0.2.2.2.2.2.2.2.2.2.2.2.2.2.1
theorem dX12_allReal_24 : decode (mB 229) 24 = .ok (.iinc 2 1, 3) := dqo gX12_allReal_0.2.2.2.2.2.2.2.2.2.2.2.2.2.2.1
theorem dX12_allReal_27 : decode (mB 229) 27 = .ok (.goto (-23), 3) := dqo gX12_allReal_0.2.2.2.2.2.2.2.2.2.2.2.2.2.2.2
theorem gX12_allReal_30 : dq 229 30 (.iload_n 1) 1 = true ∧ dq 229 31 (.ireturn) 1 = true := by decide +kernel
theorem dX12_allReal_30 : decode (mB 229) 30 = .ok (.iload_n 1, 1) := dqo gX12_allReal_30.1
theorem dX12_allReal_31 : decode (mB 229) 31 = .ok (.ireturn, 1) := dqo gX12_allReal_30.2
theorem gX12_maySlip_0 : dq 230 0 (.aload_n 0) 1 = true ∧ dq 230 1 (.getfield 30) 3 = true ∧ dq 230 4 (.iload_n 1) 1 = true ∧ dq 230 5 (.iaload) 1 = true ∧ dq 230 6 (.iconst 4) 1 = true ∧ dq 230 7 (.if_icmp .eq 26) 3 = true ∧ dq 230 10 (.aload_n 0) 1 = true ∧ dq 230 11 (.getfield 74) 3 = true ∧ dq 230 14 (.iload_n 1) 1 = true ∧ dq 230 15 (.iaload) 1 = true ∧ dq 230 16 (.iload_n 2) 1 = true ∧ dq 230 17 (.if_icmp .eq 16) 3 = true ∧ dq 230 20 (.aload_n 0) 1 = true ∧ dq 230 21 (.getfield 15) 3 = true ∧ dq 230 24 (.iload_n 2) 1 = true ∧ dq 230 25 (.iaload) 1 = true := by decide +kernel
theorem dX12_maySlip_0 : decode (mB 230) 0 = .ok (.aload_n 0, 1) := dqo gX12_maySlip_0.1
theorem dX12_maySlip_1 : decode (mB 230) 1 = .ok (.getfield 30, 3) := dqo gX12_maySlip_0.2.1
theorem dX12_maySlip_4 : decode (mB 230) 4 = .ok (.iload_n 1, 1) := dqo gX12_maySlip_0.2.2.1
theorem dX12_maySlip_5 : decode (mB 230) 5 = .ok (.iaload, 1) := dqo gX12_maySlip_0.2.2.2.1
theorem dX12_maySlip_6 : decode (mB 230) 6 = .ok (.iconst 4, 1) := dqo gX12_maySlip_0.2.2.2.2.1
theorem dX12_maySlip_7 : decode (mB 230) 7 = .ok (.if_icmp .eq 26, 3) := dqo gX12_maySlip_0.2.2.2.2.2.1
theorem dX12_maySlip_10 : decode (mB 230) 10 = .ok (.aload_n 0, 1) := dqo gX12_maySlip_0.2.2.2.2.2.2.1
theorem dX12_maySlip_11 : decode (mB 230) 11 = .ok (.getfield 74, 3) := dqo gX12_maySlip_0.2.2.2.2.2.2.2.1
theorem dX12_maySlip_14 : decode (mB 230) 14 = .ok (.iload_n 1, 1) := dqo gX12_maySlip_0.2.2.2.2.2.2.2.2.1
theorem dX12_maySlip_15 : decode (mB 230) 15 = .ok (.iaload, 1) := dqo gX12_maySlip_0.2.2.2.2.2.2.2.2.2.1
theorem dX12_maySlip_16 : decode (mB 230) 16 = .ok (.iload_n 2, 1) := dqo gX12_maySlip_0.2.2.2.2.2.2.2.2.2.2.1
theorem dX12_maySlip_17 : decode (mB 230) 17 = .ok (.if_icmp .eq 16, 3) := dqo gX12_maySlip_0.2.2.2.2.2.2.2.2.2.2.2.1
theorem dX12_maySlip_20 : decode (mB 230) 20 = .ok (.aload_n 0, 1) := dqo gX12_maySlip_0.2.2.2.2.2.2.2.2.2.2.2.2.1
theorem dX12_maySlip_21 : decode (mB 230) 21 = .ok (.getfield 15, 3) := dqo gX12_maySlip_0.2.2.2.2.2.2.2.2.2.2.2.2.2.1
theorem dX12_maySlip_24 : decode (mB 230) 24 = .ok (.iload_n 2, 1) := dqo gX12_maySlip_0.2.2.2.2.2.2.2.2.2.2.2.2.2.2.1
theorem dX12_maySlip_25 : decode (mB 230) 25 = .ok (.iaload, 1) := dqo gX12_maySlip_0.2.2.2.2.2.2.2.2.2.2.2.2.2.2.2
theorem gX12_maySlip_26 : dq 230 26 (.ifCond .ne 7) 3 = true ∧ dq 230 29 (.iconst 1) 1 = true ∧ dq 230 30 (.goto 4) 3 = true ∧ dq 230 33 (.iconst 0) 1 = true ∧ dq 230 34 (.ireturn) 1 = true := by decide +kernel
theorem dX12_maySlip_26 : decode (mB 230) 26 = .ok (.ifCond .ne 7, 3) := dqo gX12_maySlip_26.1
theorem dX12_maySlip_29 : decode (mB 230) 29 = .ok (.iconst 1, 1) := dqo gX12_maySlip_26.2.1
theorem dX12_maySlip_30 : decode (mB 230) 30 = .ok (.goto 4, 3) := dqo gX12_maySlip_26.2.2.1
theorem dX12_maySlip_33 : decode (mB 230) 33 = .ok (.iconst 0, 1) := dqo gX12_maySlip_26.2.2.2.1
theorem dX12_maySlip_34 : decode (mB 230) 34 = .ok (.ireturn, 1) := dqo gX12_maySlip_26.2.2.2.2
theorem gX12_oddsOf_0 : dq 231 0 (.aload_n 0) 1 = true ∧ dq 231 1 (.iload_n 1) 1 = true ∧ dq 231 2 (.iload_n 2) 1 = true ∧ dq 231 3 (.invokevirtual 251) 3 = true ∧ dq 231 6 (.ifCond .ne 5) 3 = true ∧ dq 231 9 (.iconst 0) 1 = true ∧ dq 231 10 (.ireturn) 1 = true ∧ dq 231 11 (.bipush 12) 2 = true ∧ dq 231 13 (.aload_n 0) 1 = true ∧ dq 231 14 (.getfield 9) 3 = true ∧ dq 231 17 (.iload_n 2) 1 = true ∧ dq 231 18 (.iaload) 1 = true ∧ dq 231 19 (.isub) 1 = true ∧ dq 231 20 (.aload_n 0) 1 = true ∧ dq 231 21 (.getfield 33) 3 = true ∧ dq 231 24 (.iconst 1) 1 = true := by decide +kernel
theorem dX12_oddsOf_0 : decode (mB 231) 0 = .ok (.aload_n 0, 1) := dqo gX12_oddsOf_0.1
theorem dX12_oddsOf_1 : decode (mB 231) 1 = .ok (.iload_n 1, 1) := dqo gX12_oddsOf_0.2.1
theorem dX12_oddsOf_2 : decode (mB 231) 2 = .ok (.iload_n 2, 1) := dqo gX12_oddsOf_0.2.2.1
theorem dX12_oddsOf_3 : decode (mB 231) 3 = .ok (.invokevirtual 251, 3) := dqo gX12_oddsOf_0.2.2.2.1
theorem dX12_oddsOf_6 : decode (mB 231) 6 = .ok (.ifCond .ne 5, 3) := dqo gX12_oddsOf_0.2.2.2.2.1
theorem dX12_oddsOf_9 : decode (mB 231) 9 = .ok (.iconst 0, 1) := dqo gX12_oddsOf_0.2.2.2.2.2.1
theorem dX12_oddsOf_10 : decode (mB 231) 10 = .ok (.ireturn, 1) := dqo gX12_oddsOf_0.2.2.2.2.2.2.1
theorem dX12_oddsOf_11 : decode (mB 231) 11 = .ok (.bipush 12, 2) := dqo gX12_oddsOf_0.2.2.2.2.2.2.2.1
theorem dX12_oddsOf_13 : decode (mB 231) 13 = .ok (.aload_n 0, 1) := dqo gX12_oddsOf_0.2.2.2.2.2.2.2.2.1
theorem dX12_oddsOf_14 : decode (mB 231) 14 = .ok (.getfield 9, 3) := dqo gX12_oddsOf_0.2.2.2.2.2.2.2.2.2.1
theorem dX12_oddsOf_17 : decode (mB 231) 17 = .ok (.iload_n 2, 1) := dqo gX12_oddsOf_0.2.2.2.2.2.2.2.2.2.2.1
theorem dX12_oddsOf_18 : decode (mB 231) 18 = .ok (.iaload, 1) := dqo gX12_oddsOf_0.2.2.2.2.2.2.2.2.2.2.2.1
theorem dX12_oddsOf_19 : decode (mB 231) 19 = .ok (.isub, 1) := dqo gX12_oddsOf_0.2.2.2.2.2.2.2.2.2.2.2.2.1
theorem dX12_oddsOf_20 : decode (mB 231) 20 = .ok (.aload_n 0, 1) := dqo gX12_oddsOf_0.2.2.2.2.2.2.2.2.2.2.2.2.2.1
theorem dX12_oddsOf_21 : decode (mB 231) 21 = .ok (.getfield 33, 3) := dqo gX12_oddsOf_0.2.2.2.2.2.2.2.2.2.2.2.2.2.2.1
theorem dX12_oddsOf_24 : decode (mB 231) 24 = .ok (.iconst 1, 1) := dqo gX12_oddsOf_0.2.2.2.2.2.2.2.2.2.2.2.2.2.2.2
theorem gX12_oddsOf_25 : dq 231 25 (.iaload) 1 = true ∧ dq 231 26 (.isub) 1 = true ∧ dq 231 27 (.istore_n 3) 1 = true ∧ dq 231 28 (.aload_n 0) 1 = true ∧ dq 231 29 (.getfield 244) 3 = true ∧ dq 231 32 (.ifCond .eq 83) 3 = true ∧ dq 231 35 (.aload_n 0) 1 = true ∧ dq 231 36 (.getfield 68) 3 = true ∧ dq 231 39 (.iconst 0) 1 = true ∧ dq 231 40 (.aload_n 0) 1 = true ∧ dq 231 41 (.getfield 9) 3 = true ∧ dq 231 44 (.iload_n 2) 1 = true ∧ dq 231 45 (.iaload) 1 = true ∧ dq 231 46 (.iastore) 1 = true ∧ dq 231 47 (.aload_n 0) 1 = true ∧ dq 231 48 (.getfield 68) 3 = true := by decide +kernel
theorem dX12_oddsOf_25 : decode (mB 231) 25 = .ok (.iaload, 1) := dqo gX12_oddsOf_25.1
theorem dX12_oddsOf_26 : decode (mB 231) 26 = .ok (.isub, 1) := dqo gX12_oddsOf_25.2.1
theorem dX12_oddsOf_27 : decode (mB 231) 27 = .ok (.istore_n 3, 1) := dqo gX12_oddsOf_25.2.2.1
theorem dX12_oddsOf_28 : decode (mB 231) 28 = .ok (.aload_n 0, 1) := dqo gX12_oddsOf_25.2.2.2.1
theorem dX12_oddsOf_29 : decode (mB 231) 29 = .ok (.getfield 244, 3) := dqo gX12_oddsOf_25.2.2.2.2.1
theorem dX12_oddsOf_32 : decode (mB 231) 32 = .ok (.ifCond .eq 83, 3) := dqo gX12_oddsOf_25.2.2.2.2.2.1
theorem dX12_oddsOf_35 : decode (mB 231) 35 = .ok (.aload_n 0, 1) := dqo gX12_oddsOf_25.2.2.2.2.2.2.1
theorem dX12_oddsOf_36 : decode (mB 231) 36 = .ok (.getfield 68, 3) := dqo gX12_oddsOf_25.2.2.2.2.2.2.2.1
theorem dX12_oddsOf_39 : decode (mB 231) 39 = .ok (.iconst 0, 1) := dqo gX12_oddsOf_25.2.2.2.2.2.2.2.2.1
theorem dX12_oddsOf_40 : decode (mB 231) 40 = .ok (.aload_n 0, 1) := dqo gX12_oddsOf_25.2.2.2.2.2.2.2.2.2.1
theorem dX12_oddsOf_41 : decode (mB 231) 41 = .ok (.getfield 9, 3) := dqo gX12_oddsOf_25.2.2.2.2.2.2.2.2.2.2.1
theorem dX12_oddsOf_44 : decode (mB 231) 44 = .ok (.iload_n 2, 1) := dqo gX12_oddsOf_25.2.2.2.2.2.2.2.2.2.2.2.1
theorem dX12_oddsOf_45 : decode (mB 231) 45 = .ok (.iaload, 1) := dqo gX12_oddsOf_25.2.2.2.2.2.2.2.2.2.2.2.2.1
theorem dX12_oddsOf_46 : decode (mB 231) 46 = .ok (.iastore, 1) := dqo gX12_oddsOf_25.2.2.2.2.2.2.2.2.2.2.2.2.2.1
theorem dX12_oddsOf_47 : decode (mB 231) 47 = .ok (.aload_n 0, 1) := dqo gX12_oddsOf_25.2.2.2.2.2.2.2.2.2.2.2.2.2.2.1
theorem dX12_oddsOf_48 : decode (mB 231) 48 = .ok (.getfield 68, 3) := dqo gX12_oddsOf_25.2.2.2.2.2.2.2.2.2.2.2.2.2.2.2
theorem gX12_oddsOf_51 : dq 231 51 (.iconst 1) 1 = true ∧ dq 231 52 (.aload_n 0) 1 = true ∧ dq 231 53 (.getfield 9) 3 = true ∧ dq 231 56 (.aload_n 0) 1 = true ∧ dq 231 57 (.getfield 74) 3 = true ∧ dq 231 60 (.iload_n 1) 1 = true ∧ dq 231 61 (.iaload) 1 = true ∧ dq 231 62 (.iaload) 1 = true ∧ dq 231 63 (.iastore) 1 = true ∧ dq 231 64 (.aload_n 0) 1 = true ∧ dq 231 65 (.getfield 68) 3 = true ∧ dq 231 68 (.iconst 2) 1 = true ∧ dq 231 69 (.aload_n 0) 1 = true ∧ dq 231 70 (.iload_n 2) 1 = true ∧ dq 231 71 (.invokevirtual 171) 3 = true ∧ dq 231 74 (.iastore) 1 = true := by decide +kernel
theorem dX12_oddsOf_51 : decode (mB 231) 51 = .ok (.iconst 1, 1) := dqo gX12_oddsOf_51.1
theorem dX12_oddsOf_52 : decode (mB 231) 52 = .ok (.aload_n 0, 1) := dqo gX12_oddsOf_51.2.1
theorem dX12_oddsOf_53 : decode (mB 231) 53 = .ok (.getfield 9, 3) := dqo gX12_oddsOf_51.2.2.1
theorem dX12_oddsOf_56 : decode (mB 231) 56 = .ok (.aload_n 0, 1) := dqo gX12_oddsOf_51.2.2.2.1
theorem dX12_oddsOf_57 : decode (mB 231) 57 = .ok (.getfield 74, 3) := dqo gX12_oddsOf_51.2.2.2.2.1
theorem dX12_oddsOf_60 : decode (mB 231) 60 = .ok (.iload_n 1, 1) := dqo gX12_oddsOf_51.2.2.2.2.2.1
theorem dX12_oddsOf_61 : decode (mB 231) 61 = .ok (.iaload, 1) := dqo gX12_oddsOf_51.2.2.2.2.2.2.1
theorem dX12_oddsOf_62 : decode (mB 231) 62 = .ok (.iaload, 1) := dqo gX12_oddsOf_51.2.2.2.2.2.2.2.1
theorem dX12_oddsOf_63 : decode (mB 231) 63 = .ok (.iastore, 1) := dqo gX12_oddsOf_51.2.2.2.2.2.2.2.2.1
theorem dX12_oddsOf_64 : decode (mB 231) 64 = .ok (.aload_n 0, 1) := dqo gX12_oddsOf_51.2.2.2.2.2.2.2.2.2.1
theorem dX12_oddsOf_65 : decode (mB 231) 65 = .ok (.getfield 68, 3) := dqo gX12_oddsOf_51.2.2.2.2.2.2.2.2.2.2.1
theorem dX12_oddsOf_68 : decode (mB 231) 68 = .ok (.iconst 2, 1) := dqo gX12_oddsOf_51.2.2.2.2.2.2.2.2.2.2.2.1
theorem dX12_oddsOf_69 : decode (mB 231) 69 = .ok (.aload_n 0, 1) := dqo gX12_oddsOf_51.2.2.2.2.2.2.2.2.2.2.2.2.1
theorem dX12_oddsOf_70 : decode (mB 231) 70 = .ok (.iload_n 2, 1) := dqo gX12_oddsOf_51.2.2.2.2.2.2.2.2.2.2.2.2.2.1
theorem dX12_oddsOf_71 : decode (mB 231) 71 = .ok (.invokevirtual 171, 3) := dqo gX12_oddsOf_51.2.2.2.2.2.2.2.2.2.2.2.2.2.2.1
theorem dX12_oddsOf_74 : decode (mB 231) 74 = .ok (.iastore, 1) := dqo gX12_oddsOf_51.2.2.2.2.2.2.2.2.2.2.2.2.2.2.2
theorem gX12_oddsOf_75 : dq 231 75 (.aload_n 0) 1 = true ∧ dq 231 76 (.getfield 68) 3 = true ∧ dq 231 79 (.iconst 3) 1 = true ∧ dq 231 80 (.aload_n 0) 1 = true ∧ dq 231 81 (.getfield 30) 3 = true ∧ dq 231 84 (.iload_n 1) 1 = true ∧ dq 231 85 (.iaload) 1 = true ∧ dq 231 86 (.iastore) 1 = true ∧ dq 231 87 (.aload_n 0) 1 = true ∧ dq 231 88 (.getfield 68) 3 = true ∧ dq 231 91 (.iconst 4) 1 = true ∧ dq 231 92 (.aload_n 0) 1 = true ∧ dq 231 93 (.getfield 248) 3 = true ∧ dq 231 96 (.iastore) 1 = true ∧ dq 231 97 (.aload_n 0) 1 = true ∧ dq 231 98 (.getfield 68) 3 = true := by decide +kernel
theorem dX12_oddsOf_75 : decode (mB 231) 75 = .ok (.aload_n 0, 1) := dqo gX12_oddsOf_75.1
theorem dX12_oddsOf_76 : decode (mB 231) 76 = .ok (.getfield 68, 3) := dqo gX12_oddsOf_75.2.1
theorem dX12_oddsOf_79 : decode (mB 231) 79 = .ok (.iconst 3, 1) := dqo gX12_oddsOf_75.2.2.1
theorem dX12_oddsOf_80 : decode (mB 231) 80 = .ok (.aload_n 0, 1) := dqo gX12_oddsOf_75.2.2.2.1
theorem dX12_oddsOf_81 : decode (mB 231) 81 = .ok (.getfield 30, 3) := dqo gX12_oddsOf_75.2.2.2.2.1
theorem dX12_oddsOf_84 : decode (mB 231) 84 = .ok (.iload_n 1, 1) := dqo gX12_oddsOf_75.2.2.2.2.2.1
theorem dX12_oddsOf_85 : decode (mB 231) 85 = .ok (.iaload, 1) := dqo gX12_oddsOf_75.2.2.2.2.2.2.1
theorem dX12_oddsOf_86 : decode (mB 231) 86 = .ok (.iastore, 1) := dqo gX12_oddsOf_75.2.2.2.2.2.2.2.1
theorem dX12_oddsOf_87 : decode (mB 231) 87 = .ok (.aload_n 0, 1) := dqo gX12_oddsOf_75.2.2.2.2.2.2.2.2.1
theorem dX12_oddsOf_88 : decode (mB 231) 88 = .ok (.getfield 68, 3) := dqo gX12_oddsOf_75.2.2.2.2.2.2.2.2.2.1
theorem dX12_oddsOf_91 : decode (mB 231) 91 = .ok (.iconst 4, 1) := dqo gX12_oddsOf_75.2.2.2.2.2.2.2.2.2.2.1
theorem dX12_oddsOf_92 : decode (mB 231) 92 = .ok (.aload_n 0, 1) := dqo gX12_oddsOf_75.2.2.2.2.2.2.2.2.2.2.2.1
theorem dX12_oddsOf_93 : decode (mB 231) 93 = .ok (.getfield 248, 3) := dqo gX12_oddsOf_75.2.2.2.2.2.2.2.2.2.2.2.2.1
theorem dX12_oddsOf_96 : decode (mB 231) 96 = .ok (.iastore, 1) := dqo gX12_oddsOf_75.2.2.2.2.2.2.2.2.2.2.2.2.2.1
theorem dX12_oddsOf_97 : decode (mB 231) 97 = .ok (.aload_n 0, 1) := dqo gX12_oddsOf_75.2.2.2.2.2.2.2.2.2.2.2.2.2.2.1
theorem dX12_oddsOf_98 : decode (mB 231) 98 = .ok (.getfield 68, 3) := dqo gX12_oddsOf_75.2.2.2.2.2.2.2.2.2.2.2.2.2.2.2
theorem gX12_oddsOf_101 : dq 231 101 (.iconst 5) 1 = true ∧ dq 231 102 (.aload_n 0) 1 = true ∧ dq 231 103 (.getfield 33) 3 = true ∧ dq 231 106 (.iconst 1) 1 = true ∧ dq 231 107 (.iaload) 1 = true ∧ dq 231 108 (.iastore) 1 = true ∧ dq 231 109 (.aload_n 0) 1 = true ∧ dq 231 110 (.iconst 0) 1 = true ∧ dq 231 111 (.invokevirtual 254) 3 = true ∧ dq 231 114 (.istore_n 3) 1 = true ∧ dq 231 115 (.iload_n 3) 1 = true ∧ dq 231 116 (.ifCond .ge 7) 3 = true ∧ dq 231 119 (.iconst 0) 1 = true ∧ dq 231 120 (.goto 15) 3 = true ∧ dq 231 123 (.iload_n 3) 1 = true ∧ dq 231 124 (.bipush 12) 2 = true := by decide +kernel
theorem dX12_oddsOf_101 : decode (mB 231) 101 = .ok (.iconst 5, 1) := dqo gX12_oddsOf_101.1
theorem dX12_oddsOf_102 : decode (mB 231) 102 = .ok (.aload_n 0, 1) := dqo gX12_oddsOf_101.2.1
theorem dX12_oddsOf_103 : decode (mB 231) 103 = .ok (.getfield 33, 3) := dqo gX12_oddsOf_101.2.2.1
theorem dX12_oddsOf_106 : decode (mB 231) 106 = .ok (.iconst 1, 1) := dqo gX12_oddsOf_101.2.2.2.1
theorem dX12_oddsOf_107 : decode (mB 231) 107 = .ok (.iaload, 1) := dqo gX12_oddsOf_101.2.2.2.2.1
theorem dX12_oddsOf_108 : decode (mB 231) 108 = .ok (.iastore, 1) := dqo gX12_oddsOf_101.2.2.2.2.2.1
theorem dX12_oddsOf_109 : decode (mB 231) 109 = .ok (.aload_n 0, 1) := dqo gX12_oddsOf_101.2.2.2.2.2.2.1
theorem dX12_oddsOf_110 : decode (mB 231) 110 = .ok (.iconst 0, 1) := dqo gX12_oddsOf_101.2.2.2.2.2.2.2.1
theorem dX12_oddsOf_111 : decode (mB 231) 111 = .ok (.invokevirtual 254, 3) := dqo gX12_oddsOf_101.2.2.2.2.2.2.2.2.1
theorem dX12_oddsOf_114 : decode (mB 231) 114 = .ok (.istore_n 3, 1) := dqo gX12_oddsOf_101.2.2.2.2.2.2.2.2.2.1
theorem dX12_oddsOf_115 : decode (mB 231) 115 = .ok (.iload_n 3, 1) := dqo gX12_oddsOf_101.2.2.2.2.2.2.2.2.2.2.1
theorem dX12_oddsOf_116 : decode (mB 231) 116 = .ok (.ifCond .ge 7, 3) := dqo gX12_oddsOf_101.2.2.2.2.2.2.2.2.2.2.2.1
theorem dX12_oddsOf_119 : decode (mB 231) 119 = .ok (.iconst 0, 1) := dqo gX12_oddsOf_101.2.2.2.2.2.2.2.2.2.2.2.2.1
theorem dX12_oddsOf_120 : decode (mB 231) 120 = .ok (.goto 15, 3) := dqo gX12_oddsOf_101.2.2.2.2.2.2.2.2.2.2.2.2.2.1
theorem dX12_oddsOf_123 : decode (mB 231) 123 = .ok (.iload_n 3, 1) := dqo gX12_oddsOf_101.2.2.2.2.2.2.2.2.2.2.2.2.2.2.1
theorem dX12_oddsOf_124 : decode (mB 231) 124 = .ok (.bipush 12, 2) := dqo gX12_oddsOf_101.2.2.2.2.2.2.2.2.2.2.2.2.2.2.2
theorem gX12_oddsOf_126 : dq 231 126 (.if_icmp .le 8) 3 = true ∧ dq 231 129 (.bipush 12) 2 = true ∧ dq 231 131 (.goto 4) 3 = true ∧ dq 231 134 (.iload_n 3) 1 = true ∧ dq 231 135 (.ireturn) 1 = true := by decide +kernel
theorem dX12_oddsOf_126 : decode (mB 231) 126 = .ok (.if_icmp .le 8, 3) := dqo gX12_oddsOf_126.1
theorem dX12_oddsOf_129 : decode (mB 231) 129 = .ok (.bipush 12, 2) := dqo gX12_oddsOf_126.2.1
theorem dX12_oddsOf_131 : decode (mB 231) 131 = .ok (.goto 4, 3) := dqo gX12_oddsOf_126.2.2.1
theorem dX12_oddsOf_134 : decode (mB 231) 134 = .ok (.iload_n 3, 1) := dqo gX12_oddsOf_126.2.2.2.1
theorem dX12_oddsOf_135 : decode (mB 231) 135 = .ok (.ireturn, 1) := dqo gX12_oddsOf_126.2.2.2.2
theorem gX12_areSlip_0 : dq 232 0 (.iload_n 1) 1 = true ∧ dq 232 1 (.ifCond .lt 29) 3 = true ∧ dq 232 4 (.aload_n 0) 1 = true ∧ dq 232 5 (.iload_n 1) 1 = true ∧ dq 232 6 (.bipush 8) 2 = true ∧ dq 232 8 (.idiv) 1 = true ∧ dq 232 9 (.invokevirtual 156) 3 = true ∧ dq 232 12 (.ifCond .eq 18) 3 = true ∧ dq 232 15 (.aload_n 0) 1 = true ∧ dq 232 16 (.iload_n 1) 1 = true ∧ dq 232 17 (.bipush 8) 2 = true ∧ dq 232 19 (.irem) 1 = true ∧ dq 232 20 (.invokevirtual 125) 3 = true ∧ dq 232 23 (.ifCond .eq 7) 3 = true ∧ dq 232 26 (.iconst 1) 1 = true ∧ dq 232 27 (.goto 4) 3 = true := by decide +kernel
theorem dX12_areSlip_0 : decode (mB 232) 0 = .ok (.iload_n 1, 1) := dqo gX12_areSlip_0.1
theorem dX12_areSlip_1 : decode (mB 232) 1 = .ok (.ifCond .lt 29, 3) := dqo gX12_areSlip_0.2.1
theorem dX12_areSlip_4 : decode (mB 232) 4 = .ok (.aload_n 0, 1) := dqo gX12_areSlip_0.2.2.1
theorem dX12_areSlip_5 : decode (mB 232) 5 = .ok (.iload_n 1, 1) := dqo gX12_areSlip_0.2.2.2.1
theorem dX12_areSlip_6 : decode (mB 232) 6 = .ok (.bipush 8, 2) := dqo gX12_areSlip_0.2.2.2.2.1
theorem dX12_areSlip_8 : decode (mB 232) 8 = .ok (.idiv, 1) := dqo gX12_areSlip_0.2.2.2.2.2.1
theorem dX12_areSlip_9 : decode (mB 232) 9 = .ok (.invokevirtual 156, 3) := dqo gX12_areSlip_0.2.2.2.2.2.2.1
theorem dX12_areSlip_12 : decode (mB 232) 12 = .ok (.ifCond .eq 18, 3) := dqo gX12_areSlip_0.2.2.2.2.2.2.2.1
theorem dX12_areSlip_15 : decode (mB 232) 15 = .ok (.aload_n 0, 1) := dqo gX12_areSlip_0.2.2.2.2.2.2.2.2.1
theorem dX12_areSlip_16 : decode (mB 232) 16 = .ok (.iload_n 1, 1) := dqo gX12_areSlip_0.2.2.2.2.2.2.2.2.2.1
theorem dX12_areSlip_17 : decode (mB 232) 17 = .ok (.bipush 8, 2) := dqo gX12_areSlip_0.2.2.2.2.2.2.2.2.2.2.1
theorem dX12_areSlip_19 : decode (mB 232) 19 = .ok (.irem, 1) := dqo gX12_areSlip_0.2.2.2.2.2.2.2.2.2.2.2.1
theorem dX12_areSlip_20 : decode (mB 232) 20 = .ok (.invokevirtual 125, 3) := dqo gX12_areSlip_0.2.2.2.2.2.2.2.2.2.2.2.2.1
theorem dX12_areSlip_23 : decode (mB 232) 23 = .ok (.ifCond .eq 7, 3) := dqo gX12_areSlip_0.2.2.2.2.2.2.2.2.2.2.2.2.2.1
theorem dX12_areSlip_26 : decode (mB 232) 26 = .ok (.iconst 1, 1) := dqo gX12_areSlip_0.2.2.2.2.2.2.2.2.2.2.2.2.2.2.1
theorem dX12_areSlip_27 : decode (mB 232) 27 = .ok (.goto 4, 3) := dqo gX12_areSlip_0.2.2.2.2.2.2.2.2.2.2.2.2.2.2.2
theorem gX12_areSlip_30 : dq 232 30 (.iconst 0) 1 = true ∧ dq 232 31 (.ireturn) 1 = true := by decide +kernel
theorem dX12_areSlip_30 : decode (mB 232) 30 = .ok (.iconst 0, 1) := dqo gX12_areSlip_30.1
theorem dX12_areSlip_31 : decode (mB 232) 31 = .ok (.ireturn, 1) := dqo gX12_areSlip_30.2
theorem gX12_odds_0 : dq 233 0 (.aload_n 0) 1 = true ∧ dq 233 1 (.iload_n 1) 1 = true ∧ dq 233 2 (.invokevirtual 257) 3 = true ∧ dq 233 5 (.ifCond .ne 5) 3 = true ∧ dq 233 8 (.iconst (-1)) 1 = true ∧ dq 233 9 (.ireturn) 1 = true ∧ dq 233 10 (.aload_n 0) 1 = true ∧ dq 233 11 (.invokevirtual 168) 3 = true ∧ dq 233 14 (.aload_n 0) 1 = true ∧ dq 233 15 (.iload_n 1) 1 = true ∧ dq 233 16 (.bipush 8) 2 = true ∧ dq 233 18 (.idiv) 1 = true ∧ dq 233 19 (.iload_n 1) 1 = true ∧ dq 233 20 (.bipush 8) 2 = true ∧ dq 233 22 (.irem) 1 = true ∧ dq 233 23 (.invokevirtual 260) 3 = true := by decide +kernel
theorem dX12_odds_0 : decode (mB 233) 0 = .ok (.aload_n 0, 1) := dqo gX12_odds_0.1
theorem dX12_odds_1 : decode (mB 233) 1 = .ok (.iload_n 1, 1) := dqo gX12_odds_0.2.1
theorem dX12_odds_2 : decode (mB 233) 2 = .ok (.invokevirtual 257, 3) := dqo gX12_odds_0.2.2.1
theorem dX12_odds_5 : decode (mB 233) 5 = .ok (.ifCond .ne 5, 3) := dqo gX12_odds_0.2.2.2.1
theorem dX12_odds_8 : decode (mB 233) 8 = .ok (.iconst (-1), 1) := dqo gX12_odds_0.2.2.2.2.1
theorem dX12_odds_9 : decode (mB 233) 9 = .ok (.ireturn, 1) := dqo gX12_odds_0.2.2.2.2.2.1
theorem dX12_odds_10 : decode (mB 233) 10 = .ok (.aload_n 0, 1) := dqo gX12_odds_0.2.2.2.2.2.2.1
theorem dX12_odds_11 : decode (mB 233) 11 = .ok (.invokevirtual 168, 3) := dqo gX12_odds_0.2.2.2.2.2.2.2.1
theorem dX12_odds_14 : decode (mB 233) 14 = .ok (.aload_n 0, 1) := dqo gX12_odds_0.2.2.2.2.2.2.2.2.1
theorem dX12_odds_15 : decode (mB 233) 15 = .ok (.iload_n 1, 1) := dqo gX12_odds_0.2.2.2.2.2.2.2.2.2.1
theorem dX12_odds_16 : decode (mB 233) 16 = .ok (.bipush 8, 2) := dqo gX12_odds_0.2.2.2.2.2.2.2.2.2.2.1
theorem dX12_odds_18 : decode (mB 233) 18 = .ok (.idiv, 1) := dqo gX12_odds_0.2.2.2.2.2.2.2.2.2.2.2.1
theorem dX12_odds_19 : decode (mB 233) 19 = .ok (.iload_n 1, 1) := dqo gX12_odds_0.2.2.2.2.2.2.2.2.2.2.2.2.1
theorem dX12_odds_20 : decode (mB 233) 20 = .ok (.bipush 8, 2) := dqo gX12_odds_0.2.2.2.2.2.2.2.2.2.2.2.2.2.1
theorem dX12_odds_22 : decode (mB 233) 22 = .ok (.irem, 1) := dqo gX12_odds_0.2.2.2.2.2.2.2.2.2.2.2.2.2.2.1
theorem dX12_odds_23 : decode (mB 233) 23 = .ok (.invokevirtual 260, 3) := dqo gX12_odds_0.2.2.2.2.2.2.2.2.2.2.2.2.2.2.2
theorem dX12_odds_26 : decode (mB 233) 26 = .ok (.ireturn, 1) := dqo (by decide +kernel)
theorem gX12_rowFault_0 : dq 234 0 (.aload_n 0) 1 = true ∧ dq 234 1 (.getfield 98) 3 = true ∧ dq 234 4 (.iload_n 1) 1 = true ∧ dq 234 5 (.iaload) 1 = true ∧ dq 234 6 (.iconst (-1)) 1 = true ∧ dq 234 7 (.if_icmp .ne 8) 3 = true ∧ dq 234 10 (.bipush (-11)) 2 = true ∧ dq 234 12 (.goto 20) 3 = true ∧ dq 234 15 (.aload_n 0) 1 = true ∧ dq 234 16 (.getfield 98) 3 = true ∧ dq 234 19 (.iload_n 1) 1 = true ∧ dq 234 20 (.iaload) 1 = true ∧ dq 234 21 (.bipush (-2)) 2 = true ∧ dq 234 23 (.if_icmp .ne 7) 3 = true ∧ dq 234 26 (.iconst 0) 1 = true ∧ dq 234 27 (.goto 5) 3 = true := by decide +kernel
theorem dX12_rowFault_0 : decode (mB 234) 0 = .ok (.aload_n 0, 1) := dqo gX12_rowFault_0.1
theorem dX12_rowFault_1 : decode (mB 234) 1 = .ok (.getfield 98, 3) := dqo gX12_rowFault_0.2.1
theorem dX12_rowFault_4 : decode (mB 234) 4 = .ok (.iload_n 1, 1) := dqo gX12_rowFault_0.2.2.1
theorem dX12_rowFault_5 : decode (mB 234) 5 = .ok (.iaload, 1) := dqo gX12_rowFault_0.2.2.2.1
theorem dX12_rowFault_6 : decode (mB 234) 6 = .ok (.iconst (-1), 1) := dqo gX12_rowFault_0.2.2.2.2.1
theorem dX12_rowFault_7 : decode (mB 234) 7 = .ok (.if_icmp .ne 8, 3) := dqo gX12_rowFault_0.2.2.2.2.2.1
theorem dX12_rowFault_10 : decode (mB 234) 10 = .ok (.bipush (-11), 2) := dqo gX12_rowFault_0.2.2.2.2.2.2.1
theorem dX12_rowFault_12 : decode (mB 234) 12 = .ok (.goto 20, 3) := dqo gX12_rowFault_0.2.2.2.2.2.2.2.1
theorem dX12_rowFault_15 : decode (mB 234) 15 = .ok (.aload_n 0, 1) := dqo gX12_rowFault_0.2.2.2.2.2.2.2.2.1
theorem dX12_rowFault_16 : decode (mB 234) 16 = .ok (.getfield 98, 3) := dqo gX12_rowFault_0.2.2.2.2.2.2.2.2.2.1
theorem dX12_rowFault_19 : decode (mB 234) 19 = .ok (.iload_n 1, 1) := dqo gX12_rowFault_0.2.2.2.2.2.2.2.2.2.2.1
theorem dX12_rowFault_20 : decode (mB 234) 20 = .ok (.iaload, 1) := dqo gX12_rowFault_0.2.2.2.2.2.2.2.2.2.2.2.1
theorem dX12_rowFault_21 : decode (mB 234) 21 = .ok (.bipush (-2), 2) := dqo gX12_rowFault_0.2.2.2.2.2.2.2.2.2.2.2.2.1
theorem dX12_rowFault_23 : decode (mB 234) 23 = .ok (.if_icmp .ne 7, 3) := dqo gX12_rowFault_0.2.2.2.2.2.2.2.2.2.2.2.2.2.1
theorem dX12_rowFault_26 : decode (mB 234) 26 = .ok (.iconst 0, 1) := dqo gX12_rowFault_0.2.2.2.2.2.2.2.2.2.2.2.2.2.2.1
theorem dX12_rowFault_27 : decode (mB 234) 27 = .ok (.goto 5, 3) := dqo gX12_rowFault_0.2.2.2.2.2.2.2.2.2.2.2.2.2.2.2
theorem gX12_rowFault_30 : dq 234 30 (.bipush (-12)) 2 = true ∧ dq 234 32 (.ireturn) 1 = true := by decide +kernel
theorem dX12_rowFault_30 : decode (mB 234) 30 = .ok (.bipush (-12), 2) := dqo gX12_rowFault_30.1
theorem dX12_rowFault_32 : decode (mB 234) 32 = .ok (.ireturn, 1) := dqo gX12_rowFault_30.2
theorem gX12_at_0 : dq 235 0 (.aload_n 0) 1 = true ∧ dq 235 1 (.getfield 104) 3 = true ∧ dq 235 4 (.bipush 60) 2 = true ∧ dq 235 6 (.iload_n 1) 1 = true ∧ dq 235 7 (.imul) 1 = true ∧ dq 235 8 (.iload_n 2) 1 = true ∧ dq 235 9 (.iadd) 1 = true ∧ dq 235 10 (.laload) 1 = true ∧ dq 235 11 (.l2i) 1 = true ∧ dq 235 12 (.ireturn) 1 = true := by decide +kernel
theorem dX12_at_0 : decode (mB 235) 0 = .ok (.aload_n 0, 1) := dqo gX12_at_0.1
theorem dX12_at_1 : decode (mB 235) 1 = .ok (.getfield 104, 3) := dqo gX12_at_0.2.1
theorem dX12_at_4 : decode (mB 235) 4 = .ok (.bipush 60, 2) := dqo gX12_at_0.2.2.1
theorem dX12_at_6 : decode (mB 235) 6 = .ok (.iload_n 1, 1) := dqo gX12_at_0.2.2.2.1
theorem dX12_at_7 : decode (mB 235) 7 = .ok (.imul, 1) := dqo gX12_at_0.2.2.2.2.1
theorem dX12_at_8 : decode (mB 235) 8 = .ok (.iload_n 2, 1) := dqo gX12_at_0.2.2.2.2.2.1
theorem dX12_at_9 : decode (mB 235) 9 = .ok (.iadd, 1) := dqo gX12_at_0.2.2.2.2.2.2.1
theorem dX12_at_10 : decode (mB 235) 10 = .ok (.laload, 1) := dqo gX12_at_0.2.2.2.2.2.2.2.1
theorem dX12_at_11 : decode (mB 235) 11 = .ok (.l2i, 1) := dqo gX12_at_0.2.2.2.2.2.2.2.2.1
theorem dX12_at_12 : decode (mB 235) 12 = .ok (.ireturn, 1) := dqo gX12_at_0.2.2.2.2.2.2.2.2.2
theorem gX12_longOf_0 : dq 236 0 (.iconst 0) 1 = true ∧ dq 236 1 (.istore_n 3) 1 = true ∧ dq 236 2 (.iload_n 3) 1 = true ∧ dq 236 3 (.iload_n 2) 1 = true ∧ dq 236 4 (.if_icmp .ge 32) 3 = true ∧ dq 236 7 (.iload_n 3) 1 = true ∧ dq 236 8 (.aload_n 0) 1 = true ∧ dq 236 9 (.getfield 101) 3 = true ∧ dq 236 12 (.iload_n 1) 1 = true ∧ dq 236 13 (.iaload) 1 = true ∧ dq 236 14 (.if_icmp .ge 22) 3 = true ∧ dq 236 17 (.aload_n 0) 1 = true ∧ dq 236 18 (.aload_n 0) 1 = true ∧ dq 236 19 (.iload_n 1) 1 = true ∧ dq 236 20 (.iload_n 3) 1 = true ∧ dq 236 21 (.invokevirtual 263) 3 = true := by decide +kernel
theorem dX12_longOf_0 : decode (mB 236) 0 = .ok (.iconst 0, 1) := dqo gX12_longOf_0.1
theorem dX12_longOf_1 : decode (mB 236) 1 = .ok (.istore_n 3, 1) := dqo gX12_longOf_0.2.1
theorem dX12_longOf_2 : decode (mB 236) 2 = .ok (.iload_n 3, 1) := dqo gX12_longOf_0.2.2.1
theorem dX12_longOf_3 : decode (mB 236) 3 = .ok (.iload_n 2, 1) := dqo gX12_longOf_0.2.2.2.1
theorem dX12_longOf_4 : decode (mB 236) 4 = .ok (.if_icmp .ge 32, 3) := dqo gX12_longOf_0.2.2.2.2.1
theorem dX12_longOf_7 : decode (mB 236) 7 = .ok (.iload_n 3, 1) := dqo gX12_longOf_0.2.2.2.2.2.1
theorem dX12_longOf_8 : decode (mB 236) 8 = .ok (.aload_n 0, 1) := dqo gX12_longOf_0.2.2.2.2.2.2.1
theorem dX12_longOf_9 : decode (mB 236) 9 = .ok (.getfield 101, 3) := dqo gX12_longOf_0.2.2.2.2.2.2.2.1
theorem dX12_longOf_12 : decode (mB 236) 12 = .ok (.iload_n 1, 1) := dqo gX12_longOf_0.2.2.2.2.2.2.2.2.1
theorem dX12_longOf_13 : decode (mB 236) 13 = .ok (.iaload, 1) := dqo gX12_longOf_0.2.2.2.2.2.2.2.2.2.1
theorem dX12_longOf_14 : decode (mB 236) 14 = .ok (.if_icmp .ge 22, 3) := dqo gX12_longOf_0.2.2.2.2.2.2.2.2.2.2.1
theorem dX12_longOf_17 : decode (mB 236) 17 = .ok (.aload_n 0, 1) := dqo gX12_longOf_0.2.2.2.2.2.2.2.2.2.2.2.1
theorem dX12_longOf_18 : decode (mB 236) 18 = .ok (.aload_n 0, 1) := dqo gX12_longOf_0.2.2.2.2.2.2.2.2.2.2.2.2.1
theorem dX12_longOf_19 : decode (mB 236) 19 = .ok (.iload_n 1, 1) := dqo gX12_longOf_0.2.2.2.2.2.2.2.2.2.2.2.2.2.1
theorem dX12_longOf_20 : decode (mB 236) 20 = .ok (.iload_n 3, 1) := dqo gX12_longOf_0.2.2.2.2.2.2.2.2.2.2.2.2.2.2.1
theorem dX12_longOf_21 : decode (mB 236) 21 = .ok (.invokevirtual 263, 3) := dqo gX12_longOf_0.2.2.2.2.2.2.2.2.2.2.2.2.2.2.2
theorem gX12_longOf_24 : dq 236 24 (.invokevirtual 257) 3 = true ∧ dq 236 27 (.ifCond .eq 9) 3 = true ∧ dq 236 30 (.iinc 3 1) 3 = true ∧ dq 236 33 (.goto (-31)) 3 = true ∧ dq 236 36 (.iload_n 3) 1 = true ∧ dq 236 37 (.ireturn) 1 = true := by decide +kernel
theorem dX12_longOf_24 : decode (mB 236) 24 = .ok (.invokevirtual 257, 3) := dqo gX12_longOf_24.1
theorem dX12_longOf_27 : decode (mB 236) 27 = .ok (.ifCond .eq 9, 3) := dqo gX12_longOf_24.2.1
theorem dX12_longOf_30 : decode (mB 236) 30 = .ok (.iinc 3 1, 3) := dqo gX12_longOf_24.2.2.1
theorem dX12_longOf_33 : decode (mB 236) 33 = .ok (.goto (-31), 3) := dqo gX12_longOf_24.2.2.2.1
theorem dX12_longOf_36 : decode (mB 236) 36 = .ok (.iload_n 3, 1) := dqo gX12_longOf_24.2.2.2.2.1
theorem dX12_longOf_37 : decode (mB 236) 37 = .ok (.ireturn, 1) := dqo gX12_longOf_24.2.2.2.2.2
theorem gX12_goEve_0 : dq 237 0 (.aload_n 0) 1 = true ∧ dq 237 1 (.invokevirtual 168) 3 = true ∧ dq 237 4 (.aload_n 0) 1 = true ∧ dq 237 5 (.iconst 0) 1 = true ∧ dq 237 6 (.putfield 266) 3 = true ∧ dq 237 9 (.aload_n 0) 1 = true ∧ dq 237 10 (.iconst 0) 1 = true ∧ dq 237 11 (.putfield 269) 3 = true ∧ dq 237 14 (.aload_n 0) 1 = true ∧ dq 237 15 (.iload_n 1) 1 = true ∧ dq 237 16 (.iload_n 2) 1 = true ∧ dq 237 17 (.invokevirtual 272) 3 = true ∧ dq 237 20 (.istore_n 3) 1 = true ∧ dq 237 21 (.iconst 0) 1 = true ∧ dq 237 22 (.istore 4) 2 = true ∧ dq 237 24 (.iload 4) 2 = true := by decide +kernel
theorem dX12_goEve_0 : decode (mB 237) 0 = .ok (.aload_n 0, 1) := dqo gX12_goEve_0.1
theorem dX12_goEve_1 : decode (mB 237) 1 = .ok (.invokevirtual 168, 3) := dqo gX12_goEve_0.2.1
theorem dX12_goEve_4 : decode (mB 237) 4 = .ok (.aload_n 0, 1) := dqo gX12_goEve_0.2.2.1
theorem dX12_goEve_5 : decode (mB 237) 5 = .ok (.iconst 0, 1) := dqo gX12_goEve_0.2.2.2.1
theorem dX12_goEve_6 : decode (mB 237) 6 = .ok (.putfield 266, 3) := dqo gX12_goEve_0.2.2.2.2.1
theorem dX12_goEve_9 : decode (mB 237) 9 = .ok (.aload_n 0, 1) := dqo gX12_goEve_0.2.2.2.2.2.1
theorem dX12_goEve_10 : decode (mB 237) 10 = .ok (.iconst 0, 1) := dqo gX12_goEve_0.2.2.2.2.2.2.1
theorem dX12_goEve_11 : decode (mB 237) 11 = .ok (.putfield 269, 3) := dqo gX12_goEve_0.2.2.2.2.2.2.2.1
theorem dX12_goEve_14 : decode (mB 237) 14 = .ok (.aload_n 0, 1) := dqo gX12_goEve_0.2.2.2.2.2.2.2.2.1
theorem dX12_goEve_15 : decode (mB 237) 15 = .ok (.iload_n 1, 1) := dqo gX12_goEve_0.2.2.2.2.2.2.2.2.2.1
theorem dX12_goEve_16 : decode (mB 237) 16 = .ok (.iload_n 2, 1) := dqo gX12_goEve_0.2.2.2.2.2.2.2.2.2.2.1
theorem dX12_goEve_17 : decode (mB 237) 17 = .ok (.invokevirtual 272, 3) := dqo gX12_goEve_0.2.2.2.2.2.2.2.2.2.2.2.1
theorem dX12_goEve_20 : decode (mB 237) 20 = .ok (.istore_n 3, 1) := dqo gX12_goEve_0.2.2.2.2.2.2.2.2.2.2.2.2.1
theorem dX12_goEve_21 : decode (mB 237) 21 = .ok (.iconst 0, 1) := dqo gX12_goEve_0.2.2.2.2.2.2.2.2.2.2.2.2.2.1
theorem dX12_goEve_22 : decode (mB 237) 22 = .ok (.istore 4, 2) := dqo gX12_goEve_0.2.2.2.2.2.2.2.2.2.2.2.2.2.2.1
theorem dX12_goEve_24 : decode (mB 237) 24 = .ok (.iload 4, 2) := dqo gX12_goEve_0.2.2.2.2.2.2.2.2.2.2.2.2.2.2.2
theorem gX12_goEve_26 : dq 237 26 (.iload_n 3) 1 = true ∧ dq 237 27 (.if_icmp .ge 92) 3 = true ∧ dq 237 30 (.aload_n 0) 1 = true ∧ dq 237 31 (.iload_n 1) 1 = true ∧ dq 237 32 (.iload 4) 2 = true ∧ dq 237 34 (.invokevirtual 263) 3 = true ∧ dq 237 37 (.bipush 8) 2 = true ∧ dq 237 39 (.idiv) 1 = true ∧ dq 237 40 (.istore 5) 2 = true ∧ dq 237 42 (.aload_n 0) 1 = true ∧ dq 237 43 (.iload_n 1) 1 = true ∧ dq 237 44 (.iload 4) 2 = true ∧ dq 237 46 (.invokevirtual 263) 3 = true ∧ dq 237 49 (.bipush 8) 2 = true ∧ dq 237 51 (.irem) 1 = true ∧ dq 237 52 (.istore 6) 2 = true := by decide +kernel
theorem dX12_goEve_26 : decode (mB 237) 26 = .ok (.iload_n 3, 1) := dqo gX12_goEve_26.1
theorem dX12_goEve_27 : decode (mB 237) 27 = .ok (.if_icmp .ge 92, 3) := dqo gX12_goEve_26.2.1
theorem dX12_goEve_30 : decode (mB 237) 30 = .ok (.aload_n 0, 1) := dqo gX12_goEve_26.2.2.1
theorem dX12_goEve_31 : decode (mB 237) 31 = .ok (.iload_n 1, 1) := dqo gX12_goEve_26.2.2.2.1
theorem dX12_goEve_32 : decode (mB 237) 32 = .ok (.iload 4, 2) := dqo gX12_goEve_26.2.2.2.2.1
theorem dX12_goEve_34 : decode (mB 237) 34 = .ok (.invokevirtual 263, 3) := dqo gX12_goEve_26.2.2.2.2.2.1
theorem dX12_goEve_37 : decode (mB 237) 37 = .ok (.bipush 8, 2) := dqo gX12_goEve_26.2.2.2.2.2.2.1
theorem dX12_goEve_39 : decode (mB 237) 39 = .ok (.idiv, 1) := dqo gX12_goEve_26.2.2.2.2.2.2.2.1
theorem dX12_goEve_40 : decode (mB 237) 40 = .ok (.istore 5, 2) := dqo gX12_goEve_26.2.2.2.2.2.2.2.2.1
theorem dX12_goEve_42 : decode (mB 237) 42 = .ok (.aload_n 0, 1) := dqo gX12_goEve_26.2.2.2.2.2.2.2.2.2.1
theorem dX12_goEve_43 : decode (mB 237) 43 = .ok (.iload_n 1, 1) := dqo gX12_goEve_26.2.2.2.2.2.2.2.2.2.2.1
theorem dX12_goEve_44 : decode (mB 237) 44 = .ok (.iload 4, 2) := dqo gX12_goEve_26.2.2.2.2.2.2.2.2.2.2.2.1
theorem dX12_goEve_46 : decode (mB 237) 46 = .ok (.invokevirtual 263, 3) := dqo gX12_goEve_26.2.2.2.2.2.2.2.2.2.2.2.2.1
theorem dX12_goEve_49 : decode (mB 237) 49 = .ok (.bipush 8, 2) := dqo gX12_goEve_26.2.2.2.2.2.2.2.2.2.2.2.2.2.1
theorem dX12_goEve_51 : decode (mB 237) 51 = .ok (.irem, 1) := dqo gX12_goEve_26.2.2.2.2.2.2.2.2.2.2.2.2.2.2.1
theorem dX12_goEve_52 : decode (mB 237) 52 = .ok (.istore 6, 2) := dqo gX12_goEve_26.2.2.2.2.2.2.2.2.2.2.2.2.2.2.2
theorem gX12_goEve_54 : dq 237 54 (.aload_n 0) 1 = true ∧ dq 237 55 (.iload 5) 2 = true ∧ dq 237 57 (.iload 6) 2 = true ∧ dq 237 59 (.invokevirtual 251) 3 = true ∧ dq 237 62 (.ifCond .ne 19) 3 = true ∧ dq 237 65 (.aload_n 0) 1 = true ∧ dq 237 66 (.dup) 1 = true ∧ dq 237 67 (.getfield 269) 3 = true ∧ dq 237 70 (.iconst 1) 1 = true ∧ dq 237 71 (.iload 4) 2 = true ∧ dq 237 73 (.ishl) 1 = true ∧ dq 237 74 (.ior) 1 = true ∧ dq 237 75 (.putfield 269) 3 = true ∧ dq 237 78 (.goto 35) 3 = true ∧ dq 237 81 (.aload_n 0) 1 = true ∧ dq 237 82 (.iload 5) 2 = true := by decide +kernel
theorem dX12_goEve_54 : decode (mB 237) 54 = .ok (.aload_n 0, 1) := dqo gX12_goEve_54.1
theorem dX12_goEve_55 : decode (mB 237) 55 = .ok (.iload 5, 2) := dqo gX12_goEve_54.2.1
theorem dX12_goEve_57 : decode (mB 237) 57 = .ok (.iload 6, 2) := dqo gX12_goEve_54.2.2.1
theorem dX12_goEve_59 : decode (mB 237) 59 = .ok (.invokevirtual 251, 3) := dqo gX12_goEve_54.2.2.2.1
theorem dX12_goEve_62 : decode (mB 237) 62 = .ok (.ifCond .ne 19, 3) := dqo gX12_goEve_54.2.2.2.2.1
theorem dX12_goEve_65 : decode (mB 237) 65 = .ok (.aload_n 0, 1) := dqo gX12_goEve_54.2.2.2.2.2.1
theorem dX12_goEve_66 : decode (mB 237) 66 = .ok (.dup, 1) := dqo gX12_goEve_54.2.2.2.2.2.2.1
theorem dX12_goEve_67 : decode (mB 237) 67 = .ok (.getfield 269, 3) := dqo gX12_goEve_54.2.2.2.2.2.2.2.1
theorem dX12_goEve_70 : decode (mB 237) 70 = .ok (.iconst 1, 1) := dqo gX12_goEve_54.2.2.2.2.2.2.2.2.1
theorem dX12_goEve_71 : decode (mB 237) 71 = .ok (.iload 4, 2) := dqo gX12_goEve_54.2.2.2.2.2.2.2.2.2.1
theorem dX12_goEve_73 : decode (mB 237) 73 = .ok (.ishl, 1) := dqo gX12_goEve_54.2.2.2.2.2.2.2.2.2.2.1
theorem dX12_goEve_74 : decode (mB 237) 74 = .ok (.ior, 1) := dqo gX12_goEve_54.2.2.2.2.2.2.2.2.2.2.2.1
theorem dX12_goEve_75 : decode (mB 237) 75 = .ok (.putfield 269, 3) := dqo gX12_goEve_54.2.2.2.2.2.2.2.2.2.2.2.2.1
theorem dX12_goEve_78 : decode (mB 237) 78 = .ok (.goto 35, 3) := dqo gX12_goEve_54.2.2.2.2.2.2.2.2.2.2.2.2.2.1
theorem dX12_goEve_81 : decode (mB 237) 81 = .ok (.aload_n 0, 1) := dqo gX12_goEve_54.2.2.2.2.2.2.2.2.2.2.2.2.2.2.1
theorem dX12_goEve_82 : decode (mB 237) 82 = .ok (.iload 5, 2) := dqo gX12_goEve_54.2.2.2.2.2.2.2.2.2.2.2.2.2.2.2
theorem gX12_goEve_84 : dq 237 84 (.iload 6) 2 = true ∧ dq 237 86 (.invokevirtual 260) 3 = true ∧ dq 237 89 (.bipush 6) 2 = true ∧ dq 237 91 (.if_icmp .lt 22) 3 = true ∧ dq 237 94 (.aload_n 0) 1 = true ∧ dq 237 95 (.getfield 74) 3 = true ∧ dq 237 98 (.iload 5) 2 = true ∧ dq 237 100 (.iload 6) 2 = true ∧ dq 237 102 (.iastore) 1 = true ∧ dq 237 103 (.aload_n 0) 1 = true ∧ dq 237 104 (.dup) 1 = true ∧ dq 237 105 (.getfield 266) 3 = true ∧ dq 237 108 (.iconst 1) 1 = true ∧ dq 237 109 (.iadd) 1 = true ∧ dq 237 110 (.putfield 266) 3 = true ∧ dq 237 113 (.iinc 4 1) 3 = true := by decide +kernel
theorem dX12_goEve_84 : decode (mB 237) 84 = .ok (.iload 6, 2) := dqo gX12_goEve_84.1
theorem dX12_goEve_86 : decode (mB 237) 86 = .ok (.invokevirtual 260, 3) := dqo gX12_goEve_84.2.1
theorem dX12_goEve_89 : decode (mB 237) 89 = .ok (.bipush 6, 2) := dqo gX12_goEve_84.2.2.1
theorem dX12_goEve_91 : decode (mB 237) 91 = .ok (.if_icmp .lt 22, 3) := dqo gX12_goEve_84.2.2.2.1
theorem dX12_goEve_94 : decode (mB 237) 94 = .ok (.aload_n 0, 1) := dqo gX12_goEve_84.2.2.2.2.1
theorem dX12_goEve_95 : decode (mB 237) 95 = .ok (.getfield 74, 3) := dqo gX12_goEve_84.2.2.2.2.2.1
theorem dX12_goEve_98 : decode (mB 237) 98 = .ok (.iload 5, 2) := dqo gX12_goEve_84.2.2.2.2.2.2.1
theorem dX12_goEve_100 : decode (mB 237) 100 = .ok (.iload 6, 2) := dqo gX12_goEve_84.2.2.2.2.2.2.2.1
theorem dX12_goEve_102 : decode (mB 237) 102 = .ok (.iastore, 1) := dqo gX12_goEve_84.2.2.2.2.2.2.2.2.1
theorem dX12_goEve_103 : decode (mB 237) 103 = .ok (.aload_n 0, 1) := dqo gX12_goEve_84.2.2.2.2.2.2.2.2.2.1
theorem dX12_goEve_104 : decode (mB 237) 104 = .ok (.dup, 1) := dqo gX12_goEve_84.2.2.2.2.2.2.2.2.2.2.1
theorem dX12_goEve_105 : decode (mB 237) 105 = .ok (.getfield 266, 3) := dqo gX12_goEve_84.2.2.2.2.2.2.2.2.2.2.2.1
theorem dX12_goEve_108 : decode (mB 237) 108 = .ok (.iconst 1, 1) := dqo gX12_goEve_84.2.2.2.2.2.2.2.2.2.2.2.2.1
theorem dX12_goEve_109 : decode (mB 237) 109 = .ok (.iadd, 1) := dqo gX12_goEve_84.2.2.2.2.2.2.2.2.2.2.2.2.2.1
theorem dX12_goEve_110 : decode (mB 237) 110 = .ok (.putfield 266, 3) := dqo gX12_goEve_84.2.2.2.2.2.2.2.2.2.2.2.2.2.2.1
theorem dX12_goEve_113 : decode (mB 237) 113 = .ok (.iinc 4 1, 3) := dqo gX12_goEve_84.2.2.2.2.2.2.2.2.2.2.2.2.2.2.2
theorem gX12_goEve_116 : dq 237 116 (.goto (-92)) 3 = true ∧ dq 237 119 (.return_) 1 = true := by decide +kernel
theorem dX12_goEve_116 : decode (mB 237) 116 = .ok (.goto (-92), 3) := dqo gX12_goEve_116.1
theorem dX12_goEve_119 : decode (mB 237) 119 = .ok (.return_, 1) := dqo gX12_goEve_116.2
theorem gX12_areMany_0 : dq 238 0 (.iload_n 0) 1 = true ∧ dq 238 1 (.iconst 0) 1 = true ∧ dq 238 2 (.bipush 12) 2 = true ∧ dq 238 4 (.invokestatic 118) 3 = true ∧ dq 238 7 (.ireturn) 1 = true := by decide +kernel
theorem dX12_areMany_0 : decode (mB 238) 0 = .ok (.iload_n 0, 1) := dqo gX12_areMany_0.1
theorem dX12_areMany_1 : decode (mB 238) 1 = .ok (.iconst 0, 1) := dqo gX12_areMany_0.2.1
theorem dX12_areMany_2 : decode (mB 238) 2 = .ok (.bipush 12, 2) := dqo gX12_areMany_0.2.2.1
theorem dX12_areMany_4 : decode (mB 238) 4 = .ok (.invokestatic 118, 3) := dqo gX12_areMany_0.2.2.2.1
theorem dX12_areMany_7 : decode (mB 238) 7 = .ok (.ireturn, 1) := dqo gX12_areMany_0.2.2.2.2
theorem gX12_later_0 : dq 239 0 (.iload_n 1) 1 = true ∧ dq 239 1 (.invokestatic 137) 3 = true ∧ dq 239 4 (.ifCond .eq 18) 3 = true ∧ dq 239 7 (.iload_n 2) 1 = true ∧ dq 239 8 (.invokestatic 275) 3 = true ∧ dq 239 11 (.ifCond .eq 11) 3 = true ∧ dq 239 14 (.aload_n 0) 1 = true ∧ dq 239 15 (.iload_n 3) 1 = true ∧ dq 239 16 (.invokevirtual 156) 3 = true ∧ dq 239 19 (.ifCond .ne 5) 3 = true ∧ dq 239 22 (.iconst (-1)) 1 = true ∧ dq 239 23 (.ireturn) 1 = true ∧ dq 239 24 (.aload_n 0) 1 = true ∧ dq 239 25 (.iload_n 1) 1 = true ∧ dq 239 26 (.invokevirtual 278) 3 = true ∧ dq 239 29 (.ifCond .ge 9) 3 = true := by decide +kernel
theorem dX12_later_0 : decode (mB 239) 0 = .ok (.iload_n 1, 1) := dqo gX12_later_0.1
theorem dX12_later_1 : decode (mB 239) 1 = .ok (.invokestatic 137, 3) := dqo gX12_later_0.2.1
theorem dX12_later_4 : decode (mB 239) 4 = .ok (.ifCond .eq 18, 3) := dqo gX12_later_0.2.2.1
theorem dX12_later_7 : decode (mB 239) 7 = .ok (.iload_n 2, 1) := dqo gX12_later_0.2.2.2.1
theorem dX12_later_8 : decode (mB 239) 8 = .ok (.invokestatic 275, 3) := dqo gX12_later_0.2.2.2.2.1
theorem dX12_later_11 : decode (mB 239) 11 = .ok (.ifCond .eq 11, 3) := dqo gX12_later_0.2.2.2.2.2.1
theorem dX12_later_14 : decode (mB 239) 14 = .ok (.aload_n 0, 1) := dqo gX12_later_0.2.2.2.2.2.2.1
theorem dX12_later_15 : decode (mB 239) 15 = .ok (.iload_n 3, 1) := dqo gX12_later_0.2.2.2.2.2.2.2.1
theorem dX12_later_16 : decode (mB 239) 16 = .ok (.invokevirtual 156, 3) := dqo gX12_later_0.2.2.2.2.2.2.2.2.1
theorem dX12_later_19 : decode (mB 239) 19 = .ok (.ifCond .ne 5, 3) := dqo gX12_later_0.2.2.2.2.2.2.2.2.2.1
theorem dX12_later_22 : decode (mB 239) 22 = .ok (.iconst (-1), 1) := dqo gX12_later_0.2.2.2.2.2.2.2.2.2.2.1
theorem dX12_later_23 : decode (mB 239) 23 = .ok (.ireturn, 1) := dqo gX12_later_0.2.2.2.2.2.2.2.2.2.2.2.1
theorem dX12_later_24 : decode (mB 239) 24 = .ok (.aload_n 0, 1) := dqo gX12_later_0.2.2.2.2.2.2.2.2.2.2.2.2.1
theorem dX12_later_25 : decode (mB 239) 25 = .ok (.iload_n 1, 1) := dqo gX12_later_0.2.2.2.2.2.2.2.2.2.2.2.2.2.1
theorem dX12_later_26 : decode (mB 239) 26 = .ok (.invokevirtual 278, 3) := dqo gX12_later_0.2.2.2.2.2.2.2.2.2.2.2.2.2.2.1
theorem dX12_later_29 : decode (mB 239) 29 = .ok (.ifCond .ge 9, 3) := dqo gX12_later_0.2.2.2.2.2.2.2.2.2.2.2.2.2.2.2
theorem gX12_later_32 : dq 239 32 (.aload_n 0) 1 = true ∧ dq 239 33 (.iload_n 1) 1 = true ∧ dq 239 34 (.invokevirtual 278) 3 = true ∧ dq 239 37 (.ireturn) 1 = true ∧ dq 239 38 (.aload_n 0) 1 = true ∧ dq 239 39 (.iload_n 1) 1 = true ∧ dq 239 40 (.iload_n 2) 1 = true ∧ dq 239 41 (.invokevirtual 281) 3 = true ∧ dq 239 44 (.aload_n 0) 1 = true ∧ dq 239 45 (.getfield 74) 3 = true ∧ dq 239 48 (.iload_n 3) 1 = true ∧ dq 239 49 (.iaload) 1 = true ∧ dq 239 50 (.ireturn) 1 = true := by decide +kernel
theorem dX12_later_32 : decode (mB 239) 32 = .ok (.aload_n 0, 1) := dqo gX12_later_32.1
theorem dX12_later_33 : decode (mB 239) 33 = .ok (.iload_n 1, 1) := dqo gX12_later_32.2.1
theorem dX12_later_34 : decode (mB 239) 34 = .ok (.invokevirtual 278, 3) := dqo gX12_later_32.2.2.1
theorem dX12_later_37 : decode (mB 239) 37 = .ok (.ireturn, 1) := dqo gX12_later_32.2.2.2.1
theorem dX12_later_38 : decode (mB 239) 38 = .ok (.aload_n 0, 1) := dqo gX12_later_32.2.2.2.2.1
theorem dX12_later_39 : decode (mB 239) 39 = .ok (.iload_n 1, 1) := dqo gX12_later_32.2.2.2.2.2.1
theorem dX12_later_40 : decode (mB 239) 40 = .ok (.iload_n 2, 1) := dqo gX12_later_32.2.2.2.2.2.2.1
theorem dX12_later_41 : decode (mB 239) 41 = .ok (.invokevirtual 281, 3) := dqo gX12_later_32.2.2.2.2.2.2.2.1
theorem dX12_later_44 : decode (mB 239) 44 = .ok (.aload_n 0, 1) := dqo gX12_later_32.2.2.2.2.2.2.2.2.1
theorem dX12_later_45 : decode (mB 239) 45 = .ok (.getfield 74, 3) := dqo gX12_later_32.2.2.2.2.2.2.2.2.2.1
theorem dX12_later_48 : decode (mB 239) 48 = .ok (.iload_n 3, 1) := dqo gX12_later_32.2.2.2.2.2.2.2.2.2.2.1
theorem dX12_later_49 : decode (mB 239) 49 = .ok (.iaload, 1) := dqo gX12_later_32.2.2.2.2.2.2.2.2.2.2.2.1
theorem dX12_later_50 : decode (mB 239) 50 = .ok (.ireturn, 1) := dqo gX12_later_32.2.2.2.2.2.2.2.2.2.2.2.2
theorem gX12_eve_0 : dq 240 0 (.iload_n 1) 1 = true ∧ dq 240 1 (.invokestatic 137) 3 = true ∧ dq 240 4 (.ifCond .eq 25) 3 = true ∧ dq 240 7 (.iload_n 2) 1 = true ∧ dq 240 8 (.invokestatic 275) 3 = true ∧ dq 240 11 (.ifCond .eq 18) 3 = true ∧ dq 240 14 (.iload_n 3) 1 = true ∧ dq 240 15 (.bipush (-2)) 2 = true ∧ dq 240 17 (.aload_n 0) 1 = true ∧ dq 240 18 (.getfield 115) 3 = true ∧ dq 240 21 (.iconst 1) 1 = true ∧ dq 240 22 (.isub) 1 = true ∧ dq 240 23 (.invokestatic 118) 3 = true ∧ dq 240 26 (.ifCond .ne 5) 3 = true ∧ dq 240 29 (.iconst (-1)) 1 = true ∧ dq 240 30 (.ireturn) 1 = true := by decide +kernel
theorem dX12_eve_0 : decode (mB 240) 0 = .ok (.iload_n 1, 1) := dqo gX12_eve_0.1
theorem dX12_eve_1 : decode (mB 240) 1 = .ok (.invokestatic 137, 3) := dqo gX12_eve_0.2.1
theorem dX12_eve_4 : decode (mB 240) 4 = .ok (.ifCond .eq 25, 3) := dqo gX12_eve_0.2.2.1
theorem dX12_eve_7 : decode (mB 240) 7 = .ok (.iload_n 2, 1) := dqo gX12_eve_0.2.2.2.1
theorem dX12_eve_8 : decode (mB 240) 8 = .ok (.invokestatic 275, 3) := dqo gX12_eve_0.2.2.2.2.1
theorem dX12_eve_11 : decode (mB 240) 11 = .ok (.ifCond .eq 18, 3) := dqo gX12_eve_0.2.2.2.2.2.1
theorem dX12_eve_14 : decode (mB 240) 14 = .ok (.iload_n 3, 1) := dqo gX12_eve_0.2.2.2.2.2.2.1
theorem dX12_eve_15 : decode (mB 240) 15 = .ok (.bipush (-2), 2) := dqo gX12_eve_0.2.2.2.2.2.2.2.1
theorem dX12_eve_17 : decode (mB 240) 17 = .ok (.aload_n 0, 1) := dqo gX12_eve_0.2.2.2.2.2.2.2.2.1
theorem dX12_eve_18 : decode (mB 240) 18 = .ok (.getfield 115, 3) := dqo gX12_eve_0.2.2.2.2.2.2.2.2.2.1
theorem dX12_eve_21 : decode (mB 240) 21 = .ok (.iconst 1, 1) := dqo gX12_eve_0.2.2.2.2.2.2.2.2.2.2.1
theorem dX12_eve_22 : decode (mB 240) 22 = .ok (.isub, 1) := dqo gX12_eve_0.2.2.2.2.2.2.2.2.2.2.2.1
theorem dX12_eve_23 : decode (mB 240) 23 = .ok (.invokestatic 118, 3) := dqo gX12_eve_0.2.2.2.2.2.2.2.2.2.2.2.2.1
theorem dX12_eve_26 : decode (mB 240) 26 = .ok (.ifCond .ne 5, 3) := dqo gX12_eve_0.2.2.2.2.2.2.2.2.2.2.2.2.2.1
theorem dX12_eve_29 : decode (mB 240) 29 = .ok (.iconst (-1), 1) := dqo gX12_eve_0.2.2.2.2.2.2.2.2.2.2.2.2.2.2.1
theorem dX12_eve_30 : decode (mB 240) 30 = .ok (.ireturn, 1) := dqo gX12_eve_0.2.2.2.2.2.2.2.2.2.2.2.2.2.2.2
theorem gX12_eve_31 : dq 240 31 (.aload_n 0) 1 = true ∧ dq 240 32 (.iload_n 1) 1 = true ∧ dq 240 33 (.invokevirtual 278) 3 = true ∧ dq 240 36 (.ifCond .ge 9) 3 = true ∧ dq 240 39 (.aload_n 0) 1 = true ∧ dq 240 40 (.iload_n 1) 1 = true ∧ dq 240 41 (.invokevirtual 278) 3 = true ∧ dq 240 44 (.ireturn) 1 = true ∧ dq 240 45 (.aload_n 0) 1 = true ∧ dq 240 46 (.iload_n 1) 1 = true ∧ dq 240 47 (.iload_n 2) 1 = true ∧ dq 240 48 (.invokevirtual 281) 3 = true ∧ dq 240 51 (.iload_n 3) 1 = true ∧ dq 240 52 (.iconst (-1)) 1 = true ∧ dq 240 53 (.if_icmp .ne 10) 3 = true ∧ dq 240 56 (.aload_n 0) 1 = true := by decide +kernel
theorem dX12_eve_31 : decode (mB 240) 31 = .ok (.aload_n 0, 1) := dqo gX12_eve_31.1
theorem dX12_eve_32 : decode (mB 240) 32 = .ok (.iload_n 1, 1) := dqo gX12_eve_31.2.1
theorem dX12_eve_33 : decode (mB 240) 33 = .ok (.invokevirtual 278, 3) := dqo gX12_eve_31.2.2.1
theorem dX12_eve_36 : decode (mB 240) 36 = .ok (.ifCond .ge 9, 3) := dqo gX12_eve_31.2.2.2.1
theorem dX12_eve_39 : decode (mB 240) 39 = .ok (.aload_n 0, 1) := dqo gX12_eve_31.2.2.2.2.1
theorem dX12_eve_40 : decode (mB 240) 40 = .ok (.iload_n 1, 1) := dqo gX12_eve_31.2.2.2.2.2.1
theorem dX12_eve_41 : decode (mB 240) 41 = .ok (.invokevirtual 278, 3) := dqo gX12_eve_31.2.2.2.2.2.2.1
theorem dX12_eve_44 : decode (mB 240) 44 = .ok (.ireturn, 1) := dqo gX12_eve_31.2.2.2.2.2.2.2.1
theorem dX12_eve_45 : decode (mB 240) 45 = .ok (.aload_n 0, 1) := dqo gX12_eve_31.2.2.2.2.2.2.2.2.1
theorem dX12_eve_46 : decode (mB 240) 46 = .ok (.iload_n 1, 1) := dqo gX12_eve_31.2.2.2.2.2.2.2.2.2.1
theorem dX12_eve_47 : decode (mB 240) 47 = .ok (.iload_n 2, 1) := dqo gX12_eve_31.2.2.2.2.2.2.2.2.2.2.1
theorem dX12_eve_48 : decode (mB 240) 48 = .ok (.invokevirtual 281, 3) := dqo gX12_eve_31.2.2.2.2.2.2.2.2.2.2.2.1
theorem dX12_eve_51 : decode (mB 240) 51 = .ok (.iload_n 3, 1) := dqo gX12_eve_31.2.2.2.2.2.2.2.2.2.2.2.2.1
theorem dX12_eve_52 : decode (mB 240) 52 = .ok (.iconst (-1), 1) := dqo gX12_eve_31.2.2.2.2.2.2.2.2.2.2.2.2.2.1
theorem dX12_eve_53 : decode (mB 240) 53 = .ok (.if_icmp .ne 10, 3) := dqo gX12_eve_31.2.2.2.2.2.2.2.2.2.2.2.2.2.2.1
theorem dX12_eve_56 : decode (mB 240) 56 = .ok (.aload_n 0, 1) := dqo gX12_eve_31.2.2.2.2.2.2.2.2.2.2.2.2.2.2.2
theorem gX12_eve_57 : dq 240 57 (.getfield 266) 3 = true ∧ dq 240 60 (.goto 21) 3 = true ∧ dq 240 63 (.iload_n 3) 1 = true ∧ dq 240 64 (.bipush (-2)) 2 = true ∧ dq 240 66 (.if_icmp .ne 10) 3 = true ∧ dq 240 69 (.aload_n 0) 1 = true ∧ dq 240 70 (.getfield 269) 3 = true ∧ dq 240 73 (.goto 8) 3 = true ∧ dq 240 76 (.aload_n 0) 1 = true ∧ dq 240 77 (.iload_n 3) 1 = true ∧ dq 240 78 (.invokevirtual 175) 3 = true ∧ dq 240 81 (.ireturn) 1 = true := by decide +kernel
theorem dX12_eve_57 : decode (mB 240) 57 = .ok (.getfield 266, 3) := dqo gX12_eve_57.1
theorem dX12_eve_60 : decode (mB 240) 60 = .ok (.goto 21, 3) := dqo gX12_eve_57.2.1
theorem dX12_eve_63 : decode (mB 240) 63 = .ok (.iload_n 3, 1) := dqo gX12_eve_57.2.2.1
theorem dX12_eve_64 : decode (mB 240) 64 = .ok (.bipush (-2), 2) := dqo gX12_eve_57.2.2.2.1
theorem dX12_eve_66 : decode (mB 240) 66 = .ok (.if_icmp .ne 10, 3) := dqo gX12_eve_57.2.2.2.2.1
theorem dX12_eve_69 : decode (mB 240) 69 = .ok (.aload_n 0, 1) := dqo gX12_eve_57.2.2.2.2.2.1
theorem dX12_eve_70 : decode (mB 240) 70 = .ok (.getfield 269, 3) := dqo gX12_eve_57.2.2.2.2.2.2.1
theorem dX12_eve_73 : decode (mB 240) 73 = .ok (.goto 8, 3) := dqo gX12_eve_57.2.2.2.2.2.2.2.1
theorem dX12_eve_76 : decode (mB 240) 76 = .ok (.aload_n 0, 1) := dqo gX12_eve_57.2.2.2.2.2.2.2.2.1
theorem dX12_eve_77 : decode (mB 240) 77 = .ok (.iload_n 3, 1) := dqo gX12_eve_57.2.2.2.2.2.2.2.2.2.1
theorem dX12_eve_78 : decode (mB 240) 78 = .ok (.invokevirtual 175, 3) := dqo gX12_eve_57.2.2.2.2.2.2.2.2.2.2.1
theorem dX12_eve_81 : decode (mB 240) 81 = .ok (.ireturn, 1) := dqo gX12_eve_57.2.2.2.2.2.2.2.2.2.2.2
theorem gX12_lowest_0 : dq 241 0 (.lload_n 0) 1 = true ∧ dq 241 1 (.lconst 0) 1 = true ∧ dq 241 2 (.lcmp) 1 = true ∧ dq 241 3 (.ifCond .ne 7) 3 = true ∧ dq 241 6 (.iload 4) 2 = true ∧ dq 241 8 (.i2l) 1 = true ∧ dq 241 9 (.lreturn) 1 = true ∧ dq 241 10 (.lload_n 0) 1 = true ∧ dq 241 11 (.lstore 5) 2 = true ∧ dq 241 13 (.lload_n 2) 1 = true ∧ dq 241 14 (.lstore 7) 2 = true ∧ dq 241 16 (.lload 7) 2 = true ∧ dq 241 18 (.lconst 0) 1 = true ∧ dq 241 19 (.lcmp) 1 = true ∧ dq 241 20 (.ifCond .eq 21) 3 = true ∧ dq 241 23 (.lload 5) 2 = true := by decide +kernel
theorem dX12_lowest_0 : decode (mB 241) 0 = .ok (.lload_n 0, 1) := dqo gX12_lowest_0.1
theorem dX12_lowest_1 : decode (mB 241) 1 = .ok (.lconst 0, 1) := dqo gX12_lowest_0.2.1
theorem dX12_lowest_2 : decode (mB 241) 2 = .ok (.lcmp, 1) := dqo gX12_lowest_0.2.2.1
theorem dX12_lowest_3 : decode (mB 241) 3 = .ok (.ifCond .ne 7, 3) := dqo gX12_lowest_0.2.2.2.1
theorem dX12_lowest_6 : decode (mB 241) 6 = .ok (.iload 4, 2) := dqo gX12_lowest_0.2.2.2.2.1
theorem dX12_lowest_8 : decode (mB 241) 8 = .ok (.i2l, 1) := dqo gX12_lowest_0.2.2.2.2.2.1
theorem dX12_lowest_9 : decode (mB 241) 9 = .ok (.lreturn, 1) := dqo gX12_lowest_0.2.2.2.2.2.2.1
theorem dX12_lowest_10 : decode (mB 241) 10 = .ok (.lload_n 0, 1) := dqo gX12_lowest_0.2.2.2.2.2.2.2.1
theorem dX12_lowest_11 : decode (mB 241) 11 = .ok (.lstore 5, 2) := dqo gX12_lowest_0.2.2.2.2.2.2.2.2.1
theorem dX12_lowest_13 : decode (mB 241) 13 = .ok (.lload_n 2, 1) := dqo gX12_lowest_0.2.2.2.2.2.2.2.2.2.1
theorem dX12_lowest_14 : decode (mB 241) 14 = .ok (.lstore 7, 2) := dqo gX12_lowest_0.2.2.2.2.2.2.2.2.2.2.1
theorem dX12_lowest_16 : decode (mB 241) 16 = .ok (.lload 7, 2) := dqo gX12_lowest_0.2.2.2.2.2.2.2.2.2.2.2.1
theorem dX12_lowest_18 : decode (mB 241) 18 = .ok (.lconst 0, 1) := dqo gX12_lowest_0.2.2.2.2.2.2.2.2.2.2.2.2.1
theorem dX12_lowest_19 : decode (mB 241) 19 = .ok (.lcmp, 1) := dqo gX12_lowest_0.2.2.2.2.2.2.2.2.2.2.2.2.2.1
theorem dX12_lowest_20 : decode (mB 241) 20 = .ok (.ifCond .eq 21, 3) := dqo gX12_lowest_0.2.2.2.2.2.2.2.2.2.2.2.2.2.2.1
theorem dX12_lowest_23 : decode (mB 241) 23 = .ok (.lload 5, 2) := dqo gX12_lowest_0.2.2.2.2.2.2.2.2.2.2.2.2.2.2.2
theorem gX12_lowest_25 : dq 241 25 (.lload 7) 2 = true ∧ dq 241 27 (.lrem) 1 = true ∧ dq 241 28 (.lstore 9) 2 = true ∧ dq 241 30 (.lload 7) 2 = true ∧ dq 241 32 (.lstore 5) 2 = true ∧ dq 241 34 (.lload 9) 2 = true ∧ dq 241 36 (.lstore 7) 2 = true ∧ dq 241 38 (.goto (-22)) 3 = true ∧ dq 241 41 (.iload 4) 2 = true ∧ dq 241 43 (.ifCond .ne 10) 3 = true ∧ dq 241 46 (.lload_n 0) 1 = true ∧ dq 241 47 (.lload 5) 2 = true ∧ dq 241 49 (.ldiv) 1 = true ∧ dq 241 50 (.goto 7) 3 = true ∧ dq 241 53 (.lload_n 2) 1 = true ∧ dq 241 54 (.lload 5) 2 = true := by decide +kernel
theorem dX12_lowest_25 : decode (mB 241) 25 = .ok (.lload 7, 2) := dqo gX12_lowest_25.1
theorem dX12_lowest_27 : decode (mB 241) 27 = .ok (.lrem, 1) := dqo gX12_lowest_25.2.1
theorem dX12_lowest_28 : decode (mB 241) 28 = .ok (.lstore 9, 2) := dqo gX12_lowest_25.2.2.1
theorem dX12_lowest_30 : decode (mB 241) 30 = .ok (.lload 7, 2) := dqo gX12_lowest_25.2.2.2.1
theorem dX12_lowest_32 : decode (mB 241) 32 = .ok (.lstore 5, 2) := dqo gX12_lowest_25.2.2.2.2.1
theorem dX12_lowest_34 : decode (mB 241) 34 = .ok (.lload 9, 2) := dqo gX12_lowest_25.2.2.2.2.2.1
theorem dX12_lowest_36 : decode (mB 241) 36 = .ok (.lstore 7, 2) := dqo gX12_lowest_25.2.2.2.2.2.2.1
theorem dX12_lowest_38 : decode (mB 241) 38 = .ok (.goto (-22), 3) := dqo gX12_lowest_25.2.2.2.2.2.2.2.1
theorem dX12_lowest_41 : decode (mB 241) 41 = .ok (.iload 4, 2) := dqo gX12_lowest_25.2.2.2.2.2.2.2.2.1
theorem dX12_lowest_43 : decode (mB 241) 43 = .ok (.ifCond .ne 10, 3) := dqo gX12_lowest_25.2.2.2.2.2.2.2.2.2.1
theorem dX12_lowest_46 : decode (mB 241) 46 = .ok (.lload_n 0, 1) := dqo gX12_lowest_25.2.2.2.2.2.2.2.2.2.2.1
theorem dX12_lowest_47 : decode (mB 241) 47 = .ok (.lload 5, 2) := dqo gX12_lowest_25.2.2.2.2.2.2.2.2.2.2.2.1
theorem dX12_lowest_49 : decode (mB 241) 49 = .ok (.ldiv, 1) := dqo gX12_lowest_25.2.2.2.2.2.2.2.2.2.2.2.2.1
theorem dX12_lowest_50 : decode (mB 241) 50 = .ok (.goto 7, 3) := dqo gX12_lowest_25.2.2.2.2.2.2.2.2.2.2.2.2.2.1
theorem dX12_lowest_53 : decode (mB 241) 53 = .ok (.lload_n 2, 1) := dqo gX12_lowest_25.2.2.2.2.2.2.2.2.2.2.2.2.2.2.1
theorem dX12_lowest_54 : decode (mB 241) 54 = .ok (.lload 5, 2) := dqo gX12_lowest_25.2.2.2.2.2.2.2.2.2.2.2.2.2.2.2
theorem gX12_lowest_56 : dq 241 56 (.ldiv) 1 = true ∧ dq 241 57 (.lreturn) 1 = true := by decide +kernel
theorem dX12_lowest_56 : decode (mB 241) 56 = .ok (.ldiv, 1) := dqo gX12_lowest_56.1
theorem dX12_lowest_57 : decode (mB 241) 57 = .ok (.lreturn, 1) := dqo gX12_lowest_56.2
theorem gX12_likely_0 : dq 242 0 (.iload_n 1) 1 = true ∧ dq 242 1 (.invokestatic 137) 3 = true ∧ dq 242 4 (.ifCond .eq 31) 3 = true ∧ dq 242 7 (.iload_n 2) 1 = true ∧ dq 242 8 (.iconst 0) 1 = true ∧ dq 242 9 (.sipush 4095) 3 = true ∧ dq 242 12 (.invokestatic 118) 3 = true ∧ dq 242 15 (.ifCond .eq 20) 3 = true ∧ dq 242 18 (.iload_n 3) 1 = true ∧ dq 242 19 (.iconst 0) 1 = true ∧ dq 242 20 (.iconst 1) 1 = true ∧ dq 242 21 (.invokestatic 118) 3 = true ∧ dq 242 24 (.ifCond .eq 11) 3 = true ∧ dq 242 27 (.aload_n 0) 1 = true ∧ dq 242 28 (.iload_n 1) 1 = true ∧ dq 242 29 (.invokevirtual 278) 3 = true := by decide +kernel
theorem dX12_likely_0 : decode (mB 242) 0 = .ok (.iload_n 1, 1) := dqo gX12_likely_0.1
theorem dX12_likely_1 : decode (mB 242) 1 = .ok (.invokestatic 137, 3) := dqo gX12_likely_0.2.1
theorem dX12_likely_4 : decode (mB 242) 4 = .ok (.ifCond .eq 31, 3) := dqo gX12_likely_0.2.2.1
theorem dX12_likely_7 : decode (mB 242) 7 = .ok (.iload_n 2, 1) := dqo gX12_likely_0.2.2.2.1
theorem dX12_likely_8 : decode (mB 242) 8 = .ok (.iconst 0, 1) := dqo gX12_likely_0.2.2.2.2.1
theorem dX12_likely_9 : decode (mB 242) 9 = .ok (.sipush 4095, 3) := dqo gX12_likely_0.2.2.2.2.2.1
theorem dX12_likely_12 : decode (mB 242) 12 = .ok (.invokestatic 118, 3) := dqo gX12_likely_0.2.2.2.2.2.2.1
theorem dX12_likely_15 : decode (mB 242) 15 = .ok (.ifCond .eq 20, 3) := dqo gX12_likely_0.2.2.2.2.2.2.2.1
theorem dX12_likely_18 : decode (mB 242) 18 = .ok (.iload_n 3, 1) := dqo gX12_likely_0.2.2.2.2.2.2.2.2.1
theorem dX12_likely_19 : decode (mB 242) 19 = .ok (.iconst 0, 1) := dqo gX12_likely_0.2.2.2.2.2.2.2.2.2.1
theorem dX12_likely_20 : decode (mB 242) 20 = .ok (.iconst 1, 1) := dqo gX12_likely_0.2.2.2.2.2.2.2.2.2.2.1
theorem dX12_likely_21 : decode (mB 242) 21 = .ok (.invokestatic 118, 3) := dqo gX12_likely_0.2.2.2.2.2.2.2.2.2.2.2.1
theorem dX12_likely_24 : decode (mB 242) 24 = .ok (.ifCond .eq 11, 3) := dqo gX12_likely_0.2.2.2.2.2.2.2.2.2.2.2.2.1
theorem dX12_likely_27 : decode (mB 242) 27 = .ok (.aload_n 0, 1) := dqo gX12_likely_0.2.2.2.2.2.2.2.2.2.2.2.2.2.1
theorem dX12_likely_28 : decode (mB 242) 28 = .ok (.iload_n 1, 1) := dqo gX12_likely_0.2.2.2.2.2.2.2.2.2.2.2.2.2.2.1
theorem dX12_likely_29 : decode (mB 242) 29 = .ok (.invokevirtual 278, 3) := dqo gX12_likely_0.2.2.2.2.2.2.2.2.2.2.2.2.2.2.2
theorem gX12_likely_32 : dq 242 32 (.ifCond .ge 7) 3 = true ∧ dq 242 35 (.ldc2_w 284) 3 = true ∧ dq 242 38 (.lreturn) 1 = true ∧ dq 242 39 (.aload_n 0) 1 = true ∧ dq 242 40 (.invokevirtual 168) 3 = true ∧ dq 242 43 (.aload_n 0) 1 = true ∧ dq 242 44 (.iload_n 1) 1 = true ∧ dq 242 45 (.bipush 12) 2 = true ∧ dq 242 47 (.invokevirtual 272) 3 = true ∧ dq 242 50 (.istore 4) 2 = true ∧ dq 242 52 (.iload_n 2) 1 = true ∧ dq 242 53 (.iload 4) 2 = true ∧ dq 242 55 (.ishr) 1 = true ∧ dq 242 56 (.ifCond .ne 7) 3 = true ∧ dq 242 59 (.lconst 1) 1 = true ∧ dq 242 60 (.goto 4) 3 = true := by decide +kernel
theorem dX12_likely_32 : decode (mB 242) 32 = .ok (.ifCond .ge 7, 3) := dqo gX12_likely_32.1
theorem dX12_likely_35 : decode (mB 242) 35 = .ok (.ldc2_w 284, 3) := dqo gX12_likely_32.2.1
theorem dX12_likely_38 : decode (mB 242) 38 = .ok (.lreturn, 1) := dqo gX12_likely_32.2.2.1
theorem dX12_likely_39 : decode (mB 242) 39 = .ok (.aload_n 0, 1) := dqo gX12_likely_32.2.2.2.1
theorem dX12_likely_40 : decode (mB 242) 40 = .ok (.invokevirtual 168, 3) := dqo gX12_likely_32.2.2.2.2.1
theorem dX12_likely_43 : decode (mB 242) 43 = .ok (.aload_n 0, 1) := dqo gX12_likely_32.2.2.2.2.2.1
theorem dX12_likely_44 : decode (mB 242) 44 = .ok (.iload_n 1, 1) := dqo gX12_likely_32.2.2.2.2.2.2.1
theorem dX12_likely_45 : decode (mB 242) 45 = .ok (.bipush 12, 2) := dqo gX12_likely_32.2.2.2.2.2.2.2.1
theorem dX12_likely_47 : decode (mB 242) 47 = .ok (.invokevirtual 272, 3) := dqo gX12_likely_32.2.2.2.2.2.2.2.2.1
theorem dX12_likely_50 : decode (mB 242) 50 = .ok (.istore 4, 2) := dqo gX12_likely_32.2.2.2.2.2.2.2.2.2.1
theorem dX12_likely_52 : decode (mB 242) 52 = .ok (.iload_n 2, 1) := dqo gX12_likely_32.2.2.2.2.2.2.2.2.2.2.1
theorem dX12_likely_53 : decode (mB 242) 53 = .ok (.iload 4, 2) := dqo gX12_likely_32.2.2.2.2.2.2.2.2.2.2.2.1
theorem dX12_likely_55 : decode (mB 242) 55 = .ok (.ishr, 1) := dqo gX12_likely_32.2.2.2.2.2.2.2.2.2.2.2.2.1
theorem dX12_likely_56 : decode (mB 242) 56 = .ok (.ifCond .ne 7, 3) := dqo gX12_likely_32.2.2.2.2.2.2.2.2.2.2.2.2.2.1
theorem dX12_likely_59 : decode (mB 242) 59 = .ok (.lconst 1, 1) := dqo gX12_likely_32.2.2.2.2.2.2.2.2.2.2.2.2.2.2.1
theorem dX12_likely_60 : decode (mB 242) 60 = .ok (.goto 4, 3) := dqo gX12_likely_32.2.2.2.2.2.2.2.2.2.2.2.2.2.2.2
theorem gX12_likely_63 : dq 242 63 (.lconst 0) 1 = true ∧ dq 242 64 (.lstore 5) 2 = true ∧ dq 242 66 (.lconst 1) 1 = true ∧ dq 242 67 (.lstore 7) 2 = true ∧ dq 242 69 (.iconst 0) 1 = true ∧ dq 242 70 (.istore 9) 2 = true ∧ dq 242 72 (.iload 9) 2 = true ∧ dq 242 74 (.iload 4) 2 = true ∧ dq 242 76 (.if_icmp .ge 126) 3 = true ∧ dq 242 79 (.aload_n 0) 1 = true ∧ dq 242 80 (.iload_n 1) 1 = true ∧ dq 242 81 (.iload 9) 2 = true ∧ dq 242 83 (.invokevirtual 263) 3 = true ∧ dq 242 86 (.bipush 8) 2 = true ∧ dq 242 88 (.idiv) 1 = true ∧ dq 242 89 (.istore 10) 2 = true := by decide +kernel
theorem dX12_likely_63 : decode (mB 242) 63 = .ok (.lconst 0, 1) := dqo gX12_likely_63.1
theorem dX12_likely_64 : decode (mB 242) 64 = .ok (.lstore 5, 2) := dqo gX12_likely_63.2.1
theorem dX12_likely_66 : decode (mB 242) 66 = .ok (.lconst 1, 1) := dqo gX12_likely_63.2.2.1
theorem dX12_likely_67 : decode (mB 242) 67 = .ok (.lstore 7, 2) := dqo gX12_likely_63.2.2.2.1
theorem dX12_likely_69 : decode (mB 242) 69 = .ok (.iconst 0, 1) := dqo gX12_likely_63.2.2.2.2.1
theorem dX12_likely_70 : decode (mB 242) 70 = .ok (.istore 9, 2) := dqo gX12_likely_63.2.2.2.2.2.1
theorem dX12_likely_72 : decode (mB 242) 72 = .ok (.iload 9, 2) := dqo gX12_likely_63.2.2.2.2.2.2.1
theorem dX12_likely_74 : decode (mB 242) 74 = .ok (.iload 4, 2) := dqo gX12_likely_63.2.2.2.2.2.2.2.1
theorem dX12_likely_76 : decode (mB 242) 76 = .ok (.if_icmp .ge 126, 3) := dqo gX12_likely_63.2.2.2.2.2.2.2.2.1
theorem dX12_likely_79 : decode (mB 242) 79 = .ok (.aload_n 0, 1) := dqo gX12_likely_63.2.2.2.2.2.2.2.2.2.1
theorem dX12_likely_80 : decode (mB 242) 80 = .ok (.iload_n 1, 1) := dqo gX12_likely_63.2.2.2.2.2.2.2.2.2.2.1
theorem dX12_likely_81 : decode (mB 242) 81 = .ok (.iload 9, 2) := dqo gX12_likely_63.2.2.2.2.2.2.2.2.2.2.2.1
theorem dX12_likely_83 : decode (mB 242) 83 = .ok (.invokevirtual 263, 3) := dqo gX12_likely_63.2.2.2.2.2.2.2.2.2.2.2.2.1
theorem dX12_likely_86 : decode (mB 242) 86 = .ok (.bipush 8, 2) := dqo gX12_likely_63.2.2.2.2.2.2.2.2.2.2.2.2.2.1
theorem dX12_likely_88 : decode (mB 242) 88 = .ok (.idiv, 1) := dqo gX12_likely_63.2.2.2.2.2.2.2.2.2.2.2.2.2.2.1
theorem dX12_likely_89 : decode (mB 242) 89 = .ok (.istore 10, 2) := dqo gX12_likely_63.2.2.2.2.2.2.2.2.2.2.2.2.2.2.2
theorem gX12_likely_91 : dq 242 91 (.aload_n 0) 1 = true ∧ dq 242 92 (.iload_n 1) 1 = true ∧ dq 242 93 (.iload 9) 2 = true ∧ dq 242 95 (.invokevirtual 263) 3 = true ∧ dq 242 98 (.bipush 8) 2 = true ∧ dq 242 100 (.irem) 1 = true ∧ dq 242 101 (.istore 11) 2 = true ∧ dq 242 103 (.iload_n 2) 1 = true ∧ dq 242 104 (.iload 9) 2 = true ∧ dq 242 106 (.ishr) 1 = true ∧ dq 242 107 (.iconst 1) 1 = true ∧ dq 242 108 (.iand) 1 = true ∧ dq 242 109 (.iconst 1) 1 = true ∧ dq 242 110 (.if_icmp .ne 7) 3 = true ∧ dq 242 113 (.iconst 1) 1 = true ∧ dq 242 114 (.goto 4) 3 = true := by decide +kernel
theorem dX12_likely_91 : decode (mB 242) 91 = .ok (.aload_n 0, 1) := dqo gX12_likely_91.1
theorem dX12_likely_92 : decode (mB 242) 92 = .ok (.iload_n 1, 1) := dqo gX12_likely_91.2.1
theorem dX12_likely_93 : decode (mB 242) 93 = .ok (.iload 9, 2) := dqo gX12_likely_91.2.2.1
theorem dX12_likely_95 : decode (mB 242) 95 = .ok (.invokevirtual 263, 3) := dqo gX12_likely_91.2.2.2.1
theorem dX12_likely_98 : decode (mB 242) 98 = .ok (.bipush 8, 2) := dqo gX12_likely_91.2.2.2.2.1
theorem dX12_likely_100 : decode (mB 242) 100 = .ok (.irem, 1) := dqo gX12_likely_91.2.2.2.2.2.1
theorem dX12_likely_101 : decode (mB 242) 101 = .ok (.istore 11, 2) := dqo gX12_likely_91.2.2.2.2.2.2.1
theorem dX12_likely_103 : decode (mB 242) 103 = .ok (.iload_n 2, 1) := dqo gX12_likely_91.2.2.2.2.2.2.2.1
theorem dX12_likely_104 : decode (mB 242) 104 = .ok (.iload 9, 2) := dqo gX12_likely_91.2.2.2.2.2.2.2.2.1
theorem dX12_likely_106 : decode (mB 242) 106 = .ok (.ishr, 1) := dqo gX12_likely_91.2.2.2.2.2.2.2.2.2.1
theorem dX12_likely_107 : decode (mB 242) 107 = .ok (.iconst 1, 1) := dqo gX12_likely_91.2.2.2.2.2.2.2.2.2.2.1
theorem dX12_likely_108 : decode (mB 242) 108 = .ok (.iand, 1) := dqo gX12_likely_91.2.2.2.2.2.2.2.2.2.2.2.1
theorem dX12_likely_109 : decode (mB 242) 109 = .ok (.iconst 1, 1) := dqo gX12_likely_91.2.2.2.2.2.2.2.2.2.2.2.2.1
theorem dX12_likely_110 : decode (mB 242) 110 = .ok (.if_icmp .ne 7, 3) := dqo gX12_likely_91.2.2.2.2.2.2.2.2.2.2.2.2.2.1
theorem dX12_likely_113 : decode (mB 242) 113 = .ok (.iconst 1, 1) := dqo gX12_likely_91.2.2.2.2.2.2.2.2.2.2.2.2.2.2.1
theorem dX12_likely_114 : decode (mB 242) 114 = .ok (.goto 4, 3) := dqo gX12_likely_91.2.2.2.2.2.2.2.2.2.2.2.2.2.2.2
theorem gX12_likely_117 : dq 242 117 (.iconst 0) 1 = true ∧ dq 242 118 (.istore 12) 2 = true ∧ dq 242 120 (.aload_n 0) 1 = true ∧ dq 242 121 (.iload 10) 2 = true ∧ dq 242 123 (.iload 11) 2 = true ∧ dq 242 125 (.invokevirtual 251) 3 = true ∧ dq 242 128 (.ifCond .ne 14) 3 = true ∧ dq 242 131 (.iload 12) 2 = true ∧ dq 242 133 (.ifCond .eq 63) 3 = true ∧ dq 242 136 (.lconst 0) 1 = true ∧ dq 242 137 (.lstore 5) 2 = true ∧ dq 242 139 (.goto 57) 3 = true ∧ dq 242 142 (.aload_n 0) 1 = true ∧ dq 242 143 (.iload 10) 2 = true ∧ dq 242 145 (.iload 11) 2 = true ∧ dq 242 147 (.invokevirtual 260) 3 = true := by decide +kernel
theorem dX12_likely_117 : decode (mB 242) 117 = .ok (.iconst 0, 1) := dqo gX12_likely_117.1
theorem dX12_likely_118 : decode (mB 242) 118 = .ok (.istore 12, 2) := dqo gX12_likely_117.2.1
theorem dX12_likely_120 : decode (mB 242) 120 = .ok (.aload_n 0, 1) := dqo gX12_likely_117.2.2.1
theorem dX12_likely_121 : decode (mB 242) 121 = .ok (.iload 10, 2) := dqo gX12_likely_117.2.2.2.1
theorem dX12_likely_123 : decode (mB 242) 123 = .ok (.iload 11, 2) := dqo gX12_likely_117.2.2.2.2.1
theorem dX12_likely_125 : decode (mB 242) 125 = .ok (.invokevirtual 251, 3) := dqo gX12_likely_117.2.2.2.2.2.1
theorem dX12_likely_128 : decode (mB 242) 128 = .ok (.ifCond .ne 14, 3) := dqo gX12_likely_117.2.2.2.2.2.2.1
theorem dX12_likely_131 : decode (mB 242) 131 = .ok (.iload 12, 2) := dqo gX12_likely_117.2.2.2.2.2.2.2.1
theorem dX12_likely_133 : decode (mB 242) 133 = .ok (.ifCond .eq 63, 3) := dqo gX12_likely_117.2.2.2.2.2.2.2.2.1
theorem dX12_likely_136 : decode (mB 242) 136 = .ok (.lconst 0, 1) := dqo gX12_likely_117.2.2.2.2.2.2.2.2.2.1
theorem dX12_likely_137 : decode (mB 242) 137 = .ok (.lstore 5, 2) := dqo gX12_likely_117.2.2.2.2.2.2.2.2.2.2.1
theorem dX12_likely_139 : decode (mB 242) 139 = .ok (.goto 57, 3) := dqo gX12_likely_117.2.2.2.2.2.2.2.2.2.2.2.1
theorem dX12_likely_142 : decode (mB 242) 142 = .ok (.aload_n 0, 1) := dqo gX12_likely_117.2.2.2.2.2.2.2.2.2.2.2.2.1
theorem dX12_likely_143 : decode (mB 242) 143 = .ok (.iload 10, 2) := dqo gX12_likely_117.2.2.2.2.2.2.2.2.2.2.2.2.2.1
theorem dX12_likely_145 : decode (mB 242) 145 = .ok (.iload 11, 2) := dqo gX12_likely_117.2.2.2.2.2.2.2.2.2.2.2.2.2.2.1
theorem dX12_likely_147 : decode (mB 242) 147 = .ok (.invokevirtual 260, 3) := dqo gX12_likely_117.2.2.2.2.2.2.2.2.2.2.2.2.2.2.2
theorem gX12_likely_150 : dq 242 150 (.istore 13) 2 = true ∧ dq 242 152 (.lload 5) 2 = true ∧ dq 242 154 (.iload 12) 2 = true ∧ dq 242 156 (.ifCond .eq 9) 3 = true ∧ dq 242 159 (.iload 13) 2 = true ∧ dq 242 161 (.i2l) 1 = true ∧ dq 242 162 (.goto 9) 3 = true ∧ dq 242 165 (.bipush 12) 2 = true ∧ dq 242 167 (.iload 13) 2 = true ∧ dq 242 169 (.isub) 1 = true ∧ dq 242 170 (.i2l) 1 = true ∧ dq 242 171 (.lmul) 1 = true ∧ dq 242 172 (.lstore 5) 2 = true ∧ dq 242 174 (.lload 7) 2 = true ∧ dq 242 176 (.ldc2_w 286) 3 = true ∧ dq 242 179 (.lmul) 1 = true := by decide +kernel
theorem dX12_likely_150 : decode (mB 242) 150 = .ok (.istore 13, 2) := dqo gX12_likely_150.1
theorem dX12_likely_152 : decode (mB 242) 152 = .ok (.lload 5, 2) := dqo gX12_likely_150.2.1
theorem dX12_likely_154 : decode (mB 242) 154 = .ok (.iload 12, 2) := dqo gX12_likely_150.2.2.1
theorem dX12_likely_156 : decode (mB 242) 156 = .ok (.ifCond .eq 9, 3) := dqo gX12_likely_150.2.2.2.1
theorem dX12_likely_159 : decode (mB 242) 159 = .ok (.iload 13, 2) := dqo gX12_likely_150.2.2.2.2.1
theorem dX12_likely_161 : decode (mB 242) 161 = .ok (.i2l, 1) := dqo gX12_likely_150.2.2.2.2.2.1
theorem dX12_likely_162 : decode (mB 242) 162 = .ok (.goto 9, 3) := dqo gX12_likely_150.2.2.2.2.2.2.1
theorem dX12_likely_165 : decode (mB 242) 165 = .ok (.bipush 12, 2) := dqo gX12_likely_150.2.2.2.2.2.2.2.1
theorem dX12_likely_167 : decode (mB 242) 167 = .ok (.iload 13, 2) := dqo gX12_likely_150.2.2.2.2.2.2.2.2.1
theorem dX12_likely_169 : decode (mB 242) 169 = .ok (.isub, 1) := dqo gX12_likely_150.2.2.2.2.2.2.2.2.2.1
theorem dX12_likely_170 : decode (mB 242) 170 = .ok (.i2l, 1) := dqo gX12_likely_150.2.2.2.2.2.2.2.2.2.2.1
theorem dX12_likely_171 : decode (mB 242) 171 = .ok (.lmul, 1) := dqo gX12_likely_150.2.2.2.2.2.2.2.2.2.2.2.1
theorem dX12_likely_172 : decode (mB 242) 172 = .ok (.lstore 5, 2) := dqo gX12_likely_150.2.2.2.2.2.2.2.2.2.2.2.2.1
theorem dX12_likely_174 : decode (mB 242) 174 = .ok (.lload 7, 2) := dqo gX12_likely_150.2.2.2.2.2.2.2.2.2.2.2.2.2.1
theorem dX12_likely_176 : decode (mB 242) 176 = .ok (.ldc2_w 286, 3) := dqo gX12_likely_150.2.2.2.2.2.2.2.2.2.2.2.2.2.2.1
theorem dX12_likely_179 : decode (mB 242) 179 = .ok (.lmul, 1) := dqo gX12_likely_150.2.2.2.2.2.2.2.2.2.2.2.2.2.2.2
theorem gX12_likely_180 : dq 242 180 (.lstore 7) 2 = true ∧ dq 242 182 (.iload 12) 2 = true ∧ dq 242 184 (.ifCond .eq 12) 3 = true ∧ dq 242 187 (.aload_n 0) 1 = true ∧ dq 242 188 (.getfield 74) 3 = true ∧ dq 242 191 (.iload 10) 2 = true ∧ dq 242 193 (.iload 11) 2 = true ∧ dq 242 195 (.iastore) 1 = true ∧ dq 242 196 (.iinc 9 1) 3 = true ∧ dq 242 199 (.goto (-127)) 3 = true ∧ dq 242 202 (.lload 5) 2 = true ∧ dq 242 204 (.lload 7) 2 = true ∧ dq 242 206 (.iload_n 3) 1 = true ∧ dq 242 207 (.invokestatic 288) 3 = true ∧ dq 242 210 (.lreturn) 1 = true := by decide +kernel
theorem dX12_likely_180 : decode (mB 242) 180 = .ok (.lstore 7, 2) := dqo gX12_likely_180.1
theorem dX12_likely_182 : decode (mB 242) 182 = .ok (.iload 12, 2) := dqo gX12_likely_180.2.1
theorem dX12_likely_184 : decode (mB 242) 184 = .ok (.ifCond .eq 12, 3) := dqo gX12_likely_180.2.2.1
theorem dX12_likely_187 : decode (mB 242) 187 = .ok (.aload_n 0, 1) := dqo gX12_likely_180.2.2.2.1
theorem dX12_likely_188 : decode (mB 242) 188 = .ok (.getfield 74, 3) := dqo gX12_likely_180.2.2.2.2.1
theorem dX12_likely_191 : decode (mB 242) 191 = .ok (.iload 10, 2) := dqo gX12_likely_180.2.2.2.2.2.1
theorem dX12_likely_193 : decode (mB 242) 193 = .ok (.iload 11, 2) := dqo gX12_likely_180.2.2.2.2.2.2.1
theorem dX12_likely_195 : decode (mB 242) 195 = .ok (.iastore, 1) := dqo gX12_likely_180.2.2.2.2.2.2.2.1
theorem dX12_likely_196 : decode (mB 242) 196 = .ok (.iinc 9 1, 3) := dqo gX12_likely_180.2.2.2.2.2.2.2.2.1
theorem dX12_likely_199 : decode (mB 242) 199 = .ok (.goto (-127), 3) := dqo gX12_likely_180.2.2.2.2.2.2.2.2.2.1
theorem dX12_likely_202 : decode (mB 242) 202 = .ok (.lload 5, 2) := dqo gX12_likely_180.2.2.2.2.2.2.2.2.2.2.1
theorem dX12_likely_204 : decode (mB 242) 204 = .ok (.lload 7, 2) := dqo gX12_likely_180.2.2.2.2.2.2.2.2.2.2.2.1
theorem dX12_likely_206 : decode (mB 242) 206 = .ok (.iload_n 3, 1) := dqo gX12_likely_180.2.2.2.2.2.2.2.2.2.2.2.2.1
theorem dX12_likely_207 : decode (mB 242) 207 = .ok (.invokestatic 288, 3) := dqo gX12_likely_180.2.2.2.2.2.2.2.2.2.2.2.2.2.1
theorem dX12_likely_210 : decode (mB 242) 210 = .ok (.lreturn, 1) := dqo gX12_likely_180.2.2.2.2.2.2.2.2.2.2.2.2.2.2
theorem gX12_all_0 : dq 243 0 (.iload_n 1) 1 = true ∧ dq 243 1 (.invokestatic 137) 3 = true ∧ dq 243 4 (.ifCond .eq 20) 3 = true ∧ dq 243 7 (.iload_n 2) 1 = true ∧ dq 243 8 (.iconst 0) 1 = true ∧ dq 243 9 (.iconst 1) 1 = true ∧ dq 243 10 (.invokestatic 118) 3 = true ∧ dq 243 13 (.ifCond .eq 11) 3 = true ∧ dq 243 16 (.aload_n 0) 1 = true ∧ dq 243 17 (.iload_n 1) 1 = true ∧ dq 243 18 (.invokevirtual 278) 3 = true ∧ dq 243 21 (.ifCond .ge 7) 3 = true ∧ dq 243 24 (.ldc2_w 284) 3 = true ∧ dq 243 27 (.lreturn) 1 = true ∧ dq 243 28 (.aload_n 0) 1 = true ∧ dq 243 29 (.invokevirtual 168) 3 = true := by decide +kernel
theorem dX12_all_0 : decode (mB 243) 0 = .ok (.iload_n 1, 1) := dqo gX12_all_0.1
theorem dX12_all_1 : decode (mB 243) 1 = .ok (.invokestatic 137, 3) := dqo gX12_all_0.2.1
theorem dX12_all_4 : decode (mB 243) 4 = .ok (.ifCond .eq 20, 3) := dqo gX12_all_0.2.2.1
theorem dX12_all_7 : decode (mB 243) 7 = .ok (.iload_n 2, 1) := dqo gX12_all_0.2.2.2.1
theorem dX12_all_8 : decode (mB 243) 8 = .ok (.iconst 0, 1) := dqo gX12_all_0.2.2.2.2.1
theorem dX12_all_9 : decode (mB 243) 9 = .ok (.iconst 1, 1) := dqo gX12_all_0.2.2.2.2.2.1
theorem dX12_all_10 : decode (mB 243) 10 = .ok (.invokestatic 118, 3) := dqo gX12_all_0.2.2.2.2.2.2.1
theorem dX12_all_13 : decode (mB 243) 13 = .ok (.ifCond .eq 11, 3) := dqo gX12_all_0.2.2.2.2.2.2.2.1
theorem dX12_all_16 : decode (mB 243) 16 = .ok (.aload_n 0, 1) := dqo gX12_all_0.2.2.2.2.2.2.2.2.1
theorem dX12_all_17 : decode (mB 243) 17 = .ok (.iload_n 1, 1) := dqo gX12_all_0.2.2.2.2.2.2.2.2.2.1
theorem dX12_all_18 : decode (mB 243) 18 = .ok (.invokevirtual 278, 3) := dqo gX12_all_0.2.2.2.2.2.2.2.2.2.2.1
theorem dX12_all_21 : decode (mB 243) 21 = .ok (.ifCond .ge 7, 3) := dqo gX12_all_0.2.2.2.2.2.2.2.2.2.2.2.1
theorem dX12_all_24 : decode (mB 243) 24 = .ok (.ldc2_w 284, 3) := dqo gX12_all_0.2.2.2.2.2.2.2.2.2.2.2.2.1
theorem dX12_all_27 : decode (mB 243) 27 = .ok (.lreturn, 1) := dqo gX12_all_0.2.2.2.2.2.2.2.2.2.2.2.2.2.1
theorem dX12_all_28 : decode (mB 243) 28 = .ok (.aload_n 0, 1) := dqo gX12_all_0.2.2.2.2.2.2.2.2.2.2.2.2.2.2.1
theorem dX12_all_29 : decode (mB 243) 29 = .ok (.invokevirtual 168, 3) := dqo gX12_all_0.2.2.2.2.2.2.2.2.2.2.2.2.2.2.2
theorem gX12_all_32 : dq 243 32 (.aload_n 0) 1 = true ∧ dq 243 33 (.iload_n 1) 1 = true ∧ dq 243 34 (.bipush 12) 2 = true ∧ dq 243 36 (.invokevirtual 272) 3 = true ∧ dq 243 39 (.istore_n 3) 1 = true ∧ dq 243 40 (.lconst 1) 1 = true ∧ dq 243 41 (.lstore 4) 2 = true ∧ dq 243 43 (.lconst 1) 1 = true ∧ dq 243 44 (.lstore 6) 2 = true ∧ dq 243 46 (.iconst 0) 1 = true ∧ dq 243 47 (.istore 8) 2 = true ∧ dq 243 49 (.iload 8) 2 = true ∧ dq 243 51 (.iload_n 3) 1 = true ∧ dq 243 52 (.if_icmp .ge 78) 3 = true ∧ dq 243 55 (.aload_n 0) 1 = true ∧ dq 243 56 (.iload_n 1) 1 = true := by decide +kernel
theorem dX12_all_32 : decode (mB 243) 32 = .ok (.aload_n 0, 1) := dqo gX12_all_32.1
theorem dX12_all_33 : decode (mB 243) 33 = .ok (.iload_n 1, 1) := dqo gX12_all_32.2.1
theorem dX12_all_34 : decode (mB 243) 34 = .ok (.bipush 12, 2) := dqo gX12_all_32.2.2.1
theorem dX12_all_36 : decode (mB 243) 36 = .ok (.invokevirtual 272, 3) := dqo gX12_all_32.2.2.2.1
theorem dX12_all_39 : decode (mB 243) 39 = .ok (.istore_n 3, 1) := dqo gX12_all_32.2.2.2.2.1
theorem dX12_all_40 : decode (mB 243) 40 = .ok (.lconst 1, 1) := dqo gX12_all_32.2.2.2.2.2.1
theorem dX12_all_41 : decode (mB 243) 41 = .ok (.lstore 4, 2) := dqo gX12_all_32.2.2.2.2.2.2.1
theorem dX12_all_43 : decode (mB 243) 43 = .ok (.lconst 1, 1) := dqo gX12_all_32.2.2.2.2.2.2.2.1
theorem dX12_all_44 : decode (mB 243) 44 = .ok (.lstore 6, 2) := dqo gX12_all_32.2.2.2.2.2.2.2.2.1
theorem dX12_all_46 : decode (mB 243) 46 = .ok (.iconst 0, 1) := dqo gX12_all_32.2.2.2.2.2.2.2.2.2.1
theorem dX12_all_47 : decode (mB 243) 47 = .ok (.istore 8, 2) := dqo gX12_all_32.2.2.2.2.2.2.2.2.2.2.1
theorem dX12_all_49 : decode (mB 243) 49 = .ok (.iload 8, 2) := dqo gX12_all_32.2.2.2.2.2.2.2.2.2.2.2.1
theorem dX12_all_51 : decode (mB 243) 51 = .ok (.iload_n 3, 1) := dqo gX12_all_32.2.2.2.2.2.2.2.2.2.2.2.2.1
theorem dX12_all_52 : decode (mB 243) 52 = .ok (.if_icmp .ge 78, 3) := dqo gX12_all_32.2.2.2.2.2.2.2.2.2.2.2.2.2.1
theorem dX12_all_55 : decode (mB 243) 55 = .ok (.aload_n 0, 1) := dqo gX12_all_32.2.2.2.2.2.2.2.2.2.2.2.2.2.2.1
theorem dX12_all_56 : decode (mB 243) 56 = .ok (.iload_n 1, 1) := dqo gX12_all_32.2.2.2.2.2.2.2.2.2.2.2.2.2.2.2
theorem gX12_all_57 : dq 243 57 (.iload 8) 2 = true ∧ dq 243 59 (.invokevirtual 263) 3 = true ∧ dq 243 62 (.bipush 8) 2 = true ∧ dq 243 64 (.idiv) 1 = true ∧ dq 243 65 (.istore 9) 2 = true ∧ dq 243 67 (.aload_n 0) 1 = true ∧ dq 243 68 (.iload_n 1) 1 = true ∧ dq 243 69 (.iload 8) 2 = true ∧ dq 243 71 (.invokevirtual 263) 3 = true ∧ dq 243 74 (.bipush 8) 2 = true ∧ dq 243 76 (.irem) 1 = true ∧ dq 243 77 (.istore 10) 2 = true ∧ dq 243 79 (.aload_n 0) 1 = true ∧ dq 243 80 (.iload 9) 2 = true ∧ dq 243 82 (.iload 10) 2 = true ∧ dq 243 84 (.invokevirtual 251) 3 = true := by decide +kernel
theorem dX12_all_57 : decode (mB 243) 57 = .ok (.iload 8, 2) := dqo gX12_all_57.1
theorem dX12_all_59 : decode (mB 243) 59 = .ok (.invokevirtual 263, 3) := dqo gX12_all_57.2.1
theorem dX12_all_62 : decode (mB 243) 62 = .ok (.bipush 8, 2) := dqo gX12_all_57.2.2.1
theorem dX12_all_64 : decode (mB 243) 64 = .ok (.idiv, 1) := dqo gX12_all_57.2.2.2.1
theorem dX12_all_65 : decode (mB 243) 65 = .ok (.istore 9, 2) := dqo gX12_all_57.2.2.2.2.1
theorem dX12_all_67 : decode (mB 243) 67 = .ok (.aload_n 0, 1) := dqo gX12_all_57.2.2.2.2.2.1
theorem dX12_all_68 : decode (mB 243) 68 = .ok (.iload_n 1, 1) := dqo gX12_all_57.2.2.2.2.2.2.1
theorem dX12_all_69 : decode (mB 243) 69 = .ok (.iload 8, 2) := dqo gX12_all_57.2.2.2.2.2.2.2.1
theorem dX12_all_71 : decode (mB 243) 71 = .ok (.invokevirtual 263, 3) := dqo gX12_all_57.2.2.2.2.2.2.2.2.1
theorem dX12_all_74 : decode (mB 243) 74 = .ok (.bipush 8, 2) := dqo gX12_all_57.2.2.2.2.2.2.2.2.2.1
theorem dX12_all_76 : decode (mB 243) 76 = .ok (.irem, 1) := dqo gX12_all_57.2.2.2.2.2.2.2.2.2.2.1
theorem dX12_all_77 : decode (mB 243) 77 = .ok (.istore 10, 2) := dqo gX12_all_57.2.2.2.2.2.2.2.2.2.2.2.1
theorem dX12_all_79 : decode (mB 243) 79 = .ok (.aload_n 0, 1) := dqo gX12_all_57.2.2.2.2.2.2.2.2.2.2.2.2.1
theorem dX12_all_80 : decode (mB 243) 80 = .ok (.iload 9, 2) := dqo gX12_all_57.2.2.2.2.2.2.2.2.2.2.2.2.2.1
theorem dX12_all_82 : decode (mB 243) 82 = .ok (.iload 10, 2) := dqo gX12_all_57.2.2.2.2.2.2.2.2.2.2.2.2.2.2.1
theorem dX12_all_84 : decode (mB 243) 84 = .ok (.invokevirtual 251, 3) := dqo gX12_all_57.2.2.2.2.2.2.2.2.2.2.2.2.2.2.2
theorem gX12_all_87 : dq 243 87 (.ifCond .ne 6) 3 = true ∧ dq 243 90 (.goto 34) 3 = true ∧ dq 243 93 (.lload 4) 2 = true ∧ dq 243 95 (.aload_n 0) 1 = true ∧ dq 243 96 (.iload 9) 2 = true ∧ dq 243 98 (.iload 10) 2 = true ∧ dq 243 100 (.invokevirtual 260) 3 = true ∧ dq 243 103 (.i2l) 1 = true ∧ dq 243 104 (.lmul) 1 = true ∧ dq 243 105 (.lstore 4) 2 = true ∧ dq 243 107 (.lload 6) 2 = true ∧ dq 243 109 (.ldc2_w 286) 3 = true ∧ dq 243 112 (.lmul) 1 = true ∧ dq 243 113 (.lstore 6) 2 = true ∧ dq 243 115 (.aload_n 0) 1 = true ∧ dq 243 116 (.getfield 74) 3 = true := by decide +kernel
theorem dX12_all_87 : decode (mB 243) 87 = .ok (.ifCond .ne 6, 3) := dqo gX12_all_87.1
theorem dX12_all_90 : decode (mB 243) 90 = .ok (.goto 34, 3) := dqo gX12_all_87.2.1
theorem dX12_all_93 : decode (mB 243) 93 = .ok (.lload 4, 2) := dqo gX12_all_87.2.2.1
theorem dX12_all_95 : decode (mB 243) 95 = .ok (.aload_n 0, 1) := dqo gX12_all_87.2.2.2.1
theorem dX12_all_96 : decode (mB 243) 96 = .ok (.iload 9, 2) := dqo gX12_all_87.2.2.2.2.1
theorem dX12_all_98 : decode (mB 243) 98 = .ok (.iload 10, 2) := dqo gX12_all_87.2.2.2.2.2.1
theorem dX12_all_100 : decode (mB 243) 100 = .ok (.invokevirtual 260, 3) := dqo gX12_all_87.2.2.2.2.2.2.1
theorem dX12_all_103 : decode (mB 243) 103 = .ok (.i2l, 1) := dqo gX12_all_87.2.2.2.2.2.2.2.1
theorem dX12_all_104 : decode (mB 243) 104 = .ok (.lmul, 1) := dqo gX12_all_87.2.2.2.2.2.2.2.2.1
theorem dX12_all_105 : decode (mB 243) 105 = .ok (.lstore 4, 2) := dqo gX12_all_87.2.2.2.2.2.2.2.2.2.1
theorem dX12_all_107 : decode (mB 243) 107 = .ok (.lload 6, 2) := dqo gX12_all_87.2.2.2.2.2.2.2.2.2.2.1
theorem dX12_all_109 : decode (mB 243) 109 = .ok (.ldc2_w 286, 3) := dqo gX12_all_87.2.2.2.2.2.2.2.2.2.2.2.1
theorem dX12_all_112 : decode (mB 243) 112 = .ok (.lmul, 1) := dqo gX12_all_87.2.2.2.2.2.2.2.2.2.2.2.2.1
theorem dX12_all_113 : decode (mB 243) 113 = .ok (.lstore 6, 2) := dqo gX12_all_87.2.2.2.2.2.2.2.2.2.2.2.2.2.1
theorem dX12_all_115 : decode (mB 243) 115 = .ok (.aload_n 0, 1) := dqo gX12_all_87.2.2.2.2.2.2.2.2.2.2.2.2.2.2.1
theorem dX12_all_116 : decode (mB 243) 116 = .ok (.getfield 74, 3) := dqo gX12_all_87.2.2.2.2.2.2.2.2.2.2.2.2.2.2.2
theorem gX12_all_119 : dq 243 119 (.iload 9) 2 = true ∧ dq 243 121 (.iload 10) 2 = true ∧ dq 243 123 (.iastore) 1 = true ∧ dq 243 124 (.iinc 8 1) 3 = true ∧ dq 243 127 (.goto (-78)) 3 = true ∧ dq 243 130 (.lload 4) 2 = true ∧ dq 243 132 (.lload 6) 2 = true ∧ dq 243 134 (.iload_n 2) 1 = true ∧ dq 243 135 (.invokestatic 288) 3 = true ∧ dq 243 138 (.lreturn) 1 = true := by decide +kernel
theorem dX12_all_119 : decode (mB 243) 119 = .ok (.iload 9, 2) := dqo gX12_all_119.1
theorem dX12_all_121 : decode (mB 243) 121 = .ok (.iload 10, 2) := dqo gX12_all_119.2.1
theorem dX12_all_123 : decode (mB 243) 123 = .ok (.iastore, 1) := dqo gX12_all_119.2.2.1
theorem dX12_all_124 : decode (mB 243) 124 = .ok (.iinc 8 1, 3) := dqo gX12_all_119.2.2.2.1
theorem dX12_all_127 : decode (mB 243) 127 = .ok (.goto (-78), 3) := dqo gX12_all_119.2.2.2.2.1
theorem dX12_all_130 : decode (mB 243) 130 = .ok (.lload 4, 2) := dqo gX12_all_119.2.2.2.2.2.1
theorem dX12_all_132 : decode (mB 243) 132 = .ok (.lload 6, 2) := dqo gX12_all_119.2.2.2.2.2.2.1
theorem dX12_all_134 : decode (mB 243) 134 = .ok (.iload_n 2, 1) := dqo gX12_all_119.2.2.2.2.2.2.2.1
theorem dX12_all_135 : decode (mB 243) 135 = .ok (.invokestatic 288, 3) := dqo gX12_all_119.2.2.2.2.2.2.2.2.1
theorem dX12_all_138 : decode (mB 243) 138 = .ok (.lreturn, 1) := dqo gX12_all_119.2.2.2.2.2.2.2.2.2
theorem gX12_king_0 : dq 244 0 (.aload_n 0) 1 = true ∧ dq 244 1 (.iload_n 1) 1 = true ∧ dq 244 2 (.invokevirtual 125) 3 = true ∧ dq 244 5 (.ifCond .eq 12) 3 = true ∧ dq 244 8 (.iload_n 2) 1 = true ∧ dq 244 9 (.iconst 0) 1 = true ∧ dq 244 10 (.iconst 1) 1 = true ∧ dq 244 11 (.invokestatic 118) 3 = true ∧ dq 244 14 (.ifCond .ne 7) 3 = true ∧ dq 244 17 (.ldc2_w 284) 3 = true ∧ dq 244 20 (.lreturn) 1 = true ∧ dq 244 21 (.aload_n 0) 1 = true ∧ dq 244 22 (.invokevirtual 168) 3 = true ∧ dq 244 25 (.aload_n 0) 1 = true ∧ dq 244 26 (.iload_n 1) 1 = true ∧ dq 244 27 (.invokevirtual 175) 3 = true := by decide +kernel
theorem dX12_king_0 : decode (mB 244) 0 = .ok (.aload_n 0, 1) := dqo gX12_king_0.1
theorem dX12_king_1 : decode (mB 244) 1 = .ok (.iload_n 1, 1) := dqo gX12_king_0.2.1
theorem dX12_king_2 : decode (mB 244) 2 = .ok (.invokevirtual 125, 3) := dqo gX12_king_0.2.2.1
theorem dX12_king_5 : decode (mB 244) 5 = .ok (.ifCond .eq 12, 3) := dqo gX12_king_0.2.2.2.1
theorem dX12_king_8 : decode (mB 244) 8 = .ok (.iload_n 2, 1) := dqo gX12_king_0.2.2.2.2.1
theorem dX12_king_9 : decode (mB 244) 9 = .ok (.iconst 0, 1) := dqo gX12_king_0.2.2.2.2.2.1
theorem dX12_king_10 : decode (mB 244) 10 = .ok (.iconst 1, 1) := dqo gX12_king_0.2.2.2.2.2.2.1
theorem dX12_king_11 : decode (mB 244) 11 = .ok (.invokestatic 118, 3) := dqo gX12_king_0.2.2.2.2.2.2.2.1
theorem dX12_king_14 : decode (mB 244) 14 = .ok (.ifCond .ne 7, 3) := dqo gX12_king_0.2.2.2.2.2.2.2.2.1
theorem dX12_king_17 : decode (mB 244) 17 = .ok (.ldc2_w 284, 3) := dqo gX12_king_0.2.2.2.2.2.2.2.2.2.1
theorem dX12_king_20 : decode (mB 244) 20 = .ok (.lreturn, 1) := dqo gX12_king_0.2.2.2.2.2.2.2.2.2.2.1
theorem dX12_king_21 : decode (mB 244) 21 = .ok (.aload_n 0, 1) := dqo gX12_king_0.2.2.2.2.2.2.2.2.2.2.2.1
theorem dX12_king_22 : decode (mB 244) 22 = .ok (.invokevirtual 168, 3) := dqo gX12_king_0.2.2.2.2.2.2.2.2.2.2.2.2.1
theorem dX12_king_25 : decode (mB 244) 25 = .ok (.aload_n 0, 1) := dqo gX12_king_0.2.2.2.2.2.2.2.2.2.2.2.2.2.1
theorem dX12_king_26 : decode (mB 244) 26 = .ok (.iload_n 1, 1) := dqo gX12_king_0.2.2.2.2.2.2.2.2.2.2.2.2.2.2.1
theorem dX12_king_27 : decode (mB 244) 27 = .ok (.invokevirtual 175, 3) := dqo gX12_king_0.2.2.2.2.2.2.2.2.2.2.2.2.2.2.2
theorem gX12_king_30 : dq 244 30 (.i2l) 1 = true ∧ dq 244 31 (.aload_n 0) 1 = true ∧ dq 244 32 (.invokevirtual 292) 3 = true ∧ dq 244 35 (.i2l) 1 = true ∧ dq 244 36 (.iload_n 2) 1 = true ∧ dq 244 37 (.invokestatic 288) 3 = true ∧ dq 244 40 (.lreturn) 1 = true := by decide +kernel
theorem dX12_king_30 : decode (mB 244) 30 = .ok (.i2l, 1) := dqo gX12_king_30.1
theorem dX12_king_31 : decode (mB 244) 31 = .ok (.aload_n 0, 1) := dqo gX12_king_30.2.1
theorem dX12_king_32 : decode (mB 244) 32 = .ok (.invokevirtual 292, 3) := dqo gX12_king_30.2.2.1
theorem dX12_king_35 : decode (mB 244) 35 = .ok (.i2l, 1) := dqo gX12_king_30.2.2.2.1
theorem dX12_king_36 : decode (mB 244) 36 = .ok (.iload_n 2, 1) := dqo gX12_king_30.2.2.2.2.1
theorem dX12_king_37 : decode (mB 244) 37 = .ok (.invokestatic 288, 3) := dqo gX12_king_30.2.2.2.2.2.1
theorem dX12_king_40 : decode (mB 244) 40 = .ok (.lreturn, 1) := dqo gX12_king_30.2.2.2.2.2.2
theorem gX12_safe_0 : dq 245 0 (.aload_n 0) 1 = true ∧ dq 245 1 (.invokevirtual 168) 3 = true ∧ dq 245 4 (.iconst 0) 1 = true ∧ dq 245 5 (.istore_n 1) 1 = true ∧ dq 245 6 (.iconst 0) 1 = true ∧ dq 245 7 (.istore_n 2) 1 = true ∧ dq 245 8 (.iload_n 2) 1 = true ∧ dq 245 9 (.aload_n 0) 1 = true ∧ dq 245 10 (.getfield 115) 3 = true ∧ dq 245 13 (.if_icmp .ge 23) 3 = true ∧ dq 245 16 (.aload_n 0) 1 = true ∧ dq 245 17 (.iload_n 2) 1 = true ∧ dq 245 18 (.invokevirtual 175) 3 = true ∧ dq 245 21 (.ifCond .ne 9) 3 = true ∧ dq 245 24 (.iload_n 1) 1 = true ∧ dq 245 25 (.iconst 1) 1 = true := by decide +kernel
theorem dX12_safe_0 : decode (mB 245) 0 = .ok (.aload_n 0, 1) := dqo gX12_safe_0.1
theorem dX12_safe_1 : decode (mB 245) 1 = .ok (.invokevirtual 168, 3) := dqo gX12_safe_0.2.1
theorem dX12_safe_4 : decode (mB 245) 4 = .ok (.iconst 0, 1) := dqo gX12_safe_0.2.2.1
theorem dX12_safe_5 : decode (mB 245) 5 = .ok (.istore_n 1, 1) := dqo gX12_safe_0.2.2.2.1
theorem dX12_safe_6 : decode (mB 245) 6 = .ok (.iconst 0, 1) := dqo gX12_safe_0.2.2.2.2.1
theorem dX12_safe_7 : decode (mB 245) 7 = .ok (.istore_n 2, 1) := dqo gX12_safe_0.2.2.2.2.2.1
theorem dX12_safe_8 : decode (mB 245) 8 = .ok (.iload_n 2, 1) := dqo gX12_safe_0.2.2.2.2.2.2.1
theorem dX12_safe_9 : decode (mB 245) 9 = .ok (.aload_n 0, 1) := dqo gX12_safe_0.2.2.2.2.2.2.2.1
theorem dX12_safe_10 : decode (mB 245) 10 = .ok (.getfield 115, 3) := dqo gX12_safe_0.2.2.2.2.2.2.2.2.1
theorem dX12_safe_13 : decode (mB 245) 13 = .ok (.if_icmp .ge 23, 3) := dqo gX12_safe_0.2.2.2.2.2.2.2.2.2.1
theorem dX12_safe_16 : decode (mB 245) 16 = .ok (.aload_n 0, 1) := dqo gX12_safe_0.2.2.2.2.2.2.2.2.2.2.1
theorem dX12_safe_17 : decode (mB 245) 17 = .ok (.iload_n 2, 1) := dqo gX12_safe_0.2.2.2.2.2.2.2.2.2.2.2.1
theorem dX12_safe_18 : decode (mB 245) 18 = .ok (.invokevirtual 175, 3) := dqo gX12_safe_0.2.2.2.2.2.2.2.2.2.2.2.2.1
theorem dX12_safe_21 : decode (mB 245) 21 = .ok (.ifCond .ne 9, 3) := dqo gX12_safe_0.2.2.2.2.2.2.2.2.2.2.2.2.2.1
theorem dX12_safe_24 : decode (mB 245) 24 = .ok (.iload_n 1, 1) := dqo gX12_safe_0.2.2.2.2.2.2.2.2.2.2.2.2.2.2.1
theorem dX12_safe_25 : decode (mB 245) 25 = .ok (.iconst 1, 1) := dqo gX12_safe_0.2.2.2.2.2.2.2.2.2.2.2.2.2.2.2
theorem gX12_safe_26 : dq 245 26 (.iload_n 2) 1 = true ∧ dq 245 27 (.ishl) 1 = true ∧ dq 245 28 (.ior) 1 = true ∧ dq 245 29 (.istore_n 1) 1 = true ∧ dq 245 30 (.iinc 2 1) 3 = true ∧ dq 245 33 (.goto (-25)) 3 = true ∧ dq 245 36 (.iload_n 1) 1 = true ∧ dq 245 37 (.ireturn) 1 = true := by decide +kernel
theorem dX12_safe_26 : decode (mB 245) 26 = .ok (.iload_n 2, 1) := dqo gX12_safe_26.1
theorem dX12_safe_27 : decode (mB 245) 27 = .ok (.ishl, 1) := dqo gX12_safe_26.2.1
theorem dX12_safe_28 : decode (mB 245) 28 = .ok (.ior, 1) := dqo gX12_safe_26.2.2.1
theorem dX12_safe_29 : decode (mB 245) 29 = .ok (.istore_n 1, 1) := dqo gX12_safe_26.2.2.2.1
theorem dX12_safe_30 : decode (mB 245) 30 = .ok (.iinc 2 1, 3) := dqo gX12_safe_26.2.2.2.2.1
theorem dX12_safe_33 : decode (mB 245) 33 = .ok (.goto (-25), 3) := dqo gX12_safe_26.2.2.2.2.2.1
theorem dX12_safe_36 : decode (mB 245) 36 = .ok (.iload_n 1, 1) := dqo gX12_safe_26.2.2.2.2.2.2.1
theorem dX12_safe_37 : decode (mB 245) 37 = .ok (.ireturn, 1) := dqo gX12_safe_26.2.2.2.2.2.2.2
theorem gX12_likeliest_0 : dq 246 0 (.aload_n 0) 1 = true ∧ dq 246 1 (.invokevirtual 168) 3 = true ∧ dq 246 4 (.bipush (-2)) 2 = true ∧ dq 246 6 (.istore_n 1) 1 = true ∧ dq 246 7 (.iconst 0) 1 = true ∧ dq 246 8 (.istore_n 2) 1 = true ∧ dq 246 9 (.iload_n 2) 1 = true ∧ dq 246 10 (.aload_n 0) 1 = true ∧ dq 246 11 (.getfield 115) 3 = true ∧ dq 246 14 (.if_icmp .ge 36) 3 = true ∧ dq 246 17 (.aload_n 0) 1 = true ∧ dq 246 18 (.iload_n 2) 1 = true ∧ dq 246 19 (.invokevirtual 175) 3 = true ∧ dq 246 22 (.ifCond .le 22) 3 = true ∧ dq 246 25 (.iload_n 1) 1 = true ∧ dq 246 26 (.ifCond .lt 16) 3 = true := by decide +kernel
theorem dX12_likeliest_0 : decode (mB 246) 0 = .ok (.aload_n 0, 1) := dqo gX12_likeliest_0.1
theorem dX12_likeliest_1 : decode (mB 246) 1 = .ok (.invokevirtual 168, 3) := dqo gX12_likeliest_0.2.1
theorem dX12_likeliest_4 : decode (mB 246) 4 = .ok (.bipush (-2), 2) := dqo gX12_likeliest_0.2.2.1
theorem dX12_likeliest_6 : decode (mB 246) 6 = .ok (.istore_n 1, 1) := dqo gX12_likeliest_0.2.2.2.1
theorem dX12_likeliest_7 : decode (mB 246) 7 = .ok (.iconst 0, 1) := dqo gX12_likeliest_0.2.2.2.2.1
theorem dX12_likeliest_8 : decode (mB 246) 8 = .ok (.istore_n 2, 1) := dqo gX12_likeliest_0.2.2.2.2.2.1
theorem dX12_likeliest_9 : decode (mB 246) 9 = .ok (.iload_n 2, 1) := dqo gX12_likeliest_0.2.2.2.2.2.2.1
theorem dX12_likeliest_10 : decode (mB 246) 10 = .ok (.aload_n 0, 1) := dqo gX12_likeliest_0.2.2.2.2.2.2.2.1
theorem dX12_likeliest_11 : decode (mB 246) 11 = .ok (.getfield 115, 3) := dqo gX12_likeliest_0.2.2.2.2.2.2.2.2.1
theorem dX12_likeliest_14 : decode (mB 246) 14 = .ok (.if_icmp .ge 36, 3) := dqo gX12_likeliest_0.2.2.2.2.2.2.2.2.2.1
theorem dX12_likeliest_17 : decode (mB 246) 17 = .ok (.aload_n 0, 1) := dqo gX12_likeliest_0.2.2.2.2.2.2.2.2.2.2.1
theorem dX12_likeliest_18 : decode (mB 246) 18 = .ok (.iload_n 2, 1) := dqo gX12_likeliest_0.2.2.2.2.2.2.2.2.2.2.2.1
theorem dX12_likeliest_19 : decode (mB 246) 19 = .ok (.invokevirtual 175, 3) := dqo gX12_likeliest_0.2.2.2.2.2.2.2.2.2.2.2.2.1
theorem dX12_likeliest_22 : decode (mB 246) 22 = .ok (.ifCond .le 22, 3) := dqo gX12_likeliest_0.2.2.2.2.2.2.2.2.2.2.2.2.2.1
theorem dX12_likeliest_25 : decode (mB 246) 25 = .ok (.iload_n 1, 1) := dqo gX12_likeliest_0.2.2.2.2.2.2.2.2.2.2.2.2.2.2.1
theorem dX12_likeliest_26 : decode (mB 246) 26 = .ok (.ifCond .lt 16, 3) := dqo gX12_likeliest_0.2.2.2.2.2.2.2.2.2.2.2.2.2.2.2
theorem gX12_likeliest_29 : dq 246 29 (.aload_n 0) 1 = true ∧ dq 246 30 (.iload_n 2) 1 = true ∧ dq 246 31 (.invokevirtual 175) 3 = true ∧ dq 246 34 (.aload_n 0) 1 = true ∧ dq 246 35 (.iload_n 1) 1 = true ∧ dq 246 36 (.invokevirtual 175) 3 = true ∧ dq 246 39 (.if_icmp .le 5) 3 = true ∧ dq 246 42 (.iload_n 2) 1 = true ∧ dq 246 43 (.istore_n 1) 1 = true ∧ dq 246 44 (.iinc 2 1) 3 = true ∧ dq 246 47 (.goto (-38)) 3 = true ∧ dq 246 50 (.iload_n 1) 1 = true ∧ dq 246 51 (.ireturn) 1 = true := by decide +kernel
theorem dX12_likeliest_29 : decode (mB 246) 29 = .ok (.aload_n 0, 1) := dqo gX12_likeliest_29.1
theorem dX12_likeliest_30 : decode (mB 246) 30 = .ok (.iload_n 2, 1) := dqo gX12_likeliest_29.2.1
theorem dX12_likeliest_31 : decode (mB 246) 31 = .ok (.invokevirtual 175, 3) := dqo gX12_likeliest_29.2.2.1
theorem dX12_likeliest_34 : decode (mB 246) 34 = .ok (.aload_n 0, 1) := dqo gX12_likeliest_29.2.2.2.1
theorem dX12_likeliest_35 : decode (mB 246) 35 = .ok (.iload_n 1, 1) := dqo gX12_likeliest_29.2.2.2.2.1
theorem dX12_likeliest_36 : decode (mB 246) 36 = .ok (.invokevirtual 175, 3) := dqo gX12_likeliest_29.2.2.2.2.2.1
theorem dX12_likeliest_39 : decode (mB 246) 39 = .ok (.if_icmp .le 5, 3) := dqo gX12_likeliest_29.2.2.2.2.2.2.1
theorem dX12_likeliest_42 : decode (mB 246) 42 = .ok (.iload_n 2, 1) := dqo gX12_likeliest_29.2.2.2.2.2.2.2.1
theorem dX12_likeliest_43 : decode (mB 246) 43 = .ok (.istore_n 1, 1) := dqo gX12_likeliest_29.2.2.2.2.2.2.2.2.1
theorem dX12_likeliest_44 : decode (mB 246) 44 = .ok (.iinc 2 1, 3) := dqo gX12_likeliest_29.2.2.2.2.2.2.2.2.2.1
theorem dX12_likeliest_47 : decode (mB 246) 47 = .ok (.goto (-38), 3) := dqo gX12_likeliest_29.2.2.2.2.2.2.2.2.2.2.1
theorem dX12_likeliest_50 : decode (mB 246) 50 = .ok (.iload_n 1, 1) := dqo gX12_likeliest_29.2.2.2.2.2.2.2.2.2.2.2.1
theorem dX12_likeliest_51 : decode (mB 246) 51 = .ok (.ireturn, 1) := dqo gX12_likeliest_29.2.2.2.2.2.2.2.2.2.2.2.2
theorem gX12_watch_0 : dq 247 0 (.aload_n 0) 1 = true ∧ dq 247 1 (.iload_n 1) 1 = true ∧ dq 247 2 (.invokevirtual 125) 3 = true ∧ dq 247 5 (.ifCond .ne 5) 3 = true ∧ dq 247 8 (.iconst (-1)) 1 = true ∧ dq 247 9 (.ireturn) 1 = true ∧ dq 247 10 (.aload_n 0) 1 = true ∧ dq 247 11 (.invokevirtual 168) 3 = true ∧ dq 247 14 (.bipush (-2)) 2 = true ∧ dq 247 16 (.istore_n 2) 1 = true ∧ dq 247 17 (.iconst 0) 1 = true ∧ dq 247 18 (.istore_n 3) 1 = true ∧ dq 247 19 (.iconst 0) 1 = true ∧ dq 247 20 (.istore 4) 2 = true ∧ dq 247 22 (.iload 4) 2 = true ∧ dq 247 24 (.aload_n 0) 1 = true := by decide +kernel
theorem dX12_watch_0 : decode (mB 247) 0 = .ok (.aload_n 0, 1) := dqo gX12_watch_0.1
theorem dX12_watch_1 : decode (mB 247) 1 = .ok (.iload_n 1, 1) := dqo gX12_watch_0.2.1
theorem dX12_watch_2 : decode (mB 247) 2 = .ok (.invokevirtual 125, 3) := dqo gX12_watch_0.2.2.1
theorem dX12_watch_5 : decode (mB 247) 5 = .ok (.ifCond .ne 5, 3) := dqo gX12_watch_0.2.2.2.1
theorem dX12_watch_8 : decode (mB 247) 8 = .ok (.iconst (-1), 1) := dqo gX12_watch_0.2.2.2.2.1
theorem dX12_watch_9 : decode (mB 247) 9 = .ok (.ireturn, 1) := dqo gX12_watch_0.2.2.2.2.2.1
theorem dX12_watch_10 : decode (mB 247) 10 = .ok (.aload_n 0, 1) := dqo gX12_watch_0.2.2.2.2.2.2.1
theorem dX12_watch_11 : decode (mB 247) 11 = .ok (.invokevirtual 168, 3) := dqo gX12_watch_0.2.2.2.2.2.2.2.1
theorem dX12_watch_14 : decode (mB 247) 14 = .ok (.bipush (-2), 2) := dqo gX12_watch_0.2.2.2.2.2.2.2.2.1
theorem dX12_watch_16 : decode (mB 247) 16 = .ok (.istore_n 2, 1) := dqo gX12_watch_0.2.2.2.2.2.2.2.2.2.1
theorem dX12_watch_17 : decode (mB 247) 17 = .ok (.iconst 0, 1) := dqo gX12_watch_0.2.2.2.2.2.2.2.2.2.2.1
theorem dX12_watch_18 : decode (mB 247) 18 = .ok (.istore_n 3, 1) := dqo gX12_watch_0.2.2.2.2.2.2.2.2.2.2.2.1
theorem dX12_watch_19 : decode (mB 247) 19 = .ok (.iconst 0, 1) := dqo gX12_watch_0.2.2.2.2.2.2.2.2.2.2.2.2.1
theorem dX12_watch_20 : decode (mB 247) 20 = .ok (.istore 4, 2) := dqo gX12_watch_0.2.2.2.2.2.2.2.2.2.2.2.2.2.1
theorem dX12_watch_22 : decode (mB 247) 22 = .ok (.iload 4, 2) := dqo gX12_watch_0.2.2.2.2.2.2.2.2.2.2.2.2.2.2.1
theorem dX12_watch_24 : decode (mB 247) 24 = .ok (.aload_n 0, 1) := dqo gX12_watch_0.2.2.2.2.2.2.2.2.2.2.2.2.2.2.2
theorem gX12_watch_25 : dq 247 25 (.getfield 122) 3 = true ∧ dq 247 28 (.if_icmp .ge 71) 3 = true ∧ dq 247 31 (.aload_n 0) 1 = true ∧ dq 247 32 (.iload 4) 2 = true ∧ dq 247 34 (.iload_n 1) 1 = true ∧ dq 247 35 (.invokevirtual 251) 3 = true ∧ dq 247 38 (.ifCond .ne 6) 3 = true ∧ dq 247 41 (.goto 52) 3 = true ∧ dq 247 44 (.aload_n 0) 1 = true ∧ dq 247 45 (.iload 4) 2 = true ∧ dq 247 47 (.iload_n 1) 1 = true ∧ dq 247 48 (.invokevirtual 260) 3 = true ∧ dq 247 51 (.istore 5) 2 = true ∧ dq 247 53 (.aload_n 0) 1 = true ∧ dq 247 54 (.getfield 74) 3 = true ∧ dq 247 57 (.iload 4) 2 = true := by decide +kernel
theorem dX12_watch_25 : decode (mB 247) 25 = .ok (.getfield 122, 3) := dqo gX12_watch_25.1
theorem dX12_watch_28 : decode (mB 247) 28 = .ok (.if_icmp .ge 71, 3) := dqo gX12_watch_25.2.1
theorem dX12_watch_31 : decode (mB 247) 31 = .ok (.aload_n 0, 1) := dqo gX12_watch_25.2.2.1
theorem dX12_watch_32 : decode (mB 247) 32 = .ok (.iload 4, 2) := dqo gX12_watch_25.2.2.2.1
theorem dX12_watch_34 : decode (mB 247) 34 = .ok (.iload_n 1, 1) := dqo gX12_watch_25.2.2.2.2.1
theorem dX12_watch_35 : decode (mB 247) 35 = .ok (.invokevirtual 251, 3) := dqo gX12_watch_25.2.2.2.2.2.1
theorem dX12_watch_38 : decode (mB 247) 38 = .ok (.ifCond .ne 6, 3) := dqo gX12_watch_25.2.2.2.2.2.2.1
theorem dX12_watch_41 : decode (mB 247) 41 = .ok (.goto 52, 3) := dqo gX12_watch_25.2.2.2.2.2.2.2.1
theorem dX12_watch_44 : decode (mB 247) 44 = .ok (.aload_n 0, 1) := dqo gX12_watch_25.2.2.2.2.2.2.2.2.1
theorem dX12_watch_45 : decode (mB 247) 45 = .ok (.iload 4, 2) := dqo gX12_watch_25.2.2.2.2.2.2.2.2.2.1
theorem dX12_watch_47 : decode (mB 247) 47 = .ok (.iload_n 1, 1) := dqo gX12_watch_25.2.2.2.2.2.2.2.2.2.2.1
theorem dX12_watch_48 : decode (mB 247) 48 = .ok (.invokevirtual 260, 3) := dqo gX12_watch_25.2.2.2.2.2.2.2.2.2.2.2.1
theorem dX12_watch_51 : decode (mB 247) 51 = .ok (.istore 5, 2) := dqo gX12_watch_25.2.2.2.2.2.2.2.2.2.2.2.2.1
theorem dX12_watch_53 : decode (mB 247) 53 = .ok (.aload_n 0, 1) := dqo gX12_watch_25.2.2.2.2.2.2.2.2.2.2.2.2.2.1
theorem dX12_watch_54 : decode (mB 247) 54 = .ok (.getfield 74, 3) := dqo gX12_watch_25.2.2.2.2.2.2.2.2.2.2.2.2.2.2.1
theorem dX12_watch_57 : decode (mB 247) 57 = .ok (.iload 4, 2) := dqo gX12_watch_25.2.2.2.2.2.2.2.2.2.2.2.2.2.2.2
theorem gX12_watch_59 : dq 247 59 (.iaload) 1 = true ∧ dq 247 60 (.istore 6) 2 = true ∧ dq 247 62 (.iload_n 2) 1 = true ∧ dq 247 63 (.ifCond .lt 24) 3 = true ∧ dq 247 66 (.iload 5) 2 = true ∧ dq 247 68 (.iload_n 3) 1 = true ∧ dq 247 69 (.if_icmp .lt 24) 3 = true ∧ dq 247 72 (.iload 5) 2 = true ∧ dq 247 74 (.iload_n 3) 1 = true ∧ dq 247 75 (.if_icmp .ne 12) 3 = true ∧ dq 247 78 (.iload 6) 2 = true ∧ dq 247 80 (.iload_n 2) 1 = true ∧ dq 247 81 (.if_icmp .lt 6) 3 = true ∧ dq 247 84 (.goto 9) 3 = true ∧ dq 247 87 (.iload 6) 2 = true ∧ dq 247 89 (.istore_n 2) 1 = true := by decide +kernel
theorem dX12_watch_59 : decode (mB 247) 59 = .ok (.iaload, 1) := dqo gX12_watch_59.1
theorem dX12_watch_60 : decode (mB 247) 60 = .ok (.istore 6, 2) := dqo gX12_watch_59.2.1
theorem dX12_watch_62 : decode (mB 247) 62 = .ok (.iload_n 2, 1) := dqo gX12_watch_59.2.2.1
theorem dX12_watch_63 : decode (mB 247) 63 = .ok (.ifCond .lt 24, 3) := dqo gX12_watch_59.2.2.2.1
theorem dX12_watch_66 : decode (mB 247) 66 = .ok (.iload 5, 2) := dqo gX12_watch_59.2.2.2.2.1
theorem dX12_watch_68 : decode (mB 247) 68 = .ok (.iload_n 3, 1) := dqo gX12_watch_59.2.2.2.2.2.1
theorem dX12_watch_69 : decode (mB 247) 69 = .ok (.if_icmp .lt 24, 3) := dqo gX12_watch_59.2.2.2.2.2.2.1
theorem dX12_watch_72 : decode (mB 247) 72 = .ok (.iload 5, 2) := dqo gX12_watch_59.2.2.2.2.2.2.2.1
theorem dX12_watch_74 : decode (mB 247) 74 = .ok (.iload_n 3, 1) := dqo gX12_watch_59.2.2.2.2.2.2.2.2.1
theorem dX12_watch_75 : decode (mB 247) 75 = .ok (.if_icmp .ne 12, 3) := dqo gX12_watch_59.2.2.2.2.2.2.2.2.2.1
theorem dX12_watch_78 : decode (mB 247) 78 = .ok (.iload 6, 2) := dqo gX12_watch_59.2.2.2.2.2.2.2.2.2.2.1
theorem dX12_watch_80 : decode (mB 247) 80 = .ok (.iload_n 2, 1) := dqo gX12_watch_59.2.2.2.2.2.2.2.2.2.2.2.1
theorem dX12_watch_81 : decode (mB 247) 81 = .ok (.if_icmp .lt 6, 3) := dqo gX12_watch_59.2.2.2.2.2.2.2.2.2.2.2.2.1
theorem dX12_watch_84 : decode (mB 247) 84 = .ok (.goto 9, 3) := dqo gX12_watch_59.2.2.2.2.2.2.2.2.2.2.2.2.2.1
theorem dX12_watch_87 : decode (mB 247) 87 = .ok (.iload 6, 2) := dqo gX12_watch_59.2.2.2.2.2.2.2.2.2.2.2.2.2.2.1
theorem dX12_watch_89 : decode (mB 247) 89 = .ok (.istore_n 2, 1) := dqo gX12_watch_59.2.2.2.2.2.2.2.2.2.2.2.2.2.2.2
theorem gX12_watch_90 : dq 247 90 (.iload 5) 2 = true ∧ dq 247 92 (.istore_n 3) 1 = true ∧ dq 247 93 (.iinc 4 1) 3 = true ∧ dq 247 96 (.goto (-74)) 3 = true ∧ dq 247 99 (.iload_n 2) 1 = true ∧ dq 247 100 (.ifCond .ge 8) 3 = true ∧ dq 247 103 (.bipush (-2)) 2 = true ∧ dq 247 105 (.goto 9) 3 = true ∧ dq 247 108 (.bipush 100) 2 = true ∧ dq 247 110 (.iload_n 3) 1 = true ∧ dq 247 111 (.imul) 1 = true ∧ dq 247 112 (.iload_n 2) 1 = true ∧ dq 247 113 (.iadd) 1 = true ∧ dq 247 114 (.ireturn) 1 = true := by decide +kernel
theorem dX12_watch_90 : decode (mB 247) 90 = .ok (.iload 5, 2) := dqo gX12_watch_90.1
theorem dX12_watch_92 : decode (mB 247) 92 = .ok (.istore_n 3, 1) := dqo gX12_watch_90.2.1
theorem dX12_watch_93 : decode (mB 247) 93 = .ok (.iinc 4 1, 3) := dqo gX12_watch_90.2.2.1
theorem dX12_watch_96 : decode (mB 247) 96 = .ok (.goto (-74), 3) := dqo gX12_watch_90.2.2.2.1
theorem dX12_watch_99 : decode (mB 247) 99 = .ok (.iload_n 2, 1) := dqo gX12_watch_90.2.2.2.2.1
theorem dX12_watch_100 : decode (mB 247) 100 = .ok (.ifCond .ge 8, 3) := dqo gX12_watch_90.2.2.2.2.2.1
theorem dX12_watch_103 : decode (mB 247) 103 = .ok (.bipush (-2), 2) := dqo gX12_watch_90.2.2.2.2.2.2.1
theorem dX12_watch_105 : decode (mB 247) 105 = .ok (.goto 9, 3) := dqo gX12_watch_90.2.2.2.2.2.2.2.1
theorem dX12_watch_108 : decode (mB 247) 108 = .ok (.bipush 100, 2) := dqo gX12_watch_90.2.2.2.2.2.2.2.2.1
theorem dX12_watch_110 : decode (mB 247) 110 = .ok (.iload_n 3, 1) := dqo gX12_watch_90.2.2.2.2.2.2.2.2.2.1
theorem dX12_watch_111 : decode (mB 247) 111 = .ok (.imul, 1) := dqo gX12_watch_90.2.2.2.2.2.2.2.2.2.2.1
theorem dX12_watch_112 : decode (mB 247) 112 = .ok (.iload_n 2, 1) := dqo gX12_watch_90.2.2.2.2.2.2.2.2.2.2.2.1
theorem dX12_watch_113 : decode (mB 247) 113 = .ok (.iadd, 1) := dqo gX12_watch_90.2.2.2.2.2.2.2.2.2.2.2.2.1
theorem dX12_watch_114 : decode (mB 247) 114 = .ok (.ireturn, 1) := dqo gX12_watch_90.2.2.2.2.2.2.2.2.2.2.2.2.2
theorem gX12_onHour_0 : dq 248 0 (.aload_n 0) 1 = true ∧ dq 248 1 (.getfield 33) 3 = true ∧ dq 248 4 (.iconst 0) 1 = true ∧ dq 248 5 (.iaload) 1 = true ∧ dq 248 6 (.iload_n 1) 1 = true ∧ dq 248 7 (.iadd) 1 = true ∧ dq 248 8 (.bipush 11) 2 = true ∧ dq 248 10 (.if_icmp .le 8) 3 = true ∧ dq 248 13 (.bipush 11) 2 = true ∧ dq 248 15 (.goto 11) 3 = true ∧ dq 248 18 (.aload_n 0) 1 = true ∧ dq 248 19 (.getfield 33) 3 = true ∧ dq 248 22 (.iconst 0) 1 = true ∧ dq 248 23 (.iaload) 1 = true ∧ dq 248 24 (.iload_n 1) 1 = true ∧ dq 248 25 (.iadd) 1 = true := by decide +kernel
theorem dX12_onHour_0 : decode (mB 248) 0 = .ok (.aload_n 0, 1) := dqo gX12_onHour_0.1
theorem dX12_onHour_1 : decode (mB 248) 1 = .ok (.getfield 33, 3) := dqo gX12_onHour_0.2.1
theorem dX12_onHour_4 : decode (mB 248) 4 = .ok (.iconst 0, 1) := dqo gX12_onHour_0.2.2.1
theorem dX12_onHour_5 : decode (mB 248) 5 = .ok (.iaload, 1) := dqo gX12_onHour_0.2.2.2.1
theorem dX12_onHour_6 : decode (mB 248) 6 = .ok (.iload_n 1, 1) := dqo gX12_onHour_0.2.2.2.2.1
theorem dX12_onHour_7 : decode (mB 248) 7 = .ok (.iadd, 1) := dqo gX12_onHour_0.2.2.2.2.2.1
theorem dX12_onHour_8 : decode (mB 248) 8 = .ok (.bipush 11, 2) := dqo gX12_onHour_0.2.2.2.2.2.2.1
theorem dX12_onHour_10 : decode (mB 248) 10 = .ok (.if_icmp .le 8, 3) := dqo gX12_onHour_0.2.2.2.2.2.2.2.1
theorem dX12_onHour_13 : decode (mB 248) 13 = .ok (.bipush 11, 2) := dqo gX12_onHour_0.2.2.2.2.2.2.2.2.1
theorem dX12_onHour_15 : decode (mB 248) 15 = .ok (.goto 11, 3) := dqo gX12_onHour_0.2.2.2.2.2.2.2.2.2.1
theorem dX12_onHour_18 : decode (mB 248) 18 = .ok (.aload_n 0, 1) := dqo gX12_onHour_0.2.2.2.2.2.2.2.2.2.2.1
theorem dX12_onHour_19 : decode (mB 248) 19 = .ok (.getfield 33, 3) := dqo gX12_onHour_0.2.2.2.2.2.2.2.2.2.2.2.1
theorem dX12_onHour_22 : decode (mB 248) 22 = .ok (.iconst 0, 1) := dqo gX12_onHour_0.2.2.2.2.2.2.2.2.2.2.2.2.1
theorem dX12_onHour_23 : decode (mB 248) 23 = .ok (.iaload, 1) := dqo gX12_onHour_0.2.2.2.2.2.2.2.2.2.2.2.2.2.1
theorem dX12_onHour_24 : decode (mB 248) 24 = .ok (.iload_n 1, 1) := dqo gX12_onHour_0.2.2.2.2.2.2.2.2.2.2.2.2.2.2.1
theorem dX12_onHour_25 : decode (mB 248) 25 = .ok (.iadd, 1) := dqo gX12_onHour_0.2.2.2.2.2.2.2.2.2.2.2.2.2.2.2
theorem dX12_onHour_26 : decode (mB 248) 26 = .ok (.ireturn, 1) := dqo (by decide +kernel)
theorem gX12_leftBy_0 : dq 249 0 (.lload 4) 2 = true ∧ dq 249 2 (.lstore 6) 2 = true ∧ dq 249 4 (.iconst 0) 1 = true ∧ dq 249 5 (.istore 8) 2 = true ∧ dq 249 7 (.iload 8) 2 = true ∧ dq 249 9 (.aload_n 0) 1 = true ∧ dq 249 10 (.getfield 122) 3 = true ∧ dq 249 13 (.if_icmp .ge 93) 3 = true ∧ dq 249 16 (.aload_n 0) 1 = true ∧ dq 249 17 (.getfield 74) 3 = true ∧ dq 249 20 (.iload 8) 2 = true ∧ dq 249 22 (.iaload) 1 = true ∧ dq 249 23 (.iload_n 1) 1 = true ∧ dq 249 24 (.if_icmp .ne 76) 3 = true ∧ dq 249 27 (.aload_n 0) 1 = true ∧ dq 249 28 (.getfield 27) 3 = true := by decide +kernel
theorem dX12_leftBy_0 : decode (mB 249) 0 = .ok (.lload 4, 2) := dqo gX12_leftBy_0.1
theorem dX12_leftBy_2 : decode (mB 249) 2 = .ok (.lstore 6, 2) := dqo gX12_leftBy_0.2.1
theorem dX12_leftBy_4 : decode (mB 249) 4 = .ok (.iconst 0, 1) := dqo gX12_leftBy_0.2.2.1
theorem dX12_leftBy_5 : decode (mB 249) 5 = .ok (.istore 8, 2) := dqo gX12_leftBy_0.2.2.2.1
theorem dX12_leftBy_7 : decode (mB 249) 7 = .ok (.iload 8, 2) := dqo gX12_leftBy_0.2.2.2.2.1
theorem dX12_leftBy_9 : decode (mB 249) 9 = .ok (.aload_n 0, 1) := dqo gX12_leftBy_0.2.2.2.2.2.1
theorem dX12_leftBy_10 : decode (mB 249) 10 = .ok (.getfield 122, 3) := dqo gX12_leftBy_0.2.2.2.2.2.2.1
theorem dX12_leftBy_13 : decode (mB 249) 13 = .ok (.if_icmp .ge 93, 3) := dqo gX12_leftBy_0.2.2.2.2.2.2.2.1
theorem dX12_leftBy_16 : decode (mB 249) 16 = .ok (.aload_n 0, 1) := dqo gX12_leftBy_0.2.2.2.2.2.2.2.2.1
theorem dX12_leftBy_17 : decode (mB 249) 17 = .ok (.getfield 74, 3) := dqo gX12_leftBy_0.2.2.2.2.2.2.2.2.2.1
theorem dX12_leftBy_20 : decode (mB 249) 20 = .ok (.iload 8, 2) := dqo gX12_leftBy_0.2.2.2.2.2.2.2.2.2.2.1
theorem dX12_leftBy_22 : decode (mB 249) 22 = .ok (.iaload, 1) := dqo gX12_leftBy_0.2.2.2.2.2.2.2.2.2.2.2.1
theorem dX12_leftBy_23 : decode (mB 249) 23 = .ok (.iload_n 1, 1) := dqo gX12_leftBy_0.2.2.2.2.2.2.2.2.2.2.2.2.1
theorem dX12_leftBy_24 : decode (mB 249) 24 = .ok (.if_icmp .ne 76, 3) := dqo gX12_leftBy_0.2.2.2.2.2.2.2.2.2.2.2.2.2.1
theorem dX12_leftBy_27 : decode (mB 249) 27 = .ok (.aload_n 0, 1) := dqo gX12_leftBy_0.2.2.2.2.2.2.2.2.2.2.2.2.2.2.1
theorem dX12_leftBy_28 : decode (mB 249) 28 = .ok (.getfield 27, 3) := dqo gX12_leftBy_0.2.2.2.2.2.2.2.2.2.2.2.2.2.2.2
theorem gX12_leftBy_31 : dq 249 31 (.iload 8) 2 = true ∧ dq 249 33 (.iaload) 1 = true ∧ dq 249 34 (.iconst 1) 1 = true ∧ dq 249 35 (.if_icmp .ne 6) 3 = true ∧ dq 249 38 (.goto 62) 3 = true ∧ dq 249 41 (.iconst 0) 1 = true ∧ dq 249 42 (.istore 9) 2 = true ∧ dq 249 44 (.iload 9) 2 = true ∧ dq 249 46 (.aload_n 0) 1 = true ∧ dq 249 47 (.getfield 115) 3 = true ∧ dq 249 50 (.if_icmp .ge 50) 3 = true ∧ dq 249 53 (.aload_n 0) 1 = true ∧ dq 249 54 (.iload 8) 2 = true ∧ dq 249 56 (.iload 9) 2 = true ∧ dq 249 58 (.invokevirtual 251) 3 = true ∧ dq 249 61 (.ifCond .ne 6) 3 = true := by decide +kernel
theorem dX12_leftBy_31 : decode (mB 249) 31 = .ok (.iload 8, 2) := dqo gX12_leftBy_31.1
theorem dX12_leftBy_33 : decode (mB 249) 33 = .ok (.iaload, 1) := dqo gX12_leftBy_31.2.1
theorem dX12_leftBy_34 : decode (mB 249) 34 = .ok (.iconst 1, 1) := dqo gX12_leftBy_31.2.2.1
theorem dX12_leftBy_35 : decode (mB 249) 35 = .ok (.if_icmp .ne 6, 3) := dqo gX12_leftBy_31.2.2.2.1
theorem dX12_leftBy_38 : decode (mB 249) 38 = .ok (.goto 62, 3) := dqo gX12_leftBy_31.2.2.2.2.1
theorem dX12_leftBy_41 : decode (mB 249) 41 = .ok (.iconst 0, 1) := dqo gX12_leftBy_31.2.2.2.2.2.1
theorem dX12_leftBy_42 : decode (mB 249) 42 = .ok (.istore 9, 2) := dqo gX12_leftBy_31.2.2.2.2.2.2.1
theorem dX12_leftBy_44 : decode (mB 249) 44 = .ok (.iload 9, 2) := dqo gX12_leftBy_31.2.2.2.2.2.2.2.1
theorem dX12_leftBy_46 : decode (mB 249) 46 = .ok (.aload_n 0, 1) := dqo gX12_leftBy_31.2.2.2.2.2.2.2.2.1
theorem dX12_leftBy_47 : decode (mB 249) 47 = .ok (.getfield 115, 3) := dqo gX12_leftBy_31.2.2.2.2.2.2.2.2.2.1
theorem dX12_leftBy_50 : decode (mB 249) 50 = .ok (.if_icmp .ge 50, 3) := dqo gX12_leftBy_31.2.2.2.2.2.2.2.2.2.2.1
theorem dX12_leftBy_53 : decode (mB 249) 53 = .ok (.aload_n 0, 1) := dqo gX12_leftBy_31.2.2.2.2.2.2.2.2.2.2.2.1
theorem dX12_leftBy_54 : decode (mB 249) 54 = .ok (.iload 8, 2) := dqo gX12_leftBy_31.2.2.2.2.2.2.2.2.2.2.2.2.1
theorem dX12_leftBy_56 : decode (mB 249) 56 = .ok (.iload 9, 2) := dqo gX12_leftBy_31.2.2.2.2.2.2.2.2.2.2.2.2.2.1
theorem dX12_leftBy_58 : decode (mB 249) 58 = .ok (.invokevirtual 251, 3) := dqo gX12_leftBy_31.2.2.2.2.2.2.2.2.2.2.2.2.2.2.1
theorem dX12_leftBy_61 : decode (mB 249) 61 = .ok (.ifCond .ne 6, 3) := dqo gX12_leftBy_31.2.2.2.2.2.2.2.2.2.2.2.2.2.2.2
theorem gX12_leftBy_64 : dq 249 64 (.goto 30) 3 = true ∧ dq 249 67 (.aload_n 0) 1 = true ∧ dq 249 68 (.iload_n 1) 1 = true ∧ dq 249 69 (.iload_n 2) 1 = true ∧ dq 249 70 (.iload_n 3) 1 = true ∧ dq 249 71 (.lload 4) 2 = true ∧ dq 249 73 (.iload 8) 2 = true ∧ dq 249 75 (.iload 9) 2 = true ∧ dq 249 77 (.invokevirtual 295) 3 = true ∧ dq 249 80 (.lstore 10) 2 = true ∧ dq 249 82 (.lload 10) 2 = true ∧ dq 249 84 (.lload 6) 2 = true ∧ dq 249 86 (.lcmp) 1 = true ∧ dq 249 87 (.ifCond .ge 7) 3 = true ∧ dq 249 90 (.lload 10) 2 = true ∧ dq 249 92 (.lstore 6) 2 = true := by decide +kernel
theorem dX12_leftBy_64 : decode (mB 249) 64 = .ok (.goto 30, 3) := dqo gX12_leftBy_64.1
theorem dX12_leftBy_67 : decode (mB 249) 67 = .ok (.aload_n 0, 1) := dqo gX12_leftBy_64.2.1
theorem dX12_leftBy_68 : decode (mB 249) 68 = .ok (.iload_n 1, 1) := dqo gX12_leftBy_64.2.2.1
theorem dX12_leftBy_69 : decode (mB 249) 69 = .ok (.iload_n 2, 1) := dqo gX12_leftBy_64.2.2.2.1
theorem dX12_leftBy_70 : decode (mB 249) 70 = .ok (.iload_n 3, 1) := dqo gX12_leftBy_64.2.2.2.2.1
theorem dX12_leftBy_71 : decode (mB 249) 71 = .ok (.lload 4, 2) := dqo gX12_leftBy_64.2.2.2.2.2.1
theorem dX12_leftBy_73 : decode (mB 249) 73 = .ok (.iload 8, 2) := dqo gX12_leftBy_64.2.2.2.2.2.2.1
theorem dX12_leftBy_75 : decode (mB 249) 75 = .ok (.iload 9, 2) := dqo gX12_leftBy_64.2.2.2.2.2.2.2.1
theorem dX12_leftBy_77 : decode (mB 249) 77 = .ok (.invokevirtual 295, 3) := dqo gX12_leftBy_64.2.2.2.2.2.2.2.2.1
theorem dX12_leftBy_80 : decode (mB 249) 80 = .ok (.lstore 10, 2) := dqo gX12_leftBy_64.2.2.2.2.2.2.2.2.2.1
theorem dX12_leftBy_82 : decode (mB 249) 82 = .ok (.lload 10, 2) := dqo gX12_leftBy_64.2.2.2.2.2.2.2.2.2.2.1
theorem dX12_leftBy_84 : decode (mB 249) 84 = .ok (.lload 6, 2) := dqo gX12_leftBy_64.2.2.2.2.2.2.2.2.2.2.2.1
theorem dX12_leftBy_86 : decode (mB 249) 86 = .ok (.lcmp, 1) := dqo gX12_leftBy_64.2.2.2.2.2.2.2.2.2.2.2.2.1
theorem dX12_leftBy_87 : decode (mB 249) 87 = .ok (.ifCond .ge 7, 3) := dqo gX12_leftBy_64.2.2.2.2.2.2.2.2.2.2.2.2.2.1
theorem dX12_leftBy_90 : decode (mB 249) 90 = .ok (.lload 10, 2) := dqo gX12_leftBy_64.2.2.2.2.2.2.2.2.2.2.2.2.2.2.1
theorem dX12_leftBy_92 : decode (mB 249) 92 = .ok (.lstore 6, 2) := dqo gX12_leftBy_64.2.2.2.2.2.2.2.2.2.2.2.2.2.2.2
theorem gX12_leftBy_94 : dq 249 94 (.iinc 9 1) 3 = true ∧ dq 249 97 (.goto (-53)) 3 = true ∧ dq 249 100 (.iinc 8 1) 3 = true ∧ dq 249 103 (.goto (-96)) 3 = true ∧ dq 249 106 (.lload 6) 2 = true ∧ dq 249 108 (.lreturn) 1 = true := by decide +kernel
theorem dX12_leftBy_94 : decode (mB 249) 94 = .ok (.iinc 9 1, 3) := dqo gX12_leftBy_94.1
theorem dX12_leftBy_97 : decode (mB 249) 97 = .ok (.goto (-53), 3) := dqo gX12_leftBy_94.2.1
theorem dX12_leftBy_100 : decode (mB 249) 100 = .ok (.iinc 8 1, 3) := dqo gX12_leftBy_94.2.2.1
theorem dX12_leftBy_103 : decode (mB 249) 103 = .ok (.goto (-96), 3) := dqo gX12_leftBy_94.2.2.2.1
theorem dX12_leftBy_106 : decode (mB 249) 106 = .ok (.lload 6, 2) := dqo gX12_leftBy_94.2.2.2.2.1
theorem dX12_leftBy_108 : decode (mB 249) 108 = .ok (.lreturn, 1) := dqo gX12_leftBy_94.2.2.2.2.2
theorem gX12_slipBy_0 : dq 250 0 (.aload_n 0) 1 = true ∧ dq 250 1 (.aload_n 0) 1 = true ∧ dq 250 2 (.iload_n 3) 1 = true ∧ dq 250 3 (.invokevirtual 299) 3 = true ∧ dq 250 6 (.putfield 248) 3 = true ∧ dq 250 9 (.aload_n 0) 1 = true ∧ dq 250 10 (.iload 6) 2 = true ∧ dq 250 12 (.iload 7) 2 = true ∧ dq 250 14 (.invokevirtual 260) 3 = true ∧ dq 250 17 (.istore 8) 2 = true ∧ dq 250 19 (.iload 8) 2 = true ∧ dq 250 21 (.ifCond .ne 6) 3 = true ∧ dq 250 24 (.lload 4) 2 = true ∧ dq 250 26 (.lreturn) 1 = true ∧ dq 250 27 (.aload_n 0) 1 = true ∧ dq 250 28 (.getfield 74) 3 = true := by decide +kernel
theorem dX12_slipBy_0 : decode (mB 250) 0 = .ok (.aload_n 0, 1) := dqo gX12_slipBy_0.1
theorem dX12_slipBy_1 : decode (mB 250) 1 = .ok (.aload_n 0, 1) := dqo gX12_slipBy_0.2.1
theorem dX12_slipBy_2 : decode (mB 250) 2 = .ok (.iload_n 3, 1) := dqo gX12_slipBy_0.2.2.1
theorem dX12_slipBy_3 : decode (mB 250) 3 = .ok (.invokevirtual 299, 3) := dqo gX12_slipBy_0.2.2.2.1
theorem dX12_slipBy_6 : decode (mB 250) 6 = .ok (.putfield 248, 3) := dqo gX12_slipBy_0.2.2.2.2.1
theorem dX12_slipBy_9 : decode (mB 250) 9 = .ok (.aload_n 0, 1) := dqo gX12_slipBy_0.2.2.2.2.2.1
theorem dX12_slipBy_10 : decode (mB 250) 10 = .ok (.iload 6, 2) := dqo gX12_slipBy_0.2.2.2.2.2.2.1
theorem dX12_slipBy_12 : decode (mB 250) 12 = .ok (.iload 7, 2) := dqo gX12_slipBy_0.2.2.2.2.2.2.2.1
theorem dX12_slipBy_14 : decode (mB 250) 14 = .ok (.invokevirtual 260, 3) := dqo gX12_slipBy_0.2.2.2.2.2.2.2.2.1
theorem dX12_slipBy_17 : decode (mB 250) 17 = .ok (.istore 8, 2) := dqo gX12_slipBy_0.2.2.2.2.2.2.2.2.2.1
theorem dX12_slipBy_19 : decode (mB 250) 19 = .ok (.iload 8, 2) := dqo gX12_slipBy_0.2.2.2.2.2.2.2.2.2.2.1
theorem dX12_slipBy_21 : decode (mB 250) 21 = .ok (.ifCond .ne 6, 3) := dqo gX12_slipBy_0.2.2.2.2.2.2.2.2.2.2.2.1
theorem dX12_slipBy_24 : decode (mB 250) 24 = .ok (.lload 4, 2) := dqo gX12_slipBy_0.2.2.2.2.2.2.2.2.2.2.2.2.1
theorem dX12_slipBy_26 : decode (mB 250) 26 = .ok (.lreturn, 1) := dqo gX12_slipBy_0.2.2.2.2.2.2.2.2.2.2.2.2.2.1
theorem dX12_slipBy_27 : decode (mB 250) 27 = .ok (.aload_n 0, 1) := dqo gX12_slipBy_0.2.2.2.2.2.2.2.2.2.2.2.2.2.2.1
theorem dX12_slipBy_28 : decode (mB 250) 28 = .ok (.getfield 74, 3) := dqo gX12_slipBy_0.2.2.2.2.2.2.2.2.2.2.2.2.2.2.2
theorem gX12_slipBy_31 : dq 250 31 (.iload 6) 2 = true ∧ dq 250 33 (.iload 7) 2 = true ∧ dq 250 35 (.iastore) 1 = true ∧ dq 250 36 (.iload 8) 2 = true ∧ dq 250 38 (.i2l) 1 = true ∧ dq 250 39 (.aload_n 0) 1 = true ∧ dq 250 40 (.iload_n 1) 1 = true ∧ dq 250 41 (.iload_n 2) 1 = true ∧ dq 250 42 (.iconst 1) 1 = true ∧ dq 250 43 (.isub) 1 = true ∧ dq 250 44 (.iload_n 3) 1 = true ∧ dq 250 45 (.iconst 1) 1 = true ∧ dq 250 46 (.iadd) 1 = true ∧ dq 250 47 (.invokevirtual 302) 3 = true ∧ dq 250 50 (.lmul) 1 = true ∧ dq 250 51 (.bipush 12) 2 = true := by decide +kernel
theorem dX12_slipBy_31 : decode (mB 250) 31 = .ok (.iload 6, 2) := dqo gX12_slipBy_31.1
theorem dX12_slipBy_33 : decode (mB 250) 33 = .ok (.iload 7, 2) := dqo gX12_slipBy_31.2.1
theorem dX12_slipBy_35 : decode (mB 250) 35 = .ok (.iastore, 1) := dqo gX12_slipBy_31.2.2.1
theorem dX12_slipBy_36 : decode (mB 250) 36 = .ok (.iload 8, 2) := dqo gX12_slipBy_31.2.2.2.1
theorem dX12_slipBy_38 : decode (mB 250) 38 = .ok (.i2l, 1) := dqo gX12_slipBy_31.2.2.2.2.1
theorem dX12_slipBy_39 : decode (mB 250) 39 = .ok (.aload_n 0, 1) := dqo gX12_slipBy_31.2.2.2.2.2.1
theorem dX12_slipBy_40 : decode (mB 250) 40 = .ok (.iload_n 1, 1) := dqo gX12_slipBy_31.2.2.2.2.2.2.1
theorem dX12_slipBy_41 : decode (mB 250) 41 = .ok (.iload_n 2, 1) := dqo gX12_slipBy_31.2.2.2.2.2.2.2.1
theorem dX12_slipBy_42 : decode (mB 250) 42 = .ok (.iconst 1, 1) := dqo gX12_slipBy_31.2.2.2.2.2.2.2.2.1
theorem dX12_slipBy_43 : decode (mB 250) 43 = .ok (.isub, 1) := dqo gX12_slipBy_31.2.2.2.2.2.2.2.2.2.1
theorem dX12_slipBy_44 : decode (mB 250) 44 = .ok (.iload_n 3, 1) := dqo gX12_slipBy_31.2.2.2.2.2.2.2.2.2.2.1
theorem dX12_slipBy_45 : decode (mB 250) 45 = .ok (.iconst 1, 1) := dqo gX12_slipBy_31.2.2.2.2.2.2.2.2.2.2.2.1
theorem dX12_slipBy_46 : decode (mB 250) 46 = .ok (.iadd, 1) := dqo gX12_slipBy_31.2.2.2.2.2.2.2.2.2.2.2.2.1
theorem dX12_slipBy_47 : decode (mB 250) 47 = .ok (.invokevirtual 302, 3) := dqo gX12_slipBy_31.2.2.2.2.2.2.2.2.2.2.2.2.2.1
theorem dX12_slipBy_50 : decode (mB 250) 50 = .ok (.lmul, 1) := dqo gX12_slipBy_31.2.2.2.2.2.2.2.2.2.2.2.2.2.2.1
theorem dX12_slipBy_51 : decode (mB 250) 51 = .ok (.bipush 12, 2) := dqo gX12_slipBy_31.2.2.2.2.2.2.2.2.2.2.2.2.2.2.2
theorem gX12_slipBy_53 : dq 250 53 (.iload 8) 2 = true ∧ dq 250 55 (.isub) 1 = true ∧ dq 250 56 (.i2l) 1 = true ∧ dq 250 57 (.lload 4) 2 = true ∧ dq 250 59 (.ldc2_w 286) 3 = true ∧ dq 250 62 (.ldiv) 1 = true ∧ dq 250 63 (.lmul) 1 = true ∧ dq 250 64 (.ladd) 1 = true ∧ dq 250 65 (.lstore 9) 2 = true ∧ dq 250 67 (.aload_n 0) 1 = true ∧ dq 250 68 (.getfield 74) 3 = true ∧ dq 250 71 (.iload 6) 2 = true ∧ dq 250 73 (.iload_n 1) 1 = true ∧ dq 250 74 (.iastore) 1 = true ∧ dq 250 75 (.lload 9) 2 = true ∧ dq 250 77 (.lreturn) 1 = true := by decide +kernel
theorem dX12_slipBy_53 : decode (mB 250) 53 = .ok (.iload 8, 2) := dqo gX12_slipBy_53.1
theorem dX12_slipBy_55 : decode (mB 250) 55 = .ok (.isub, 1) := dqo gX12_slipBy_53.2.1
theorem dX12_slipBy_56 : decode (mB 250) 56 = .ok (.i2l, 1) := dqo gX12_slipBy_53.2.2.1
theorem dX12_slipBy_57 : decode (mB 250) 57 = .ok (.lload 4, 2) := dqo gX12_slipBy_53.2.2.2.1
theorem dX12_slipBy_59 : decode (mB 250) 59 = .ok (.ldc2_w 286, 3) := dqo gX12_slipBy_53.2.2.2.2.1
theorem dX12_slipBy_62 : decode (mB 250) 62 = .ok (.ldiv, 1) := dqo gX12_slipBy_53.2.2.2.2.2.1
theorem dX12_slipBy_63 : decode (mB 250) 63 = .ok (.lmul, 1) := dqo gX12_slipBy_53.2.2.2.2.2.2.1
theorem dX12_slipBy_64 : decode (mB 250) 64 = .ok (.ladd, 1) := dqo gX12_slipBy_53.2.2.2.2.2.2.2.1
theorem dX12_slipBy_65 : decode (mB 250) 65 = .ok (.lstore 9, 2) := dqo gX12_slipBy_53.2.2.2.2.2.2.2.2.1
theorem dX12_slipBy_67 : decode (mB 250) 67 = .ok (.aload_n 0, 1) := dqo gX12_slipBy_53.2.2.2.2.2.2.2.2.2.1
theorem dX12_slipBy_68 : decode (mB 250) 68 = .ok (.getfield 74, 3) := dqo gX12_slipBy_53.2.2.2.2.2.2.2.2.2.2.1
theorem dX12_slipBy_71 : decode (mB 250) 71 = .ok (.iload 6, 2) := dqo gX12_slipBy_53.2.2.2.2.2.2.2.2.2.2.2.1
theorem dX12_slipBy_73 : decode (mB 250) 73 = .ok (.iload_n 1, 1) := dqo gX12_slipBy_53.2.2.2.2.2.2.2.2.2.2.2.2.1
theorem dX12_slipBy_74 : decode (mB 250) 74 = .ok (.iastore, 1) := dqo gX12_slipBy_53.2.2.2.2.2.2.2.2.2.2.2.2.2.1
theorem dX12_slipBy_75 : decode (mB 250) 75 = .ok (.lload 9, 2) := dqo gX12_slipBy_53.2.2.2.2.2.2.2.2.2.2.2.2.2.2.1
theorem dX12_slipBy_77 : decode (mB 250) 77 = .ok (.lreturn, 1) := dqo gX12_slipBy_53.2.2.2.2.2.2.2.2.2.2.2.2.2.2.2
theorem gX12_leftOf_0 : dq 251 0 (.iload_n 2) 1 = true ∧ dq 251 1 (.ifCond .ne 10) 3 = true ∧ dq 251 4 (.aload_n 0) 1 = true ∧ dq 251 5 (.iload_n 1) 1 = true ∧ dq 251 6 (.invokevirtual 175) 3 = true ∧ dq 251 9 (.i2l) 1 = true ∧ dq 251 10 (.lreturn) 1 = true ∧ dq 251 11 (.aload_n 0) 1 = true ∧ dq 251 12 (.iload_n 1) 1 = true ∧ dq 251 13 (.iload_n 2) 1 = true ∧ dq 251 14 (.iload_n 3) 1 = true ∧ dq 251 15 (.ldc2_w 286) 3 = true ∧ dq 251 18 (.aload_n 0) 1 = true ∧ dq 251 19 (.iload_n 1) 1 = true ∧ dq 251 20 (.iload_n 2) 1 = true ∧ dq 251 21 (.iconst 1) 1 = true := by decide +kernel
theorem dX12_leftOf_0 : decode (mB 251) 0 = .ok (.iload_n 2, 1) := dqo gX12_leftOf_0.1
theorem dX12_leftOf_1 : decode (mB 251) 1 = .ok (.ifCond .ne 10, 3) := dqo gX12_leftOf_0.2.1
theorem dX12_leftOf_4 : decode (mB 251) 4 = .ok (.aload_n 0, 1) := dqo gX12_leftOf_0.2.2.1
theorem dX12_leftOf_5 : decode (mB 251) 5 = .ok (.iload_n 1, 1) := dqo gX12_leftOf_0.2.2.2.1
theorem dX12_leftOf_6 : decode (mB 251) 6 = .ok (.invokevirtual 175, 3) := dqo gX12_leftOf_0.2.2.2.2.1
theorem dX12_leftOf_9 : decode (mB 251) 9 = .ok (.i2l, 1) := dqo gX12_leftOf_0.2.2.2.2.2.1
theorem dX12_leftOf_10 : decode (mB 251) 10 = .ok (.lreturn, 1) := dqo gX12_leftOf_0.2.2.2.2.2.2.1
theorem dX12_leftOf_11 : decode (mB 251) 11 = .ok (.aload_n 0, 1) := dqo gX12_leftOf_0.2.2.2.2.2.2.2.1
theorem dX12_leftOf_12 : decode (mB 251) 12 = .ok (.iload_n 1, 1) := dqo gX12_leftOf_0.2.2.2.2.2.2.2.2.1
theorem dX12_leftOf_13 : decode (mB 251) 13 = .ok (.iload_n 2, 1) := dqo gX12_leftOf_0.2.2.2.2.2.2.2.2.2.1
theorem dX12_leftOf_14 : decode (mB 251) 14 = .ok (.iload_n 3, 1) := dqo gX12_leftOf_0.2.2.2.2.2.2.2.2.2.2.1
theorem dX12_leftOf_15 : decode (mB 251) 15 = .ok (.ldc2_w 286, 3) := dqo gX12_leftOf_0.2.2.2.2.2.2.2.2.2.2.2.1
theorem dX12_leftOf_18 : decode (mB 251) 18 = .ok (.aload_n 0, 1) := dqo gX12_leftOf_0.2.2.2.2.2.2.2.2.2.2.2.2.1
theorem dX12_leftOf_19 : decode (mB 251) 19 = .ok (.iload_n 1, 1) := dqo gX12_leftOf_0.2.2.2.2.2.2.2.2.2.2.2.2.2.1
theorem dX12_leftOf_20 : decode (mB 251) 20 = .ok (.iload_n 2, 1) := dqo gX12_leftOf_0.2.2.2.2.2.2.2.2.2.2.2.2.2.2.1
theorem dX12_leftOf_21 : decode (mB 251) 21 = .ok (.iconst 1, 1) := dqo gX12_leftOf_0.2.2.2.2.2.2.2.2.2.2.2.2.2.2.2
theorem gX12_leftOf_22 : dq 251 22 (.isub) 1 = true ∧ dq 251 23 (.iload_n 3) 1 = true ∧ dq 251 24 (.iconst 1) 1 = true ∧ dq 251 25 (.iadd) 1 = true ∧ dq 251 26 (.invokevirtual 302) 3 = true ∧ dq 251 29 (.lmul) 1 = true ∧ dq 251 30 (.invokevirtual 306) 3 = true ∧ dq 251 33 (.lreturn) 1 = true := by decide +kernel
theorem dX12_leftOf_22 : decode (mB 251) 22 = .ok (.isub, 1) := dqo gX12_leftOf_22.1
theorem dX12_leftOf_23 : decode (mB 251) 23 = .ok (.iload_n 3, 1) := dqo gX12_leftOf_22.2.1
theorem dX12_leftOf_24 : decode (mB 251) 24 = .ok (.iconst 1, 1) := dqo gX12_leftOf_22.2.2.1
theorem dX12_leftOf_25 : decode (mB 251) 25 = .ok (.iadd, 1) := dqo gX12_leftOf_22.2.2.2.1
theorem dX12_leftOf_26 : decode (mB 251) 26 = .ok (.invokevirtual 302, 3) := dqo gX12_leftOf_22.2.2.2.2.1
theorem dX12_leftOf_29 : decode (mB 251) 29 = .ok (.lmul, 1) := dqo gX12_leftOf_22.2.2.2.2.2.1
theorem dX12_leftOf_30 : decode (mB 251) 30 = .ok (.invokevirtual 306, 3) := dqo gX12_leftOf_22.2.2.2.2.2.2.1
theorem dX12_leftOf_33 : decode (mB 251) 33 = .ok (.lreturn, 1) := dqo gX12_leftOf_22.2.2.2.2.2.2.2
theorem gX12_rid_0 : dq 252 0 (.aload_n 0) 1 = true ∧ dq 252 1 (.iload_n 1) 1 = true ∧ dq 252 2 (.invokevirtual 125) 3 = true ∧ dq 252 5 (.ifCond .eq 21) 3 = true ∧ dq 252 8 (.iload_n 2) 1 = true ∧ dq 252 9 (.iconst 0) 1 = true ∧ dq 252 10 (.iconst 3) 1 = true ∧ dq 252 11 (.invokestatic 118) 3 = true ∧ dq 252 14 (.ifCond .eq 12) 3 = true ∧ dq 252 17 (.iload_n 3) 1 = true ∧ dq 252 18 (.iconst 0) 1 = true ∧ dq 252 19 (.iconst 1) 1 = true ∧ dq 252 20 (.invokestatic 118) 3 = true ∧ dq 252 23 (.ifCond .ne 7) 3 = true ∧ dq 252 26 (.ldc2_w 284) 3 = true ∧ dq 252 29 (.lreturn) 1 = true := by decide +kernel
theorem dX12_rid_0 : decode (mB 252) 0 = .ok (.aload_n 0, 1) := dqo gX12_rid_0.1
theorem dX12_rid_1 : decode (mB 252) 1 = .ok (.iload_n 1, 1) := dqo gX12_rid_0.2.1
theorem dX12_rid_2 : decode (mB 252) 2 = .ok (.invokevirtual 125, 3) := dqo gX12_rid_0.2.2.1
theorem dX12_rid_5 : decode (mB 252) 5 = .ok (.ifCond .eq 21, 3) := dqo gX12_rid_0.2.2.2.1
theorem dX12_rid_8 : decode (mB 252) 8 = .ok (.iload_n 2, 1) := dqo gX12_rid_0.2.2.2.2.1
theorem dX12_rid_9 : decode (mB 252) 9 = .ok (.iconst 0, 1) := dqo gX12_rid_0.2.2.2.2.2.1
theorem dX12_rid_10 : decode (mB 252) 10 = .ok (.iconst 3, 1) := dqo gX12_rid_0.2.2.2.2.2.2.1
theorem dX12_rid_11 : decode (mB 252) 11 = .ok (.invokestatic 118, 3) := dqo gX12_rid_0.2.2.2.2.2.2.2.1
theorem dX12_rid_14 : decode (mB 252) 14 = .ok (.ifCond .eq 12, 3) := dqo gX12_rid_0.2.2.2.2.2.2.2.2.1
theorem dX12_rid_17 : decode (mB 252) 17 = .ok (.iload_n 3, 1) := dqo gX12_rid_0.2.2.2.2.2.2.2.2.2.1
theorem dX12_rid_18 : decode (mB 252) 18 = .ok (.iconst 0, 1) := dqo gX12_rid_0.2.2.2.2.2.2.2.2.2.2.1
theorem dX12_rid_19 : decode (mB 252) 19 = .ok (.iconst 1, 1) := dqo gX12_rid_0.2.2.2.2.2.2.2.2.2.2.2.1
theorem dX12_rid_20 : decode (mB 252) 20 = .ok (.invokestatic 118, 3) := dqo gX12_rid_0.2.2.2.2.2.2.2.2.2.2.2.2.1
theorem dX12_rid_23 : decode (mB 252) 23 = .ok (.ifCond .ne 7, 3) := dqo gX12_rid_0.2.2.2.2.2.2.2.2.2.2.2.2.2.1
theorem dX12_rid_26 : decode (mB 252) 26 = .ok (.ldc2_w 284, 3) := dqo gX12_rid_0.2.2.2.2.2.2.2.2.2.2.2.2.2.2.1
theorem dX12_rid_29 : decode (mB 252) 29 = .ok (.lreturn, 1) := dqo gX12_rid_0.2.2.2.2.2.2.2.2.2.2.2.2.2.2.2
theorem gX12_rid_30 : dq 252 30 (.aload_n 0) 1 = true ∧ dq 252 31 (.invokevirtual 168) 3 = true ∧ dq 252 34 (.aload_n 0) 1 = true ∧ dq 252 35 (.invokevirtual 292) 3 = true ∧ dq 252 38 (.i2l) 1 = true ∧ dq 252 39 (.lstore 4) 2 = true ∧ dq 252 41 (.lload 4) 2 = true ∧ dq 252 43 (.lconst 0) 1 = true ∧ dq 252 44 (.lcmp) 1 = true ∧ dq 252 45 (.ifCond .ne 5) 3 = true ∧ dq 252 48 (.lconst 1) 1 = true ∧ dq 252 49 (.lreturn) 1 = true ∧ dq 252 50 (.iconst 0) 1 = true ∧ dq 252 51 (.istore 6) 2 = true ∧ dq 252 53 (.iload 6) 2 = true ∧ dq 252 55 (.iload_n 2) 1 = true := by decide +kernel
theorem dX12_rid_30 : decode (mB 252) 30 = .ok (.aload_n 0, 1) := dqo gX12_rid_30.1
theorem dX12_rid_31 : decode (mB 252) 31 = .ok (.invokevirtual 168, 3) := dqo gX12_rid_30.2.1
theorem dX12_rid_34 : decode (mB 252) 34 = .ok (.aload_n 0, 1) := dqo gX12_rid_30.2.2.1
theorem dX12_rid_35 : decode (mB 252) 35 = .ok (.invokevirtual 292, 3) := dqo gX12_rid_30.2.2.2.1
theorem dX12_rid_38 : decode (mB 252) 38 = .ok (.i2l, 1) := dqo gX12_rid_30.2.2.2.2.1
theorem dX12_rid_39 : decode (mB 252) 39 = .ok (.lstore 4, 2) := dqo gX12_rid_30.2.2.2.2.2.1
theorem dX12_rid_41 : decode (mB 252) 41 = .ok (.lload 4, 2) := dqo gX12_rid_30.2.2.2.2.2.2.1
theorem dX12_rid_43 : decode (mB 252) 43 = .ok (.lconst 0, 1) := dqo gX12_rid_30.2.2.2.2.2.2.2.1
theorem dX12_rid_44 : decode (mB 252) 44 = .ok (.lcmp, 1) := dqo gX12_rid_30.2.2.2.2.2.2.2.2.1
theorem dX12_rid_45 : decode (mB 252) 45 = .ok (.ifCond .ne 5, 3) := dqo gX12_rid_30.2.2.2.2.2.2.2.2.2.1
theorem dX12_rid_48 : decode (mB 252) 48 = .ok (.lconst 1, 1) := dqo gX12_rid_30.2.2.2.2.2.2.2.2.2.2.1
theorem dX12_rid_49 : decode (mB 252) 49 = .ok (.lreturn, 1) := dqo gX12_rid_30.2.2.2.2.2.2.2.2.2.2.2.1
theorem dX12_rid_50 : decode (mB 252) 50 = .ok (.iconst 0, 1) := dqo gX12_rid_30.2.2.2.2.2.2.2.2.2.2.2.2.1
theorem dX12_rid_51 : decode (mB 252) 51 = .ok (.istore 6, 2) := dqo gX12_rid_30.2.2.2.2.2.2.2.2.2.2.2.2.2.1
theorem dX12_rid_53 : decode (mB 252) 53 = .ok (.iload 6, 2) := dqo gX12_rid_30.2.2.2.2.2.2.2.2.2.2.2.2.2.2.1
theorem dX12_rid_55 : decode (mB 252) 55 = .ok (.iload_n 2, 1) := dqo gX12_rid_30.2.2.2.2.2.2.2.2.2.2.2.2.2.2.2
theorem gX12_rid_56 : dq 252 56 (.if_icmp .ge 17) 3 = true ∧ dq 252 59 (.lload 4) 2 = true ∧ dq 252 61 (.ldc2_w 286) 3 = true ∧ dq 252 64 (.lmul) 1 = true ∧ dq 252 65 (.lstore 4) 2 = true ∧ dq 252 67 (.iinc 6 1) 3 = true ∧ dq 252 70 (.goto (-17)) 3 = true ∧ dq 252 73 (.lload 4) 2 = true ∧ dq 252 75 (.aload_n 0) 1 = true ∧ dq 252 76 (.iload_n 1) 1 = true ∧ dq 252 77 (.iload_n 2) 1 = true ∧ dq 252 78 (.iconst 0) 1 = true ∧ dq 252 79 (.invokevirtual 302) 3 = true ∧ dq 252 82 (.lsub) 1 = true ∧ dq 252 83 (.lload 4) 2 = true ∧ dq 252 85 (.iload_n 3) 1 = true := by decide +kernel
theorem dX12_rid_56 : decode (mB 252) 56 = .ok (.if_icmp .ge 17, 3) := dqo gX12_rid_56.1
theorem dX12_rid_59 : decode (mB 252) 59 = .ok (.lload 4, 2) := dqo gX12_rid_56.2.1
theorem dX12_rid_61 : decode (mB 252) 61 = .ok (.ldc2_w 286, 3) := dqo gX12_rid_56.2.2.1
theorem dX12_rid_64 : decode (mB 252) 64 = .ok (.lmul, 1) := dqo gX12_rid_56.2.2.2.1
theorem dX12_rid_65 : decode (mB 252) 65 = .ok (.lstore 4, 2) := dqo gX12_rid_56.2.2.2.2.1
theorem dX12_rid_67 : decode (mB 252) 67 = .ok (.iinc 6 1, 3) := dqo gX12_rid_56.2.2.2.2.2.1
theorem dX12_rid_70 : decode (mB 252) 70 = .ok (.goto (-17), 3) := dqo gX12_rid_56.2.2.2.2.2.2.1
theorem dX12_rid_73 : decode (mB 252) 73 = .ok (.lload 4, 2) := dqo gX12_rid_56.2.2.2.2.2.2.2.1
theorem dX12_rid_75 : decode (mB 252) 75 = .ok (.aload_n 0, 1) := dqo gX12_rid_56.2.2.2.2.2.2.2.2.1
theorem dX12_rid_76 : decode (mB 252) 76 = .ok (.iload_n 1, 1) := dqo gX12_rid_56.2.2.2.2.2.2.2.2.2.1
theorem dX12_rid_77 : decode (mB 252) 77 = .ok (.iload_n 2, 1) := dqo gX12_rid_56.2.2.2.2.2.2.2.2.2.2.1
theorem dX12_rid_78 : decode (mB 252) 78 = .ok (.iconst 0, 1) := dqo gX12_rid_56.2.2.2.2.2.2.2.2.2.2.2.1
theorem dX12_rid_79 : decode (mB 252) 79 = .ok (.invokevirtual 302, 3) := dqo gX12_rid_56.2.2.2.2.2.2.2.2.2.2.2.2.1
theorem dX12_rid_82 : decode (mB 252) 82 = .ok (.lsub, 1) := dqo gX12_rid_56.2.2.2.2.2.2.2.2.2.2.2.2.2.1
theorem dX12_rid_83 : decode (mB 252) 83 = .ok (.lload 4, 2) := dqo gX12_rid_56.2.2.2.2.2.2.2.2.2.2.2.2.2.2.1
theorem dX12_rid_85 : decode (mB 252) 85 = .ok (.iload_n 3, 1) := dqo gX12_rid_56.2.2.2.2.2.2.2.2.2.2.2.2.2.2.2
theorem gX12_rid_86 : dq 252 86 (.invokestatic 288) 3 = true ∧ dq 252 89 (.lreturn) 1 = true := by decide +kernel
theorem dX12_rid_86 : decode (mB 252) 86 = .ok (.invokestatic 288, 3) := dqo gX12_rid_86.1
theorem dX12_rid_89 : decode (mB 252) 89 = .ok (.lreturn, 1) := dqo gX12_rid_86.2
theorem gX12_first_0 : dq 253 0 (.aload_n 0) 1 = true ∧ dq 253 1 (.iload_n 1) 1 = true ∧ dq 253 2 (.invokevirtual 125) 3 = true ∧ dq 253 5 (.ifCond .eq 12) 3 = true ∧ dq 253 8 (.iload_n 2) 1 = true ∧ dq 253 9 (.iconst 0) 1 = true ∧ dq 253 10 (.iconst 3) 1 = true ∧ dq 253 11 (.invokestatic 118) 3 = true ∧ dq 253 14 (.ifCond .ne 5) 3 = true ∧ dq 253 17 (.iconst (-1)) 1 = true ∧ dq 253 18 (.ireturn) 1 = true ∧ dq 253 19 (.aload_n 0) 1 = true ∧ dq 253 20 (.invokevirtual 168) 3 = true ∧ dq 253 23 (.iload_n 2) 1 = true ∧ dq 253 24 (.ifCond .ne 6) 3 = true ∧ dq 253 27 (.bipush (-2)) 2 = true := by decide +kernel
theorem dX12_first_0 : decode (mB 253) 0 = .ok (.aload_n 0, 1) := dqo gX12_first_0.1
theorem dX12_first_1 : decode (mB 253) 1 = .ok (.iload_n 1, 1) := dqo gX12_first_0.2.1
theorem dX12_first_2 : decode (mB 253) 2 = .ok (.invokevirtual 125, 3) := dqo gX12_first_0.2.2.1
theorem dX12_first_5 : decode (mB 253) 5 = .ok (.ifCond .eq 12, 3) := dqo gX12_first_0.2.2.2.1
theorem dX12_first_8 : decode (mB 253) 8 = .ok (.iload_n 2, 1) := dqo gX12_first_0.2.2.2.2.1
theorem dX12_first_9 : decode (mB 253) 9 = .ok (.iconst 0, 1) := dqo gX12_first_0.2.2.2.2.2.1
theorem dX12_first_10 : decode (mB 253) 10 = .ok (.iconst 3, 1) := dqo gX12_first_0.2.2.2.2.2.2.1
theorem dX12_first_11 : decode (mB 253) 11 = .ok (.invokestatic 118, 3) := dqo gX12_first_0.2.2.2.2.2.2.2.1
theorem dX12_first_14 : decode (mB 253) 14 = .ok (.ifCond .ne 5, 3) := dqo gX12_first_0.2.2.2.2.2.2.2.2.1
theorem dX12_first_17 : decode (mB 253) 17 = .ok (.iconst (-1), 1) := dqo gX12_first_0.2.2.2.2.2.2.2.2.2.1
theorem dX12_first_18 : decode (mB 253) 18 = .ok (.ireturn, 1) := dqo gX12_first_0.2.2.2.2.2.2.2.2.2.2.1
theorem dX12_first_19 : decode (mB 253) 19 = .ok (.aload_n 0, 1) := dqo gX12_first_0.2.2.2.2.2.2.2.2.2.2.2.1
theorem dX12_first_20 : decode (mB 253) 20 = .ok (.invokevirtual 168, 3) := dqo gX12_first_0.2.2.2.2.2.2.2.2.2.2.2.2.1
theorem dX12_first_23 : decode (mB 253) 23 = .ok (.iload_n 2, 1) := dqo gX12_first_0.2.2.2.2.2.2.2.2.2.2.2.2.2.1
theorem dX12_first_24 : decode (mB 253) 24 = .ok (.ifCond .ne 6, 3) := dqo gX12_first_0.2.2.2.2.2.2.2.2.2.2.2.2.2.2.1
theorem dX12_first_27 : decode (mB 253) 27 = .ok (.bipush (-2), 2) := dqo gX12_first_0.2.2.2.2.2.2.2.2.2.2.2.2.2.2.2
theorem gX12_first_29 : dq 253 29 (.ireturn) 1 = true ∧ dq 253 30 (.ldc2_w 286) 3 = true ∧ dq 253 33 (.aload_n 0) 1 = true ∧ dq 253 34 (.iload_n 1) 1 = true ∧ dq 253 35 (.iload_n 2) 1 = true ∧ dq 253 36 (.iconst 1) 1 = true ∧ dq 253 37 (.isub) 1 = true ∧ dq 253 38 (.iconst 1) 1 = true ∧ dq 253 39 (.invokevirtual 302) 3 = true ∧ dq 253 42 (.lmul) 1 = true ∧ dq 253 43 (.lstore_n 3) 1 = true ∧ dq 253 44 (.aload_n 0) 1 = true ∧ dq 253 45 (.iload_n 1) 1 = true ∧ dq 253 46 (.iload_n 2) 1 = true ∧ dq 253 47 (.iconst 0) 1 = true ∧ dq 253 48 (.lload_n 3) 1 = true := by decide +kernel
theorem dX12_first_29 : decode (mB 253) 29 = .ok (.ireturn, 1) := dqo gX12_first_29.1
theorem dX12_first_30 : decode (mB 253) 30 = .ok (.ldc2_w 286, 3) := dqo gX12_first_29.2.1
theorem dX12_first_33 : decode (mB 253) 33 = .ok (.aload_n 0, 1) := dqo gX12_first_29.2.2.1
theorem dX12_first_34 : decode (mB 253) 34 = .ok (.iload_n 1, 1) := dqo gX12_first_29.2.2.2.1
theorem dX12_first_35 : decode (mB 253) 35 = .ok (.iload_n 2, 1) := dqo gX12_first_29.2.2.2.2.1
theorem dX12_first_36 : decode (mB 253) 36 = .ok (.iconst 1, 1) := dqo gX12_first_29.2.2.2.2.2.1
theorem dX12_first_37 : decode (mB 253) 37 = .ok (.isub, 1) := dqo gX12_first_29.2.2.2.2.2.2.1
theorem dX12_first_38 : decode (mB 253) 38 = .ok (.iconst 1, 1) := dqo gX12_first_29.2.2.2.2.2.2.2.1
theorem dX12_first_39 : decode (mB 253) 39 = .ok (.invokevirtual 302, 3) := dqo gX12_first_29.2.2.2.2.2.2.2.2.1
theorem dX12_first_42 : decode (mB 253) 42 = .ok (.lmul, 1) := dqo gX12_first_29.2.2.2.2.2.2.2.2.2.1
theorem dX12_first_43 : decode (mB 253) 43 = .ok (.lstore_n 3, 1) := dqo gX12_first_29.2.2.2.2.2.2.2.2.2.2.1
theorem dX12_first_44 : decode (mB 253) 44 = .ok (.aload_n 0, 1) := dqo gX12_first_29.2.2.2.2.2.2.2.2.2.2.2.1
theorem dX12_first_45 : decode (mB 253) 45 = .ok (.iload_n 1, 1) := dqo gX12_first_29.2.2.2.2.2.2.2.2.2.2.2.2.1
theorem dX12_first_46 : decode (mB 253) 46 = .ok (.iload_n 2, 1) := dqo gX12_first_29.2.2.2.2.2.2.2.2.2.2.2.2.2.1
theorem dX12_first_47 : decode (mB 253) 47 = .ok (.iconst 0, 1) := dqo gX12_first_29.2.2.2.2.2.2.2.2.2.2.2.2.2.2.1
theorem dX12_first_48 : decode (mB 253) 48 = .ok (.lload_n 3, 1) := dqo gX12_first_29.2.2.2.2.2.2.2.2.2.2.2.2.2.2.2
theorem gX12_first_49 : dq 253 49 (.invokevirtual 306) 3 = true ∧ dq 253 52 (.lstore 5) 2 = true ∧ dq 253 54 (.lload 5) 2 = true ∧ dq 253 56 (.lload_n 3) 1 = true ∧ dq 253 57 (.lcmp) 1 = true ∧ dq 253 58 (.ifCond .ne 6) 3 = true ∧ dq 253 61 (.bipush (-2)) 2 = true ∧ dq 253 63 (.ireturn) 1 = true ∧ dq 253 64 (.iconst 0) 1 = true ∧ dq 253 65 (.istore 7) 2 = true ∧ dq 253 67 (.iload 7) 2 = true ∧ dq 253 69 (.aload_n 0) 1 = true ∧ dq 253 70 (.getfield 122) 3 = true ∧ dq 253 73 (.if_icmp .ge 90) 3 = true ∧ dq 253 76 (.aload_n 0) 1 = true ∧ dq 253 77 (.getfield 74) 3 = true := by decide +kernel
theorem dX12_first_49 : decode (mB 253) 49 = .ok (.invokevirtual 306, 3) := dqo gX12_first_49.1
theorem dX12_first_52 : decode (mB 253) 52 = .ok (.lstore 5, 2) := dqo gX12_first_49.2.1
theorem dX12_first_54 : decode (mB 253) 54 = .ok (.lload 5, 2) := dqo gX12_first_49.2.2.1
theorem dX12_first_56 : decode (mB 253) 56 = .ok (.lload_n 3, 1) := dqo gX12_first_49.2.2.2.1
theorem dX12_first_57 : decode (mB 253) 57 = .ok (.lcmp, 1) := dqo gX12_first_49.2.2.2.2.1
theorem dX12_first_58 : decode (mB 253) 58 = .ok (.ifCond .ne 6, 3) := dqo gX12_first_49.2.2.2.2.2.1
theorem dX12_first_61 : decode (mB 253) 61 = .ok (.bipush (-2), 2) := dqo gX12_first_49.2.2.2.2.2.2.1
theorem dX12_first_63 : decode (mB 253) 63 = .ok (.ireturn, 1) := dqo gX12_first_49.2.2.2.2.2.2.2.1
theorem dX12_first_64 : decode (mB 253) 64 = .ok (.iconst 0, 1) := dqo gX12_first_49.2.2.2.2.2.2.2.2.1
theorem dX12_first_65 : decode (mB 253) 65 = .ok (.istore 7, 2) := dqo gX12_first_49.2.2.2.2.2.2.2.2.2.1
theorem dX12_first_67 : decode (mB 253) 67 = .ok (.iload 7, 2) := dqo gX12_first_49.2.2.2.2.2.2.2.2.2.2.1
theorem dX12_first_69 : decode (mB 253) 69 = .ok (.aload_n 0, 1) := dqo gX12_first_49.2.2.2.2.2.2.2.2.2.2.2.1
theorem dX12_first_70 : decode (mB 253) 70 = .ok (.getfield 122, 3) := dqo gX12_first_49.2.2.2.2.2.2.2.2.2.2.2.2.1
theorem dX12_first_73 : decode (mB 253) 73 = .ok (.if_icmp .ge 90, 3) := dqo gX12_first_49.2.2.2.2.2.2.2.2.2.2.2.2.2.1
theorem dX12_first_76 : decode (mB 253) 76 = .ok (.aload_n 0, 1) := dqo gX12_first_49.2.2.2.2.2.2.2.2.2.2.2.2.2.2.1
theorem dX12_first_77 : decode (mB 253) 77 = .ok (.getfield 74, 3) := dqo gX12_first_49.2.2.2.2.2.2.2.2.2.2.2.2.2.2.2
theorem gX12_first_80 : dq 253 80 (.iload 7) 2 = true ∧ dq 253 82 (.iaload) 1 = true ∧ dq 253 83 (.iload_n 1) 1 = true ∧ dq 253 84 (.if_icmp .ne 73) 3 = true ∧ dq 253 87 (.aload_n 0) 1 = true ∧ dq 253 88 (.getfield 27) 3 = true ∧ dq 253 91 (.iload 7) 2 = true ∧ dq 253 93 (.iaload) 1 = true ∧ dq 253 94 (.iconst 1) 1 = true ∧ dq 253 95 (.if_icmp .ne 6) 3 = true ∧ dq 253 98 (.goto 59) 3 = true ∧ dq 253 101 (.iconst 0) 1 = true ∧ dq 253 102 (.istore 8) 2 = true ∧ dq 253 104 (.iload 8) 2 = true ∧ dq 253 106 (.aload_n 0) 1 = true ∧ dq 253 107 (.getfield 115) 3 = true := by decide +kernel
theorem dX12_first_80 : decode (mB 253) 80 = .ok (.iload 7, 2) := dqo gX12_first_80.1
theorem dX12_first_82 : decode (mB 253) 82 = .ok (.iaload, 1) := dqo gX12_first_80.2.1
theorem dX12_first_83 : decode (mB 253) 83 = .ok (.iload_n 1, 1) := dqo gX12_first_80.2.2.1
theorem dX12_first_84 : decode (mB 253) 84 = .ok (.if_icmp .ne 73, 3) := dqo gX12_first_80.2.2.2.1
theorem dX12_first_87 : decode (mB 253) 87 = .ok (.aload_n 0, 1) := dqo gX12_first_80.2.2.2.2.1
theorem dX12_first_88 : decode (mB 253) 88 = .ok (.getfield 27, 3) := dqo gX12_first_80.2.2.2.2.2.1
theorem dX12_first_91 : decode (mB 253) 91 = .ok (.iload 7, 2) := dqo gX12_first_80.2.2.2.2.2.2.1
theorem dX12_first_93 : decode (mB 253) 93 = .ok (.iaload, 1) := dqo gX12_first_80.2.2.2.2.2.2.2.1
theorem dX12_first_94 : decode (mB 253) 94 = .ok (.iconst 1, 1) := dqo gX12_first_80.2.2.2.2.2.2.2.2.1
theorem dX12_first_95 : decode (mB 253) 95 = .ok (.if_icmp .ne 6, 3) := dqo gX12_first_80.2.2.2.2.2.2.2.2.2.1
theorem dX12_first_98 : decode (mB 253) 98 = .ok (.goto 59, 3) := dqo gX12_first_80.2.2.2.2.2.2.2.2.2.2.1
theorem dX12_first_101 : decode (mB 253) 101 = .ok (.iconst 0, 1) := dqo gX12_first_80.2.2.2.2.2.2.2.2.2.2.2.1
theorem dX12_first_102 : decode (mB 253) 102 = .ok (.istore 8, 2) := dqo gX12_first_80.2.2.2.2.2.2.2.2.2.2.2.2.1
theorem dX12_first_104 : decode (mB 253) 104 = .ok (.iload 8, 2) := dqo gX12_first_80.2.2.2.2.2.2.2.2.2.2.2.2.2.1
theorem dX12_first_106 : decode (mB 253) 106 = .ok (.aload_n 0, 1) := dqo gX12_first_80.2.2.2.2.2.2.2.2.2.2.2.2.2.2.1
theorem dX12_first_107 : decode (mB 253) 107 = .ok (.getfield 115, 3) := dqo gX12_first_80.2.2.2.2.2.2.2.2.2.2.2.2.2.2.2
theorem gX12_first_110 : dq 253 110 (.if_icmp .ge 47) 3 = true ∧ dq 253 113 (.aload_n 0) 1 = true ∧ dq 253 114 (.iload 7) 2 = true ∧ dq 253 116 (.iload 8) 2 = true ∧ dq 253 118 (.invokevirtual 251) 3 = true ∧ dq 253 121 (.ifCond .eq 30) 3 = true ∧ dq 253 124 (.aload_n 0) 1 = true ∧ dq 253 125 (.iload_n 1) 1 = true ∧ dq 253 126 (.iload_n 2) 1 = true ∧ dq 253 127 (.iconst 0) 1 = true ∧ dq 253 128 (.lload_n 3) 1 = true ∧ dq 253 129 (.iload 7) 2 = true ∧ dq 253 131 (.iload 8) 2 = true ∧ dq 253 133 (.invokevirtual 295) 3 = true ∧ dq 253 136 (.lload 5) 2 = true ∧ dq 253 138 (.lcmp) 1 = true := by decide +kernel
theorem dX12_first_110 : decode (mB 253) 110 = .ok (.if_icmp .ge 47, 3) := dqo gX12_first_110.1
theorem dX12_first_113 : decode (mB 253) 113 = .ok (.aload_n 0, 1) := dqo gX12_first_110.2.1
theorem dX12_first_114 : decode (mB 253) 114 = .ok (.iload 7, 2) := dqo gX12_first_110.2.2.1
theorem dX12_first_116 : decode (mB 253) 116 = .ok (.iload 8, 2) := dqo gX12_first_110.2.2.2.1
theorem dX12_first_118 : decode (mB 253) 118 = .ok (.invokevirtual 251, 3) := dqo gX12_first_110.2.2.2.2.1
theorem dX12_first_121 : decode (mB 253) 121 = .ok (.ifCond .eq 30, 3) := dqo gX12_first_110.2.2.2.2.2.1
theorem dX12_first_124 : decode (mB 253) 124 = .ok (.aload_n 0, 1) := dqo gX12_first_110.2.2.2.2.2.2.1
theorem dX12_first_125 : decode (mB 253) 125 = .ok (.iload_n 1, 1) := dqo gX12_first_110.2.2.2.2.2.2.2.1
theorem dX12_first_126 : decode (mB 253) 126 = .ok (.iload_n 2, 1) := dqo gX12_first_110.2.2.2.2.2.2.2.2.1
theorem dX12_first_127 : decode (mB 253) 127 = .ok (.iconst 0, 1) := dqo gX12_first_110.2.2.2.2.2.2.2.2.2.1
theorem dX12_first_128 : decode (mB 253) 128 = .ok (.lload_n 3, 1) := dqo gX12_first_110.2.2.2.2.2.2.2.2.2.2.1
theorem dX12_first_129 : decode (mB 253) 129 = .ok (.iload 7, 2) := dqo gX12_first_110.2.2.2.2.2.2.2.2.2.2.2.1
theorem dX12_first_131 : decode (mB 253) 131 = .ok (.iload 8, 2) := dqo gX12_first_110.2.2.2.2.2.2.2.2.2.2.2.2.1
theorem dX12_first_133 : decode (mB 253) 133 = .ok (.invokevirtual 295, 3) := dqo gX12_first_110.2.2.2.2.2.2.2.2.2.2.2.2.2.1
theorem dX12_first_136 : decode (mB 253) 136 = .ok (.lload 5, 2) := dqo gX12_first_110.2.2.2.2.2.2.2.2.2.2.2.2.2.2.1
theorem dX12_first_138 : decode (mB 253) 138 = .ok (.lcmp, 1) := dqo gX12_first_110.2.2.2.2.2.2.2.2.2.2.2.2.2.2.2
theorem gX12_first_139 : dq 253 139 (.ifCond .ne 12) 3 = true ∧ dq 253 142 (.bipush 8) 2 = true ∧ dq 253 144 (.iload 7) 2 = true ∧ dq 253 146 (.imul) 1 = true ∧ dq 253 147 (.iload 8) 2 = true ∧ dq 253 149 (.iadd) 1 = true ∧ dq 253 150 (.ireturn) 1 = true ∧ dq 253 151 (.iinc 8 1) 3 = true ∧ dq 253 154 (.goto (-50)) 3 = true ∧ dq 253 157 (.iinc 7 1) 3 = true ∧ dq 253 160 (.goto (-93)) 3 = true ∧ dq 253 163 (.bipush (-2)) 2 = true ∧ dq 253 165 (.ireturn) 1 = true := by decide +kernel
theorem dX12_first_139 : decode (mB 253) 139 = .ok (.ifCond .ne 12, 3) := dqo gX12_first_139.1
theorem dX12_first_142 : decode (mB 253) 142 = .ok (.bipush 8, 2) := dqo gX12_first_139.2.1
theorem dX12_first_144 : decode (mB 253) 144 = .ok (.iload 7, 2) := dqo gX12_first_139.2.2.1
theorem dX12_first_146 : decode (mB 253) 146 = .ok (.imul, 1) := dqo gX12_first_139.2.2.2.1
theorem dX12_first_147 : decode (mB 253) 147 = .ok (.iload 8, 2) := dqo gX12_first_139.2.2.2.2.1
theorem dX12_first_149 : decode (mB 253) 149 = .ok (.iadd, 1) := dqo gX12_first_139.2.2.2.2.2.1
theorem dX12_first_150 : decode (mB 253) 150 = .ok (.ireturn, 1) := dqo gX12_first_139.2.2.2.2.2.2.1
theorem dX12_first_151 : decode (mB 253) 151 = .ok (.iinc 8 1, 3) := dqo gX12_first_139.2.2.2.2.2.2.2.1
theorem dX12_first_154 : decode (mB 253) 154 = .ok (.goto (-50), 3) := dqo gX12_first_139.2.2.2.2.2.2.2.2.1
theorem dX12_first_157 : decode (mB 253) 157 = .ok (.iinc 7 1, 3) := dqo gX12_first_139.2.2.2.2.2.2.2.2.2.1
theorem dX12_first_160 : decode (mB 253) 160 = .ok (.goto (-93), 3) := dqo gX12_first_139.2.2.2.2.2.2.2.2.2.2.1
theorem dX12_first_163 : decode (mB 253) 163 = .ok (.bipush (-2), 2) := dqo gX12_first_139.2.2.2.2.2.2.2.2.2.2.2.1
theorem dX12_first_165 : decode (mB 253) 165 = .ok (.ireturn, 1) := dqo gX12_first_139.2.2.2.2.2.2.2.2.2.2.2.2
theorem gX12_hire_0 : dq 254 0 (.aload_n 0) 1 = true ∧ dq 254 1 (.iload_n 1) 1 = true ∧ dq 254 2 (.invokevirtual 125) 3 = true ∧ dq 254 5 (.ifCond .eq 22) 3 = true ∧ dq 254 8 (.iload_n 2) 1 = true ∧ dq 254 9 (.iconst 0) 1 = true ∧ dq 254 10 (.bipush 12) 2 = true ∧ dq 254 12 (.invokestatic 118) 3 = true ∧ dq 254 15 (.ifCond .eq 12) 3 = true ∧ dq 254 18 (.iload_n 3) 1 = true ∧ dq 254 19 (.iconst 0) 1 = true ∧ dq 254 20 (.iconst 1) 1 = true ∧ dq 254 21 (.invokestatic 118) 3 = true ∧ dq 254 24 (.ifCond .ne 5) 3 = true ∧ dq 254 27 (.iconst (-1)) 1 = true ∧ dq 254 28 (.ireturn) 1 = true := by decide +kernel
theorem dX12_hire_0 : decode (mB 254) 0 = .ok (.aload_n 0, 1) := dqo gX12_hire_0.1
theorem dX12_hire_1 : decode (mB 254) 1 = .ok (.iload_n 1, 1) := dqo gX12_hire_0.2.1
theorem dX12_hire_2 : decode (mB 254) 2 = .ok (.invokevirtual 125, 3) := dqo gX12_hire_0.2.2.1
theorem dX12_hire_5 : decode (mB 254) 5 = .ok (.ifCond .eq 22, 3) := dqo gX12_hire_0.2.2.2.1
theorem dX12_hire_8 : decode (mB 254) 8 = .ok (.iload_n 2, 1) := dqo gX12_hire_0.2.2.2.2.1
theorem dX12_hire_9 : decode (mB 254) 9 = .ok (.iconst 0, 1) := dqo gX12_hire_0.2.2.2.2.2.1
theorem dX12_hire_10 : decode (mB 254) 10 = .ok (.bipush 12, 2) := dqo gX12_hire_0.2.2.2.2.2.2.1
theorem dX12_hire_12 : decode (mB 254) 12 = .ok (.invokestatic 118, 3) := dqo gX12_hire_0.2.2.2.2.2.2.2.1
theorem dX12_hire_15 : decode (mB 254) 15 = .ok (.ifCond .eq 12, 3) := dqo gX12_hire_0.2.2.2.2.2.2.2.2.1
theorem dX12_hire_18 : decode (mB 254) 18 = .ok (.iload_n 3, 1) := dqo gX12_hire_0.2.2.2.2.2.2.2.2.2.1
theorem dX12_hire_19 : decode (mB 254) 19 = .ok (.iconst 0, 1) := dqo gX12_hire_0.2.2.2.2.2.2.2.2.2.2.1
theorem dX12_hire_20 : decode (mB 254) 20 = .ok (.iconst 1, 1) := dqo gX12_hire_0.2.2.2.2.2.2.2.2.2.2.2.1
theorem dX12_hire_21 : decode (mB 254) 21 = .ok (.invokestatic 118, 3) := dqo gX12_hire_0.2.2.2.2.2.2.2.2.2.2.2.2.1
theorem dX12_hire_24 : decode (mB 254) 24 = .ok (.ifCond .ne 5, 3) := dqo gX12_hire_0.2.2.2.2.2.2.2.2.2.2.2.2.2.1
theorem dX12_hire_27 : decode (mB 254) 27 = .ok (.iconst (-1), 1) := dqo gX12_hire_0.2.2.2.2.2.2.2.2.2.2.2.2.2.2.1
theorem dX12_hire_28 : decode (mB 254) 28 = .ok (.ireturn, 1) := dqo gX12_hire_0.2.2.2.2.2.2.2.2.2.2.2.2.2.2.2
theorem gX12_hire_29 : dq 254 29 (.iconst 0) 1 = true ∧ dq 254 30 (.istore 4) 2 = true ∧ dq 254 32 (.iconst 0) 1 = true ∧ dq 254 33 (.istore 5) 2 = true ∧ dq 254 35 (.iload 5) 2 = true ∧ dq 254 37 (.aload_n 0) 1 = true ∧ dq 254 38 (.getfield 122) 3 = true ∧ dq 254 41 (.if_icmp .ge 34) 3 = true ∧ dq 254 44 (.aload_n 0) 1 = true ∧ dq 254 45 (.getfield 24) 3 = true ∧ dq 254 48 (.iload 5) 2 = true ∧ dq 254 50 (.iaload) 1 = true ∧ dq 254 51 (.iload_n 1) 1 = true ∧ dq 254 52 (.if_icmp .ne 17) 3 = true ∧ dq 254 55 (.aload_n 0) 1 = true ∧ dq 254 56 (.getfield 30) 3 = true := by decide +kernel
theorem dX12_hire_29 : decode (mB 254) 29 = .ok (.iconst 0, 1) := dqo gX12_hire_29.1
theorem dX12_hire_30 : decode (mB 254) 30 = .ok (.istore 4, 2) := dqo gX12_hire_29.2.1
theorem dX12_hire_32 : decode (mB 254) 32 = .ok (.iconst 0, 1) := dqo gX12_hire_29.2.2.1
theorem dX12_hire_33 : decode (mB 254) 33 = .ok (.istore 5, 2) := dqo gX12_hire_29.2.2.2.1
theorem dX12_hire_35 : decode (mB 254) 35 = .ok (.iload 5, 2) := dqo gX12_hire_29.2.2.2.2.1
theorem dX12_hire_37 : decode (mB 254) 37 = .ok (.aload_n 0, 1) := dqo gX12_hire_29.2.2.2.2.2.1
theorem dX12_hire_38 : decode (mB 254) 38 = .ok (.getfield 122, 3) := dqo gX12_hire_29.2.2.2.2.2.2.1
theorem dX12_hire_41 : decode (mB 254) 41 = .ok (.if_icmp .ge 34, 3) := dqo gX12_hire_29.2.2.2.2.2.2.2.1
theorem dX12_hire_44 : decode (mB 254) 44 = .ok (.aload_n 0, 1) := dqo gX12_hire_29.2.2.2.2.2.2.2.2.1
theorem dX12_hire_45 : decode (mB 254) 45 = .ok (.getfield 24, 3) := dqo gX12_hire_29.2.2.2.2.2.2.2.2.2.1
theorem dX12_hire_48 : decode (mB 254) 48 = .ok (.iload 5, 2) := dqo gX12_hire_29.2.2.2.2.2.2.2.2.2.2.1
theorem dX12_hire_50 : decode (mB 254) 50 = .ok (.iaload, 1) := dqo gX12_hire_29.2.2.2.2.2.2.2.2.2.2.2.1
theorem dX12_hire_51 : decode (mB 254) 51 = .ok (.iload_n 1, 1) := dqo gX12_hire_29.2.2.2.2.2.2.2.2.2.2.2.2.1
theorem dX12_hire_52 : decode (mB 254) 52 = .ok (.if_icmp .ne 17, 3) := dqo gX12_hire_29.2.2.2.2.2.2.2.2.2.2.2.2.2.1
theorem dX12_hire_55 : decode (mB 254) 55 = .ok (.aload_n 0, 1) := dqo gX12_hire_29.2.2.2.2.2.2.2.2.2.2.2.2.2.2.1
theorem dX12_hire_56 : decode (mB 254) 56 = .ok (.getfield 30, 3) := dqo gX12_hire_29.2.2.2.2.2.2.2.2.2.2.2.2.2.2.2
theorem gX12_hire_59 : dq 254 59 (.iload 5) 2 = true ∧ dq 254 61 (.iaload) 1 = true ∧ dq 254 62 (.iconst 4) 1 = true ∧ dq 254 63 (.if_icmp .eq 6) 3 = true ∧ dq 254 66 (.iinc 4 1) 3 = true ∧ dq 254 69 (.iinc 5 1) 3 = true ∧ dq 254 72 (.goto (-37)) 3 = true ∧ dq 254 75 (.iload_n 2) 1 = true ∧ dq 254 76 (.iload 4) 2 = true ∧ dq 254 78 (.if_icmp .le 6) 3 = true ∧ dq 254 81 (.bipush (-2)) 2 = true ∧ dq 254 83 (.ireturn) 1 = true ∧ dq 254 84 (.iconst 0) 1 = true ∧ dq 254 85 (.istore 5) 2 = true ∧ dq 254 87 (.iload 5) 2 = true ∧ dq 254 89 (.aload_n 0) 1 = true := by decide +kernel
theorem dX12_hire_59 : decode (mB 254) 59 = .ok (.iload 5, 2) := dqo gX12_hire_59.1
theorem dX12_hire_61 : decode (mB 254) 61 = .ok (.iaload, 1) := dqo gX12_hire_59.2.1
theorem dX12_hire_62 : decode (mB 254) 62 = .ok (.iconst 4, 1) := dqo gX12_hire_59.2.2.1
theorem dX12_hire_63 : decode (mB 254) 63 = .ok (.if_icmp .eq 6, 3) := dqo gX12_hire_59.2.2.2.1
theorem dX12_hire_66 : decode (mB 254) 66 = .ok (.iinc 4 1, 3) := dqo gX12_hire_59.2.2.2.2.1
theorem dX12_hire_69 : decode (mB 254) 69 = .ok (.iinc 5 1, 3) := dqo gX12_hire_59.2.2.2.2.2.1
theorem dX12_hire_72 : decode (mB 254) 72 = .ok (.goto (-37), 3) := dqo gX12_hire_59.2.2.2.2.2.2.1
theorem dX12_hire_75 : decode (mB 254) 75 = .ok (.iload_n 2, 1) := dqo gX12_hire_59.2.2.2.2.2.2.2.1
theorem dX12_hire_76 : decode (mB 254) 76 = .ok (.iload 4, 2) := dqo gX12_hire_59.2.2.2.2.2.2.2.2.1
theorem dX12_hire_78 : decode (mB 254) 78 = .ok (.if_icmp .le 6, 3) := dqo gX12_hire_59.2.2.2.2.2.2.2.2.2.1
theorem dX12_hire_81 : decode (mB 254) 81 = .ok (.bipush (-2), 2) := dqo gX12_hire_59.2.2.2.2.2.2.2.2.2.2.1
theorem dX12_hire_83 : decode (mB 254) 83 = .ok (.ireturn, 1) := dqo gX12_hire_59.2.2.2.2.2.2.2.2.2.2.2.1
theorem dX12_hire_84 : decode (mB 254) 84 = .ok (.iconst 0, 1) := dqo gX12_hire_59.2.2.2.2.2.2.2.2.2.2.2.2.1
theorem dX12_hire_85 : decode (mB 254) 85 = .ok (.istore 5, 2) := dqo gX12_hire_59.2.2.2.2.2.2.2.2.2.2.2.2.2.1
theorem dX12_hire_87 : decode (mB 254) 87 = .ok (.iload 5, 2) := dqo gX12_hire_59.2.2.2.2.2.2.2.2.2.2.2.2.2.2.1
theorem dX12_hire_89 : decode (mB 254) 89 = .ok (.aload_n 0, 1) := dqo gX12_hire_59.2.2.2.2.2.2.2.2.2.2.2.2.2.2.2
theorem gX12_hire_90 : dq 254 90 (.getfield 115) 3 = true ∧ dq 254 93 (.if_icmp .ge 44) 3 = true ∧ dq 254 96 (.aload_n 0) 1 = true ∧ dq 254 97 (.getfield 77) 3 = true ∧ dq 254 100 (.iload 5) 2 = true ∧ dq 254 102 (.iload 5) 2 = true ∧ dq 254 104 (.iload_n 1) 1 = true ∧ dq 254 105 (.if_icmp .eq 14) 3 = true ∧ dq 254 108 (.aload_n 0) 1 = true ∧ dq 254 109 (.getfield 15) 3 = true ∧ dq 254 112 (.iload 5) 2 = true ∧ dq 254 114 (.iaload) 1 = true ∧ dq 254 115 (.iconst 1) 1 = true ∧ dq 254 116 (.if_icmp .ne 7) 3 = true ∧ dq 254 119 (.iconst 0) 1 = true ∧ dq 254 120 (.goto 10) 3 = true := by decide +kernel
theorem dX12_hire_90 : decode (mB 254) 90 = .ok (.getfield 115, 3) := dqo gX12_hire_90.1
theorem dX12_hire_93 : decode (mB 254) 93 = .ok (.if_icmp .ge 44, 3) := dqo gX12_hire_90.2.1
theorem dX12_hire_96 : decode (mB 254) 96 = .ok (.aload_n 0, 1) := dqo gX12_hire_90.2.2.1
theorem dX12_hire_97 : decode (mB 254) 97 = .ok (.getfield 77, 3) := dqo gX12_hire_90.2.2.2.1
theorem dX12_hire_100 : decode (mB 254) 100 = .ok (.iload 5, 2) := dqo gX12_hire_90.2.2.2.2.1
theorem dX12_hire_102 : decode (mB 254) 102 = .ok (.iload 5, 2) := dqo gX12_hire_90.2.2.2.2.2.1
theorem dX12_hire_104 : decode (mB 254) 104 = .ok (.iload_n 1, 1) := dqo gX12_hire_90.2.2.2.2.2.2.1
theorem dX12_hire_105 : decode (mB 254) 105 = .ok (.if_icmp .eq 14, 3) := dqo gX12_hire_90.2.2.2.2.2.2.2.1
theorem dX12_hire_108 : decode (mB 254) 108 = .ok (.aload_n 0, 1) := dqo gX12_hire_90.2.2.2.2.2.2.2.2.1
theorem dX12_hire_109 : decode (mB 254) 109 = .ok (.getfield 15, 3) := dqo gX12_hire_90.2.2.2.2.2.2.2.2.2.1
theorem dX12_hire_112 : decode (mB 254) 112 = .ok (.iload 5, 2) := dqo gX12_hire_90.2.2.2.2.2.2.2.2.2.2.1
theorem dX12_hire_114 : decode (mB 254) 114 = .ok (.iaload, 1) := dqo gX12_hire_90.2.2.2.2.2.2.2.2.2.2.2.1
theorem dX12_hire_115 : decode (mB 254) 115 = .ok (.iconst 1, 1) := dqo gX12_hire_90.2.2.2.2.2.2.2.2.2.2.2.2.1
theorem dX12_hire_116 : decode (mB 254) 116 = .ok (.if_icmp .ne 7, 3) := dqo gX12_hire_90.2.2.2.2.2.2.2.2.2.2.2.2.2.1
theorem dX12_hire_119 : decode (mB 254) 119 = .ok (.iconst 0, 1) := dqo gX12_hire_90.2.2.2.2.2.2.2.2.2.2.2.2.2.2.1
theorem dX12_hire_120 : decode (mB 254) 120 = .ok (.goto 10, 3) := dqo gX12_hire_90.2.2.2.2.2.2.2.2.2.2.2.2.2.2.2
theorem gX12_hire_123 : dq 254 123 (.aload_n 0) 1 = true ∧ dq 254 124 (.getfield 21) 3 = true ∧ dq 254 127 (.iload 5) 2 = true ∧ dq 254 129 (.iaload) 1 = true ∧ dq 254 130 (.iastore) 1 = true ∧ dq 254 131 (.iinc 5 1) 3 = true ∧ dq 254 134 (.goto (-47)) 3 = true ∧ dq 254 137 (.iconst 0) 1 = true ∧ dq 254 138 (.istore 5) 2 = true ∧ dq 254 140 (.bipush (-2)) 2 = true ∧ dq 254 142 (.istore 6) 2 = true ∧ dq 254 144 (.iconst 0) 1 = true ∧ dq 254 145 (.istore 7) 2 = true ∧ dq 254 147 (.iload 7) 2 = true ∧ dq 254 149 (.iload_n 2) 1 = true ∧ dq 254 150 (.if_icmp .ge 102) 3 = true := by decide +kernel
theorem dX12_hire_123 : decode (mB 254) 123 = .ok (.aload_n 0, 1) := dqo gX12_hire_123.1
theorem dX12_hire_124 : decode (mB 254) 124 = .ok (.getfield 21, 3) := dqo gX12_hire_123.2.1
theorem dX12_hire_127 : decode (mB 254) 127 = .ok (.iload 5, 2) := dqo gX12_hire_123.2.2.1
theorem dX12_hire_129 : decode (mB 254) 129 = .ok (.iaload, 1) := dqo gX12_hire_123.2.2.2.1
theorem dX12_hire_130 : decode (mB 254) 130 = .ok (.iastore, 1) := dqo gX12_hire_123.2.2.2.2.1
theorem dX12_hire_131 : decode (mB 254) 131 = .ok (.iinc 5 1, 3) := dqo gX12_hire_123.2.2.2.2.2.1
theorem dX12_hire_134 : decode (mB 254) 134 = .ok (.goto (-47), 3) := dqo gX12_hire_123.2.2.2.2.2.2.1
theorem dX12_hire_137 : decode (mB 254) 137 = .ok (.iconst 0, 1) := dqo gX12_hire_123.2.2.2.2.2.2.2.1
theorem dX12_hire_138 : decode (mB 254) 138 = .ok (.istore 5, 2) := dqo gX12_hire_123.2.2.2.2.2.2.2.2.1
theorem dX12_hire_140 : decode (mB 254) 140 = .ok (.bipush (-2), 2) := dqo gX12_hire_123.2.2.2.2.2.2.2.2.2.1
theorem dX12_hire_142 : decode (mB 254) 142 = .ok (.istore 6, 2) := dqo gX12_hire_123.2.2.2.2.2.2.2.2.2.2.1
theorem dX12_hire_144 : decode (mB 254) 144 = .ok (.iconst 0, 1) := dqo gX12_hire_123.2.2.2.2.2.2.2.2.2.2.2.1
theorem dX12_hire_145 : decode (mB 254) 145 = .ok (.istore 7, 2) := dqo gX12_hire_123.2.2.2.2.2.2.2.2.2.2.2.2.1
theorem dX12_hire_147 : decode (mB 254) 147 = .ok (.iload 7, 2) := dqo gX12_hire_123.2.2.2.2.2.2.2.2.2.2.2.2.2.1
theorem dX12_hire_149 : decode (mB 254) 149 = .ok (.iload_n 2, 1) := dqo gX12_hire_123.2.2.2.2.2.2.2.2.2.2.2.2.2.2.1
theorem dX12_hire_150 : decode (mB 254) 150 = .ok (.if_icmp .ge 102, 3) := dqo gX12_hire_123.2.2.2.2.2.2.2.2.2.2.2.2.2.2.2
theorem gX12_hire_153 : dq 254 153 (.bipush (-2)) 2 = true ∧ dq 254 155 (.istore 8) 2 = true ∧ dq 254 157 (.iconst 0) 1 = true ∧ dq 254 158 (.istore 9) 2 = true ∧ dq 254 160 (.iload 9) 2 = true ∧ dq 254 162 (.aload_n 0) 1 = true ∧ dq 254 163 (.getfield 115) 3 = true ∧ dq 254 166 (.if_icmp .ge 45) 3 = true ∧ dq 254 169 (.aload_n 0) 1 = true ∧ dq 254 170 (.getfield 77) 3 = true ∧ dq 254 173 (.iload 9) 2 = true ∧ dq 254 175 (.iaload) 1 = true ∧ dq 254 176 (.ifCond .le 29) 3 = true ∧ dq 254 179 (.iload 8) 2 = true ∧ dq 254 181 (.ifCond .lt 20) 3 = true ∧ dq 254 184 (.aload_n 0) 1 = true := by decide +kernel
theorem dX12_hire_153 : decode (mB 254) 153 = .ok (.bipush (-2), 2) := dqo gX12_hire_153.1
theorem dX12_hire_155 : decode (mB 254) 155 = .ok (.istore 8, 2) := dqo gX12_hire_153.2.1
theorem dX12_hire_157 : decode (mB 254) 157 = .ok (.iconst 0, 1) := dqo gX12_hire_153.2.2.1
theorem dX12_hire_158 : decode (mB 254) 158 = .ok (.istore 9, 2) := dqo gX12_hire_153.2.2.2.1
theorem dX12_hire_160 : decode (mB 254) 160 = .ok (.iload 9, 2) := dqo gX12_hire_153.2.2.2.2.1
theorem dX12_hire_162 : decode (mB 254) 162 = .ok (.aload_n 0, 1) := dqo gX12_hire_153.2.2.2.2.2.1
theorem dX12_hire_163 : decode (mB 254) 163 = .ok (.getfield 115, 3) := dqo gX12_hire_153.2.2.2.2.2.2.1
theorem dX12_hire_166 : decode (mB 254) 166 = .ok (.if_icmp .ge 45, 3) := dqo gX12_hire_153.2.2.2.2.2.2.2.1
theorem dX12_hire_169 : decode (mB 254) 169 = .ok (.aload_n 0, 1) := dqo gX12_hire_153.2.2.2.2.2.2.2.2.1
theorem dX12_hire_170 : decode (mB 254) 170 = .ok (.getfield 77, 3) := dqo gX12_hire_153.2.2.2.2.2.2.2.2.2.1
theorem dX12_hire_173 : decode (mB 254) 173 = .ok (.iload 9, 2) := dqo gX12_hire_153.2.2.2.2.2.2.2.2.2.2.1
theorem dX12_hire_175 : decode (mB 254) 175 = .ok (.iaload, 1) := dqo gX12_hire_153.2.2.2.2.2.2.2.2.2.2.2.1
theorem dX12_hire_176 : decode (mB 254) 176 = .ok (.ifCond .le 29, 3) := dqo gX12_hire_153.2.2.2.2.2.2.2.2.2.2.2.2.1
theorem dX12_hire_179 : decode (mB 254) 179 = .ok (.iload 8, 2) := dqo gX12_hire_153.2.2.2.2.2.2.2.2.2.2.2.2.2.1
theorem dX12_hire_181 : decode (mB 254) 181 = .ok (.ifCond .lt 20, 3) := dqo gX12_hire_153.2.2.2.2.2.2.2.2.2.2.2.2.2.2.1
theorem dX12_hire_184 : decode (mB 254) 184 = .ok (.aload_n 0, 1) := dqo gX12_hire_153.2.2.2.2.2.2.2.2.2.2.2.2.2.2.2
theorem gX12_hire_185 : dq 254 185 (.getfield 18) 3 = true ∧ dq 254 188 (.iload 9) 2 = true ∧ dq 254 190 (.iaload) 1 = true ∧ dq 254 191 (.aload_n 0) 1 = true ∧ dq 254 192 (.getfield 18) 3 = true ∧ dq 254 195 (.iload 8) 2 = true ∧ dq 254 197 (.iaload) 1 = true ∧ dq 254 198 (.if_icmp .ge 7) 3 = true ∧ dq 254 201 (.iload 9) 2 = true ∧ dq 254 203 (.istore 8) 2 = true ∧ dq 254 205 (.iinc 9 1) 3 = true ∧ dq 254 208 (.goto (-48)) 3 = true ∧ dq 254 211 (.iload 8) 2 = true ∧ dq 254 213 (.ifCond .ge 6) 3 = true ∧ dq 254 216 (.bipush (-2)) 2 = true ∧ dq 254 218 (.ireturn) 1 = true := by decide +kernel
theorem dX12_hire_185 : decode (mB 254) 185 = .ok (.getfield 18, 3) := dqo gX12_hire_185.1
theorem dX12_hire_188 : decode (mB 254) 188 = .ok (.iload 9, 2) := dqo gX12_hire_185.2.1
theorem dX12_hire_190 : decode (mB 254) 190 = .ok (.iaload, 1) := dqo gX12_hire_185.2.2.1
theorem dX12_hire_191 : decode (mB 254) 191 = .ok (.aload_n 0, 1) := dqo gX12_hire_185.2.2.2.1
theorem dX12_hire_192 : decode (mB 254) 192 = .ok (.getfield 18, 3) := dqo gX12_hire_185.2.2.2.2.1
theorem dX12_hire_195 : decode (mB 254) 195 = .ok (.iload 8, 2) := dqo gX12_hire_185.2.2.2.2.2.1
theorem dX12_hire_197 : decode (mB 254) 197 = .ok (.iaload, 1) := dqo gX12_hire_185.2.2.2.2.2.2.1
theorem dX12_hire_198 : decode (mB 254) 198 = .ok (.if_icmp .ge 7, 3) := dqo gX12_hire_185.2.2.2.2.2.2.2.1
theorem dX12_hire_201 : decode (mB 254) 201 = .ok (.iload 9, 2) := dqo gX12_hire_185.2.2.2.2.2.2.2.2.1
theorem dX12_hire_203 : decode (mB 254) 203 = .ok (.istore 8, 2) := dqo gX12_hire_185.2.2.2.2.2.2.2.2.2.1
theorem dX12_hire_205 : decode (mB 254) 205 = .ok (.iinc 9 1, 3) := dqo gX12_hire_185.2.2.2.2.2.2.2.2.2.2.1
theorem dX12_hire_208 : decode (mB 254) 208 = .ok (.goto (-48), 3) := dqo gX12_hire_185.2.2.2.2.2.2.2.2.2.2.2.1
theorem dX12_hire_211 : decode (mB 254) 211 = .ok (.iload 8, 2) := dqo gX12_hire_185.2.2.2.2.2.2.2.2.2.2.2.2.1
theorem dX12_hire_213 : decode (mB 254) 213 = .ok (.ifCond .ge 6, 3) := dqo gX12_hire_185.2.2.2.2.2.2.2.2.2.2.2.2.2.1
theorem dX12_hire_216 : decode (mB 254) 216 = .ok (.bipush (-2), 2) := dqo gX12_hire_185.2.2.2.2.2.2.2.2.2.2.2.2.2.2.1
theorem dX12_hire_218 : decode (mB 254) 218 = .ok (.ireturn, 1) := dqo gX12_hire_185.2.2.2.2.2.2.2.2.2.2.2.2.2.2.2
theorem gX12_hire_219 : dq 254 219 (.aload_n 0) 1 = true ∧ dq 254 220 (.getfield 77) 3 = true ∧ dq 254 223 (.iload 8) 2 = true ∧ dq 254 225 (.dup2) 1 = true ∧ dq 254 226 (.iaload) 1 = true ∧ dq 254 227 (.iconst 1) 1 = true ∧ dq 254 228 (.isub) 1 = true ∧ dq 254 229 (.iastore) 1 = true ∧ dq 254 230 (.iload 5) 2 = true ∧ dq 254 232 (.aload_n 0) 1 = true ∧ dq 254 233 (.getfield 18) 3 = true ∧ dq 254 236 (.iload 8) 2 = true ∧ dq 254 238 (.iaload) 1 = true ∧ dq 254 239 (.iadd) 1 = true ∧ dq 254 240 (.istore 5) 2 = true ∧ dq 254 242 (.iload 8) 2 = true := by decide +kernel
theorem dX12_hire_219 : decode (mB 254) 219 = .ok (.aload_n 0, 1) := dqo gX12_hire_219.1
theorem dX12_hire_220 : decode (mB 254) 220 = .ok (.getfield 77, 3) := dqo gX12_hire_219.2.1
theorem dX12_hire_223 : decode (mB 254) 223 = .ok (.iload 8, 2) := dqo gX12_hire_219.2.2.1
theorem dX12_hire_225 : decode (mB 254) 225 = .ok (.dup2, 1) := dqo gX12_hire_219.2.2.2.1
theorem dX12_hire_226 : decode (mB 254) 226 = .ok (.iaload, 1) := dqo gX12_hire_219.2.2.2.2.1
theorem dX12_hire_227 : decode (mB 254) 227 = .ok (.iconst 1, 1) := dqo gX12_hire_219.2.2.2.2.2.1
theorem dX12_hire_228 : decode (mB 254) 228 = .ok (.isub, 1) := dqo gX12_hire_219.2.2.2.2.2.2.1
theorem dX12_hire_229 : decode (mB 254) 229 = .ok (.iastore, 1) := dqo gX12_hire_219.2.2.2.2.2.2.2.1
theorem dX12_hire_230 : decode (mB 254) 230 = .ok (.iload 5, 2) := dqo gX12_hire_219.2.2.2.2.2.2.2.2.1
theorem dX12_hire_232 : decode (mB 254) 232 = .ok (.aload_n 0, 1) := dqo gX12_hire_219.2.2.2.2.2.2.2.2.2.1
theorem dX12_hire_233 : decode (mB 254) 233 = .ok (.getfield 18, 3) := dqo gX12_hire_219.2.2.2.2.2.2.2.2.2.2.1
theorem dX12_hire_236 : decode (mB 254) 236 = .ok (.iload 8, 2) := dqo gX12_hire_219.2.2.2.2.2.2.2.2.2.2.2.1
theorem dX12_hire_238 : decode (mB 254) 238 = .ok (.iaload, 1) := dqo gX12_hire_219.2.2.2.2.2.2.2.2.2.2.2.2.1
theorem dX12_hire_239 : decode (mB 254) 239 = .ok (.iadd, 1) := dqo gX12_hire_219.2.2.2.2.2.2.2.2.2.2.2.2.2.1
theorem dX12_hire_240 : decode (mB 254) 240 = .ok (.istore 5, 2) := dqo gX12_hire_219.2.2.2.2.2.2.2.2.2.2.2.2.2.2.1
theorem dX12_hire_242 : decode (mB 254) 242 = .ok (.iload 8, 2) := dqo gX12_hire_219.2.2.2.2.2.2.2.2.2.2.2.2.2.2.2
theorem gX12_hire_244 : dq 254 244 (.istore 6) 2 = true ∧ dq 254 246 (.iinc 7 1) 3 = true ∧ dq 254 249 (.goto (-102)) 3 = true ∧ dq 254 252 (.iload_n 3) 1 = true ∧ dq 254 253 (.ifCond .ne 8) 3 = true ∧ dq 254 256 (.iload 5) 2 = true ∧ dq 254 258 (.goto 5) 3 = true ∧ dq 254 261 (.iload 6) 2 = true ∧ dq 254 263 (.ireturn) 1 = true := by decide +kernel
theorem dX12_hire_244 : decode (mB 254) 244 = .ok (.istore 6, 2) := dqo gX12_hire_244.1
theorem dX12_hire_246 : decode (mB 254) 246 = .ok (.iinc 7 1, 3) := dqo gX12_hire_244.2.1
theorem dX12_hire_249 : decode (mB 254) 249 = .ok (.goto (-102), 3) := dqo gX12_hire_244.2.2.1
theorem dX12_hire_252 : decode (mB 254) 252 = .ok (.iload_n 3, 1) := dqo gX12_hire_244.2.2.2.1
theorem dX12_hire_253 : decode (mB 254) 253 = .ok (.ifCond .ne 8, 3) := dqo gX12_hire_244.2.2.2.2.1
theorem dX12_hire_256 : decode (mB 254) 256 = .ok (.iload 5, 2) := dqo gX12_hire_244.2.2.2.2.2.1
theorem dX12_hire_258 : decode (mB 254) 258 = .ok (.goto 5, 3) := dqo gX12_hire_244.2.2.2.2.2.2.1
theorem dX12_hire_261 : decode (mB 254) 261 = .ok (.iload 6, 2) := dqo gX12_hire_244.2.2.2.2.2.2.2.1
theorem dX12_hire_263 : decode (mB 254) 263 = .ok (.ireturn, 1) := dqo gX12_hire_244.2.2.2.2.2.2.2.2
