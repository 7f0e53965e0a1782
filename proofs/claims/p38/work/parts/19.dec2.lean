theorem dX12_in_0 : decode (mB 189) 0 = .ok (.iload_n 0, 1) := by decide +kernel
theorem dX12_in_1 : decode (mB 189) 1 = .ok (.iload_n 1, 1) := by decide +kernel
theorem dX12_in_2 : decode (mB 189) 2 = .ok (.if_icmp .lt 12, 3) := by decide +kernel
theorem dX12_in_5 : decode (mB 189) 5 = .ok (.iload_n 0, 1) := by decide +kernel
theorem dX12_in_6 : decode (mB 189) 6 = .ok (.iload_n 2, 1) := by decide +kernel
theorem dX12_in_7 : decode (mB 189) 7 = .ok (.if_icmp .gt 7, 3) := by decide +kernel
theorem dX12_in_10 : decode (mB 189) 10 = .ok (.iconst 1, 1) := by decide +kernel
theorem dX12_in_11 : decode (mB 189) 11 = .ok (.goto 4, 3) := by decide +kernel
theorem dX12_in_14 : decode (mB 189) 14 = .ok (.iconst 0, 1) := by decide +kernel
theorem dX12_in_15 : decode (mB 189) 15 = .ok (.ireturn, 1) := by decide +kernel
theorem dX12_bitsOf_0 : decode (mB 190) 0 = .ok (.iconst 0, 1) := by decide +kernel
theorem dX12_bitsOf_1 : decode (mB 190) 1 = .ok (.istore_n 1, 1) := by decide +kernel
theorem dX12_bitsOf_2 : decode (mB 190) 2 = .ok (.iload_n 0, 1) := by decide +kernel
theorem dX12_bitsOf_3 : decode (mB 190) 3 = .ok (.istore_n 2, 1) := by decide +kernel
theorem dX12_bitsOf_4 : decode (mB 190) 4 = .ok (.iload_n 2, 1) := by decide +kernel
theorem dX12_bitsOf_5 : decode (mB 190) 5 = .ok (.ifCond .eq 15, 3) := by decide +kernel
theorem dX12_bitsOf_8 : decode (mB 190) 8 = .ok (.iinc 1 1, 3) := by decide +kernel
theorem dX12_bitsOf_11 : decode (mB 190) 11 = .ok (.iload_n 2, 1) := by decide +kernel
theorem dX12_bitsOf_12 : decode (mB 190) 12 = .ok (.iload_n 2, 1) := by decide +kernel
theorem dX12_bitsOf_13 : decode (mB 190) 13 = .ok (.iconst 1, 1) := by decide +kernel
theorem dX12_bitsOf_14 : decode (mB 190) 14 = .ok (.isub, 1) := by decide +kernel
theorem dX12_bitsOf_15 : decode (mB 190) 15 = .ok (.iand, 1) := by decide +kernel
theorem dX12_bitsOf_16 : decode (mB 190) 16 = .ok (.istore_n 2, 1) := by decide +kernel
theorem dX12_bitsOf_17 : decode (mB 190) 17 = .ok (.goto (-13), 3) := by decide +kernel
theorem dX12_bitsOf_20 : decode (mB 190) 20 = .ok (.iload_n 1, 1) := by decide +kernel
theorem dX12_bitsOf_21 : decode (mB 190) 21 = .ok (.ireturn, 1) := by decide +kernel
theorem dX12_isOne_0 : decode (mB 191) 0 = .ok (.iload_n 1, 1) := by decide +kernel
theorem dX12_isOne_1 : decode (mB 191) 1 = .ok (.iconst 0, 1) := by decide +kernel
theorem dX12_isOne_2 : decode (mB 191) 2 = .ok (.aload_n 0, 1) := by decide +kernel
theorem dX12_isOne_3 : decode (mB 191) 3 = .ok (.getfield 115, 3) := by decide +kernel
theorem dX12_isOne_6 : decode (mB 191) 6 = .ok (.iconst 1, 1) := by decide +kernel
theorem dX12_isOne_7 : decode (mB 191) 7 = .ok (.isub, 1) := by decide +kernel
theorem dX12_isOne_8 : decode (mB 191) 8 = .ok (.invokestatic 118, 3) := by decide +kernel
theorem dX12_isOne_11 : decode (mB 191) 11 = .ok (.ireturn, 1) := by decide +kernel
theorem dX12_isTicket_0 : decode (mB 192) 0 = .ok (.iload_n 1, 1) := by decide +kernel
theorem dX12_isTicket_1 : decode (mB 192) 1 = .ok (.iconst 0, 1) := by decide +kernel
theorem dX12_isTicket_2 : decode (mB 192) 2 = .ok (.aload_n 0, 1) := by decide +kernel
theorem dX12_isTicket_3 : decode (mB 192) 3 = .ok (.getfield 122, 3) := by decide +kernel
theorem dX12_isTicket_6 : decode (mB 192) 6 = .ok (.iconst 1, 1) := by decide +kernel
theorem dX12_isTicket_7 : decode (mB 192) 7 = .ok (.isub, 1) := by decide +kernel
theorem dX12_isTicket_8 : decode (mB 192) 8 = .ok (.invokestatic 118, 3) := by decide +kernel
theorem dX12_isTicket_11 : decode (mB 192) 11 = .ok (.ireturn, 1) := by decide +kernel
theorem dX12_person_0 : decode (mB 193) 0 = .ok (.iload_n 1, 1) := by decide +kernel
theorem dX12_person_1 : decode (mB 193) 1 = .ok (.iconst 0, 1) := by decide +kernel
theorem dX12_person_2 : decode (mB 193) 2 = .ok (.bipush 12, 2) := by decide +kernel
theorem dX12_person_4 : decode (mB 193) 4 = .ok (.invokestatic 118, 3) := by decide +kernel
theorem dX12_person_7 : decode (mB 193) 7 = .ok (.ifCond .ne 5, 3) := by decide +kernel
theorem dX12_person_10 : decode (mB 193) 10 = .ok (.iconst (-1), 1) := by decide +kernel
theorem dX12_person_11 : decode (mB 193) 11 = .ok (.ireturn, 1) := by decide +kernel
theorem dX12_person_12 : decode (mB 193) 12 = .ok (.aload_n 0, 1) := by decide +kernel
theorem dX12_person_13 : decode (mB 193) 13 = .ok (.getfield 115, 3) := by decide +kernel
theorem dX12_person_16 : decode (mB 193) 16 = .ok (.bipush 6, 2) := by decide +kernel
theorem dX12_person_18 : decode (mB 193) 18 = .ok (.if_icmp .ne 6, 3) := by decide +kernel
theorem dX12_person_21 : decode (mB 193) 21 = .ok (.bipush (-3), 2) := by decide +kernel
theorem dX12_person_23 : decode (mB 193) 23 = .ok (.ireturn, 1) := by decide +kernel
theorem dX12_person_24 : decode (mB 193) 24 = .ok (.aload_n 0, 1) := by decide +kernel
theorem dX12_person_25 : decode (mB 193) 25 = .ok (.getfield 9, 3) := by decide +kernel
theorem dX12_person_28 : decode (mB 193) 28 = .ok (.aload_n 0, 1) := by decide +kernel
theorem dX12_person_29 : decode (mB 193) 29 = .ok (.getfield 115, 3) := by decide +kernel
theorem dX12_person_32 : decode (mB 193) 32 = .ok (.iload_n 1, 1) := by decide +kernel
theorem dX12_person_33 : decode (mB 193) 33 = .ok (.iastore, 1) := by decide +kernel
theorem dX12_person_34 : decode (mB 193) 34 = .ok (.aload_n 0, 1) := by decide +kernel
theorem dX12_person_35 : decode (mB 193) 35 = .ok (.getfield 15, 3) := by decide +kernel
theorem dX12_person_38 : decode (mB 193) 38 = .ok (.aload_n 0, 1) := by decide +kernel
theorem dX12_person_39 : decode (mB 193) 39 = .ok (.getfield 115, 3) := by decide +kernel
theorem dX12_person_42 : decode (mB 193) 42 = .ok (.iconst 0, 1) := by decide +kernel
theorem dX12_person_43 : decode (mB 193) 43 = .ok (.iastore, 1) := by decide +kernel
theorem dX12_person_44 : decode (mB 193) 44 = .ok (.aload_n 0, 1) := by decide +kernel
theorem dX12_person_45 : decode (mB 193) 45 = .ok (.getfield 18, 3) := by decide +kernel
theorem dX12_person_48 : decode (mB 193) 48 = .ok (.aload_n 0, 1) := by decide +kernel
theorem dX12_person_49 : decode (mB 193) 49 = .ok (.getfield 115, 3) := by decide +kernel
theorem dX12_person_52 : decode (mB 193) 52 = .ok (.bipush 10, 2) := by decide +kernel
theorem dX12_person_54 : decode (mB 193) 54 = .ok (.iastore, 1) := by decide +kernel
theorem dX12_person_55 : decode (mB 193) 55 = .ok (.aload_n 0, 1) := by decide +kernel
theorem dX12_person_56 : decode (mB 193) 56 = .ok (.getfield 21, 3) := by decide +kernel
theorem dX12_person_59 : decode (mB 193) 59 = .ok (.aload_n 0, 1) := by decide +kernel
theorem dX12_person_60 : decode (mB 193) 60 = .ok (.getfield 115, 3) := by decide +kernel
theorem dX12_person_63 : decode (mB 193) 63 = .ok (.iconst 0, 1) := by decide +kernel
theorem dX12_person_64 : decode (mB 193) 64 = .ok (.iastore, 1) := by decide +kernel
theorem dX12_person_65 : decode (mB 193) 65 = .ok (.aload_n 0, 1) := by decide +kernel
theorem dX12_person_66 : decode (mB 193) 66 = .ok (.dup, 1) := by decide +kernel
theorem dX12_person_67 : decode (mB 193) 67 = .ok (.getfield 115, 3) := by decide +kernel
theorem dX12_person_70 : decode (mB 193) 70 = .ok (.iconst 1, 1) := by decide +kernel
theorem dX12_person_71 : decode (mB 193) 71 = .ok (.iadd, 1) := by decide +kernel
theorem dX12_person_72 : decode (mB 193) 72 = .ok (.putfield 115, 3) := by decide +kernel
theorem dX12_person_75 : decode (mB 193) 75 = .ok (.aload_n 0, 1) := by decide +kernel
theorem dX12_person_76 : decode (mB 193) 76 = .ok (.getfield 115, 3) := by decide +kernel
theorem dX12_person_79 : decode (mB 193) 79 = .ok (.iconst 1, 1) := by decide +kernel
theorem dX12_person_80 : decode (mB 193) 80 = .ok (.isub, 1) := by decide +kernel
theorem dX12_person_81 : decode (mB 193) 81 = .ok (.ireturn, 1) := by decide +kernel
theorem dX12_areTicket_0 : decode (mB 194) 0 = .ok (.aload_n 0, 1) := by decide +kernel
theorem dX12_areTicket_1 : decode (mB 194) 1 = .ok (.iload_n 1, 1) := by decide +kernel
theorem dX12_areTicket_2 : decode (mB 194) 2 = .ok (.invokevirtual 125, 3) := by decide +kernel
theorem dX12_areTicket_5 : decode (mB 194) 5 = .ok (.ifCond .eq 16, 3) := by decide +kernel
theorem dX12_areTicket_8 : decode (mB 194) 8 = .ok (.iload_n 2, 1) := by decide +kernel
theorem dX12_areTicket_9 : decode (mB 194) 9 = .ok (.iconst 0, 1) := by decide +kernel
theorem dX12_areTicket_10 : decode (mB 194) 10 = .ok (.iconst 1, 1) := by decide +kernel
theorem dX12_areTicket_11 : decode (mB 194) 11 = .ok (.invokestatic 118, 3) := by decide +kernel
theorem dX12_areTicket_14 : decode (mB 194) 14 = .ok (.ifCond .eq 7, 3) := by decide +kernel
theorem dX12_areTicket_17 : decode (mB 194) 17 = .ok (.iconst 1, 1) := by decide +kernel
theorem dX12_areTicket_18 : decode (mB 194) 18 = .ok (.goto 4, 3) := by decide +kernel
theorem dX12_areTicket_21 : decode (mB 194) 21 = .ok (.iconst 0, 1) := by decide +kernel
theorem dX12_areTicket_22 : decode (mB 194) 22 = .ok (.ireturn, 1) := by decide +kernel
theorem dX12_addTicket_0 : decode (mB 195) 0 = .ok (.aload_n 0, 1) := by decide +kernel
theorem dX12_addTicket_1 : decode (mB 195) 1 = .ok (.getfield 24, 3) := by decide +kernel
theorem dX12_addTicket_4 : decode (mB 195) 4 = .ok (.aload_n 0, 1) := by decide +kernel
theorem dX12_addTicket_5 : decode (mB 195) 5 = .ok (.getfield 122, 3) := by decide +kernel
theorem dX12_addTicket_8 : decode (mB 195) 8 = .ok (.iload_n 1, 1) := by decide +kernel
theorem dX12_addTicket_9 : decode (mB 195) 9 = .ok (.iastore, 1) := by decide +kernel
theorem dX12_addTicket_10 : decode (mB 195) 10 = .ok (.aload_n 0, 1) := by decide +kernel
theorem dX12_addTicket_11 : decode (mB 195) 11 = .ok (.getfield 27, 3) := by decide +kernel
theorem dX12_addTicket_14 : decode (mB 195) 14 = .ok (.aload_n 0, 1) := by decide +kernel
theorem dX12_addTicket_15 : decode (mB 195) 15 = .ok (.getfield 122, 3) := by decide +kernel
theorem dX12_addTicket_18 : decode (mB 195) 18 = .ok (.iload_n 2, 1) := by decide +kernel
theorem dX12_addTicket_19 : decode (mB 195) 19 = .ok (.iastore, 1) := by decide +kernel
theorem dX12_addTicket_20 : decode (mB 195) 20 = .ok (.aload_n 0, 1) := by decide +kernel
theorem dX12_addTicket_21 : decode (mB 195) 21 = .ok (.getfield 30, 3) := by decide +kernel
theorem dX12_addTicket_24 : decode (mB 195) 24 = .ok (.aload_n 0, 1) := by decide +kernel
theorem dX12_addTicket_25 : decode (mB 195) 25 = .ok (.getfield 122, 3) := by decide +kernel
theorem dX12_addTicket_28 : decode (mB 195) 28 = .ok (.iload_n 3, 1) := by decide +kernel
theorem dX12_addTicket_29 : decode (mB 195) 29 = .ok (.iastore, 1) := by decide +kernel
theorem dX12_addTicket_30 : decode (mB 195) 30 = .ok (.aload_n 0, 1) := by decide +kernel
theorem dX12_addTicket_31 : decode (mB 195) 31 = .ok (.dup, 1) := by decide +kernel
theorem dX12_addTicket_32 : decode (mB 195) 32 = .ok (.getfield 122, 3) := by decide +kernel
theorem dX12_addTicket_35 : decode (mB 195) 35 = .ok (.iconst 1, 1) := by decide +kernel
theorem dX12_addTicket_36 : decode (mB 195) 36 = .ok (.iadd, 1) := by decide +kernel
theorem dX12_addTicket_37 : decode (mB 195) 37 = .ok (.putfield 122, 3) := by decide +kernel
theorem dX12_addTicket_40 : decode (mB 195) 40 = .ok (.aload_n 0, 1) := by decide +kernel
theorem dX12_addTicket_41 : decode (mB 195) 41 = .ok (.getfield 122, 3) := by decide +kernel
theorem dX12_addTicket_44 : decode (mB 195) 44 = .ok (.iconst 1, 1) := by decide +kernel
theorem dX12_addTicket_45 : decode (mB 195) 45 = .ok (.isub, 1) := by decide +kernel
theorem dX12_addTicket_46 : decode (mB 195) 46 = .ok (.ireturn, 1) := by decide +kernel
theorem dX12_ticket_0 : decode (mB 196) 0 = .ok (.aload_n 0, 1) := by decide +kernel
theorem dX12_ticket_1 : decode (mB 196) 1 = .ok (.iload_n 1, 1) := by decide +kernel
theorem dX12_ticket_2 : decode (mB 196) 2 = .ok (.iload_n 2, 1) := by decide +kernel
theorem dX12_ticket_3 : decode (mB 196) 3 = .ok (.invokevirtual 129, 3) := by decide +kernel
theorem dX12_ticket_6 : decode (mB 196) 6 = .ok (.ifCond .ne 5, 3) := by decide +kernel
theorem dX12_ticket_9 : decode (mB 196) 9 = .ok (.iconst (-1), 1) := by decide +kernel
theorem dX12_ticket_10 : decode (mB 196) 10 = .ok (.ireturn, 1) := by decide +kernel
theorem dX12_ticket_11 : decode (mB 196) 11 = .ok (.aload_n 0, 1) := by decide +kernel
theorem dX12_ticket_12 : decode (mB 196) 12 = .ok (.getfield 122, 3) := by decide +kernel
theorem dX12_ticket_15 : decode (mB 196) 15 = .ok (.bipush 12, 2) := by decide +kernel
theorem dX12_ticket_17 : decode (mB 196) 17 = .ok (.if_icmp .ne 8, 3) := by decide +kernel
theorem dX12_ticket_20 : decode (mB 196) 20 = .ok (.bipush (-3), 2) := by decide +kernel
theorem dX12_ticket_22 : decode (mB 196) 22 = .ok (.goto 10, 3) := by decide +kernel
theorem dX12_ticket_25 : decode (mB 196) 25 = .ok (.aload_n 0, 1) := by decide +kernel
theorem dX12_ticket_26 : decode (mB 196) 26 = .ok (.iload_n 1, 1) := by decide +kernel
theorem dX12_ticket_27 : decode (mB 196) 27 = .ok (.iload_n 2, 1) := by decide +kernel
theorem dX12_ticket_28 : decode (mB 196) 28 = .ok (.iconst 0, 1) := by decide +kernel
theorem dX12_ticket_29 : decode (mB 196) 29 = .ok (.invokevirtual 133, 3) := by decide +kernel
theorem dX12_ticket_32 : decode (mB 196) 32 = .ok (.ireturn, 1) := by decide +kernel
theorem dX12_tickets_0 : decode (mB 197) 0 = .ok (.iload_n 1, 1) := by decide +kernel
theorem dX12_tickets_1 : decode (mB 197) 1 = .ok (.invokestatic 137, 3) := by decide +kernel
theorem dX12_tickets_4 : decode (mB 197) 4 = .ok (.ifCond .eq 13, 3) := by decide +kernel
theorem dX12_tickets_7 : decode (mB 197) 7 = .ok (.iload_n 3, 1) := by decide +kernel
theorem dX12_tickets_8 : decode (mB 197) 8 = .ok (.iconst 1, 1) := by decide +kernel
theorem dX12_tickets_9 : decode (mB 197) 9 = .ok (.bipush 12, 2) := by decide +kernel
theorem dX12_tickets_11 : decode (mB 197) 11 = .ok (.invokestatic 118, 3) := by decide +kernel
theorem dX12_tickets_14 : decode (mB 197) 14 = .ok (.ifCond .ne 5, 3) := by decide +kernel
theorem dX12_tickets_17 : decode (mB 197) 17 = .ok (.iconst (-1), 1) := by decide +kernel
theorem dX12_tickets_18 : decode (mB 197) 18 = .ok (.ireturn, 1) := by decide +kernel
theorem dX12_tickets_19 : decode (mB 197) 19 = .ok (.aload_n 0, 1) := by decide +kernel
theorem dX12_tickets_20 : decode (mB 197) 20 = .ok (.getfield 98, 3) := by decide +kernel
theorem dX12_tickets_23 : decode (mB 197) 23 = .ok (.iload_n 1, 1) := by decide +kernel
theorem dX12_tickets_24 : decode (mB 197) 24 = .ok (.iaload, 1) := by decide +kernel
theorem dX12_tickets_25 : decode (mB 197) 25 = .ok (.iconst (-1), 1) := by decide +kernel
theorem dX12_tickets_26 : decode (mB 197) 26 = .ok (.if_icmp .eq 17, 3) := by decide +kernel
theorem dX12_tickets_29 : decode (mB 197) 29 = .ok (.aload_n 0, 1) := by decide +kernel
theorem dX12_tickets_30 : decode (mB 197) 30 = .ok (.getfield 98, 3) := by decide +kernel
theorem dX12_tickets_33 : decode (mB 197) 33 = .ok (.iload_n 1, 1) := by decide +kernel
theorem dX12_tickets_34 : decode (mB 197) 34 = .ok (.iaload, 1) := by decide +kernel
theorem dX12_tickets_35 : decode (mB 197) 35 = .ok (.bipush (-2), 2) := by decide +kernel
theorem dX12_tickets_37 : decode (mB 197) 37 = .ok (.if_icmp .eq 6, 3) := by decide +kernel
theorem dX12_tickets_40 : decode (mB 197) 40 = .ok (.bipush (-12), 2) := by decide +kernel
theorem dX12_tickets_42 : decode (mB 197) 42 = .ok (.ireturn, 1) := by decide +kernel
theorem dX12_tickets_43 : decode (mB 197) 43 = .ok (.aload_n 0, 1) := by decide +kernel
theorem dX12_tickets_44 : decode (mB 197) 44 = .ok (.getfield 98, 3) := by decide +kernel
theorem dX12_tickets_47 : decode (mB 197) 47 = .ok (.iload_n 1, 1) := by decide +kernel
theorem dX12_tickets_48 : decode (mB 197) 48 = .ok (.iaload, 1) := by decide +kernel
theorem dX12_tickets_49 : decode (mB 197) 49 = .ok (.iconst (-1), 1) := by decide +kernel
theorem dX12_tickets_50 : decode (mB 197) 50 = .ok (.if_icmp .ne 5, 3) := by decide +kernel
theorem dX12_tickets_53 : decode (mB 197) 53 = .ok (.iconst 0, 1) := by decide +kernel
theorem dX12_tickets_54 : decode (mB 197) 54 = .ok (.ireturn, 1) := by decide +kernel
theorem dX12_tickets_55 : decode (mB 197) 55 = .ok (.iconst 0, 1) := by decide +kernel
theorem dX12_tickets_56 : decode (mB 197) 56 = .ok (.istore 4, 2) := by decide +kernel
theorem dX12_tickets_58 : decode (mB 197) 58 = .ok (.iload 4, 2) := by decide +kernel
theorem dX12_tickets_60 : decode (mB 197) 60 = .ok (.iload_n 3, 1) := by decide +kernel
theorem dX12_tickets_61 : decode (mB 197) 61 = .ok (.if_icmp .ge 144, 3) := by decide +kernel
theorem dX12_tickets_64 : decode (mB 197) 64 = .ok (.iload_n 2, 1) := by decide +kernel
theorem dX12_tickets_65 : decode (mB 197) 65 = .ok (.i2l, 1) := by decide +kernel
theorem dX12_tickets_66 : decode (mB 197) 66 = .ok (.iconst 3, 1) := by decide +kernel
theorem dX12_tickets_67 : decode (mB 197) 67 = .ok (.iload 4, 2) := by decide +kernel
theorem dX12_tickets_69 : decode (mB 197) 69 = .ok (.imul, 1) := by decide +kernel
theorem dX12_tickets_70 : decode (mB 197) 70 = .ok (.i2l, 1) := by decide +kernel
theorem dX12_tickets_71 : decode (mB 197) 71 = .ok (.ladd, 1) := by decide +kernel
theorem dX12_tickets_72 : decode (mB 197) 72 = .ok (.lstore 5, 2) := by decide +kernel
theorem dX12_tickets_74 : decode (mB 197) 74 = .ok (.lload 5, 2) := by decide +kernel
theorem dX12_tickets_76 : decode (mB 197) 76 = .ok (.lconst 0, 1) := by decide +kernel
theorem dX12_tickets_77 : decode (mB 197) 77 = .ok (.lcmp, 1) := by decide +kernel
theorem dX12_tickets_78 : decode (mB 197) 78 = .ok (.ifCond .lt 29, 3) := by decide +kernel
theorem dX12_tickets_81 : decode (mB 197) 81 = .ok (.lload 5, 2) := by decide +kernel
theorem dX12_tickets_83 : decode (mB 197) 83 = .ok (.ldc2_w 140, 3) := by decide +kernel
theorem dX12_tickets_86 : decode (mB 197) 86 = .ok (.ladd, 1) := by decide +kernel
theorem dX12_tickets_87 : decode (mB 197) 87 = .ok (.aload_n 0, 1) := by decide +kernel
theorem dX12_tickets_88 : decode (mB 197) 88 = .ok (.getfield 101, 3) := by decide +kernel
theorem dX12_tickets_91 : decode (mB 197) 91 = .ok (.iload_n 1, 1) := by decide +kernel
theorem dX12_tickets_92 : decode (mB 197) 92 = .ok (.iaload, 1) := by decide +kernel
theorem dX12_tickets_93 : decode (mB 197) 93 = .ok (.i2l, 1) := by decide +kernel
theorem dX12_tickets_94 : decode (mB 197) 94 = .ok (.lcmp, 1) := by decide +kernel
theorem dX12_tickets_95 : decode (mB 197) 95 = .ok (.ifCond .ge 12, 3) := by decide +kernel
theorem dX12_tickets_98 : decode (mB 197) 98 = .ok (.aload_n 0, 1) := by decide +kernel
theorem dX12_tickets_99 : decode (mB 197) 99 = .ok (.getfield 122, 3) := by decide +kernel
theorem dX12_tickets_102 : decode (mB 197) 102 = .ok (.bipush 12, 2) := by decide +kernel
theorem dX12_tickets_104 : decode (mB 197) 104 = .ok (.if_icmp .ne 6, 3) := by decide +kernel
theorem dX12_tickets_107 : decode (mB 197) 107 = .ok (.iload 4, 2) := by decide +kernel
theorem dX12_tickets_109 : decode (mB 197) 109 = .ok (.ireturn, 1) := by decide +kernel
theorem dX12_tickets_110 : decode (mB 197) 110 = .ok (.bipush 60, 2) := by decide +kernel
theorem dX12_tickets_112 : decode (mB 197) 112 = .ok (.iload_n 1, 1) := by decide +kernel
theorem dX12_tickets_113 : decode (mB 197) 113 = .ok (.imul, 1) := by decide +kernel
theorem dX12_tickets_114 : decode (mB 197) 114 = .ok (.lload 5, 2) := by decide +kernel
theorem dX12_tickets_116 : decode (mB 197) 116 = .ok (.l2i, 1) := by decide +kernel
theorem dX12_tickets_117 : decode (mB 197) 117 = .ok (.iadd, 1) := by decide +kernel
theorem dX12_tickets_118 : decode (mB 197) 118 = .ok (.istore 7, 2) := by decide +kernel
theorem dX12_tickets_120 : decode (mB 197) 120 = .ok (.aload_n 0, 1) := by decide +kernel
theorem dX12_tickets_121 : decode (mB 197) 121 = .ok (.aload_n 0, 1) := by decide +kernel
theorem dX12_tickets_122 : decode (mB 197) 122 = .ok (.getfield 104, 3) := by decide +kernel
theorem dX12_tickets_125 : decode (mB 197) 125 = .ok (.iload 7, 2) := by decide +kernel
theorem dX12_tickets_127 : decode (mB 197) 127 = .ok (.laload, 1) := by decide +kernel
theorem dX12_tickets_128 : decode (mB 197) 128 = .ok (.l2i, 1) := by decide +kernel
theorem dX12_tickets_129 : decode (mB 197) 129 = .ok (.aload_n 0, 1) := by decide +kernel
theorem dX12_tickets_130 : decode (mB 197) 130 = .ok (.getfield 104, 3) := by decide +kernel
theorem dX12_tickets_133 : decode (mB 197) 133 = .ok (.iload 7, 2) := by decide +kernel
theorem dX12_tickets_135 : decode (mB 197) 135 = .ok (.iconst 1, 1) := by decide +kernel
theorem dX12_tickets_136 : decode (mB 197) 136 = .ok (.iadd, 1) := by decide +kernel
theorem dX12_tickets_137 : decode (mB 197) 137 = .ok (.laload, 1) := by decide +kernel
theorem dX12_tickets_138 : decode (mB 197) 138 = .ok (.l2i, 1) := by decide +kernel
theorem dX12_tickets_139 : decode (mB 197) 139 = .ok (.invokevirtual 129, 3) := by decide +kernel
theorem dX12_tickets_142 : decode (mB 197) 142 = .ok (.ifCond .eq 21, 3) := by decide +kernel
theorem dX12_tickets_145 : decode (mB 197) 145 = .ok (.aload_n 0, 1) := by decide +kernel
theorem dX12_tickets_146 : decode (mB 197) 146 = .ok (.getfield 104, 3) := by decide +kernel
theorem dX12_tickets_149 : decode (mB 197) 149 = .ok (.iload 7, 2) := by decide +kernel
theorem dX12_tickets_151 : decode (mB 197) 151 = .ok (.iconst 2, 1) := by decide +kernel
theorem dX12_tickets_152 : decode (mB 197) 152 = .ok (.iadd, 1) := by decide +kernel
theorem dX12_tickets_153 : decode (mB 197) 153 = .ok (.laload, 1) := by decide +kernel
theorem dX12_tickets_154 : decode (mB 197) 154 = .ok (.l2i, 1) := by decide +kernel
theorem dX12_tickets_155 : decode (mB 197) 155 = .ok (.iconst 0, 1) := by decide +kernel
theorem dX12_tickets_156 : decode (mB 197) 156 = .ok (.iconst 4, 1) := by decide +kernel
theorem dX12_tickets_157 : decode (mB 197) 157 = .ok (.invokestatic 118, 3) := by decide +kernel
theorem dX12_tickets_160 : decode (mB 197) 160 = .ok (.ifCond .ne 6, 3) := by decide +kernel
theorem dX12_tickets_163 : decode (mB 197) 163 = .ok (.iload 4, 2) := by decide +kernel
theorem dX12_tickets_165 : decode (mB 197) 165 = .ok (.ireturn, 1) := by decide +kernel
theorem dX12_tickets_166 : decode (mB 197) 166 = .ok (.aload_n 0, 1) := by decide +kernel
theorem dX12_tickets_167 : decode (mB 197) 167 = .ok (.aload_n 0, 1) := by decide +kernel
theorem dX12_tickets_168 : decode (mB 197) 168 = .ok (.getfield 104, 3) := by decide +kernel
theorem dX12_tickets_171 : decode (mB 197) 171 = .ok (.iload 7, 2) := by decide +kernel
theorem dX12_tickets_173 : decode (mB 197) 173 = .ok (.laload, 1) := by decide +kernel
theorem dX12_tickets_174 : decode (mB 197) 174 = .ok (.l2i, 1) := by decide +kernel
theorem dX12_tickets_175 : decode (mB 197) 175 = .ok (.aload_n 0, 1) := by decide +kernel
theorem dX12_tickets_176 : decode (mB 197) 176 = .ok (.getfield 104, 3) := by decide +kernel
theorem dX12_tickets_179 : decode (mB 197) 179 = .ok (.iload 7, 2) := by decide +kernel
theorem dX12_tickets_181 : decode (mB 197) 181 = .ok (.iconst 1, 1) := by decide +kernel
theorem dX12_tickets_182 : decode (mB 197) 182 = .ok (.iadd, 1) := by decide +kernel
theorem dX12_tickets_183 : decode (mB 197) 183 = .ok (.laload, 1) := by decide +kernel
theorem dX12_tickets_184 : decode (mB 197) 184 = .ok (.l2i, 1) := by decide +kernel
theorem dX12_tickets_185 : decode (mB 197) 185 = .ok (.aload_n 0, 1) := by decide +kernel
theorem dX12_tickets_186 : decode (mB 197) 186 = .ok (.getfield 104, 3) := by decide +kernel
theorem dX12_tickets_189 : decode (mB 197) 189 = .ok (.iload 7, 2) := by decide +kernel
theorem dX12_tickets_191 : decode (mB 197) 191 = .ok (.iconst 2, 1) := by decide +kernel
theorem dX12_tickets_192 : decode (mB 197) 192 = .ok (.iadd, 1) := by decide +kernel
theorem dX12_tickets_193 : decode (mB 197) 193 = .ok (.laload, 1) := by decide +kernel
theorem dX12_tickets_194 : decode (mB 197) 194 = .ok (.l2i, 1) := by decide +kernel
theorem dX12_tickets_195 : decode (mB 197) 195 = .ok (.invokevirtual 133, 3) := by decide +kernel
theorem dX12_tickets_198 : decode (mB 197) 198 = .ok (.pop, 1) := by decide +kernel
theorem dX12_tickets_199 : decode (mB 197) 199 = .ok (.iinc 4 1, 3) := by decide +kernel
theorem dX12_tickets_202 : decode (mB 197) 202 = .ok (.goto (-144), 3) := by decide +kernel
theorem dX12_tickets_205 : decode (mB 197) 205 = .ok (.iload_n 3, 1) := by decide +kernel
theorem dX12_tickets_206 : decode (mB 197) 206 = .ok (.ireturn, 1) := by decide +kernel
theorem dX12_valueAt_0 : decode (mB 198) 0 = .ok (.iload_n 1, 1) := by decide +kernel
theorem dX12_valueAt_1 : decode (mB 198) 1 = .ok (.tableswitch 92 0 6 #[43, 50, 57, 64, 71, 78, 85], 43) := by decide +kernel
theorem dX12_valueAt_44 : decode (mB 198) 44 = .ok (.aload_n 0, 1) := by decide +kernel
theorem dX12_valueAt_45 : decode (mB 198) 45 = .ok (.getfield 9, 3) := by decide +kernel
theorem dX12_valueAt_48 : decode (mB 198) 48 = .ok (.iload_n 2, 1) := by decide +kernel
theorem dX12_valueAt_49 : decode (mB 198) 49 = .ok (.iaload, 1) := by decide +kernel
theorem dX12_valueAt_50 : decode (mB 198) 50 = .ok (.ireturn, 1) := by decide +kernel
theorem dX12_valueAt_51 : decode (mB 198) 51 = .ok (.aload_n 0, 1) := by decide +kernel
theorem dX12_valueAt_52 : decode (mB 198) 52 = .ok (.getfield 15, 3) := by decide +kernel
theorem dX12_valueAt_55 : decode (mB 198) 55 = .ok (.iload_n 2, 1) := by decide +kernel
theorem dX12_valueAt_56 : decode (mB 198) 56 = .ok (.iaload, 1) := by decide +kernel
theorem dX12_valueAt_57 : decode (mB 198) 57 = .ok (.ireturn, 1) := by decide +kernel
theorem dX12_valueAt_58 : decode (mB 198) 58 = .ok (.aload_n 0, 1) := by decide +kernel
theorem dX12_valueAt_59 : decode (mB 198) 59 = .ok (.getfield 18, 3) := by decide +kernel
theorem dX12_valueAt_62 : decode (mB 198) 62 = .ok (.iload_n 2, 1) := by decide +kernel
theorem dX12_valueAt_63 : decode (mB 198) 63 = .ok (.iaload, 1) := by decide +kernel
theorem dX12_valueAt_64 : decode (mB 198) 64 = .ok (.ireturn, 1) := by decide +kernel
theorem dX12_valueAt_65 : decode (mB 198) 65 = .ok (.aload_n 0, 1) := by decide +kernel
theorem dX12_valueAt_66 : decode (mB 198) 66 = .ok (.getfield 21, 3) := by decide +kernel
theorem dX12_valueAt_69 : decode (mB 198) 69 = .ok (.iload_n 2, 1) := by decide +kernel
theorem dX12_valueAt_70 : decode (mB 198) 70 = .ok (.iaload, 1) := by decide +kernel
theorem dX12_valueAt_71 : decode (mB 198) 71 = .ok (.ireturn, 1) := by decide +kernel
theorem dX12_valueAt_72 : decode (mB 198) 72 = .ok (.aload_n 0, 1) := by decide +kernel
theorem dX12_valueAt_73 : decode (mB 198) 73 = .ok (.getfield 24, 3) := by decide +kernel
theorem dX12_valueAt_76 : decode (mB 198) 76 = .ok (.iload_n 2, 1) := by decide +kernel
theorem dX12_valueAt_77 : decode (mB 198) 77 = .ok (.iaload, 1) := by decide +kernel
theorem dX12_valueAt_78 : decode (mB 198) 78 = .ok (.ireturn, 1) := by decide +kernel
theorem dX12_valueAt_79 : decode (mB 198) 79 = .ok (.aload_n 0, 1) := by decide +kernel
theorem dX12_valueAt_80 : decode (mB 198) 80 = .ok (.getfield 27, 3) := by decide +kernel
theorem dX12_valueAt_83 : decode (mB 198) 83 = .ok (.iload_n 2, 1) := by decide +kernel
theorem dX12_valueAt_84 : decode (mB 198) 84 = .ok (.iaload, 1) := by decide +kernel
theorem dX12_valueAt_85 : decode (mB 198) 85 = .ok (.ireturn, 1) := by decide +kernel
theorem dX12_valueAt_86 : decode (mB 198) 86 = .ok (.aload_n 0, 1) := by decide +kernel
theorem dX12_valueAt_87 : decode (mB 198) 87 = .ok (.getfield 30, 3) := by decide +kernel
theorem dX12_valueAt_90 : decode (mB 198) 90 = .ok (.iload_n 2, 1) := by decide +kernel
theorem dX12_valueAt_91 : decode (mB 198) 91 = .ok (.iaload, 1) := by decide +kernel
theorem dX12_valueAt_92 : decode (mB 198) 92 = .ok (.ireturn, 1) := by decide +kernel
theorem dX12_valueAt_93 : decode (mB 198) 93 = .ok (.aload_n 0, 1) := by decide +kernel
theorem dX12_valueAt_94 : decode (mB 198) 94 = .ok (.getfield 33, 3) := by decide +kernel
theorem dX12_valueAt_97 : decode (mB 198) 97 = .ok (.iload_n 1, 1) := by decide +kernel
theorem dX12_valueAt_98 : decode (mB 198) 98 = .ok (.bipush 7, 2) := by decide +kernel
theorem dX12_valueAt_100 : decode (mB 198) 100 = .ok (.isub, 1) := by decide +kernel
theorem dX12_valueAt_101 : decode (mB 198) 101 = .ok (.iaload, 1) := by decide +kernel
theorem dX12_valueAt_102 : decode (mB 198) 102 = .ok (.ireturn, 1) := by decide +kernel
theorem dX12_lays_0 : decode (mB 199) 0 = .ok (.iload_n 1, 1) := by decide +kernel
theorem dX12_lays_1 : decode (mB 199) 1 = .ok (.tableswitch 113 0 6 #[43, 53, 63, 73, 83, 93, 103], 43) := by decide +kernel
theorem dX12_lays_44 : decode (mB 199) 44 = .ok (.aload_n 0, 1) := by decide +kernel
theorem dX12_lays_45 : decode (mB 199) 45 = .ok (.getfield 9, 3) := by decide +kernel
theorem dX12_lays_48 : decode (mB 199) 48 = .ok (.iload_n 2, 1) := by decide +kernel
theorem dX12_lays_49 : decode (mB 199) 49 = .ok (.iload_n 3, 1) := by decide +kernel
theorem dX12_lays_50 : decode (mB 199) 50 = .ok (.iastore, 1) := by decide +kernel
theorem dX12_lays_51 : decode (mB 199) 51 = .ok (.goto 73, 3) := by decide +kernel
theorem dX12_lays_54 : decode (mB 199) 54 = .ok (.aload_n 0, 1) := by decide +kernel
theorem dX12_lays_55 : decode (mB 199) 55 = .ok (.getfield 15, 3) := by decide +kernel
theorem dX12_lays_58 : decode (mB 199) 58 = .ok (.iload_n 2, 1) := by decide +kernel
theorem dX12_lays_59 : decode (mB 199) 59 = .ok (.iload_n 3, 1) := by decide +kernel
theorem dX12_lays_60 : decode (mB 199) 60 = .ok (.iastore, 1) := by decide +kernel
theorem dX12_lays_61 : decode (mB 199) 61 = .ok (.goto 63, 3) := by decide +kernel
theorem dX12_lays_64 : decode (mB 199) 64 = .ok (.aload_n 0, 1) := by decide +kernel
theorem dX12_lays_65 : decode (mB 199) 65 = .ok (.getfield 18, 3) := by decide +kernel
theorem dX12_lays_68 : decode (mB 199) 68 = .ok (.iload_n 2, 1) := by decide +kernel
theorem dX12_lays_69 : decode (mB 199) 69 = .ok (.iload_n 3, 1) := by decide +kernel
theorem dX12_lays_70 : decode (mB 199) 70 = .ok (.iastore, 1) := by decide +kernel
theorem dX12_lays_71 : decode (mB 199) 71 = .ok (.goto 53, 3) := by decide +kernel
theorem dX12_lays_74 : decode (mB 199) 74 = .ok (.aload_n 0, 1) := by decide +kernel
theorem dX12_lays_75 : decode (mB 199) 75 = .ok (.getfield 21, 3) := by decide +kernel
theorem dX12_lays_78 : decode (mB 199) 78 = .ok (.iload_n 2, 1) := by decide +kernel
theorem dX12_lays_79 : decode (mB 199) 79 = .ok (.iload_n 3, 1) := by decide +kernel
theorem dX12_lays_80 : decode (mB 199) 80 = .ok (.iastore, 1) := by decide +kernel
theorem dX12_lays_81 : decode (mB 199) 81 = .ok (.goto 43, 3) := by decide +kernel
theorem dX12_lays_84 : decode (mB 199) 84 = .ok (.aload_n 0, 1) := by decide +kernel
theorem dX12_lays_85 : decode (mB 199) 85 = .ok (.getfield 24, 3) := by decide +kernel
theorem dX12_lays_88 : decode (mB 199) 88 = .ok (.iload_n 2, 1) := by decide +kernel
theorem dX12_lays_89 : decode (mB 199) 89 = .ok (.iload_n 3, 1) := by decide +kernel
theorem dX12_lays_90 : decode (mB 199) 90 = .ok (.iastore, 1) := by decide +kernel
theorem dX12_lays_91 : decode (mB 199) 91 = .ok (.goto 33, 3) := by decide +kernel
theorem dX12_lays_94 : decode (mB 199) 94 = .ok (.aload_n 0, 1) := by decide +kernel
theorem dX12_lays_95 : decode (mB 199) 95 = .ok (.getfield 27, 3) := by decide +kernel
theorem dX12_lays_98 : decode (mB 199) 98 = .ok (.iload_n 2, 1) := by decide +kernel
theorem dX12_lays_99 : decode (mB 199) 99 = .ok (.iload_n 3, 1) := by decide +kernel
theorem dX12_lays_100 : decode (mB 199) 100 = .ok (.iastore, 1) := by decide +kernel
theorem dX12_lays_101 : decode (mB 199) 101 = .ok (.goto 23, 3) := by decide +kernel
theorem dX12_lays_104 : decode (mB 199) 104 = .ok (.aload_n 0, 1) := by decide +kernel
theorem dX12_lays_105 : decode (mB 199) 105 = .ok (.getfield 30, 3) := by decide +kernel
theorem dX12_lays_108 : decode (mB 199) 108 = .ok (.iload_n 2, 1) := by decide +kernel
theorem dX12_lays_109 : decode (mB 199) 109 = .ok (.iload_n 3, 1) := by decide +kernel
theorem dX12_lays_110 : decode (mB 199) 110 = .ok (.iastore, 1) := by decide +kernel
theorem dX12_lays_111 : decode (mB 199) 111 = .ok (.goto 13, 3) := by decide +kernel
theorem dX12_lays_114 : decode (mB 199) 114 = .ok (.aload_n 0, 1) := by decide +kernel
theorem dX12_lays_115 : decode (mB 199) 115 = .ok (.getfield 33, 3) := by decide +kernel
theorem dX12_lays_118 : decode (mB 199) 118 = .ok (.iload_n 1, 1) := by decide +kernel
theorem dX12_lays_119 : decode (mB 199) 119 = .ok (.bipush 7, 2) := by decide +kernel
theorem dX12_lays_121 : decode (mB 199) 121 = .ok (.isub, 1) := by decide +kernel
theorem dX12_lays_122 : decode (mB 199) 122 = .ok (.iload_n 3, 1) := by decide +kernel
theorem dX12_lays_123 : decode (mB 199) 123 = .ok (.iastore, 1) := by decide +kernel
theorem dX12_lays_124 : decode (mB 199) 124 = .ok (.return_, 1) := by decide +kernel
theorem dX12_changes_0 : decode (mB 200) 0 = .ok (.aload_n 0, 1) := by decide +kernel
theorem dX12_changes_1 : decode (mB 200) 1 = .ok (.iload_n 1, 1) := by decide +kernel
theorem dX12_changes_2 : decode (mB 200) 2 = .ok (.iload_n 2, 1) := by decide +kernel
theorem dX12_changes_3 : decode (mB 200) 3 = .ok (.invokevirtual 142, 3) := by decide +kernel
theorem dX12_changes_6 : decode (mB 200) 6 = .ok (.istore 4, 2) := by decide +kernel
theorem dX12_changes_8 : decode (mB 200) 8 = .ok (.iload 4, 2) := by decide +kernel
theorem dX12_changes_10 : decode (mB 200) 10 = .ok (.iload_n 3, 1) := by decide +kernel
theorem dX12_changes_11 : decode (mB 200) 11 = .ok (.if_icmp .ne 6, 3) := by decide +kernel
theorem dX12_changes_14 : decode (mB 200) 14 = .ok (.iload 4, 2) := by decide +kernel
theorem dX12_changes_16 : decode (mB 200) 16 = .ok (.ireturn, 1) := by decide +kernel
theorem dX12_changes_17 : decode (mB 200) 17 = .ok (.aload_n 0, 1) := by decide +kernel
theorem dX12_changes_18 : decode (mB 200) 18 = .ok (.iconst 0, 1) := by decide +kernel
theorem dX12_changes_19 : decode (mB 200) 19 = .ok (.putfield 146, 3) := by decide +kernel
theorem dX12_changes_22 : decode (mB 200) 22 = .ok (.aload_n 0, 1) := by decide +kernel
theorem dX12_changes_23 : decode (mB 200) 23 = .ok (.getfield 149, 3) := by decide +kernel
theorem dX12_changes_26 : decode (mB 200) 26 = .ok (.bipush 40, 2) := by decide +kernel
theorem dX12_changes_28 : decode (mB 200) 28 = .ok (.if_icmp .ne 93, 3) := by decide +kernel
theorem dX12_changes_31 : decode (mB 200) 31 = .ok (.iconst 1, 1) := by decide +kernel
theorem dX12_changes_32 : decode (mB 200) 32 = .ok (.istore 5, 2) := by decide +kernel
theorem dX12_changes_34 : decode (mB 200) 34 = .ok (.iload 5, 2) := by decide +kernel
theorem dX12_changes_36 : decode (mB 200) 36 = .ok (.bipush 40, 2) := by decide +kernel
theorem dX12_changes_38 : decode (mB 200) 38 = .ok (.if_icmp .ge 73, 3) := by decide +kernel
theorem dX12_changes_41 : decode (mB 200) 41 = .ok (.aload_n 0, 1) := by decide +kernel
theorem dX12_changes_42 : decode (mB 200) 42 = .ok (.getfield 36, 3) := by decide +kernel
theorem dX12_changes_45 : decode (mB 200) 45 = .ok (.iload 5, 2) := by decide +kernel
theorem dX12_changes_47 : decode (mB 200) 47 = .ok (.iconst 1, 1) := by decide +kernel
theorem dX12_changes_48 : decode (mB 200) 48 = .ok (.isub, 1) := by decide +kernel
theorem dX12_changes_49 : decode (mB 200) 49 = .ok (.aload_n 0, 1) := by decide +kernel
theorem dX12_changes_50 : decode (mB 200) 50 = .ok (.getfield 36, 3) := by decide +kernel
theorem dX12_changes_53 : decode (mB 200) 53 = .ok (.iload 5, 2) := by decide +kernel
theorem dX12_changes_55 : decode (mB 200) 55 = .ok (.iaload, 1) := by decide +kernel
theorem dX12_changes_56 : decode (mB 200) 56 = .ok (.iastore, 1) := by decide +kernel
theorem dX12_changes_57 : decode (mB 200) 57 = .ok (.aload_n 0, 1) := by decide +kernel
theorem dX12_changes_58 : decode (mB 200) 58 = .ok (.getfield 39, 3) := by decide +kernel
theorem dX12_changes_61 : decode (mB 200) 61 = .ok (.iload 5, 2) := by decide +kernel
theorem dX12_changes_63 : decode (mB 200) 63 = .ok (.iconst 1, 1) := by decide +kernel
theorem dX12_changes_64 : decode (mB 200) 64 = .ok (.isub, 1) := by decide +kernel
theorem dX12_changes_65 : decode (mB 200) 65 = .ok (.aload_n 0, 1) := by decide +kernel
theorem dX12_changes_66 : decode (mB 200) 66 = .ok (.getfield 39, 3) := by decide +kernel
theorem dX12_changes_69 : decode (mB 200) 69 = .ok (.iload 5, 2) := by decide +kernel
theorem dX12_changes_71 : decode (mB 200) 71 = .ok (.iaload, 1) := by decide +kernel
theorem dX12_changes_72 : decode (mB 200) 72 = .ok (.iastore, 1) := by decide +kernel
theorem dX12_changes_73 : decode (mB 200) 73 = .ok (.aload_n 0, 1) := by decide +kernel
theorem dX12_changes_74 : decode (mB 200) 74 = .ok (.getfield 42, 3) := by decide +kernel
theorem dX12_changes_77 : decode (mB 200) 77 = .ok (.iload 5, 2) := by decide +kernel
theorem dX12_changes_79 : decode (mB 200) 79 = .ok (.iconst 1, 1) := by decide +kernel
theorem dX12_changes_80 : decode (mB 200) 80 = .ok (.isub, 1) := by decide +kernel
theorem dX12_changes_81 : decode (mB 200) 81 = .ok (.aload_n 0, 1) := by decide +kernel
theorem dX12_changes_82 : decode (mB 200) 82 = .ok (.getfield 42, 3) := by decide +kernel
theorem dX12_changes_85 : decode (mB 200) 85 = .ok (.iload 5, 2) := by decide +kernel
theorem dX12_changes_87 : decode (mB 200) 87 = .ok (.iaload, 1) := by decide +kernel
theorem dX12_changes_88 : decode (mB 200) 88 = .ok (.iastore, 1) := by decide +kernel
theorem dX12_changes_89 : decode (mB 200) 89 = .ok (.aload_n 0, 1) := by decide +kernel
theorem dX12_changes_90 : decode (mB 200) 90 = .ok (.getfield 45, 3) := by decide +kernel
theorem dX12_changes_93 : decode (mB 200) 93 = .ok (.iload 5, 2) := by decide +kernel
theorem dX12_changes_95 : decode (mB 200) 95 = .ok (.iconst 1, 1) := by decide +kernel
theorem dX12_changes_96 : decode (mB 200) 96 = .ok (.isub, 1) := by decide +kernel
theorem dX12_changes_97 : decode (mB 200) 97 = .ok (.aload_n 0, 1) := by decide +kernel
theorem dX12_changes_98 : decode (mB 200) 98 = .ok (.getfield 45, 3) := by decide +kernel
theorem dX12_changes_101 : decode (mB 200) 101 = .ok (.iload 5, 2) := by decide +kernel
theorem dX12_changes_103 : decode (mB 200) 103 = .ok (.iaload, 1) := by decide +kernel
theorem dX12_changes_104 : decode (mB 200) 104 = .ok (.iastore, 1) := by decide +kernel
theorem dX12_changes_105 : decode (mB 200) 105 = .ok (.iinc 5 1, 3) := by decide +kernel
theorem dX12_changes_108 : decode (mB 200) 108 = .ok (.goto (-74), 3) := by decide +kernel
theorem dX12_changes_111 : decode (mB 200) 111 = .ok (.aload_n 0, 1) := by decide +kernel
theorem dX12_changes_112 : decode (mB 200) 112 = .ok (.dup, 1) := by decide +kernel
theorem dX12_changes_113 : decode (mB 200) 113 = .ok (.getfield 149, 3) := by decide +kernel
theorem dX12_changes_116 : decode (mB 200) 116 = .ok (.iconst 1, 1) := by decide +kernel
theorem dX12_changes_117 : decode (mB 200) 117 = .ok (.isub, 1) := by decide +kernel
theorem dX12_changes_118 : decode (mB 200) 118 = .ok (.putfield 149, 3) := by decide +kernel
theorem dX12_changes_121 : decode (mB 200) 121 = .ok (.aload_n 0, 1) := by decide +kernel
theorem dX12_changes_122 : decode (mB 200) 122 = .ok (.getfield 36, 3) := by decide +kernel
theorem dX12_changes_125 : decode (mB 200) 125 = .ok (.aload_n 0, 1) := by decide +kernel
theorem dX12_changes_126 : decode (mB 200) 126 = .ok (.getfield 149, 3) := by decide +kernel
theorem dX12_changes_129 : decode (mB 200) 129 = .ok (.iload_n 1, 1) := by decide +kernel
theorem dX12_changes_130 : decode (mB 200) 130 = .ok (.iastore, 1) := by decide +kernel
theorem dX12_changes_131 : decode (mB 200) 131 = .ok (.aload_n 0, 1) := by decide +kernel
theorem dX12_changes_132 : decode (mB 200) 132 = .ok (.getfield 39, 3) := by decide +kernel
theorem dX12_changes_135 : decode (mB 200) 135 = .ok (.aload_n 0, 1) := by decide +kernel
theorem dX12_changes_136 : decode (mB 200) 136 = .ok (.getfield 149, 3) := by decide +kernel
theorem dX12_changes_139 : decode (mB 200) 139 = .ok (.iload_n 2, 1) := by decide +kernel
theorem dX12_changes_140 : decode (mB 200) 140 = .ok (.iastore, 1) := by decide +kernel
theorem dX12_changes_141 : decode (mB 200) 141 = .ok (.aload_n 0, 1) := by decide +kernel
theorem dX12_changes_142 : decode (mB 200) 142 = .ok (.getfield 42, 3) := by decide +kernel
theorem dX12_changes_145 : decode (mB 200) 145 = .ok (.aload_n 0, 1) := by decide +kernel
theorem dX12_changes_146 : decode (mB 200) 146 = .ok (.getfield 149, 3) := by decide +kernel
theorem dX12_changes_149 : decode (mB 200) 149 = .ok (.iload 4, 2) := by decide +kernel
theorem dX12_changes_151 : decode (mB 200) 151 = .ok (.iastore, 1) := by decide +kernel
theorem dX12_changes_152 : decode (mB 200) 152 = .ok (.aload_n 0, 1) := by decide +kernel
theorem dX12_changes_153 : decode (mB 200) 153 = .ok (.getfield 45, 3) := by decide +kernel
theorem dX12_changes_156 : decode (mB 200) 156 = .ok (.aload_n 0, 1) := by decide +kernel
theorem dX12_changes_157 : decode (mB 200) 157 = .ok (.getfield 149, 3) := by decide +kernel
theorem dX12_changes_160 : decode (mB 200) 160 = .ok (.iload_n 3, 1) := by decide +kernel
theorem dX12_changes_161 : decode (mB 200) 161 = .ok (.iastore, 1) := by decide +kernel
theorem dX12_changes_162 : decode (mB 200) 162 = .ok (.aload_n 0, 1) := by decide +kernel
theorem dX12_changes_163 : decode (mB 200) 163 = .ok (.dup, 1) := by decide +kernel
theorem dX12_changes_164 : decode (mB 200) 164 = .ok (.getfield 149, 3) := by decide +kernel
theorem dX12_changes_167 : decode (mB 200) 167 = .ok (.iconst 1, 1) := by decide +kernel
theorem dX12_changes_168 : decode (mB 200) 168 = .ok (.iadd, 1) := by decide +kernel
theorem dX12_changes_169 : decode (mB 200) 169 = .ok (.putfield 149, 3) := by decide +kernel
theorem dX12_changes_172 : decode (mB 200) 172 = .ok (.aload_n 0, 1) := by decide +kernel
theorem dX12_changes_173 : decode (mB 200) 173 = .ok (.iload_n 1, 1) := by decide +kernel
theorem dX12_changes_174 : decode (mB 200) 174 = .ok (.iload_n 2, 1) := by decide +kernel
theorem dX12_changes_175 : decode (mB 200) 175 = .ok (.iload_n 3, 1) := by decide +kernel
theorem dX12_changes_176 : decode (mB 200) 176 = .ok (.invokevirtual 152, 3) := by decide +kernel
theorem dX12_changes_179 : decode (mB 200) 179 = .ok (.iload 4, 2) := by decide +kernel
theorem dX12_changes_181 : decode (mB 200) 181 = .ok (.ireturn, 1) := by decide +kernel
theorem dX12_undo_0 : decode (mB 201) 0 = .ok (.aload_n 0, 1) := by decide +kernel
theorem dX12_undo_1 : decode (mB 201) 1 = .ok (.getfield 149, 3) := by decide +kernel
theorem dX12_undo_4 : decode (mB 201) 4 = .ok (.ifCond .ne 6, 3) := by decide +kernel
theorem dX12_undo_7 : decode (mB 201) 7 = .ok (.bipush (-5), 2) := by decide +kernel
theorem dX12_undo_9 : decode (mB 201) 9 = .ok (.ireturn, 1) := by decide +kernel
theorem dX12_undo_10 : decode (mB 201) 10 = .ok (.aload_n 0, 1) := by decide +kernel
theorem dX12_undo_11 : decode (mB 201) 11 = .ok (.dup, 1) := by decide +kernel
theorem dX12_undo_12 : decode (mB 201) 12 = .ok (.getfield 149, 3) := by decide +kernel
theorem dX12_undo_15 : decode (mB 201) 15 = .ok (.iconst 1, 1) := by decide +kernel
theorem dX12_undo_16 : decode (mB 201) 16 = .ok (.isub, 1) := by decide +kernel
theorem dX12_undo_17 : decode (mB 201) 17 = .ok (.putfield 149, 3) := by decide +kernel
theorem dX12_undo_20 : decode (mB 201) 20 = .ok (.aload_n 0, 1) := by decide +kernel
theorem dX12_undo_21 : decode (mB 201) 21 = .ok (.dup, 1) := by decide +kernel
theorem dX12_undo_22 : decode (mB 201) 22 = .ok (.getfield 146, 3) := by decide +kernel
theorem dX12_undo_25 : decode (mB 201) 25 = .ok (.iconst 1, 1) := by decide +kernel
theorem dX12_undo_26 : decode (mB 201) 26 = .ok (.iadd, 1) := by decide +kernel
theorem dX12_undo_27 : decode (mB 201) 27 = .ok (.putfield 146, 3) := by decide +kernel
theorem dX12_undo_30 : decode (mB 201) 30 = .ok (.aload_n 0, 1) := by decide +kernel
theorem dX12_undo_31 : decode (mB 201) 31 = .ok (.aload_n 0, 1) := by decide +kernel
theorem dX12_undo_32 : decode (mB 201) 32 = .ok (.getfield 36, 3) := by decide +kernel
theorem dX12_undo_35 : decode (mB 201) 35 = .ok (.aload_n 0, 1) := by decide +kernel
theorem dX12_undo_36 : decode (mB 201) 36 = .ok (.getfield 149, 3) := by decide +kernel
theorem dX12_undo_39 : decode (mB 201) 39 = .ok (.iaload, 1) := by decide +kernel
theorem dX12_undo_40 : decode (mB 201) 40 = .ok (.aload_n 0, 1) := by decide +kernel
theorem dX12_undo_41 : decode (mB 201) 41 = .ok (.getfield 39, 3) := by decide +kernel
theorem dX12_undo_44 : decode (mB 201) 44 = .ok (.aload_n 0, 1) := by decide +kernel
theorem dX12_undo_45 : decode (mB 201) 45 = .ok (.getfield 149, 3) := by decide +kernel
theorem dX12_undo_48 : decode (mB 201) 48 = .ok (.iaload, 1) := by decide +kernel
theorem dX12_undo_49 : decode (mB 201) 49 = .ok (.aload_n 0, 1) := by decide +kernel
theorem dX12_undo_50 : decode (mB 201) 50 = .ok (.getfield 42, 3) := by decide +kernel
theorem dX12_undo_53 : decode (mB 201) 53 = .ok (.aload_n 0, 1) := by decide +kernel
theorem dX12_undo_54 : decode (mB 201) 54 = .ok (.getfield 149, 3) := by decide +kernel
theorem dX12_undo_57 : decode (mB 201) 57 = .ok (.iaload, 1) := by decide +kernel
theorem dX12_undo_58 : decode (mB 201) 58 = .ok (.invokevirtual 152, 3) := by decide +kernel
theorem dX12_undo_61 : decode (mB 201) 61 = .ok (.aload_n 0, 1) := by decide +kernel
theorem dX12_undo_62 : decode (mB 201) 62 = .ok (.getfield 149, 3) := by decide +kernel
theorem dX12_undo_65 : decode (mB 201) 65 = .ok (.ireturn, 1) := by decide +kernel
theorem dX12_redo_0 : decode (mB 202) 0 = .ok (.aload_n 0, 1) := by decide +kernel
theorem dX12_redo_1 : decode (mB 202) 1 = .ok (.getfield 146, 3) := by decide +kernel
theorem dX12_redo_4 : decode (mB 202) 4 = .ok (.ifCond .ne 6, 3) := by decide +kernel
theorem dX12_redo_7 : decode (mB 202) 7 = .ok (.bipush (-5), 2) := by decide +kernel
theorem dX12_redo_9 : decode (mB 202) 9 = .ok (.ireturn, 1) := by decide +kernel
theorem dX12_redo_10 : decode (mB 202) 10 = .ok (.aload_n 0, 1) := by decide +kernel
theorem dX12_redo_11 : decode (mB 202) 11 = .ok (.aload_n 0, 1) := by decide +kernel
theorem dX12_redo_12 : decode (mB 202) 12 = .ok (.getfield 36, 3) := by decide +kernel
theorem dX12_redo_15 : decode (mB 202) 15 = .ok (.aload_n 0, 1) := by decide +kernel
theorem dX12_redo_16 : decode (mB 202) 16 = .ok (.getfield 149, 3) := by decide +kernel
theorem dX12_redo_19 : decode (mB 202) 19 = .ok (.iaload, 1) := by decide +kernel
theorem dX12_redo_20 : decode (mB 202) 20 = .ok (.aload_n 0, 1) := by decide +kernel
theorem dX12_redo_21 : decode (mB 202) 21 = .ok (.getfield 39, 3) := by decide +kernel
theorem dX12_redo_24 : decode (mB 202) 24 = .ok (.aload_n 0, 1) := by decide +kernel
theorem dX12_redo_25 : decode (mB 202) 25 = .ok (.getfield 149, 3) := by decide +kernel
theorem dX12_redo_28 : decode (mB 202) 28 = .ok (.iaload, 1) := by decide +kernel
theorem dX12_redo_29 : decode (mB 202) 29 = .ok (.aload_n 0, 1) := by decide +kernel
theorem dX12_redo_30 : decode (mB 202) 30 = .ok (.getfield 45, 3) := by decide +kernel
theorem dX12_redo_33 : decode (mB 202) 33 = .ok (.aload_n 0, 1) := by decide +kernel
theorem dX12_redo_34 : decode (mB 202) 34 = .ok (.getfield 149, 3) := by decide +kernel
theorem dX12_redo_37 : decode (mB 202) 37 = .ok (.iaload, 1) := by decide +kernel
theorem dX12_redo_38 : decode (mB 202) 38 = .ok (.invokevirtual 152, 3) := by decide +kernel
theorem dX12_redo_41 : decode (mB 202) 41 = .ok (.aload_n 0, 1) := by decide +kernel
theorem dX12_redo_42 : decode (mB 202) 42 = .ok (.dup, 1) := by decide +kernel
theorem dX12_redo_43 : decode (mB 202) 43 = .ok (.getfield 149, 3) := by decide +kernel
theorem dX12_redo_46 : decode (mB 202) 46 = .ok (.iconst 1, 1) := by decide +kernel
theorem dX12_redo_47 : decode (mB 202) 47 = .ok (.iadd, 1) := by decide +kernel
theorem dX12_redo_48 : decode (mB 202) 48 = .ok (.putfield 149, 3) := by decide +kernel
theorem dX12_redo_51 : decode (mB 202) 51 = .ok (.aload_n 0, 1) := by decide +kernel
theorem dX12_redo_52 : decode (mB 202) 52 = .ok (.dup, 1) := by decide +kernel
theorem dX12_redo_53 : decode (mB 202) 53 = .ok (.getfield 146, 3) := by decide +kernel
theorem dX12_redo_56 : decode (mB 202) 56 = .ok (.iconst 1, 1) := by decide +kernel
theorem dX12_redo_57 : decode (mB 202) 57 = .ok (.isub, 1) := by decide +kernel
theorem dX12_redo_58 : decode (mB 202) 58 = .ok (.putfield 146, 3) := by decide +kernel
theorem dX12_redo_61 : decode (mB 202) 61 = .ok (.aload_n 0, 1) := by decide +kernel
theorem dX12_redo_62 : decode (mB 202) 62 = .ok (.getfield 146, 3) := by decide +kernel
theorem dX12_redo_65 : decode (mB 202) 65 = .ok (.ireturn, 1) := by decide +kernel
theorem dX12_isPlace_0 : decode (mB 203) 0 = .ok (.iload_n 2, 1) := by decide +kernel
theorem dX12_isPlace_1 : decode (mB 203) 1 = .ok (.iconst 0, 1) := by decide +kernel
theorem dX12_isPlace_2 : decode (mB 203) 2 = .ok (.iconst 3, 1) := by decide +kernel
theorem dX12_isPlace_3 : decode (mB 203) 3 = .ok (.invokestatic 118, 3) := by decide +kernel
theorem dX12_isPlace_6 : decode (mB 203) 6 = .ok (.ifCond .eq 11, 3) := by decide +kernel
theorem dX12_isPlace_9 : decode (mB 203) 9 = .ok (.aload_n 0, 1) := by decide +kernel
theorem dX12_isPlace_10 : decode (mB 203) 10 = .ok (.iload_n 1, 1) := by decide +kernel
theorem dX12_isPlace_11 : decode (mB 203) 11 = .ok (.invokevirtual 125, 3) := by decide +kernel
theorem dX12_isPlace_14 : decode (mB 203) 14 = .ok (.goto 41, 3) := by decide +kernel
theorem dX12_isPlace_17 : decode (mB 203) 17 = .ok (.iload_n 2, 1) := by decide +kernel
theorem dX12_isPlace_18 : decode (mB 203) 18 = .ok (.iconst 4, 1) := by decide +kernel
theorem dX12_isPlace_19 : decode (mB 203) 19 = .ok (.bipush 6, 2) := by decide +kernel
theorem dX12_isPlace_21 : decode (mB 203) 21 = .ok (.invokestatic 118, 3) := by decide +kernel
theorem dX12_isPlace_24 : decode (mB 203) 24 = .ok (.ifCond .eq 11, 3) := by decide +kernel
theorem dX12_isPlace_27 : decode (mB 203) 27 = .ok (.aload_n 0, 1) := by decide +kernel
theorem dX12_isPlace_28 : decode (mB 203) 28 = .ok (.iload_n 1, 1) := by decide +kernel
theorem dX12_isPlace_29 : decode (mB 203) 29 = .ok (.invokevirtual 156, 3) := by decide +kernel
theorem dX12_isPlace_32 : decode (mB 203) 32 = .ok (.goto 23, 3) := by decide +kernel
theorem dX12_isPlace_35 : decode (mB 203) 35 = .ok (.iload_n 2, 1) := by decide +kernel
theorem dX12_isPlace_36 : decode (mB 203) 36 = .ok (.bipush 7, 2) := by decide +kernel
theorem dX12_isPlace_38 : decode (mB 203) 38 = .ok (.bipush 8, 2) := by decide +kernel
theorem dX12_isPlace_40 : decode (mB 203) 40 = .ok (.invokestatic 118, 3) := by decide +kernel
theorem dX12_isPlace_43 : decode (mB 203) 43 = .ok (.ifCond .eq 11, 3) := by decide +kernel
theorem dX12_isPlace_46 : decode (mB 203) 46 = .ok (.iload_n 1, 1) := by decide +kernel
theorem dX12_isPlace_47 : decode (mB 203) 47 = .ok (.ifCond .ne 7, 3) := by decide +kernel
theorem dX12_isPlace_50 : decode (mB 203) 50 = .ok (.iconst 1, 1) := by decide +kernel
theorem dX12_isPlace_51 : decode (mB 203) 51 = .ok (.goto 4, 3) := by decide +kernel
theorem dX12_isPlace_54 : decode (mB 203) 54 = .ok (.iconst 0, 1) := by decide +kernel
theorem dX12_isPlace_55 : decode (mB 203) 55 = .ok (.ireturn, 1) := by decide +kernel
theorem dX12_mayHave_0 : decode (mB 204) 0 = .ok (.iload_n 1, 1) := by decide +kernel
theorem dX12_mayHave_1 : decode (mB 204) 1 = .ok (.tableswitch 106 0 7 #[47, 55, 62, 70, 78, 84, 91, 98], 47) := by decide +kernel
theorem dX12_mayHave_48 : decode (mB 204) 48 = .ok (.iload_n 2, 1) := by decide +kernel
theorem dX12_mayHave_49 : decode (mB 204) 49 = .ok (.iconst 0, 1) := by decide +kernel
theorem dX12_mayHave_50 : decode (mB 204) 50 = .ok (.bipush 12, 2) := by decide +kernel
theorem dX12_mayHave_52 : decode (mB 204) 52 = .ok (.invokestatic 118, 3) := by decide +kernel
theorem dX12_mayHave_55 : decode (mB 204) 55 = .ok (.ireturn, 1) := by decide +kernel
theorem dX12_mayHave_56 : decode (mB 204) 56 = .ok (.iload_n 2, 1) := by decide +kernel
theorem dX12_mayHave_57 : decode (mB 204) 57 = .ok (.iconst 0, 1) := by decide +kernel
theorem dX12_mayHave_58 : decode (mB 204) 58 = .ok (.iconst 1, 1) := by decide +kernel
theorem dX12_mayHave_59 : decode (mB 204) 59 = .ok (.invokestatic 118, 3) := by decide +kernel
theorem dX12_mayHave_62 : decode (mB 204) 62 = .ok (.ireturn, 1) := by decide +kernel
theorem dX12_mayHave_63 : decode (mB 204) 63 = .ok (.iload_n 2, 1) := by decide +kernel
theorem dX12_mayHave_64 : decode (mB 204) 64 = .ok (.iconst 0, 1) := by decide +kernel
theorem dX12_mayHave_65 : decode (mB 204) 65 = .ok (.bipush 99, 2) := by decide +kernel
theorem dX12_mayHave_67 : decode (mB 204) 67 = .ok (.invokestatic 118, 3) := by decide +kernel
theorem dX12_mayHave_70 : decode (mB 204) 70 = .ok (.ireturn, 1) := by decide +kernel
theorem dX12_mayHave_71 : decode (mB 204) 71 = .ok (.iload_n 2, 1) := by decide +kernel
theorem dX12_mayHave_72 : decode (mB 204) 72 = .ok (.iconst 0, 1) := by decide +kernel
theorem dX12_mayHave_73 : decode (mB 204) 73 = .ok (.bipush 9, 2) := by decide +kernel
theorem dX12_mayHave_75 : decode (mB 204) 75 = .ok (.invokestatic 118, 3) := by decide +kernel
theorem dX12_mayHave_78 : decode (mB 204) 78 = .ok (.ireturn, 1) := by decide +kernel
theorem dX12_mayHave_79 : decode (mB 204) 79 = .ok (.aload_n 0, 1) := by decide +kernel
theorem dX12_mayHave_80 : decode (mB 204) 80 = .ok (.iload_n 2, 1) := by decide +kernel
theorem dX12_mayHave_81 : decode (mB 204) 81 = .ok (.invokevirtual 125, 3) := by decide +kernel
theorem dX12_mayHave_84 : decode (mB 204) 84 = .ok (.ireturn, 1) := by decide +kernel
theorem dX12_mayHave_85 : decode (mB 204) 85 = .ok (.iload_n 2, 1) := by decide +kernel
theorem dX12_mayHave_86 : decode (mB 204) 86 = .ok (.iconst 0, 1) := by decide +kernel
theorem dX12_mayHave_87 : decode (mB 204) 87 = .ok (.iconst 1, 1) := by decide +kernel
theorem dX12_mayHave_88 : decode (mB 204) 88 = .ok (.invokestatic 118, 3) := by decide +kernel
theorem dX12_mayHave_91 : decode (mB 204) 91 = .ok (.ireturn, 1) := by decide +kernel
theorem dX12_mayHave_92 : decode (mB 204) 92 = .ok (.iload_n 2, 1) := by decide +kernel
theorem dX12_mayHave_93 : decode (mB 204) 93 = .ok (.iconst 0, 1) := by decide +kernel
theorem dX12_mayHave_94 : decode (mB 204) 94 = .ok (.iconst 4, 1) := by decide +kernel
theorem dX12_mayHave_95 : decode (mB 204) 95 = .ok (.invokestatic 118, 3) := by decide +kernel
theorem dX12_mayHave_98 : decode (mB 204) 98 = .ok (.ireturn, 1) := by decide +kernel
theorem dX12_mayHave_99 : decode (mB 204) 99 = .ok (.iload_n 2, 1) := by decide +kernel
theorem dX12_mayHave_100 : decode (mB 204) 100 = .ok (.iconst 0, 1) := by decide +kernel
theorem dX12_mayHave_101 : decode (mB 204) 101 = .ok (.bipush 11, 2) := by decide +kernel
theorem dX12_mayHave_103 : decode (mB 204) 103 = .ok (.invokestatic 118, 3) := by decide +kernel
theorem dX12_mayHave_106 : decode (mB 204) 106 = .ok (.ireturn, 1) := by decide +kernel
theorem dX12_mayHave_107 : decode (mB 204) 107 = .ok (.iload_n 2, 1) := by decide +kernel
theorem dX12_mayHave_108 : decode (mB 204) 108 = .ok (.iconst 0, 1) := by decide +kernel
theorem dX12_mayHave_109 : decode (mB 204) 109 = .ok (.bipush 9, 2) := by decide +kernel
theorem dX12_mayHave_111 : decode (mB 204) 111 = .ok (.invokestatic 118, 3) := by decide +kernel
theorem dX12_mayHave_114 : decode (mB 204) 114 = .ok (.ireturn, 1) := by decide +kernel
theorem dX12_mend_0 : decode (mB 205) 0 = .ok (.aload_n 0, 1) := by decide +kernel
theorem dX12_mend_1 : decode (mB 205) 1 = .ok (.iload_n 1, 1) := by decide +kernel
theorem dX12_mend_2 : decode (mB 205) 2 = .ok (.iload_n 2, 1) := by decide +kernel
theorem dX12_mend_3 : decode (mB 205) 3 = .ok (.invokevirtual 159, 3) := by decide +kernel
theorem dX12_mend_6 : decode (mB 205) 6 = .ok (.ifCond .eq 22, 3) := by decide +kernel
theorem dX12_mend_9 : decode (mB 205) 9 = .ok (.aload_n 0, 1) := by decide +kernel
theorem dX12_mend_10 : decode (mB 205) 10 = .ok (.iload_n 2, 1) := by decide +kernel
theorem dX12_mend_11 : decode (mB 205) 11 = .ok (.iload_n 3, 1) := by decide +kernel
theorem dX12_mend_12 : decode (mB 205) 12 = .ok (.invokevirtual 162, 3) := by decide +kernel
theorem dX12_mend_15 : decode (mB 205) 15 = .ok (.ifCond .eq 13, 3) := by decide +kernel
theorem dX12_mend_18 : decode (mB 205) 18 = .ok (.aload_n 0, 1) := by decide +kernel
theorem dX12_mend_19 : decode (mB 205) 19 = .ok (.iload_n 2, 1) := by decide +kernel
theorem dX12_mend_20 : decode (mB 205) 20 = .ok (.iload_n 1, 1) := by decide +kernel
theorem dX12_mend_21 : decode (mB 205) 21 = .ok (.iload_n 3, 1) := by decide +kernel
theorem dX12_mend_22 : decode (mB 205) 22 = .ok (.invokevirtual 165, 3) := by decide +kernel
theorem dX12_mend_25 : decode (mB 205) 25 = .ok (.goto 4, 3) := by decide +kernel
theorem dX12_mend_28 : decode (mB 205) 28 = .ok (.iconst (-1), 1) := by decide +kernel
theorem dX12_mend_29 : decode (mB 205) 29 = .ok (.ireturn, 1) := by decide +kernel
theorem dX12_of_0 : decode (mB 206) 0 = .ok (.iload_n 2, 1) := by decide +kernel
theorem dX12_of_1 : decode (mB 206) 1 = .ok (.bipush 9, 2) := by decide +kernel
theorem dX12_of_3 : decode (mB 206) 3 = .ok (.bipush 10, 2) := by decide +kernel
theorem dX12_of_5 : decode (mB 206) 5 = .ok (.invokestatic 118, 3) := by decide +kernel
theorem dX12_of_8 : decode (mB 206) 8 = .ok (.ifCond .eq 37, 3) := by decide +kernel
theorem dX12_of_11 : decode (mB 206) 11 = .ok (.aload_n 0, 1) := by decide +kernel
theorem dX12_of_12 : decode (mB 206) 12 = .ok (.iload_n 1, 1) := by decide +kernel
theorem dX12_of_13 : decode (mB 206) 13 = .ok (.invokevirtual 125, 3) := by decide +kernel
theorem dX12_of_16 : decode (mB 206) 16 = .ok (.ifCond .ne 5, 3) := by decide +kernel
theorem dX12_of_19 : decode (mB 206) 19 = .ok (.iconst (-1), 1) := by decide +kernel
theorem dX12_of_20 : decode (mB 206) 20 = .ok (.ireturn, 1) := by decide +kernel
theorem dX12_of_21 : decode (mB 206) 21 = .ok (.aload_n 0, 1) := by decide +kernel
theorem dX12_of_22 : decode (mB 206) 22 = .ok (.invokevirtual 168, 3) := by decide +kernel
theorem dX12_of_25 : decode (mB 206) 25 = .ok (.iload_n 2, 1) := by decide +kernel
theorem dX12_of_26 : decode (mB 206) 26 = .ok (.bipush 9, 2) := by decide +kernel
theorem dX12_of_28 : decode (mB 206) 28 = .ok (.if_icmp .ne 11, 3) := by decide +kernel
theorem dX12_of_31 : decode (mB 206) 31 = .ok (.aload_n 0, 1) := by decide +kernel
theorem dX12_of_32 : decode (mB 206) 32 = .ok (.iload_n 1, 1) := by decide +kernel
theorem dX12_of_33 : decode (mB 206) 33 = .ok (.invokevirtual 171, 3) := by decide +kernel
theorem dX12_of_36 : decode (mB 206) 36 = .ok (.goto 8, 3) := by decide +kernel
theorem dX12_of_39 : decode (mB 206) 39 = .ok (.aload_n 0, 1) := by decide +kernel
theorem dX12_of_40 : decode (mB 206) 40 = .ok (.iload_n 1, 1) := by decide +kernel
theorem dX12_of_41 : decode (mB 206) 41 = .ok (.invokevirtual 175, 3) := by decide +kernel
theorem dX12_of_44 : decode (mB 206) 44 = .ok (.ireturn, 1) := by decide +kernel
theorem dX12_of_45 : decode (mB 206) 45 = .ok (.aload_n 0, 1) := by decide +kernel
theorem dX12_of_46 : decode (mB 206) 46 = .ok (.iload_n 1, 1) := by decide +kernel
theorem dX12_of_47 : decode (mB 206) 47 = .ok (.iload_n 2, 1) := by decide +kernel
theorem dX12_of_48 : decode (mB 206) 48 = .ok (.invokevirtual 159, 3) := by decide +kernel
theorem dX12_of_51 : decode (mB 206) 51 = .ok (.ifCond .eq 12, 3) := by decide +kernel
theorem dX12_of_54 : decode (mB 206) 54 = .ok (.aload_n 0, 1) := by decide +kernel
theorem dX12_of_55 : decode (mB 206) 55 = .ok (.iload_n 2, 1) := by decide +kernel
theorem dX12_of_56 : decode (mB 206) 56 = .ok (.iload_n 1, 1) := by decide +kernel
theorem dX12_of_57 : decode (mB 206) 57 = .ok (.invokevirtual 142, 3) := by decide +kernel
theorem dX12_of_60 : decode (mB 206) 60 = .ok (.goto 4, 3) := by decide +kernel
theorem dX12_of_63 : decode (mB 206) 63 = .ok (.iconst (-1), 1) := by decide +kernel
theorem dX12_of_64 : decode (mB 206) 64 = .ok (.ireturn, 1) := by decide +kernel
theorem dX12_feed_0 : decode (mB 207) 0 = .ok (.iload_n 1, 1) := by decide +kernel
theorem dX12_feed_1 : decode (mB 207) 1 = .ok (.iconst 0, 1) := by decide +kernel
theorem dX12_feed_2 : decode (mB 207) 2 = .ok (.sipush 255, 3) := by decide +kernel
theorem dX12_feed_5 : decode (mB 207) 5 = .ok (.invokestatic 118, 3) := by decide +kernel
theorem dX12_feed_8 : decode (mB 207) 8 = .ok (.ifCond .ne 5, 3) := by decide +kernel
theorem dX12_feed_11 : decode (mB 207) 11 = .ok (.iconst (-1), 1) := by decide +kernel
theorem dX12_feed_12 : decode (mB 207) 12 = .ok (.ireturn, 1) := by decide +kernel
theorem dX12_feed_13 : decode (mB 207) 13 = .ok (.aload_n 0, 1) := by decide +kernel
theorem dX12_feed_14 : decode (mB 207) 14 = .ok (.getfield 178, 3) := by decide +kernel
theorem dX12_feed_17 : decode (mB 207) 17 = .ok (.bipush 120, 2) := by decide +kernel
theorem dX12_feed_19 : decode (mB 207) 19 = .ok (.if_icmp .ne 6, 3) := by decide +kernel
theorem dX12_feed_22 : decode (mB 207) 22 = .ok (.bipush (-3), 2) := by decide +kernel
theorem dX12_feed_24 : decode (mB 207) 24 = .ok (.ireturn, 1) := by decide +kernel
theorem dX12_feed_25 : decode (mB 207) 25 = .ok (.aload_n 0, 1) := by decide +kernel
theorem dX12_feed_26 : decode (mB 207) 26 = .ok (.getfield 48, 3) := by decide +kernel
theorem dX12_feed_29 : decode (mB 207) 29 = .ok (.aload_n 0, 1) := by decide +kernel
theorem dX12_feed_30 : decode (mB 207) 30 = .ok (.getfield 178, 3) := by decide +kernel
theorem dX12_feed_33 : decode (mB 207) 33 = .ok (.iload_n 1, 1) := by decide +kernel
theorem dX12_feed_34 : decode (mB 207) 34 = .ok (.i2b, 1) := by decide +kernel
theorem dX12_feed_35 : decode (mB 207) 35 = .ok (.bastore, 1) := by decide +kernel
theorem dX12_feed_36 : decode (mB 207) 36 = .ok (.aload_n 0, 1) := by decide +kernel
theorem dX12_feed_37 : decode (mB 207) 37 = .ok (.dup, 1) := by decide +kernel
theorem dX12_feed_38 : decode (mB 207) 38 = .ok (.getfield 178, 3) := by decide +kernel
theorem dX12_feed_41 : decode (mB 207) 41 = .ok (.iconst 1, 1) := by decide +kernel
theorem dX12_feed_42 : decode (mB 207) 42 = .ok (.iadd, 1) := by decide +kernel
theorem dX12_feed_43 : decode (mB 207) 43 = .ok (.putfield 178, 3) := by decide +kernel
theorem dX12_feed_46 : decode (mB 207) 46 = .ok (.aload_n 0, 1) := by decide +kernel
theorem dX12_feed_47 : decode (mB 207) 47 = .ok (.getfield 178, 3) := by decide +kernel
theorem dX12_feed_50 : decode (mB 207) 50 = .ok (.ireturn, 1) := by decide +kernel
theorem dX12_look_0 : decode (mB 208) 0 = .ok (.aload_n 0, 1) := by decide +kernel
theorem dX12_look_1 : decode (mB 208) 1 = .ok (.getfield 181, 3) := by decide +kernel
theorem dX12_look_4 : decode (mB 208) 4 = .ok (.aload_n 0, 1) := by decide +kernel
theorem dX12_look_5 : decode (mB 208) 5 = .ok (.getfield 178, 3) := by decide +kernel
theorem dX12_look_8 : decode (mB 208) 8 = .ok (.if_icmp .ge 15, 3) := by decide +kernel
theorem dX12_look_11 : decode (mB 208) 11 = .ok (.aload_n 0, 1) := by decide +kernel
theorem dX12_look_12 : decode (mB 208) 12 = .ok (.getfield 48, 3) := by decide +kernel
theorem dX12_look_15 : decode (mB 208) 15 = .ok (.aload_n 0, 1) := by decide +kernel
theorem dX12_look_16 : decode (mB 208) 16 = .ok (.getfield 181, 3) := by decide +kernel
theorem dX12_look_19 : decode (mB 208) 19 = .ok (.baload, 1) := by decide +kernel
theorem dX12_look_20 : decode (mB 208) 20 = .ok (.goto 4, 3) := by decide +kernel
theorem dX12_look_23 : decode (mB 208) 23 = .ok (.iconst (-1), 1) := by decide +kernel
theorem dX12_look_24 : decode (mB 208) 24 = .ok (.ireturn, 1) := by decide +kernel
theorem dX12_wrong_0 : decode (mB 209) 0 = .ok (.aload_n 0, 1) := by decide +kernel
theorem dX12_wrong_1 : decode (mB 209) 1 = .ok (.getfield 184, 3) := by decide +kernel
theorem dX12_wrong_4 : decode (mB 209) 4 = .ok (.ifCond .ge 11, 3) := by decide +kernel
theorem dX12_wrong_7 : decode (mB 209) 7 = .ok (.aload_n 0, 1) := by decide +kernel
theorem dX12_wrong_8 : decode (mB 209) 8 = .ok (.aload_n 0, 1) := by decide +kernel
theorem dX12_wrong_9 : decode (mB 209) 9 = .ok (.getfield 181, 3) := by decide +kernel
theorem dX12_wrong_12 : decode (mB 209) 12 = .ok (.putfield 184, 3) := by decide +kernel
theorem dX12_wrong_15 : decode (mB 209) 15 = .ok (.return_, 1) := by decide +kernel
theorem dX12_addStep_0 : decode (mB 210) 0 = .ok (.aload_n 0, 1) := by decide +kernel
theorem dX12_addStep_1 : decode (mB 210) 1 = .ok (.getfield 52, 3) := by decide +kernel
theorem dX12_addStep_4 : decode (mB 210) 4 = .ok (.sipush 130, 3) := by decide +kernel
theorem dX12_addStep_7 : decode (mB 210) 7 = .ok (.aload_n 0, 1) := by decide +kernel
theorem dX12_addStep_8 : decode (mB 210) 8 = .ok (.getfield 187, 3) := by decide +kernel
theorem dX12_addStep_11 : decode (mB 210) 11 = .ok (.iadd, 1) := by decide +kernel
theorem dX12_addStep_12 : decode (mB 210) 12 = .ok (.iload_n 1, 1) := by decide +kernel
theorem dX12_addStep_13 : decode (mB 210) 13 = .ok (.i2b, 1) := by decide +kernel
theorem dX12_addStep_14 : decode (mB 210) 14 = .ok (.bastore, 1) := by decide +kernel
theorem dX12_addStep_15 : decode (mB 210) 15 = .ok (.aload_n 0, 1) := by decide +kernel
theorem dX12_addStep_16 : decode (mB 210) 16 = .ok (.getfield 55, 3) := by decide +kernel
theorem dX12_addStep_19 : decode (mB 210) 19 = .ok (.sipush 130, 3) := by decide +kernel
theorem dX12_addStep_22 : decode (mB 210) 22 = .ok (.aload_n 0, 1) := by decide +kernel
theorem dX12_addStep_23 : decode (mB 210) 23 = .ok (.getfield 187, 3) := by decide +kernel
theorem dX12_addStep_26 : decode (mB 210) 26 = .ok (.iadd, 1) := by decide +kernel
theorem dX12_addStep_27 : decode (mB 210) 27 = .ok (.iload_n 2, 1) := by decide +kernel
theorem dX12_addStep_28 : decode (mB 210) 28 = .ok (.iastore, 1) := by decide +kernel
theorem dX12_addStep_29 : decode (mB 210) 29 = .ok (.aload_n 0, 1) := by decide +kernel
theorem dX12_addStep_30 : decode (mB 210) 30 = .ok (.dup, 1) := by decide +kernel
theorem dX12_addStep_31 : decode (mB 210) 31 = .ok (.getfield 187, 3) := by decide +kernel
theorem dX12_addStep_34 : decode (mB 210) 34 = .ok (.iconst 1, 1) := by decide +kernel
theorem dX12_addStep_35 : decode (mB 210) 35 = .ok (.iadd, 1) := by decide +kernel
theorem dX12_addStep_36 : decode (mB 210) 36 = .ok (.putfield 187, 3) := by decide +kernel
theorem dX12_addStep_39 : decode (mB 210) 39 = .ok (.return_, 1) := by decide +kernel
theorem dX12_nameOf_0 : decode (mB 211) 0 = .ok (.iload_n 0, 1) := by decide +kernel
theorem dX12_nameOf_1 : decode (mB 211) 1 = .ok (.lookupswitch 71 #[(98, 61), (102, 65), (104, 67), (110, 63), (115, 69), (119, 59)], 59) := by decide +kernel
theorem dX12_nameOf_60 : decode (mB 211) 60 = .ok (.iconst 0, 1) := by decide +kernel
theorem dX12_nameOf_61 : decode (mB 211) 61 = .ok (.ireturn, 1) := by decide +kernel
theorem dX12_nameOf_62 : decode (mB 211) 62 = .ok (.iconst 1, 1) := by decide +kernel
theorem dX12_nameOf_63 : decode (mB 211) 63 = .ok (.ireturn, 1) := by decide +kernel
theorem dX12_nameOf_64 : decode (mB 211) 64 = .ok (.iconst 2, 1) := by decide +kernel
theorem dX12_nameOf_65 : decode (mB 211) 65 = .ok (.ireturn, 1) := by decide +kernel
theorem dX12_nameOf_66 : decode (mB 211) 66 = .ok (.iconst 3, 1) := by decide +kernel
theorem dX12_nameOf_67 : decode (mB 211) 67 = .ok (.ireturn, 1) := by decide +kernel
theorem dX12_nameOf_68 : decode (mB 211) 68 = .ok (.iconst 4, 1) := by decide +kernel
theorem dX12_nameOf_69 : decode (mB 211) 69 = .ok (.ireturn, 1) := by decide +kernel
theorem dX12_nameOf_70 : decode (mB 211) 70 = .ok (.iconst 5, 1) := by decide +kernel
theorem dX12_nameOf_71 : decode (mB 211) 71 = .ok (.ireturn, 1) := by decide +kernel
theorem dX12_nameOf_72 : decode (mB 211) 72 = .ok (.iconst (-1), 1) := by decide +kernel
theorem dX12_nameOf_73 : decode (mB 211) 73 = .ok (.ireturn, 1) := by decide +kernel
theorem dX12_opens_0 : decode (mB 212) 0 = .ok (.aload_n 0, 1) := by decide +kernel
theorem dX12_opens_1 : decode (mB 212) 1 = .ok (.getfield 190, 3) := by decide +kernel
theorem dX12_opens_4 : decode (mB 212) 4 = .ok (.bipush 6, 2) := by decide +kernel
theorem dX12_opens_6 : decode (mB 212) 6 = .ok (.if_icmp .ne 9, 3) := by decide +kernel
theorem dX12_opens_9 : decode (mB 212) 9 = .ok (.aload_n 0, 1) := by decide +kernel
theorem dX12_opens_10 : decode (mB 212) 10 = .ok (.invokevirtual 193, 3) := by decide +kernel
theorem dX12_opens_13 : decode (mB 212) 13 = .ok (.iconst 0, 1) := by decide +kernel
theorem dX12_opens_14 : decode (mB 212) 14 = .ok (.ireturn, 1) := by decide +kernel
theorem dX12_opens_15 : decode (mB 212) 15 = .ok (.aload_n 0, 1) := by decide +kernel
theorem dX12_opens_16 : decode (mB 212) 16 = .ok (.dup, 1) := by decide +kernel
theorem dX12_opens_17 : decode (mB 212) 17 = .ok (.getfield 190, 3) := by decide +kernel
theorem dX12_opens_20 : decode (mB 212) 20 = .ok (.iconst 1, 1) := by decide +kernel
theorem dX12_opens_21 : decode (mB 212) 21 = .ok (.iadd, 1) := by decide +kernel
theorem dX12_opens_22 : decode (mB 212) 22 = .ok (.putfield 190, 3) := by decide +kernel
theorem dX12_opens_25 : decode (mB 212) 25 = .ok (.aload_n 0, 1) := by decide +kernel
theorem dX12_opens_26 : decode (mB 212) 26 = .ok (.dup, 1) := by decide +kernel
theorem dX12_opens_27 : decode (mB 212) 27 = .ok (.getfield 181, 3) := by decide +kernel
theorem dX12_opens_30 : decode (mB 212) 30 = .ok (.iconst 1, 1) := by decide +kernel
theorem dX12_opens_31 : decode (mB 212) 31 = .ok (.iadd, 1) := by decide +kernel
theorem dX12_opens_32 : decode (mB 212) 32 = .ok (.putfield 181, 3) := by decide +kernel
theorem dX12_opens_35 : decode (mB 212) 35 = .ok (.iconst 1, 1) := by decide +kernel
theorem dX12_opens_36 : decode (mB 212) 36 = .ok (.ireturn, 1) := by decide +kernel
theorem dX12_figure_0 : decode (mB 213) 0 = .ok (.iconst 0, 1) := by decide +kernel
theorem dX12_figure_1 : decode (mB 213) 1 = .ok (.istore_n 1, 1) := by decide +kernel
theorem dX12_figure_2 : decode (mB 213) 2 = .ok (.iconst 0, 1) := by decide +kernel
theorem dX12_figure_3 : decode (mB 213) 3 = .ok (.istore_n 2, 1) := by decide +kernel
theorem dX12_figure_4 : decode (mB 213) 4 = .ok (.iload_n 2, 1) := by decide +kernel
theorem dX12_figure_5 : decode (mB 213) 5 = .ok (.iconst 4, 1) := by decide +kernel
theorem dX12_figure_6 : decode (mB 213) 6 = .ok (.if_icmp .ge 46, 3) := by decide +kernel
theorem dX12_figure_9 : decode (mB 213) 9 = .ok (.aload_n 0, 1) := by decide +kernel
theorem dX12_figure_10 : decode (mB 213) 10 = .ok (.invokevirtual 196, 3) := by decide +kernel
theorem dX12_figure_13 : decode (mB 213) 13 = .ok (.bipush 48, 2) := by decide +kernel
theorem dX12_figure_15 : decode (mB 213) 15 = .ok (.bipush 57, 2) := by decide +kernel
theorem dX12_figure_17 : decode (mB 213) 17 = .ok (.invokestatic 118, 3) := by decide +kernel
theorem dX12_figure_20 : decode (mB 213) 20 = .ok (.ifCond .eq 32, 3) := by decide +kernel
theorem dX12_figure_23 : decode (mB 213) 23 = .ok (.bipush 10, 2) := by decide +kernel
theorem dX12_figure_25 : decode (mB 213) 25 = .ok (.iload_n 1, 1) := by decide +kernel
theorem dX12_figure_26 : decode (mB 213) 26 = .ok (.imul, 1) := by decide +kernel
theorem dX12_figure_27 : decode (mB 213) 27 = .ok (.aload_n 0, 1) := by decide +kernel
theorem dX12_figure_28 : decode (mB 213) 28 = .ok (.invokevirtual 196, 3) := by decide +kernel
theorem dX12_figure_31 : decode (mB 213) 31 = .ok (.iadd, 1) := by decide +kernel
theorem dX12_figure_32 : decode (mB 213) 32 = .ok (.bipush 48, 2) := by decide +kernel
theorem dX12_figure_34 : decode (mB 213) 34 = .ok (.isub, 1) := by decide +kernel
theorem dX12_figure_35 : decode (mB 213) 35 = .ok (.istore_n 1, 1) := by decide +kernel
theorem dX12_figure_36 : decode (mB 213) 36 = .ok (.iinc 2 1, 3) := by decide +kernel
theorem dX12_figure_39 : decode (mB 213) 39 = .ok (.aload_n 0, 1) := by decide +kernel
theorem dX12_figure_40 : decode (mB 213) 40 = .ok (.dup, 1) := by decide +kernel
theorem dX12_figure_41 : decode (mB 213) 41 = .ok (.getfield 181, 3) := by decide +kernel
theorem dX12_figure_44 : decode (mB 213) 44 = .ok (.iconst 1, 1) := by decide +kernel
theorem dX12_figure_45 : decode (mB 213) 45 = .ok (.iadd, 1) := by decide +kernel
theorem dX12_figure_46 : decode (mB 213) 46 = .ok (.putfield 181, 3) := by decide +kernel
theorem dX12_figure_49 : decode (mB 213) 49 = .ok (.goto (-45), 3) := by decide +kernel
theorem dX12_figure_52 : decode (mB 213) 52 = .ok (.iload_n 2, 1) := by decide +kernel
theorem dX12_figure_53 : decode (mB 213) 53 = .ok (.ifCond .eq 17, 3) := by decide +kernel
theorem dX12_figure_56 : decode (mB 213) 56 = .ok (.aload_n 0, 1) := by decide +kernel
theorem dX12_figure_57 : decode (mB 213) 57 = .ok (.invokevirtual 196, 3) := by decide +kernel
theorem dX12_figure_60 : decode (mB 213) 60 = .ok (.bipush 48, 2) := by decide +kernel
theorem dX12_figure_62 : decode (mB 213) 62 = .ok (.bipush 57, 2) := by decide +kernel
theorem dX12_figure_64 : decode (mB 213) 64 = .ok (.invokestatic 118, 3) := by decide +kernel
theorem dX12_figure_67 : decode (mB 213) 67 = .ok (.ifCond .eq 7, 3) := by decide +kernel
theorem dX12_figure_70 : decode (mB 213) 70 = .ok (.aload_n 0, 1) := by decide +kernel
theorem dX12_figure_71 : decode (mB 213) 71 = .ok (.invokevirtual 193, 3) := by decide +kernel
theorem dX12_figure_74 : decode (mB 213) 74 = .ok (.aload_n 0, 1) := by decide +kernel
theorem dX12_figure_75 : decode (mB 213) 75 = .ok (.iconst 1, 1) := by decide +kernel
theorem dX12_figure_76 : decode (mB 213) 76 = .ok (.iload_n 1, 1) := by decide +kernel
theorem dX12_figure_77 : decode (mB 213) 77 = .ok (.invokevirtual 200, 3) := by decide +kernel
theorem dX12_figure_80 : decode (mB 213) 80 = .ok (.return_, 1) := by decide +kernel
theorem dX12_operand_0 : decode (mB 214) 0 = .ok (.aload_n 0, 1) := by decide +kernel
theorem dX12_operand_1 : decode (mB 214) 1 = .ok (.invokevirtual 196, 3) := by decide +kernel
theorem dX12_operand_4 : decode (mB 214) 4 = .ok (.istore_n 1, 1) := by decide +kernel
theorem dX12_operand_5 : decode (mB 214) 5 = .ok (.iload_n 1, 1) := by decide +kernel
theorem dX12_operand_6 : decode (mB 214) 6 = .ok (.invokestatic 204, 3) := by decide +kernel
theorem dX12_operand_9 : decode (mB 214) 9 = .ok (.ifCond .lt 25, 3) := by decide +kernel
theorem dX12_operand_12 : decode (mB 214) 12 = .ok (.aload_n 0, 1) := by decide +kernel
theorem dX12_operand_13 : decode (mB 214) 13 = .ok (.iconst 2, 1) := by decide +kernel
theorem dX12_operand_14 : decode (mB 214) 14 = .ok (.iload_n 1, 1) := by decide +kernel
theorem dX12_operand_15 : decode (mB 214) 15 = .ok (.invokestatic 204, 3) := by decide +kernel
theorem dX12_operand_18 : decode (mB 214) 18 = .ok (.invokevirtual 200, 3) := by decide +kernel
theorem dX12_operand_21 : decode (mB 214) 21 = .ok (.aload_n 0, 1) := by decide +kernel
theorem dX12_operand_22 : decode (mB 214) 22 = .ok (.dup, 1) := by decide +kernel
theorem dX12_operand_23 : decode (mB 214) 23 = .ok (.getfield 181, 3) := by decide +kernel
theorem dX12_operand_26 : decode (mB 214) 26 = .ok (.iconst 1, 1) := by decide +kernel
theorem dX12_operand_27 : decode (mB 214) 27 = .ok (.iadd, 1) := by decide +kernel
theorem dX12_operand_28 : decode (mB 214) 28 = .ok (.putfield 181, 3) := by decide +kernel
theorem dX12_operand_31 : decode (mB 214) 31 = .ok (.goto 123, 3) := by decide +kernel
theorem dX12_operand_34 : decode (mB 214) 34 = .ok (.iload_n 1, 1) := by decide +kernel
theorem dX12_operand_35 : decode (mB 214) 35 = .ok (.bipush 33, 2) := by decide +kernel
theorem dX12_operand_37 : decode (mB 214) 37 = .ok (.if_icmp .eq 9, 3) := by decide +kernel
theorem dX12_operand_40 : decode (mB 214) 40 = .ok (.iload_n 1, 1) := by decide +kernel
theorem dX12_operand_41 : decode (mB 214) 41 = .ok (.bipush 45, 2) := by decide +kernel
theorem dX12_operand_43 : decode (mB 214) 43 = .ok (.if_icmp .ne 44, 3) := by decide +kernel
theorem dX12_operand_46 : decode (mB 214) 46 = .ok (.aload_n 0, 1) := by decide +kernel
theorem dX12_operand_47 : decode (mB 214) 47 = .ok (.invokevirtual 207, 3) := by decide +kernel
theorem dX12_operand_50 : decode (mB 214) 50 = .ok (.ifCond .ne 4, 3) := by decide +kernel
theorem dX12_operand_53 : decode (mB 214) 53 = .ok (.return_, 1) := by decide +kernel
theorem dX12_operand_54 : decode (mB 214) 54 = .ok (.aload_n 0, 1) := by decide +kernel
theorem dX12_operand_55 : decode (mB 214) 55 = .ok (.invokevirtual 211, 3) := by decide +kernel
theorem dX12_operand_58 : decode (mB 214) 58 = .ok (.aload_n 0, 1) := by decide +kernel
theorem dX12_operand_59 : decode (mB 214) 59 = .ok (.dup, 1) := by decide +kernel
theorem dX12_operand_60 : decode (mB 214) 60 = .ok (.getfield 190, 3) := by decide +kernel
theorem dX12_operand_63 : decode (mB 214) 63 = .ok (.iconst 1, 1) := by decide +kernel
theorem dX12_operand_64 : decode (mB 214) 64 = .ok (.isub, 1) := by decide +kernel
theorem dX12_operand_65 : decode (mB 214) 65 = .ok (.putfield 190, 3) := by decide +kernel
theorem dX12_operand_68 : decode (mB 214) 68 = .ok (.aload_n 0, 1) := by decide +kernel
theorem dX12_operand_69 : decode (mB 214) 69 = .ok (.iload_n 1, 1) := by decide +kernel
theorem dX12_operand_70 : decode (mB 214) 70 = .ok (.bipush 33, 2) := by decide +kernel
theorem dX12_operand_72 : decode (mB 214) 72 = .ok (.if_icmp .ne 7, 3) := by decide +kernel
theorem dX12_operand_75 : decode (mB 214) 75 = .ok (.iconst 3, 1) := by decide +kernel
theorem dX12_operand_76 : decode (mB 214) 76 = .ok (.goto 4, 3) := by decide +kernel
theorem dX12_operand_79 : decode (mB 214) 79 = .ok (.iconst 4, 1) := by decide +kernel
theorem dX12_operand_80 : decode (mB 214) 80 = .ok (.iconst 0, 1) := by decide +kernel
theorem dX12_operand_81 : decode (mB 214) 81 = .ok (.invokevirtual 200, 3) := by decide +kernel
theorem dX12_operand_84 : decode (mB 214) 84 = .ok (.goto 70, 3) := by decide +kernel
theorem dX12_operand_87 : decode (mB 214) 87 = .ok (.iload_n 1, 1) := by decide +kernel
theorem dX12_operand_88 : decode (mB 214) 88 = .ok (.bipush 40, 2) := by decide +kernel
theorem dX12_operand_90 : decode (mB 214) 90 = .ok (.if_icmp .ne 60, 3) := by decide +kernel
theorem dX12_operand_93 : decode (mB 214) 93 = .ok (.aload_n 0, 1) := by decide +kernel
theorem dX12_operand_94 : decode (mB 214) 94 = .ok (.invokevirtual 207, 3) := by decide +kernel
theorem dX12_operand_97 : decode (mB 214) 97 = .ok (.ifCond .ne 4, 3) := by decide +kernel
theorem dX12_operand_100 : decode (mB 214) 100 = .ok (.return_, 1) := by decide +kernel
theorem dX12_operand_101 : decode (mB 214) 101 = .ok (.aload_n 0, 1) := by decide +kernel
theorem dX12_operand_102 : decode (mB 214) 102 = .ok (.invokevirtual 214, 3) := by decide +kernel
theorem dX12_operand_105 : decode (mB 214) 105 = .ok (.aload_n 0, 1) := by decide +kernel
theorem dX12_operand_106 : decode (mB 214) 106 = .ok (.getfield 184, 3) := by decide +kernel
theorem dX12_operand_109 : decode (mB 214) 109 = .ok (.ifCond .lt 4, 3) := by decide +kernel
theorem dX12_operand_112 : decode (mB 214) 112 = .ok (.return_, 1) := by decide +kernel
theorem dX12_operand_113 : decode (mB 214) 113 = .ok (.aload_n 0, 1) := by decide +kernel
theorem dX12_operand_114 : decode (mB 214) 114 = .ok (.invokevirtual 196, 3) := by decide +kernel
theorem dX12_operand_117 : decode (mB 214) 117 = .ok (.bipush 41, 2) := by decide +kernel
theorem dX12_operand_119 : decode (mB 214) 119 = .ok (.if_icmp .eq 8, 3) := by decide +kernel
theorem dX12_operand_122 : decode (mB 214) 122 = .ok (.aload_n 0, 1) := by decide +kernel
theorem dX12_operand_123 : decode (mB 214) 123 = .ok (.invokevirtual 193, 3) := by decide +kernel
theorem dX12_operand_126 : decode (mB 214) 126 = .ok (.return_, 1) := by decide +kernel
theorem dX12_operand_127 : decode (mB 214) 127 = .ok (.aload_n 0, 1) := by decide +kernel
theorem dX12_operand_128 : decode (mB 214) 128 = .ok (.dup, 1) := by decide +kernel
theorem dX12_operand_129 : decode (mB 214) 129 = .ok (.getfield 181, 3) := by decide +kernel
theorem dX12_operand_132 : decode (mB 214) 132 = .ok (.iconst 1, 1) := by decide +kernel
theorem dX12_operand_133 : decode (mB 214) 133 = .ok (.iadd, 1) := by decide +kernel
theorem dX12_operand_134 : decode (mB 214) 134 = .ok (.putfield 181, 3) := by decide +kernel
theorem dX12_operand_137 : decode (mB 214) 137 = .ok (.aload_n 0, 1) := by decide +kernel
theorem dX12_operand_138 : decode (mB 214) 138 = .ok (.dup, 1) := by decide +kernel
theorem dX12_operand_139 : decode (mB 214) 139 = .ok (.getfield 190, 3) := by decide +kernel
theorem dX12_operand_142 : decode (mB 214) 142 = .ok (.iconst 1, 1) := by decide +kernel
theorem dX12_operand_143 : decode (mB 214) 143 = .ok (.isub, 1) := by decide +kernel
theorem dX12_operand_144 : decode (mB 214) 144 = .ok (.putfield 190, 3) := by decide +kernel
theorem dX12_operand_147 : decode (mB 214) 147 = .ok (.goto 7, 3) := by decide +kernel
theorem dX12_operand_150 : decode (mB 214) 150 = .ok (.aload_n 0, 1) := by decide +kernel
theorem dX12_operand_151 : decode (mB 214) 151 = .ok (.invokevirtual 217, 3) := by decide +kernel
theorem dX12_operand_154 : decode (mB 214) 154 = .ok (.return_, 1) := by decide +kernel
theorem dX12_product_0 : decode (mB 215) 0 = .ok (.aload_n 0, 1) := by decide +kernel
theorem dX12_product_1 : decode (mB 215) 1 = .ok (.invokevirtual 211, 3) := by decide +kernel
theorem dX12_product_4 : decode (mB 215) 4 = .ok (.aload_n 0, 1) := by decide +kernel
theorem dX12_product_5 : decode (mB 215) 5 = .ok (.getfield 184, 3) := by decide +kernel
theorem dX12_product_8 : decode (mB 215) 8 = .ok (.ifCond .ge 58, 3) := by decide +kernel
theorem dX12_product_11 : decode (mB 215) 11 = .ok (.aload_n 0, 1) := by decide +kernel
theorem dX12_product_12 : decode (mB 215) 12 = .ok (.invokevirtual 196, 3) := by decide +kernel
theorem dX12_product_15 : decode (mB 215) 15 = .ok (.bipush 42, 2) := by decide +kernel
theorem dX12_product_17 : decode (mB 215) 17 = .ok (.if_icmp .eq 21, 3) := by decide +kernel
theorem dX12_product_20 : decode (mB 215) 20 = .ok (.aload_n 0, 1) := by decide +kernel
theorem dX12_product_21 : decode (mB 215) 21 = .ok (.invokevirtual 196, 3) := by decide +kernel
theorem dX12_product_24 : decode (mB 215) 24 = .ok (.bipush 47, 2) := by decide +kernel
theorem dX12_product_26 : decode (mB 215) 26 = .ok (.if_icmp .eq 12, 3) := by decide +kernel
theorem dX12_product_29 : decode (mB 215) 29 = .ok (.aload_n 0, 1) := by decide +kernel
theorem dX12_product_30 : decode (mB 215) 30 = .ok (.invokevirtual 196, 3) := by decide +kernel
theorem dX12_product_33 : decode (mB 215) 33 = .ok (.bipush 37, 2) := by decide +kernel
theorem dX12_product_35 : decode (mB 215) 35 = .ok (.if_icmp .ne 31, 3) := by decide +kernel
theorem dX12_product_38 : decode (mB 215) 38 = .ok (.aload_n 0, 1) := by decide +kernel
theorem dX12_product_39 : decode (mB 215) 39 = .ok (.invokevirtual 196, 3) := by decide +kernel
theorem dX12_product_42 : decode (mB 215) 42 = .ok (.istore_n 1, 1) := by decide +kernel
theorem dX12_product_43 : decode (mB 215) 43 = .ok (.aload_n 0, 1) := by decide +kernel
theorem dX12_product_44 : decode (mB 215) 44 = .ok (.dup, 1) := by decide +kernel
theorem dX12_product_45 : decode (mB 215) 45 = .ok (.getfield 181, 3) := by decide +kernel
theorem dX12_product_48 : decode (mB 215) 48 = .ok (.iconst 1, 1) := by decide +kernel
theorem dX12_product_49 : decode (mB 215) 49 = .ok (.iadd, 1) := by decide +kernel
theorem dX12_product_50 : decode (mB 215) 50 = .ok (.putfield 181, 3) := by decide +kernel
theorem dX12_product_53 : decode (mB 215) 53 = .ok (.aload_n 0, 1) := by decide +kernel
theorem dX12_product_54 : decode (mB 215) 54 = .ok (.invokevirtual 211, 3) := by decide +kernel
theorem dX12_product_57 : decode (mB 215) 57 = .ok (.aload_n 0, 1) := by decide +kernel
theorem dX12_product_58 : decode (mB 215) 58 = .ok (.iload_n 1, 1) := by decide +kernel
theorem dX12_product_59 : decode (mB 215) 59 = .ok (.iconst 0, 1) := by decide +kernel
theorem dX12_product_60 : decode (mB 215) 60 = .ok (.invokevirtual 200, 3) := by decide +kernel
theorem dX12_product_63 : decode (mB 215) 63 = .ok (.goto (-59), 3) := by decide +kernel
theorem dX12_product_66 : decode (mB 215) 66 = .ok (.return_, 1) := by decide +kernel
theorem dX12_sum_0 : decode (mB 216) 0 = .ok (.aload_n 0, 1) := by decide +kernel
theorem dX12_sum_1 : decode (mB 216) 1 = .ok (.invokevirtual 220, 3) := by decide +kernel
theorem dX12_sum_4 : decode (mB 216) 4 = .ok (.aload_n 0, 1) := by decide +kernel
theorem dX12_sum_5 : decode (mB 216) 5 = .ok (.getfield 184, 3) := by decide +kernel
theorem dX12_sum_8 : decode (mB 216) 8 = .ok (.ifCond .ge 49, 3) := by decide +kernel
theorem dX12_sum_11 : decode (mB 216) 11 = .ok (.aload_n 0, 1) := by decide +kernel
theorem dX12_sum_12 : decode (mB 216) 12 = .ok (.invokevirtual 196, 3) := by decide +kernel
theorem dX12_sum_15 : decode (mB 216) 15 = .ok (.bipush 43, 2) := by decide +kernel
theorem dX12_sum_17 : decode (mB 216) 17 = .ok (.if_icmp .eq 12, 3) := by decide +kernel
theorem dX12_sum_20 : decode (mB 216) 20 = .ok (.aload_n 0, 1) := by decide +kernel
theorem dX12_sum_21 : decode (mB 216) 21 = .ok (.invokevirtual 196, 3) := by decide +kernel
theorem dX12_sum_24 : decode (mB 216) 24 = .ok (.bipush 45, 2) := by decide +kernel
theorem dX12_sum_26 : decode (mB 216) 26 = .ok (.if_icmp .ne 31, 3) := by decide +kernel
theorem dX12_sum_29 : decode (mB 216) 29 = .ok (.aload_n 0, 1) := by decide +kernel
theorem dX12_sum_30 : decode (mB 216) 30 = .ok (.invokevirtual 196, 3) := by decide +kernel
theorem dX12_sum_33 : decode (mB 216) 33 = .ok (.istore_n 1, 1) := by decide +kernel
theorem dX12_sum_34 : decode (mB 216) 34 = .ok (.aload_n 0, 1) := by decide +kernel
theorem dX12_sum_35 : decode (mB 216) 35 = .ok (.dup, 1) := by decide +kernel
theorem dX12_sum_36 : decode (mB 216) 36 = .ok (.getfield 181, 3) := by decide +kernel
theorem dX12_sum_39 : decode (mB 216) 39 = .ok (.iconst 1, 1) := by decide +kernel
theorem dX12_sum_40 : decode (mB 216) 40 = .ok (.iadd, 1) := by decide +kernel
theorem dX12_sum_41 : decode (mB 216) 41 = .ok (.putfield 181, 3) := by decide +kernel
theorem dX12_sum_44 : decode (mB 216) 44 = .ok (.aload_n 0, 1) := by decide +kernel
theorem dX12_sum_45 : decode (mB 216) 45 = .ok (.invokevirtual 220, 3) := by decide +kernel
theorem dX12_sum_48 : decode (mB 216) 48 = .ok (.aload_n 0, 1) := by decide +kernel
theorem dX12_sum_49 : decode (mB 216) 49 = .ok (.iload_n 1, 1) := by decide +kernel
theorem dX12_sum_50 : decode (mB 216) 50 = .ok (.iconst 0, 1) := by decide +kernel
theorem dX12_sum_51 : decode (mB 216) 51 = .ok (.invokevirtual 200, 3) := by decide +kernel
theorem dX12_sum_54 : decode (mB 216) 54 = .ok (.goto (-50), 3) := by decide +kernel
theorem dX12_sum_57 : decode (mB 216) 57 = .ok (.return_, 1) := by decide +kernel
theorem dX12_compared_0 : decode (mB 217) 0 = .ok (.aload_n 0, 1) := by decide +kernel
theorem dX12_compared_1 : decode (mB 217) 1 = .ok (.invokevirtual 223, 3) := by decide +kernel
theorem dX12_compared_4 : decode (mB 217) 4 = .ok (.aload_n 0, 1) := by decide +kernel
theorem dX12_compared_5 : decode (mB 217) 5 = .ok (.invokevirtual 196, 3) := by decide +kernel
theorem dX12_compared_8 : decode (mB 217) 8 = .ok (.istore_n 1, 1) := by decide +kernel
theorem dX12_compared_9 : decode (mB 217) 9 = .ok (.aload_n 0, 1) := by decide +kernel
theorem dX12_compared_10 : decode (mB 217) 10 = .ok (.getfield 184, 3) := by decide +kernel
theorem dX12_compared_13 : decode (mB 217) 13 = .ok (.ifCond .ge 21, 3) := by decide +kernel
theorem dX12_compared_16 : decode (mB 217) 16 = .ok (.iload_n 1, 1) := by decide +kernel
theorem dX12_compared_17 : decode (mB 217) 17 = .ok (.bipush 60, 2) := by decide +kernel
theorem dX12_compared_19 : decode (mB 217) 19 = .ok (.if_icmp .eq 16, 3) := by decide +kernel
theorem dX12_compared_22 : decode (mB 217) 22 = .ok (.iload_n 1, 1) := by decide +kernel
theorem dX12_compared_23 : decode (mB 217) 23 = .ok (.bipush 61, 2) := by decide +kernel
theorem dX12_compared_25 : decode (mB 217) 25 = .ok (.if_icmp .eq 10, 3) := by decide +kernel
theorem dX12_compared_28 : decode (mB 217) 28 = .ok (.iload_n 1, 1) := by decide +kernel
theorem dX12_compared_29 : decode (mB 217) 29 = .ok (.bipush 62, 2) := by decide +kernel
theorem dX12_compared_31 : decode (mB 217) 31 = .ok (.if_icmp .eq 4, 3) := by decide +kernel
theorem dX12_compared_34 : decode (mB 217) 34 = .ok (.return_, 1) := by decide +kernel
theorem dX12_compared_35 : decode (mB 217) 35 = .ok (.aload_n 0, 1) := by decide +kernel
theorem dX12_compared_36 : decode (mB 217) 36 = .ok (.dup, 1) := by decide +kernel
theorem dX12_compared_37 : decode (mB 217) 37 = .ok (.getfield 181, 3) := by decide +kernel
theorem dX12_compared_40 : decode (mB 217) 40 = .ok (.iconst 1, 1) := by decide +kernel
theorem dX12_compared_41 : decode (mB 217) 41 = .ok (.iadd, 1) := by decide +kernel
theorem dX12_compared_42 : decode (mB 217) 42 = .ok (.putfield 181, 3) := by decide +kernel
theorem dX12_compared_45 : decode (mB 217) 45 = .ok (.aload_n 0, 1) := by decide +kernel
theorem dX12_compared_46 : decode (mB 217) 46 = .ok (.invokevirtual 223, 3) := by decide +kernel
theorem dX12_compared_49 : decode (mB 217) 49 = .ok (.aload_n 0, 1) := by decide +kernel
theorem dX12_compared_50 : decode (mB 217) 50 = .ok (.iload_n 1, 1) := by decide +kernel
theorem dX12_compared_51 : decode (mB 217) 51 = .ok (.iconst 0, 1) := by decide +kernel
theorem dX12_compared_52 : decode (mB 217) 52 = .ok (.invokevirtual 200, 3) := by decide +kernel
theorem dX12_compared_55 : decode (mB 217) 55 = .ok (.return_, 1) := by decide +kernel
theorem dX12_both_0 : decode (mB 218) 0 = .ok (.aload_n 0, 1) := by decide +kernel
theorem dX12_both_1 : decode (mB 218) 1 = .ok (.invokevirtual 226, 3) := by decide +kernel
theorem dX12_both_4 : decode (mB 218) 4 = .ok (.aload_n 0, 1) := by decide +kernel
theorem dX12_both_5 : decode (mB 218) 5 = .ok (.getfield 184, 3) := by decide +kernel
theorem dX12_both_8 : decode (mB 218) 8 = .ok (.ifCond .ge 36, 3) := by decide +kernel
theorem dX12_both_11 : decode (mB 218) 11 = .ok (.aload_n 0, 1) := by decide +kernel
theorem dX12_both_12 : decode (mB 218) 12 = .ok (.invokevirtual 196, 3) := by decide +kernel
theorem dX12_both_15 : decode (mB 218) 15 = .ok (.bipush 38, 2) := by decide +kernel
theorem dX12_both_17 : decode (mB 218) 17 = .ok (.if_icmp .ne 27, 3) := by decide +kernel
theorem dX12_both_20 : decode (mB 218) 20 = .ok (.aload_n 0, 1) := by decide +kernel
theorem dX12_both_21 : decode (mB 218) 21 = .ok (.dup, 1) := by decide +kernel
theorem dX12_both_22 : decode (mB 218) 22 = .ok (.getfield 181, 3) := by decide +kernel
theorem dX12_both_25 : decode (mB 218) 25 = .ok (.iconst 1, 1) := by decide +kernel
theorem dX12_both_26 : decode (mB 218) 26 = .ok (.iadd, 1) := by decide +kernel
theorem dX12_both_27 : decode (mB 218) 27 = .ok (.putfield 181, 3) := by decide +kernel
theorem dX12_both_30 : decode (mB 218) 30 = .ok (.aload_n 0, 1) := by decide +kernel
theorem dX12_both_31 : decode (mB 218) 31 = .ok (.invokevirtual 226, 3) := by decide +kernel
theorem dX12_both_34 : decode (mB 218) 34 = .ok (.aload_n 0, 1) := by decide +kernel
theorem dX12_both_35 : decode (mB 218) 35 = .ok (.bipush 38, 2) := by decide +kernel
theorem dX12_both_37 : decode (mB 218) 37 = .ok (.iconst 0, 1) := by decide +kernel
theorem dX12_both_38 : decode (mB 218) 38 = .ok (.invokevirtual 200, 3) := by decide +kernel
theorem dX12_both_41 : decode (mB 218) 41 = .ok (.goto (-37), 3) := by decide +kernel
theorem dX12_both_44 : decode (mB 218) 44 = .ok (.return_, 1) := by decide +kernel
theorem dX12_either_0 : decode (mB 219) 0 = .ok (.aload_n 0, 1) := by decide +kernel
theorem dX12_either_1 : decode (mB 219) 1 = .ok (.invokevirtual 229, 3) := by decide +kernel
theorem dX12_either_4 : decode (mB 219) 4 = .ok (.aload_n 0, 1) := by decide +kernel
theorem dX12_either_5 : decode (mB 219) 5 = .ok (.getfield 184, 3) := by decide +kernel
theorem dX12_either_8 : decode (mB 219) 8 = .ok (.ifCond .ge 36, 3) := by decide +kernel
theorem dX12_either_11 : decode (mB 219) 11 = .ok (.aload_n 0, 1) := by decide +kernel
theorem dX12_either_12 : decode (mB 219) 12 = .ok (.invokevirtual 196, 3) := by decide +kernel
theorem dX12_either_15 : decode (mB 219) 15 = .ok (.bipush 124, 2) := by decide +kernel
theorem dX12_either_17 : decode (mB 219) 17 = .ok (.if_icmp .ne 27, 3) := by decide +kernel
theorem dX12_either_20 : decode (mB 219) 20 = .ok (.aload_n 0, 1) := by decide +kernel
theorem dX12_either_21 : decode (mB 219) 21 = .ok (.dup, 1) := by decide +kernel
theorem dX12_either_22 : decode (mB 219) 22 = .ok (.getfield 181, 3) := by decide +kernel
theorem dX12_either_25 : decode (mB 219) 25 = .ok (.iconst 1, 1) := by decide +kernel
theorem dX12_either_26 : decode (mB 219) 26 = .ok (.iadd, 1) := by decide +kernel
theorem dX12_either_27 : decode (mB 219) 27 = .ok (.putfield 181, 3) := by decide +kernel
theorem dX12_either_30 : decode (mB 219) 30 = .ok (.aload_n 0, 1) := by decide +kernel
theorem dX12_either_31 : decode (mB 219) 31 = .ok (.invokevirtual 229, 3) := by decide +kernel
theorem dX12_either_34 : decode (mB 219) 34 = .ok (.aload_n 0, 1) := by decide +kernel
theorem dX12_either_35 : decode (mB 219) 35 = .ok (.bipush 124, 2) := by decide +kernel
theorem dX12_either_37 : decode (mB 219) 37 = .ok (.iconst 0, 1) := by decide +kernel
theorem dX12_either_38 : decode (mB 219) 38 = .ok (.invokevirtual 200, 3) := by decide +kernel
theorem dX12_either_41 : decode (mB 219) 41 = .ok (.goto (-37), 3) := by decide +kernel
theorem dX12_either_44 : decode (mB 219) 44 = .ok (.return_, 1) := by decide +kernel
theorem dX12_line_0 : decode (mB 220) 0 = .ok (.bipush 61, 2) := by decide +kernel
theorem dX12_line_2 : decode (mB 220) 2 = .ok (.aload_n 0, 1) := by decide +kernel
theorem dX12_line_3 : decode (mB 220) 3 = .ok (.getfield 58, 3) := by decide +kernel
theorem dX12_line_6 : decode (mB 220) 6 = .ok (.iconst 1, 1) := by decide +kernel
theorem dX12_line_7 : decode (mB 220) 7 = .ok (.iaload, 1) := by decide +kernel
theorem dX12_line_8 : decode (mB 220) 8 = .ok (.iadd, 1) := by decide +kernel
theorem dX12_line_9 : decode (mB 220) 9 = .ok (.istore_n 1, 1) := by decide +kernel
theorem dX12_line_10 : decode (mB 220) 10 = .ok (.aload_n 0, 1) := by decide +kernel
theorem dX12_line_11 : decode (mB 220) 11 = .ok (.getfield 61, 3) := by decide +kernel
theorem dX12_line_14 : decode (mB 220) 14 = .ok (.iload_n 1, 1) := by decide +kernel
theorem dX12_line_15 : decode (mB 220) 15 = .ok (.aload_n 0, 1) := by decide +kernel
theorem dX12_line_16 : decode (mB 220) 16 = .ok (.getfield 187, 3) := by decide +kernel
theorem dX12_line_19 : decode (mB 220) 19 = .ok (.i2s, 1) := by decide +kernel
theorem dX12_line_20 : decode (mB 220) 20 = .ok (.sastore, 1) := by decide +kernel
theorem dX12_line_21 : decode (mB 220) 21 = .ok (.aload_n 0, 1) := by decide +kernel
theorem dX12_line_22 : decode (mB 220) 22 = .ok (.invokevirtual 214, 3) := by decide +kernel
theorem dX12_line_25 : decode (mB 220) 25 = .ok (.aload_n 0, 1) := by decide +kernel
theorem dX12_line_26 : decode (mB 220) 26 = .ok (.getfield 184, 3) := by decide +kernel
theorem dX12_line_29 : decode (mB 220) 29 = .ok (.ifCond .ge 37, 3) := by decide +kernel
theorem dX12_line_32 : decode (mB 220) 32 = .ok (.aload_n 0, 1) := by decide +kernel
theorem dX12_line_33 : decode (mB 220) 33 = .ok (.invokevirtual 196, 3) := by decide +kernel
theorem dX12_line_36 : decode (mB 220) 36 = .ok (.bipush 63, 2) := by decide +kernel
theorem dX12_line_38 : decode (mB 220) 38 = .ok (.if_icmp .ne 28, 3) := by decide +kernel
theorem dX12_line_41 : decode (mB 220) 41 = .ok (.aload_n 0, 1) := by decide +kernel
theorem dX12_line_42 : decode (mB 220) 42 = .ok (.dup, 1) := by decide +kernel
theorem dX12_line_43 : decode (mB 220) 43 = .ok (.getfield 181, 3) := by decide +kernel
theorem dX12_line_46 : decode (mB 220) 46 = .ok (.iconst 1, 1) := by decide +kernel
theorem dX12_line_47 : decode (mB 220) 47 = .ok (.iadd, 1) := by decide +kernel
theorem dX12_line_48 : decode (mB 220) 48 = .ok (.putfield 181, 3) := by decide +kernel
theorem dX12_line_51 : decode (mB 220) 51 = .ok (.aload_n 0, 1) := by decide +kernel
theorem dX12_line_52 : decode (mB 220) 52 = .ok (.getfield 61, 3) := by decide +kernel
theorem dX12_line_55 : decode (mB 220) 55 = .ok (.iload_n 1, 1) := by decide +kernel
theorem dX12_line_56 : decode (mB 220) 56 = .ok (.aload_n 0, 1) := by decide +kernel
theorem dX12_line_57 : decode (mB 220) 57 = .ok (.getfield 187, 3) := by decide +kernel
theorem dX12_line_60 : decode (mB 220) 60 = .ok (.i2s, 1) := by decide +kernel
theorem dX12_line_61 : decode (mB 220) 61 = .ok (.sastore, 1) := by decide +kernel
theorem dX12_line_62 : decode (mB 220) 62 = .ok (.aload_n 0, 1) := by decide +kernel
theorem dX12_line_63 : decode (mB 220) 63 = .ok (.invokevirtual 214, 3) := by decide +kernel
theorem dX12_line_66 : decode (mB 220) 66 = .ok (.aload_n 0, 1) := by decide +kernel
theorem dX12_line_67 : decode (mB 220) 67 = .ok (.getfield 65, 3) := by decide +kernel
theorem dX12_line_70 : decode (mB 220) 70 = .ok (.iload_n 1, 1) := by decide +kernel
theorem dX12_line_71 : decode (mB 220) 71 = .ok (.aload_n 0, 1) := by decide +kernel
theorem dX12_line_72 : decode (mB 220) 72 = .ok (.getfield 187, 3) := by decide +kernel
theorem dX12_line_75 : decode (mB 220) 75 = .ok (.i2s, 1) := by decide +kernel
theorem dX12_line_76 : decode (mB 220) 76 = .ok (.sastore, 1) := by decide +kernel
theorem dX12_line_77 : decode (mB 220) 77 = .ok (.aload_n 0, 1) := by decide +kernel
theorem dX12_line_78 : decode (mB 220) 78 = .ok (.getfield 58, 3) := by decide +kernel
theorem dX12_line_81 : decode (mB 220) 81 = .ok (.iconst 1, 1) := by decide +kernel
theorem dX12_line_82 : decode (mB 220) 82 = .ok (.dup2, 1) := by decide +kernel
theorem dX12_line_83 : decode (mB 220) 83 = .ok (.iaload, 1) := by decide +kernel
theorem dX12_line_84 : decode (mB 220) 84 = .ok (.iconst 1, 1) := by decide +kernel
theorem dX12_line_85 : decode (mB 220) 85 = .ok (.iadd, 1) := by decide +kernel
theorem dX12_line_86 : decode (mB 220) 86 = .ok (.iastore, 1) := by decide +kernel
theorem dX12_line_87 : decode (mB 220) 87 = .ok (.return_, 1) := by decide +kernel
theorem dX12_readText_0 : decode (mB 221) 0 = .ok (.aload_n 0, 1) := by decide +kernel
theorem dX12_readText_1 : decode (mB 221) 1 = .ok (.iconst 0, 1) := by decide +kernel
theorem dX12_readText_2 : decode (mB 221) 2 = .ok (.putfield 181, 3) := by decide +kernel
theorem dX12_readText_5 : decode (mB 221) 5 = .ok (.aload_n 0, 1) := by decide +kernel
theorem dX12_readText_6 : decode (mB 221) 6 = .ok (.iconst (-1), 1) := by decide +kernel
theorem dX12_readText_7 : decode (mB 221) 7 = .ok (.putfield 184, 3) := by decide +kernel
theorem dX12_readText_10 : decode (mB 221) 10 = .ok (.aload_n 0, 1) := by decide +kernel
theorem dX12_readText_11 : decode (mB 221) 11 = .ok (.iconst 0, 1) := by decide +kernel
theorem dX12_readText_12 : decode (mB 221) 12 = .ok (.putfield 190, 3) := by decide +kernel
theorem dX12_readText_15 : decode (mB 221) 15 = .ok (.aload_n 0, 1) := by decide +kernel
theorem dX12_readText_16 : decode (mB 221) 16 = .ok (.iconst 0, 1) := by decide +kernel
theorem dX12_readText_17 : decode (mB 221) 17 = .ok (.putfield 187, 3) := by decide +kernel
theorem dX12_readText_20 : decode (mB 221) 20 = .ok (.aload_n 0, 1) := by decide +kernel
theorem dX12_readText_21 : decode (mB 221) 21 = .ok (.getfield 58, 3) := by decide +kernel
theorem dX12_readText_24 : decode (mB 221) 24 = .ok (.iconst 1, 1) := by decide +kernel
theorem dX12_readText_25 : decode (mB 221) 25 = .ok (.iconst 0, 1) := by decide +kernel
theorem dX12_readText_26 : decode (mB 221) 26 = .ok (.iastore, 1) := by decide +kernel
theorem dX12_readText_27 : decode (mB 221) 27 = .ok (.aload_n 0, 1) := by decide +kernel
theorem dX12_readText_28 : decode (mB 221) 28 = .ok (.invokevirtual 232, 3) := by decide +kernel
theorem dX12_readText_31 : decode (mB 221) 31 = .ok (.aload_n 0, 1) := by decide +kernel
theorem dX12_readText_32 : decode (mB 221) 32 = .ok (.getfield 184, 3) := by decide +kernel
theorem dX12_readText_35 : decode (mB 221) 35 = .ok (.ifCond .ge 29, 3) := by decide +kernel
theorem dX12_readText_38 : decode (mB 221) 38 = .ok (.aload_n 0, 1) := by decide +kernel
theorem dX12_readText_39 : decode (mB 221) 39 = .ok (.invokevirtual 196, 3) := by decide +kernel
theorem dX12_readText_42 : decode (mB 221) 42 = .ok (.bipush 59, 2) := by decide +kernel
theorem dX12_readText_44 : decode (mB 221) 44 = .ok (.if_icmp .ne 20, 3) := by decide +kernel
theorem dX12_readText_47 : decode (mB 221) 47 = .ok (.aload_n 0, 1) := by decide +kernel
theorem dX12_readText_48 : decode (mB 221) 48 = .ok (.dup, 1) := by decide +kernel
theorem dX12_readText_49 : decode (mB 221) 49 = .ok (.getfield 181, 3) := by decide +kernel
theorem dX12_readText_52 : decode (mB 221) 52 = .ok (.iconst 1, 1) := by decide +kernel
theorem dX12_readText_53 : decode (mB 221) 53 = .ok (.iadd, 1) := by decide +kernel
theorem dX12_readText_54 : decode (mB 221) 54 = .ok (.putfield 181, 3) := by decide +kernel
theorem dX12_readText_57 : decode (mB 221) 57 = .ok (.aload_n 0, 1) := by decide +kernel
theorem dX12_readText_58 : decode (mB 221) 58 = .ok (.invokevirtual 232, 3) := by decide +kernel
theorem dX12_readText_61 : decode (mB 221) 61 = .ok (.goto (-30), 3) := by decide +kernel
theorem dX12_readText_64 : decode (mB 221) 64 = .ok (.aload_n 0, 1) := by decide +kernel
theorem dX12_readText_65 : decode (mB 221) 65 = .ok (.getfield 184, 3) := by decide +kernel
theorem dX12_readText_68 : decode (mB 221) 68 = .ok (.ifCond .ge 18, 3) := by decide +kernel
theorem dX12_readText_71 : decode (mB 221) 71 = .ok (.aload_n 0, 1) := by decide +kernel
theorem dX12_readText_72 : decode (mB 221) 72 = .ok (.getfield 181, 3) := by decide +kernel
theorem dX12_readText_75 : decode (mB 221) 75 = .ok (.aload_n 0, 1) := by decide +kernel
theorem dX12_readText_76 : decode (mB 221) 76 = .ok (.getfield 178, 3) := by decide +kernel
theorem dX12_readText_79 : decode (mB 221) 79 = .ok (.if_icmp .ge 7, 3) := by decide +kernel
theorem dX12_readText_82 : decode (mB 221) 82 = .ok (.aload_n 0, 1) := by decide +kernel
theorem dX12_readText_83 : decode (mB 221) 83 = .ok (.invokevirtual 193, 3) := by decide +kernel
theorem dX12_readText_86 : decode (mB 221) 86 = .ok (.aload_n 0, 1) := by decide +kernel
theorem dX12_readText_87 : decode (mB 221) 87 = .ok (.iconst 0, 1) := by decide +kernel
theorem dX12_readText_88 : decode (mB 221) 88 = .ok (.putfield 178, 3) := by decide +kernel
theorem dX12_readText_91 : decode (mB 221) 91 = .ok (.aload_n 0, 1) := by decide +kernel
theorem dX12_readText_92 : decode (mB 221) 92 = .ok (.getfield 184, 3) := by decide +kernel
theorem dX12_readText_95 : decode (mB 221) 95 = .ok (.ifCond .lt 8, 3) := by decide +kernel
theorem dX12_readText_98 : decode (mB 221) 98 = .ok (.aload_n 0, 1) := by decide +kernel
theorem dX12_readText_99 : decode (mB 221) 99 = .ok (.getfield 184, 3) := by decide +kernel
theorem dX12_readText_102 : decode (mB 221) 102 = .ok (.ireturn, 1) := by decide +kernel
theorem dX12_readText_103 : decode (mB 221) 103 = .ok (.iconst 0, 1) := by decide +kernel
theorem dX12_readText_104 : decode (mB 221) 104 = .ok (.istore_n 2, 1) := by decide +kernel
theorem dX12_readText_105 : decode (mB 221) 105 = .ok (.iload_n 2, 1) := by decide +kernel
theorem dX12_readText_106 : decode (mB 221) 106 = .ok (.aload_n 0, 1) := by decide +kernel
theorem dX12_readText_107 : decode (mB 221) 107 = .ok (.getfield 187, 3) := by decide +kernel
theorem dX12_readText_110 : decode (mB 221) 110 = .ok (.if_icmp .ge 53, 3) := by decide +kernel
theorem dX12_readText_113 : decode (mB 221) 113 = .ok (.aload_n 0, 1) := by decide +kernel
theorem dX12_readText_114 : decode (mB 221) 114 = .ok (.getfield 52, 3) := by decide +kernel
theorem dX12_readText_117 : decode (mB 221) 117 = .ok (.sipush 130, 3) := by decide +kernel
theorem dX12_readText_120 : decode (mB 221) 120 = .ok (.iload_n 1, 1) := by decide +kernel
theorem dX12_readText_121 : decode (mB 221) 121 = .ok (.imul, 1) := by decide +kernel
theorem dX12_readText_122 : decode (mB 221) 122 = .ok (.iload_n 2, 1) := by decide +kernel
theorem dX12_readText_123 : decode (mB 221) 123 = .ok (.iadd, 1) := by decide +kernel
theorem dX12_readText_124 : decode (mB 221) 124 = .ok (.aload_n 0, 1) := by decide +kernel
theorem dX12_readText_125 : decode (mB 221) 125 = .ok (.getfield 52, 3) := by decide +kernel
theorem dX12_readText_128 : decode (mB 221) 128 = .ok (.sipush 130, 3) := by decide +kernel
theorem dX12_readText_131 : decode (mB 221) 131 = .ok (.iload_n 2, 1) := by decide +kernel
theorem dX12_readText_132 : decode (mB 221) 132 = .ok (.iadd, 1) := by decide +kernel
theorem dX12_readText_133 : decode (mB 221) 133 = .ok (.baload, 1) := by decide +kernel
theorem dX12_readText_134 : decode (mB 221) 134 = .ok (.bastore, 1) := by decide +kernel
theorem dX12_readText_135 : decode (mB 221) 135 = .ok (.aload_n 0, 1) := by decide +kernel
theorem dX12_readText_136 : decode (mB 221) 136 = .ok (.getfield 55, 3) := by decide +kernel
theorem dX12_readText_139 : decode (mB 221) 139 = .ok (.sipush 130, 3) := by decide +kernel
theorem dX12_readText_142 : decode (mB 221) 142 = .ok (.iload_n 1, 1) := by decide +kernel
theorem dX12_readText_143 : decode (mB 221) 143 = .ok (.imul, 1) := by decide +kernel
theorem dX12_readText_144 : decode (mB 221) 144 = .ok (.iload_n 2, 1) := by decide +kernel
theorem dX12_readText_145 : decode (mB 221) 145 = .ok (.iadd, 1) := by decide +kernel
theorem dX12_readText_146 : decode (mB 221) 146 = .ok (.aload_n 0, 1) := by decide +kernel
theorem dX12_readText_147 : decode (mB 221) 147 = .ok (.getfield 55, 3) := by decide +kernel
theorem dX12_readText_150 : decode (mB 221) 150 = .ok (.sipush 130, 3) := by decide +kernel
theorem dX12_readText_153 : decode (mB 221) 153 = .ok (.iload_n 2, 1) := by decide +kernel
theorem dX12_readText_154 : decode (mB 221) 154 = .ok (.iadd, 1) := by decide +kernel
theorem dX12_readText_155 : decode (mB 221) 155 = .ok (.iaload, 1) := by decide +kernel
theorem dX12_readText_156 : decode (mB 221) 156 = .ok (.iastore, 1) := by decide +kernel
theorem dX12_readText_157 : decode (mB 221) 157 = .ok (.iinc 2 1, 3) := by decide +kernel
theorem dX12_readText_160 : decode (mB 221) 160 = .ok (.goto (-55), 3) := by decide +kernel
theorem dX12_readText_163 : decode (mB 221) 163 = .ok (.aload_n 0, 1) := by decide +kernel
theorem dX12_readText_164 : decode (mB 221) 164 = .ok (.getfield 58, 3) := by decide +kernel
theorem dX12_readText_167 : decode (mB 221) 167 = .ok (.iload_n 1, 1) := by decide +kernel
theorem dX12_readText_168 : decode (mB 221) 168 = .ok (.aload_n 0, 1) := by decide +kernel
theorem dX12_readText_169 : decode (mB 221) 169 = .ok (.getfield 58, 3) := by decide +kernel
theorem dX12_readText_172 : decode (mB 221) 172 = .ok (.iconst 1, 1) := by decide +kernel
theorem dX12_readText_173 : decode (mB 221) 173 = .ok (.iaload, 1) := by decide +kernel
theorem dX12_readText_174 : decode (mB 221) 174 = .ok (.iastore, 1) := by decide +kernel
theorem dX12_readText_175 : decode (mB 221) 175 = .ok (.iconst 0, 1) := by decide +kernel
theorem dX12_readText_176 : decode (mB 221) 176 = .ok (.istore_n 2, 1) := by decide +kernel
theorem dX12_readText_177 : decode (mB 221) 177 = .ok (.iload_n 2, 1) := by decide +kernel
theorem dX12_readText_178 : decode (mB 221) 178 = .ok (.aload_n 0, 1) := by decide +kernel
theorem dX12_readText_179 : decode (mB 221) 179 = .ok (.getfield 58, 3) := by decide +kernel
theorem dX12_readText_182 : decode (mB 221) 182 = .ok (.iload_n 1, 1) := by decide +kernel
theorem dX12_readText_183 : decode (mB 221) 183 = .ok (.iaload, 1) := by decide +kernel
theorem dX12_readText_184 : decode (mB 221) 184 = .ok (.if_icmp .ge 49, 3) := by decide +kernel
theorem dX12_readText_187 : decode (mB 221) 187 = .ok (.aload_n 0, 1) := by decide +kernel
theorem dX12_readText_188 : decode (mB 221) 188 = .ok (.getfield 61, 3) := by decide +kernel
theorem dX12_readText_191 : decode (mB 221) 191 = .ok (.bipush 61, 2) := by decide +kernel
theorem dX12_readText_193 : decode (mB 221) 193 = .ok (.iload_n 1, 1) := by decide +kernel
theorem dX12_readText_194 : decode (mB 221) 194 = .ok (.imul, 1) := by decide +kernel
theorem dX12_readText_195 : decode (mB 221) 195 = .ok (.iload_n 2, 1) := by decide +kernel
theorem dX12_readText_196 : decode (mB 221) 196 = .ok (.iadd, 1) := by decide +kernel
theorem dX12_readText_197 : decode (mB 221) 197 = .ok (.aload_n 0, 1) := by decide +kernel
theorem dX12_readText_198 : decode (mB 221) 198 = .ok (.getfield 61, 3) := by decide +kernel
theorem dX12_readText_201 : decode (mB 221) 201 = .ok (.bipush 61, 2) := by decide +kernel
theorem dX12_readText_203 : decode (mB 221) 203 = .ok (.iload_n 2, 1) := by decide +kernel
theorem dX12_readText_204 : decode (mB 221) 204 = .ok (.iadd, 1) := by decide +kernel
theorem dX12_readText_205 : decode (mB 221) 205 = .ok (.saload, 1) := by decide +kernel
theorem dX12_readText_206 : decode (mB 221) 206 = .ok (.sastore, 1) := by decide +kernel
theorem dX12_readText_207 : decode (mB 221) 207 = .ok (.aload_n 0, 1) := by decide +kernel
theorem dX12_readText_208 : decode (mB 221) 208 = .ok (.getfield 65, 3) := by decide +kernel
theorem dX12_readText_211 : decode (mB 221) 211 = .ok (.bipush 61, 2) := by decide +kernel
theorem dX12_readText_213 : decode (mB 221) 213 = .ok (.iload_n 1, 1) := by decide +kernel
theorem dX12_readText_214 : decode (mB 221) 214 = .ok (.imul, 1) := by decide +kernel
theorem dX12_readText_215 : decode (mB 221) 215 = .ok (.iload_n 2, 1) := by decide +kernel
theorem dX12_readText_216 : decode (mB 221) 216 = .ok (.iadd, 1) := by decide +kernel
theorem dX12_readText_217 : decode (mB 221) 217 = .ok (.aload_n 0, 1) := by decide +kernel
theorem dX12_readText_218 : decode (mB 221) 218 = .ok (.getfield 65, 3) := by decide +kernel
theorem dX12_readText_221 : decode (mB 221) 221 = .ok (.bipush 61, 2) := by decide +kernel
theorem dX12_readText_223 : decode (mB 221) 223 = .ok (.iload_n 2, 1) := by decide +kernel
theorem dX12_readText_224 : decode (mB 221) 224 = .ok (.iadd, 1) := by decide +kernel
theorem dX12_readText_225 : decode (mB 221) 225 = .ok (.saload, 1) := by decide +kernel
theorem dX12_readText_226 : decode (mB 221) 226 = .ok (.sastore, 1) := by decide +kernel
theorem dX12_readText_227 : decode (mB 221) 227 = .ok (.iinc 2 1, 3) := by decide +kernel
theorem dX12_readText_230 : decode (mB 221) 230 = .ok (.goto (-53), 3) := by decide +kernel
theorem dX12_readText_233 : decode (mB 221) 233 = .ok (.iconst (-1), 1) := by decide +kernel
theorem dX12_readText_234 : decode (mB 221) 234 = .ok (.ireturn, 1) := by decide +kernel
theorem dX12_twoOf_0 : decode (mB 222) 0 = .ok (.iload_n 0, 1) := by decide +kernel
theorem dX12_twoOf_1 : decode (mB 222) 1 = .ok (.tableswitch 217 37 62 #[153, 203, 217, 217, 217, 127, 119, 217, 123, 217, 131, 217, 217, 217, 217, 217, 217, 217, 217, 217, 217, 217, 217, 170, 181, 192], 119) := by decide +kernel
theorem dX12_twoOf_120 : decode (mB 222) 120 = .ok (.iload_n 1, 1) := by decide +kernel
theorem dX12_twoOf_121 : decode (mB 222) 121 = .ok (.iload_n 2, 1) := by decide +kernel
theorem dX12_twoOf_122 : decode (mB 222) 122 = .ok (.iadd, 1) := by decide +kernel
theorem dX12_twoOf_123 : decode (mB 222) 123 = .ok (.ireturn, 1) := by decide +kernel
theorem dX12_twoOf_124 : decode (mB 222) 124 = .ok (.iload_n 1, 1) := by decide +kernel
theorem dX12_twoOf_125 : decode (mB 222) 125 = .ok (.iload_n 2, 1) := by decide +kernel
theorem dX12_twoOf_126 : decode (mB 222) 126 = .ok (.isub, 1) := by decide +kernel
theorem dX12_twoOf_127 : decode (mB 222) 127 = .ok (.ireturn, 1) := by decide +kernel
theorem dX12_twoOf_128 : decode (mB 222) 128 = .ok (.iload_n 1, 1) := by decide +kernel
theorem dX12_twoOf_129 : decode (mB 222) 129 = .ok (.iload_n 2, 1) := by decide +kernel
theorem dX12_twoOf_130 : decode (mB 222) 130 = .ok (.imul, 1) := by decide +kernel
theorem dX12_twoOf_131 : decode (mB 222) 131 = .ok (.ireturn, 1) := by decide +kernel
theorem dX12_twoOf_132 : decode (mB 222) 132 = .ok (.iload_n 2, 1) := by decide +kernel
theorem dX12_twoOf_133 : decode (mB 222) 133 = .ok (.ifCond .ne 7, 3) := by decide +kernel
theorem dX12_twoOf_136 : decode (mB 222) 136 = .ok (.iconst 0, 1) := by decide +kernel
theorem dX12_twoOf_137 : decode (mB 222) 137 = .ok (.goto 16, 3) := by decide +kernel
theorem dX12_twoOf_140 : decode (mB 222) 140 = .ok (.iload_n 2, 1) := by decide +kernel
theorem dX12_twoOf_141 : decode (mB 222) 141 = .ok (.iconst (-1), 1) := by decide +kernel
theorem dX12_twoOf_142 : decode (mB 222) 142 = .ok (.if_icmp .ne 8, 3) := by decide +kernel
theorem dX12_twoOf_145 : decode (mB 222) 145 = .ok (.iload_n 1, 1) := by decide +kernel
theorem dX12_twoOf_146 : decode (mB 222) 146 = .ok (.ineg, 1) := by decide +kernel
theorem dX12_twoOf_147 : decode (mB 222) 147 = .ok (.goto 6, 3) := by decide +kernel
theorem dX12_twoOf_150 : decode (mB 222) 150 = .ok (.iload_n 1, 1) := by decide +kernel
theorem dX12_twoOf_151 : decode (mB 222) 151 = .ok (.iload_n 2, 1) := by decide +kernel
theorem dX12_twoOf_152 : decode (mB 222) 152 = .ok (.idiv, 1) := by decide +kernel
theorem dX12_twoOf_153 : decode (mB 222) 153 = .ok (.ireturn, 1) := by decide +kernel
theorem dX12_twoOf_154 : decode (mB 222) 154 = .ok (.iload_n 2, 1) := by decide +kernel
theorem dX12_twoOf_155 : decode (mB 222) 155 = .ok (.ifCond .eq 8, 3) := by decide +kernel
theorem dX12_twoOf_158 : decode (mB 222) 158 = .ok (.iload_n 2, 1) := by decide +kernel
theorem dX12_twoOf_159 : decode (mB 222) 159 = .ok (.iconst (-1), 1) := by decide +kernel
theorem dX12_twoOf_160 : decode (mB 222) 160 = .ok (.if_icmp .ne 7, 3) := by decide +kernel
theorem dX12_twoOf_163 : decode (mB 222) 163 = .ok (.iconst 0, 1) := by decide +kernel
theorem dX12_twoOf_164 : decode (mB 222) 164 = .ok (.goto 6, 3) := by decide +kernel
theorem dX12_twoOf_167 : decode (mB 222) 167 = .ok (.iload_n 1, 1) := by decide +kernel
theorem dX12_twoOf_168 : decode (mB 222) 168 = .ok (.iload_n 2, 1) := by decide +kernel
theorem dX12_twoOf_169 : decode (mB 222) 169 = .ok (.irem, 1) := by decide +kernel
theorem dX12_twoOf_170 : decode (mB 222) 170 = .ok (.ireturn, 1) := by decide +kernel
theorem dX12_twoOf_171 : decode (mB 222) 171 = .ok (.iload_n 1, 1) := by decide +kernel
theorem dX12_twoOf_172 : decode (mB 222) 172 = .ok (.iload_n 2, 1) := by decide +kernel
theorem dX12_twoOf_173 : decode (mB 222) 173 = .ok (.if_icmp .ge 7, 3) := by decide +kernel
theorem dX12_twoOf_176 : decode (mB 222) 176 = .ok (.iconst 1, 1) := by decide +kernel
theorem dX12_twoOf_177 : decode (mB 222) 177 = .ok (.goto 4, 3) := by decide +kernel
theorem dX12_twoOf_180 : decode (mB 222) 180 = .ok (.iconst 0, 1) := by decide +kernel
theorem dX12_twoOf_181 : decode (mB 222) 181 = .ok (.ireturn, 1) := by decide +kernel
theorem dX12_twoOf_182 : decode (mB 222) 182 = .ok (.iload_n 1, 1) := by decide +kernel
theorem dX12_twoOf_183 : decode (mB 222) 183 = .ok (.iload_n 2, 1) := by decide +kernel
theorem dX12_twoOf_184 : decode (mB 222) 184 = .ok (.if_icmp .ne 7, 3) := by decide +kernel
theorem dX12_twoOf_187 : decode (mB 222) 187 = .ok (.iconst 1, 1) := by decide +kernel
theorem dX12_twoOf_188 : decode (mB 222) 188 = .ok (.goto 4, 3) := by decide +kernel
theorem dX12_twoOf_191 : decode (mB 222) 191 = .ok (.iconst 0, 1) := by decide +kernel
theorem dX12_twoOf_192 : decode (mB 222) 192 = .ok (.ireturn, 1) := by decide +kernel
theorem dX12_twoOf_193 : decode (mB 222) 193 = .ok (.iload_n 1, 1) := by decide +kernel
theorem dX12_twoOf_194 : decode (mB 222) 194 = .ok (.iload_n 2, 1) := by decide +kernel
theorem dX12_twoOf_195 : decode (mB 222) 195 = .ok (.if_icmp .le 7, 3) := by decide +kernel
theorem dX12_twoOf_198 : decode (mB 222) 198 = .ok (.iconst 1, 1) := by decide +kernel
theorem dX12_twoOf_199 : decode (mB 222) 199 = .ok (.goto 4, 3) := by decide +kernel
theorem dX12_twoOf_202 : decode (mB 222) 202 = .ok (.iconst 0, 1) := by decide +kernel
theorem dX12_twoOf_203 : decode (mB 222) 203 = .ok (.ireturn, 1) := by decide +kernel
theorem dX12_twoOf_204 : decode (mB 222) 204 = .ok (.iload_n 1, 1) := by decide +kernel
theorem dX12_twoOf_205 : decode (mB 222) 205 = .ok (.ifCond .eq 11, 3) := by decide +kernel
theorem dX12_twoOf_208 : decode (mB 222) 208 = .ok (.iload_n 2, 1) := by decide +kernel
theorem dX12_twoOf_209 : decode (mB 222) 209 = .ok (.ifCond .eq 7, 3) := by decide +kernel
theorem dX12_twoOf_212 : decode (mB 222) 212 = .ok (.iconst 1, 1) := by decide +kernel
theorem dX12_twoOf_213 : decode (mB 222) 213 = .ok (.goto 4, 3) := by decide +kernel
theorem dX12_twoOf_216 : decode (mB 222) 216 = .ok (.iconst 0, 1) := by decide +kernel
theorem dX12_twoOf_217 : decode (mB 222) 217 = .ok (.ireturn, 1) := by decide +kernel
theorem dX12_twoOf_218 : decode (mB 222) 218 = .ok (.iload_n 1, 1) := by decide +kernel
theorem dX12_twoOf_219 : decode (mB 222) 219 = .ok (.ifCond .ne 7, 3) := by decide +kernel
theorem dX12_twoOf_222 : decode (mB 222) 222 = .ok (.iload_n 2, 1) := by decide +kernel
theorem dX12_twoOf_223 : decode (mB 222) 223 = .ok (.ifCond .eq 7, 3) := by decide +kernel
theorem dX12_twoOf_226 : decode (mB 222) 226 = .ok (.iconst 1, 1) := by decide +kernel
theorem dX12_twoOf_227 : decode (mB 222) 227 = .ok (.goto 4, 3) := by decide +kernel
theorem dX12_twoOf_230 : decode (mB 222) 230 = .ok (.iconst 0, 1) := by decide +kernel
theorem dX12_twoOf_231 : decode (mB 222) 231 = .ok (.ireturn, 1) := by decide +kernel
theorem dX12_worked_0 : decode (mB 223) 0 = .ok (.iconst 0, 1) := by decide +kernel
theorem dX12_worked_1 : decode (mB 223) 1 = .ok (.istore 4, 2) := by decide +kernel
theorem dX12_worked_3 : decode (mB 223) 3 = .ok (.sipush 130, 3) := by decide +kernel
theorem dX12_worked_6 : decode (mB 223) 6 = .ok (.iload_n 1, 1) := by decide +kernel
theorem dX12_worked_7 : decode (mB 223) 7 = .ok (.imul, 1) := by decide +kernel
theorem dX12_worked_8 : decode (mB 223) 8 = .ok (.iload_n 2, 1) := by decide +kernel
theorem dX12_worked_9 : decode (mB 223) 9 = .ok (.iadd, 1) := by decide +kernel
theorem dX12_worked_10 : decode (mB 223) 10 = .ok (.istore 5, 2) := by decide +kernel
theorem dX12_worked_12 : decode (mB 223) 12 = .ok (.iload 5, 2) := by decide +kernel
theorem dX12_worked_14 : decode (mB 223) 14 = .ok (.sipush 130, 3) := by decide +kernel
theorem dX12_worked_17 : decode (mB 223) 17 = .ok (.iload_n 1, 1) := by decide +kernel
theorem dX12_worked_18 : decode (mB 223) 18 = .ok (.imul, 1) := by decide +kernel
theorem dX12_worked_19 : decode (mB 223) 19 = .ok (.iload_n 3, 1) := by decide +kernel
theorem dX12_worked_20 : decode (mB 223) 20 = .ok (.iadd, 1) := by decide +kernel
theorem dX12_worked_21 : decode (mB 223) 21 = .ok (.if_icmp .ge 167, 3) := by decide +kernel
theorem dX12_worked_24 : decode (mB 223) 24 = .ok (.aload_n 0, 1) := by decide +kernel
theorem dX12_worked_25 : decode (mB 223) 25 = .ok (.getfield 52, 3) := by decide +kernel
theorem dX12_worked_28 : decode (mB 223) 28 = .ok (.iload 5, 2) := by decide +kernel
theorem dX12_worked_30 : decode (mB 223) 30 = .ok (.baload, 1) := by decide +kernel
theorem dX12_worked_31 : decode (mB 223) 31 = .ok (.istore 6, 2) := by decide +kernel
theorem dX12_worked_33 : decode (mB 223) 33 = .ok (.iload 6, 2) := by decide +kernel
theorem dX12_worked_35 : decode (mB 223) 35 = .ok (.iconst 1, 1) := by decide +kernel
theorem dX12_worked_36 : decode (mB 223) 36 = .ok (.if_icmp .eq 9, 3) := by decide +kernel
theorem dX12_worked_39 : decode (mB 223) 39 = .ok (.iload 6, 2) := by decide +kernel
theorem dX12_worked_41 : decode (mB 223) 41 = .ok (.iconst 2, 1) := by decide +kernel
theorem dX12_worked_42 : decode (mB 223) 42 = .ok (.if_icmp .ne 44, 3) := by decide +kernel
theorem dX12_worked_45 : decode (mB 223) 45 = .ok (.aload_n 0, 1) := by decide +kernel
theorem dX12_worked_46 : decode (mB 223) 46 = .ok (.getfield 71, 3) := by decide +kernel
theorem dX12_worked_49 : decode (mB 223) 49 = .ok (.iload 4, 2) := by decide +kernel
theorem dX12_worked_51 : decode (mB 223) 51 = .ok (.iload 6, 2) := by decide +kernel
theorem dX12_worked_53 : decode (mB 223) 53 = .ok (.iconst 1, 1) := by decide +kernel
theorem dX12_worked_54 : decode (mB 223) 54 = .ok (.if_icmp .ne 13, 3) := by decide +kernel
theorem dX12_worked_57 : decode (mB 223) 57 = .ok (.aload_n 0, 1) := by decide +kernel
theorem dX12_worked_58 : decode (mB 223) 58 = .ok (.getfield 55, 3) := by decide +kernel
theorem dX12_worked_61 : decode (mB 223) 61 = .ok (.iload 5, 2) := by decide +kernel
theorem dX12_worked_63 : decode (mB 223) 63 = .ok (.iaload, 1) := by decide +kernel
theorem dX12_worked_64 : decode (mB 223) 64 = .ok (.goto 15, 3) := by decide +kernel
theorem dX12_worked_67 : decode (mB 223) 67 = .ok (.aload_n 0, 1) := by decide +kernel
theorem dX12_worked_68 : decode (mB 223) 68 = .ok (.getfield 68, 3) := by decide +kernel
theorem dX12_worked_71 : decode (mB 223) 71 = .ok (.aload_n 0, 1) := by decide +kernel
theorem dX12_worked_72 : decode (mB 223) 72 = .ok (.getfield 55, 3) := by decide +kernel
theorem dX12_worked_75 : decode (mB 223) 75 = .ok (.iload 5, 2) := by decide +kernel
theorem dX12_worked_77 : decode (mB 223) 77 = .ok (.iaload, 1) := by decide +kernel
theorem dX12_worked_78 : decode (mB 223) 78 = .ok (.iaload, 1) := by decide +kernel
theorem dX12_worked_79 : decode (mB 223) 79 = .ok (.iastore, 1) := by decide +kernel
theorem dX12_worked_80 : decode (mB 223) 80 = .ok (.iinc 4 1, 3) := by decide +kernel
theorem dX12_worked_83 : decode (mB 223) 83 = .ok (.goto 99, 3) := by decide +kernel
theorem dX12_worked_86 : decode (mB 223) 86 = .ok (.iload 6, 2) := by decide +kernel
theorem dX12_worked_88 : decode (mB 223) 88 = .ok (.iconst 3, 1) := by decide +kernel
theorem dX12_worked_89 : decode (mB 223) 89 = .ok (.if_icmp .ne 32, 3) := by decide +kernel
theorem dX12_worked_92 : decode (mB 223) 92 = .ok (.aload_n 0, 1) := by decide +kernel
theorem dX12_worked_93 : decode (mB 223) 93 = .ok (.getfield 71, 3) := by decide +kernel
theorem dX12_worked_96 : decode (mB 223) 96 = .ok (.iload 4, 2) := by decide +kernel
theorem dX12_worked_98 : decode (mB 223) 98 = .ok (.iconst 1, 1) := by decide +kernel
theorem dX12_worked_99 : decode (mB 223) 99 = .ok (.isub, 1) := by decide +kernel
theorem dX12_worked_100 : decode (mB 223) 100 = .ok (.aload_n 0, 1) := by decide +kernel
theorem dX12_worked_101 : decode (mB 223) 101 = .ok (.getfield 71, 3) := by decide +kernel
theorem dX12_worked_104 : decode (mB 223) 104 = .ok (.iload 4, 2) := by decide +kernel
theorem dX12_worked_106 : decode (mB 223) 106 = .ok (.iconst 1, 1) := by decide +kernel
theorem dX12_worked_107 : decode (mB 223) 107 = .ok (.isub, 1) := by decide +kernel
theorem dX12_worked_108 : decode (mB 223) 108 = .ok (.iaload, 1) := by decide +kernel
theorem dX12_worked_109 : decode (mB 223) 109 = .ok (.ifCond .ne 7, 3) := by decide +kernel
theorem dX12_worked_112 : decode (mB 223) 112 = .ok (.iconst 1, 1) := by decide +kernel
theorem dX12_worked_113 : decode (mB 223) 113 = .ok (.goto 4, 3) := by decide +kernel
theorem dX12_worked_116 : decode (mB 223) 116 = .ok (.iconst 0, 1) := by decide +kernel
theorem dX12_worked_117 : decode (mB 223) 117 = .ok (.iastore, 1) := by decide +kernel
theorem dX12_worked_118 : decode (mB 223) 118 = .ok (.goto 64, 3) := by decide +kernel
theorem dX12_worked_121 : decode (mB 223) 121 = .ok (.iload 6, 2) := by decide +kernel
theorem dX12_worked_123 : decode (mB 223) 123 = .ok (.iconst 4, 1) := by decide +kernel
theorem dX12_worked_124 : decode (mB 223) 124 = .ok (.if_icmp .ne 25, 3) := by decide +kernel
theorem dX12_worked_127 : decode (mB 223) 127 = .ok (.aload_n 0, 1) := by decide +kernel
theorem dX12_worked_128 : decode (mB 223) 128 = .ok (.getfield 71, 3) := by decide +kernel
theorem dX12_worked_131 : decode (mB 223) 131 = .ok (.iload 4, 2) := by decide +kernel
theorem dX12_worked_133 : decode (mB 223) 133 = .ok (.iconst 1, 1) := by decide +kernel
theorem dX12_worked_134 : decode (mB 223) 134 = .ok (.isub, 1) := by decide +kernel
theorem dX12_worked_135 : decode (mB 223) 135 = .ok (.aload_n 0, 1) := by decide +kernel
theorem dX12_worked_136 : decode (mB 223) 136 = .ok (.getfield 71, 3) := by decide +kernel
theorem dX12_worked_139 : decode (mB 223) 139 = .ok (.iload 4, 2) := by decide +kernel
theorem dX12_worked_141 : decode (mB 223) 141 = .ok (.iconst 1, 1) := by decide +kernel
theorem dX12_worked_142 : decode (mB 223) 142 = .ok (.isub, 1) := by decide +kernel
theorem dX12_worked_143 : decode (mB 223) 143 = .ok (.iaload, 1) := by decide +kernel
theorem dX12_worked_144 : decode (mB 223) 144 = .ok (.ineg, 1) := by decide +kernel
theorem dX12_worked_145 : decode (mB 223) 145 = .ok (.iastore, 1) := by decide +kernel
theorem dX12_worked_146 : decode (mB 223) 146 = .ok (.goto 36, 3) := by decide +kernel
theorem dX12_worked_149 : decode (mB 223) 149 = .ok (.iinc 4 (-1), 3) := by decide +kernel
theorem dX12_worked_152 : decode (mB 223) 152 = .ok (.aload_n 0, 1) := by decide +kernel
theorem dX12_worked_153 : decode (mB 223) 153 = .ok (.getfield 71, 3) := by decide +kernel
theorem dX12_worked_156 : decode (mB 223) 156 = .ok (.iload 4, 2) := by decide +kernel
theorem dX12_worked_158 : decode (mB 223) 158 = .ok (.iconst 1, 1) := by decide +kernel
theorem dX12_worked_159 : decode (mB 223) 159 = .ok (.isub, 1) := by decide +kernel
theorem dX12_worked_160 : decode (mB 223) 160 = .ok (.iload 6, 2) := by decide +kernel
theorem dX12_worked_162 : decode (mB 223) 162 = .ok (.aload_n 0, 1) := by decide +kernel
theorem dX12_worked_163 : decode (mB 223) 163 = .ok (.getfield 71, 3) := by decide +kernel
theorem dX12_worked_166 : decode (mB 223) 166 = .ok (.iload 4, 2) := by decide +kernel
theorem dX12_worked_168 : decode (mB 223) 168 = .ok (.iconst 1, 1) := by decide +kernel
theorem dX12_worked_169 : decode (mB 223) 169 = .ok (.isub, 1) := by decide +kernel
theorem dX12_worked_170 : decode (mB 223) 170 = .ok (.iaload, 1) := by decide +kernel
theorem dX12_worked_171 : decode (mB 223) 171 = .ok (.aload_n 0, 1) := by decide +kernel
theorem dX12_worked_172 : decode (mB 223) 172 = .ok (.getfield 71, 3) := by decide +kernel
theorem dX12_worked_175 : decode (mB 223) 175 = .ok (.iload 4, 2) := by decide +kernel
theorem dX12_worked_177 : decode (mB 223) 177 = .ok (.iaload, 1) := by decide +kernel
theorem dX12_worked_178 : decode (mB 223) 178 = .ok (.invokestatic 235, 3) := by decide +kernel
theorem dX12_worked_181 : decode (mB 223) 181 = .ok (.iastore, 1) := by decide +kernel
theorem dX12_worked_182 : decode (mB 223) 182 = .ok (.iinc 5 1, 3) := by decide +kernel
theorem dX12_worked_185 : decode (mB 223) 185 = .ok (.goto (-173), 3) := by decide +kernel
theorem dX12_worked_188 : decode (mB 223) 188 = .ok (.aload_n 0, 1) := by decide +kernel
theorem dX12_worked_189 : decode (mB 223) 189 = .ok (.getfield 71, 3) := by decide +kernel
theorem dX12_worked_192 : decode (mB 223) 192 = .ok (.iconst 0, 1) := by decide +kernel
theorem dX12_worked_193 : decode (mB 223) 193 = .ok (.iaload, 1) := by decide +kernel
theorem dX12_worked_194 : decode (mB 223) 194 = .ok (.ireturn, 1) := by decide +kernel
theorem dX12_gives_0 : decode (mB 224) 0 = .ok (.iconst 0, 1) := by decide +kernel
theorem dX12_gives_1 : decode (mB 224) 1 = .ok (.istore_n 2, 1) := by decide +kernel
theorem dX12_gives_2 : decode (mB 224) 2 = .ok (.bipush 61, 2) := by decide +kernel
theorem dX12_gives_4 : decode (mB 224) 4 = .ok (.iload_n 1, 1) := by decide +kernel
theorem dX12_gives_5 : decode (mB 224) 5 = .ok (.imul, 1) := by decide +kernel
theorem dX12_gives_6 : decode (mB 224) 6 = .ok (.istore_n 3, 1) := by decide +kernel
theorem dX12_gives_7 : decode (mB 224) 7 = .ok (.iload_n 3, 1) := by decide +kernel
theorem dX12_gives_8 : decode (mB 224) 8 = .ok (.bipush 61, 2) := by decide +kernel
theorem dX12_gives_10 : decode (mB 224) 10 = .ok (.iload_n 1, 1) := by decide +kernel
theorem dX12_gives_11 : decode (mB 224) 11 = .ok (.imul, 1) := by decide +kernel
theorem dX12_gives_12 : decode (mB 224) 12 = .ok (.aload_n 0, 1) := by decide +kernel
theorem dX12_gives_13 : decode (mB 224) 13 = .ok (.getfield 58, 3) := by decide +kernel
theorem dX12_gives_16 : decode (mB 224) 16 = .ok (.iload_n 1, 1) := by decide +kernel
theorem dX12_gives_17 : decode (mB 224) 17 = .ok (.iaload, 1) := by decide +kernel
theorem dX12_gives_18 : decode (mB 224) 18 = .ok (.iadd, 1) := by decide +kernel
theorem dX12_gives_19 : decode (mB 224) 19 = .ok (.if_icmp .ge 59, 3) := by decide +kernel
theorem dX12_gives_22 : decode (mB 224) 22 = .ok (.aload_n 0, 1) := by decide +kernel
theorem dX12_gives_23 : decode (mB 224) 23 = .ok (.getfield 61, 3) := by decide +kernel
theorem dX12_gives_26 : decode (mB 224) 26 = .ok (.iload_n 3, 1) := by decide +kernel
theorem dX12_gives_27 : decode (mB 224) 27 = .ok (.saload, 1) := by decide +kernel
theorem dX12_gives_28 : decode (mB 224) 28 = .ok (.iload_n 2, 1) := by decide +kernel
theorem dX12_gives_29 : decode (mB 224) 29 = .ok (.if_icmp .eq 18, 3) := by decide +kernel
theorem dX12_gives_32 : decode (mB 224) 32 = .ok (.aload_n 0, 1) := by decide +kernel
theorem dX12_gives_33 : decode (mB 224) 33 = .ok (.iload_n 1, 1) := by decide +kernel
theorem dX12_gives_34 : decode (mB 224) 34 = .ok (.iload_n 2, 1) := by decide +kernel
theorem dX12_gives_35 : decode (mB 224) 35 = .ok (.aload_n 0, 1) := by decide +kernel
theorem dX12_gives_36 : decode (mB 224) 36 = .ok (.getfield 61, 3) := by decide +kernel
theorem dX12_gives_39 : decode (mB 224) 39 = .ok (.iload_n 3, 1) := by decide +kernel
theorem dX12_gives_40 : decode (mB 224) 40 = .ok (.saload, 1) := by decide +kernel
theorem dX12_gives_41 : decode (mB 224) 41 = .ok (.invokevirtual 238, 3) := by decide +kernel
theorem dX12_gives_44 : decode (mB 224) 44 = .ok (.ifCond .eq 21, 3) := by decide +kernel
theorem dX12_gives_47 : decode (mB 224) 47 = .ok (.aload_n 0, 1) := by decide +kernel
theorem dX12_gives_48 : decode (mB 224) 48 = .ok (.iload_n 1, 1) := by decide +kernel
theorem dX12_gives_49 : decode (mB 224) 49 = .ok (.aload_n 0, 1) := by decide +kernel
theorem dX12_gives_50 : decode (mB 224) 50 = .ok (.getfield 61, 3) := by decide +kernel
theorem dX12_gives_53 : decode (mB 224) 53 = .ok (.iload_n 3, 1) := by decide +kernel
theorem dX12_gives_54 : decode (mB 224) 54 = .ok (.saload, 1) := by decide +kernel
theorem dX12_gives_55 : decode (mB 224) 55 = .ok (.aload_n 0, 1) := by decide +kernel
theorem dX12_gives_56 : decode (mB 224) 56 = .ok (.getfield 65, 3) := by decide +kernel
theorem dX12_gives_59 : decode (mB 224) 59 = .ok (.iload_n 3, 1) := by decide +kernel
theorem dX12_gives_60 : decode (mB 224) 60 = .ok (.saload, 1) := by decide +kernel
theorem dX12_gives_61 : decode (mB 224) 61 = .ok (.invokevirtual 238, 3) := by decide +kernel
theorem dX12_gives_64 : decode (mB 224) 64 = .ok (.ireturn, 1) := by decide +kernel
theorem dX12_gives_65 : decode (mB 224) 65 = .ok (.aload_n 0, 1) := by decide +kernel
theorem dX12_gives_66 : decode (mB 224) 66 = .ok (.getfield 65, 3) := by decide +kernel
theorem dX12_gives_69 : decode (mB 224) 69 = .ok (.iload_n 3, 1) := by decide +kernel
theorem dX12_gives_70 : decode (mB 224) 70 = .ok (.saload, 1) := by decide +kernel
theorem dX12_gives_71 : decode (mB 224) 71 = .ok (.istore_n 2, 1) := by decide +kernel
theorem dX12_gives_72 : decode (mB 224) 72 = .ok (.iinc 3 1, 3) := by decide +kernel
theorem dX12_gives_75 : decode (mB 224) 75 = .ok (.goto (-68), 3) := by decide +kernel
theorem dX12_gives_78 : decode (mB 224) 78 = .ok (.iconst 0, 1) := by decide +kernel
theorem dX12_gives_79 : decode (mB 224) 79 = .ok (.ireturn, 1) := by decide +kernel
theorem dX12_law_0 : decode (mB 225) 0 = .ok (.aload_n 0, 1) := by decide +kernel
theorem dX12_law_1 : decode (mB 225) 1 = .ok (.iconst 0, 1) := by decide +kernel
theorem dX12_law_2 : decode (mB 225) 2 = .ok (.invokevirtual 241, 3) := by decide +kernel
theorem dX12_law_5 : decode (mB 225) 5 = .ok (.istore_n 1, 1) := by decide +kernel
theorem dX12_law_6 : decode (mB 225) 6 = .ok (.iload_n 1, 1) := by decide +kernel
theorem dX12_law_7 : decode (mB 225) 7 = .ok (.ifCond .lt 8, 3) := by decide +kernel
theorem dX12_law_10 : decode (mB 225) 10 = .ok (.bipush (-100), 2) := by decide +kernel
theorem dX12_law_12 : decode (mB 225) 12 = .ok (.iload_n 1, 1) := by decide +kernel
theorem dX12_law_13 : decode (mB 225) 13 = .ok (.isub, 1) := by decide +kernel
theorem dX12_law_14 : decode (mB 225) 14 = .ok (.ireturn, 1) := by decide +kernel
theorem dX12_law_15 : decode (mB 225) 15 = .ok (.aload_n 0, 1) := by decide +kernel
theorem dX12_law_16 : decode (mB 225) 16 = .ok (.iconst 1, 1) := by decide +kernel
theorem dX12_law_17 : decode (mB 225) 17 = .ok (.putfield 244, 3) := by decide +kernel
theorem dX12_law_20 : decode (mB 225) 20 = .ok (.iconst 1, 1) := by decide +kernel
theorem dX12_law_21 : decode (mB 225) 21 = .ok (.ireturn, 1) := by decide +kernel
theorem dX12_layNow_0 : decode (mB 226) 0 = .ok (.iconst 0, 1) := by decide +kernel
theorem dX12_layNow_1 : decode (mB 226) 1 = .ok (.istore_n 1, 1) := by decide +kernel
theorem dX12_layNow_2 : decode (mB 226) 2 = .ok (.iload_n 1, 1) := by decide +kernel
theorem dX12_layNow_3 : decode (mB 226) 3 = .ok (.aload_n 0, 1) := by decide +kernel
theorem dX12_layNow_4 : decode (mB 226) 4 = .ok (.getfield 122, 3) := by decide +kernel
theorem dX12_layNow_7 : decode (mB 226) 7 = .ok (.if_icmp .ge 21, 3) := by decide +kernel
theorem dX12_layNow_10 : decode (mB 226) 10 = .ok (.aload_n 0, 1) := by decide +kernel
theorem dX12_layNow_11 : decode (mB 226) 11 = .ok (.getfield 74, 3) := by decide +kernel
theorem dX12_layNow_14 : decode (mB 226) 14 = .ok (.iload_n 1, 1) := by decide +kernel
theorem dX12_layNow_15 : decode (mB 226) 15 = .ok (.aload_n 0, 1) := by decide +kernel
theorem dX12_layNow_16 : decode (mB 226) 16 = .ok (.getfield 24, 3) := by decide +kernel
theorem dX12_layNow_19 : decode (mB 226) 19 = .ok (.iload_n 1, 1) := by decide +kernel
theorem dX12_layNow_20 : decode (mB 226) 20 = .ok (.iaload, 1) := by decide +kernel
theorem dX12_layNow_21 : decode (mB 226) 21 = .ok (.iastore, 1) := by decide +kernel
theorem dX12_layNow_22 : decode (mB 226) 22 = .ok (.iinc 1 1, 3) := by decide +kernel
theorem dX12_layNow_25 : decode (mB 226) 25 = .ok (.goto (-23), 3) := by decide +kernel
theorem dX12_layNow_28 : decode (mB 226) 28 = .ok (.aload_n 0, 1) := by decide +kernel
theorem dX12_layNow_29 : decode (mB 226) 29 = .ok (.aload_n 0, 1) := by decide +kernel
theorem dX12_layNow_30 : decode (mB 226) 30 = .ok (.getfield 33, 3) := by decide +kernel
theorem dX12_layNow_33 : decode (mB 226) 33 = .ok (.iconst 0, 1) := by decide +kernel
theorem dX12_layNow_34 : decode (mB 226) 34 = .ok (.iaload, 1) := by decide +kernel
theorem dX12_layNow_35 : decode (mB 226) 35 = .ok (.putfield 248, 3) := by decide +kernel
theorem dX12_layNow_38 : decode (mB 226) 38 = .ok (.return_, 1) := by decide +kernel
theorem dX12_manyOf_0 : decode (mB 227) 0 = .ok (.iconst 0, 1) := by decide +kernel
theorem dX12_manyOf_1 : decode (mB 227) 1 = .ok (.istore_n 2, 1) := by decide +kernel
theorem dX12_manyOf_2 : decode (mB 227) 2 = .ok (.iconst 0, 1) := by decide +kernel
theorem dX12_manyOf_3 : decode (mB 227) 3 = .ok (.istore_n 3, 1) := by decide +kernel
theorem dX12_manyOf_4 : decode (mB 227) 4 = .ok (.iload_n 3, 1) := by decide +kernel
theorem dX12_manyOf_5 : decode (mB 227) 5 = .ok (.aload_n 0, 1) := by decide +kernel
theorem dX12_manyOf_6 : decode (mB 227) 6 = .ok (.getfield 122, 3) := by decide +kernel
theorem dX12_manyOf_9 : decode (mB 227) 9 = .ok (.if_icmp .ge 22, 3) := by decide +kernel
theorem dX12_manyOf_12 : decode (mB 227) 12 = .ok (.aload_n 0, 1) := by decide +kernel
theorem dX12_manyOf_13 : decode (mB 227) 13 = .ok (.getfield 74, 3) := by decide +kernel
theorem dX12_manyOf_16 : decode (mB 227) 16 = .ok (.iload_n 3, 1) := by decide +kernel
theorem dX12_manyOf_17 : decode (mB 227) 17 = .ok (.iaload, 1) := by decide +kernel
theorem dX12_manyOf_18 : decode (mB 227) 18 = .ok (.iload_n 1, 1) := by decide +kernel
theorem dX12_manyOf_19 : decode (mB 227) 19 = .ok (.if_icmp .ne 6, 3) := by decide +kernel
theorem dX12_manyOf_22 : decode (mB 227) 22 = .ok (.iinc 2 1, 3) := by decide +kernel
theorem dX12_manyOf_25 : decode (mB 227) 25 = .ok (.iinc 3 1, 3) := by decide +kernel
theorem dX12_manyOf_28 : decode (mB 227) 28 = .ok (.goto (-24), 3) := by decide +kernel
theorem dX12_manyOf_31 : decode (mB 227) 31 = .ok (.iload_n 2, 1) := by decide +kernel
theorem dX12_manyOf_32 : decode (mB 227) 32 = .ok (.ireturn, 1) := by decide +kernel
theorem dX12_realOf_0 : decode (mB 228) 0 = .ok (.iconst 0, 1) := by decide +kernel
theorem dX12_realOf_1 : decode (mB 228) 1 = .ok (.istore_n 2, 1) := by decide +kernel
theorem dX12_realOf_2 : decode (mB 228) 2 = .ok (.iconst 0, 1) := by decide +kernel
theorem dX12_realOf_3 : decode (mB 228) 3 = .ok (.istore_n 3, 1) := by decide +kernel
theorem dX12_realOf_4 : decode (mB 228) 4 = .ok (.iload_n 3, 1) := by decide +kernel
theorem dX12_realOf_5 : decode (mB 228) 5 = .ok (.aload_n 0, 1) := by decide +kernel
theorem dX12_realOf_6 : decode (mB 228) 6 = .ok (.getfield 122, 3) := by decide +kernel
theorem dX12_realOf_9 : decode (mB 228) 9 = .ok (.if_icmp .ge 31, 3) := by decide +kernel
theorem dX12_realOf_12 : decode (mB 228) 12 = .ok (.aload_n 0, 1) := by decide +kernel
theorem dX12_realOf_13 : decode (mB 228) 13 = .ok (.getfield 74, 3) := by decide +kernel
theorem dX12_realOf_16 : decode (mB 228) 16 = .ok (.iload_n 3, 1) := by decide +kernel
theorem dX12_realOf_17 : decode (mB 228) 17 = .ok (.iaload, 1) := by decide +kernel
theorem dX12_realOf_18 : decode (mB 228) 18 = .ok (.iload_n 1, 1) := by decide +kernel
theorem dX12_realOf_19 : decode (mB 228) 19 = .ok (.if_icmp .ne 15, 3) := by decide +kernel
theorem dX12_realOf_22 : decode (mB 228) 22 = .ok (.aload_n 0, 1) := by decide +kernel
theorem dX12_realOf_23 : decode (mB 228) 23 = .ok (.getfield 27, 3) := by decide +kernel
theorem dX12_realOf_26 : decode (mB 228) 26 = .ok (.iload_n 3, 1) := by decide +kernel
theorem dX12_realOf_27 : decode (mB 228) 27 = .ok (.iaload, 1) := by decide +kernel
theorem dX12_realOf_28 : decode (mB 228) 28 = .ok (.ifCond .ne 6, 3) := by decide +kernel
theorem dX12_realOf_31 : decode (mB 228) 31 = .ok (.iinc 2 1, 3) := by decide +kernel
theorem dX12_realOf_34 : decode (mB 228) 34 = .ok (.iinc 3 1, 3) := by decide +kernel
theorem dX12_realOf_37 : decode (mB 228) 37 = .ok (.goto (-33), 3) := by decide +kernel
theorem dX12_realOf_40 : decode (mB 228) 40 = .ok (.iload_n 2, 1) := by decide +kernel
theorem dX12_realOf_41 : decode (mB 228) 41 = .ok (.ireturn, 1) := by decide +kernel
theorem dX12_allReal_0 : decode (mB 229) 0 = .ok (.iconst 0, 1) := by decide +kernel
theorem dX12_allReal_1 : decode (mB 229) 1 = .ok (.istore_n 1, 1) := by decide +kernel
theorem dX12_allReal_2 : decode (mB 229) 2 = .ok (.iconst 0, 1) := by decide +kernel
theorem dX12_allReal_3 : decode (mB 229) 3 = .ok (.istore_n 2, 1) := by decide +kernel
theorem dX12_allReal_4 : decode (mB 229) 4 = .ok (.iload_n 2, 1) := by decide +kernel
theorem dX12_allReal_5 : decode (mB 229) 5 = .ok (.aload_n 0, 1) := by decide +kernel
theorem dX12_allReal_6 : decode (mB 229) 6 = .ok (.getfield 122, 3) := by decide +kernel
theorem dX12_allReal_9 : decode (mB 229) 9 = .ok (.if_icmp .ge 21, 3) := by decide +kernel
theorem dX12_allReal_12 : decode (mB 229) 12 = .ok (.aload_n 0, 1) := by decide +kernel
theorem dX12_allReal_13 : decode (mB 229) 13 = .ok (.getfield 27, 3) := by decide +kernel
theorem dX12_allReal_16 : decode (mB 229) 16 = .ok (.iload_n 2, 1) := by decide +kernel
theorem dX12_allReal_17 : decode (mB 229) 17 = .ok (.iaload, 1) := by decide +kernel
theorem dX12_allReal_18 : decode (mB 229) 18 = .ok (.ifCond .ne 6, 3) := by decide +kernel
theorem dX12_allReal_21 : decode (mB 229) 21 = .ok (.iinc 1 1, 3) := by decide +kernel
theorem dX12_allReal_24 : decode (mB 229) 24 = .ok (.iinc 2 1, 3) := by decide +kernel
theorem dX12_allReal_27 : decode (mB 229) 27 = .ok (.goto (-23), 3) := by decide +kernel
theorem dX12_allReal_30 : decode (mB 229) 30 = .ok (.iload_n 1, 1) := by decide +kernel
theorem dX12_allReal_31 : decode (mB 229) 31 = .ok (.ireturn, 1) := by decide +kernel
theorem dX12_maySlip_0 : decode (mB 230) 0 = .ok (.aload_n 0, 1) := by decide +kernel
theorem dX12_maySlip_1 : decode (mB 230) 1 = .ok (.getfield 30, 3) := by decide +kernel
theorem dX12_maySlip_4 : decode (mB 230) 4 = .ok (.iload_n 1, 1) := by decide +kernel
theorem dX12_maySlip_5 : decode (mB 230) 5 = .ok (.iaload, 1) := by decide +kernel
theorem dX12_maySlip_6 : decode (mB 230) 6 = .ok (.iconst 4, 1) := by decide +kernel
theorem dX12_maySlip_7 : decode (mB 230) 7 = .ok (.if_icmp .eq 26, 3) := by decide +kernel
theorem dX12_maySlip_10 : decode (mB 230) 10 = .ok (.aload_n 0, 1) := by decide +kernel
theorem dX12_maySlip_11 : decode (mB 230) 11 = .ok (.getfield 74, 3) := by decide +kernel
theorem dX12_maySlip_14 : decode (mB 230) 14 = .ok (.iload_n 1, 1) := by decide +kernel
theorem dX12_maySlip_15 : decode (mB 230) 15 = .ok (.iaload, 1) := by decide +kernel
theorem dX12_maySlip_16 : decode (mB 230) 16 = .ok (.iload_n 2, 1) := by decide +kernel
theorem dX12_maySlip_17 : decode (mB 230) 17 = .ok (.if_icmp .eq 16, 3) := by decide +kernel
theorem dX12_maySlip_20 : decode (mB 230) 20 = .ok (.aload_n 0, 1) := by decide +kernel
theorem dX12_maySlip_21 : decode (mB 230) 21 = .ok (.getfield 15, 3) := by decide +kernel
theorem dX12_maySlip_24 : decode (mB 230) 24 = .ok (.iload_n 2, 1) := by decide +kernel
theorem dX12_maySlip_25 : decode (mB 230) 25 = .ok (.iaload, 1) := by decide +kernel
theorem dX12_maySlip_26 : decode (mB 230) 26 = .ok (.ifCond .ne 7, 3) := by decide +kernel
theorem dX12_maySlip_29 : decode (mB 230) 29 = .ok (.iconst 1, 1) := by decide +kernel
theorem dX12_maySlip_30 : decode (mB 230) 30 = .ok (.goto 4, 3) := by decide +kernel
theorem dX12_maySlip_33 : decode (mB 230) 33 = .ok (.iconst 0, 1) := by decide +kernel
theorem dX12_maySlip_34 : decode (mB 230) 34 = .ok (.ireturn, 1) := by decide +kernel
theorem dX12_oddsOf_0 : decode (mB 231) 0 = .ok (.aload_n 0, 1) := by decide +kernel
theorem dX12_oddsOf_1 : decode (mB 231) 1 = .ok (.iload_n 1, 1) := by decide +kernel
theorem dX12_oddsOf_2 : decode (mB 231) 2 = .ok (.iload_n 2, 1) := by decide +kernel
theorem dX12_oddsOf_3 : decode (mB 231) 3 = .ok (.invokevirtual 251, 3) := by decide +kernel
theorem dX12_oddsOf_6 : decode (mB 231) 6 = .ok (.ifCond .ne 5, 3) := by decide +kernel
theorem dX12_oddsOf_9 : decode (mB 231) 9 = .ok (.iconst 0, 1) := by decide +kernel
theorem dX12_oddsOf_10 : decode (mB 231) 10 = .ok (.ireturn, 1) := by decide +kernel
theorem dX12_oddsOf_11 : decode (mB 231) 11 = .ok (.bipush 12, 2) := by decide +kernel
theorem dX12_oddsOf_13 : decode (mB 231) 13 = .ok (.aload_n 0, 1) := by decide +kernel
theorem dX12_oddsOf_14 : decode (mB 231) 14 = .ok (.getfield 9, 3) := by decide +kernel
theorem dX12_oddsOf_17 : decode (mB 231) 17 = .ok (.iload_n 2, 1) := by decide +kernel
theorem dX12_oddsOf_18 : decode (mB 231) 18 = .ok (.iaload, 1) := by decide +kernel
theorem dX12_oddsOf_19 : decode (mB 231) 19 = .ok (.isub, 1) := by decide +kernel
theorem dX12_oddsOf_20 : decode (mB 231) 20 = .ok (.aload_n 0, 1) := by decide +kernel
theorem dX12_oddsOf_21 : decode (mB 231) 21 = .ok (.getfield 33, 3) := by decide +kernel
theorem dX12_oddsOf_24 : decode (mB 231) 24 = .ok (.iconst 1, 1) := by decide +kernel
theorem dX12_oddsOf_25 : decode (mB 231) 25 = .ok (.iaload, 1) := by decide +kernel
theorem dX12_oddsOf_26 : decode (mB 231) 26 = .ok (.isub, 1) := by decide +kernel
theorem dX12_oddsOf_27 : decode (mB 231) 27 = .ok (.istore_n 3, 1) := by decide +kernel
theorem dX12_oddsOf_28 : decode (mB 231) 28 = .ok (.aload_n 0, 1) := by decide +kernel
theorem dX12_oddsOf_29 : decode (mB 231) 29 = .ok (.getfield 244, 3) := by decide +kernel
theorem dX12_oddsOf_32 : decode (mB 231) 32 = .ok (.ifCond .eq 83, 3) := by decide +kernel
theorem dX12_oddsOf_35 : decode (mB 231) 35 = .ok (.aload_n 0, 1) := by decide +kernel
theorem dX12_oddsOf_36 : decode (mB 231) 36 = .ok (.getfield 68, 3) := by decide +kernel
theorem dX12_oddsOf_39 : decode (mB 231) 39 = .ok (.iconst 0, 1) := by decide +kernel
theorem dX12_oddsOf_40 : decode (mB 231) 40 = .ok (.aload_n 0, 1) := by decide +kernel
theorem dX12_oddsOf_41 : decode (mB 231) 41 = .ok (.getfield 9, 3) := by decide +kernel
theorem dX12_oddsOf_44 : decode (mB 231) 44 = .ok (.iload_n 2, 1) := by decide +kernel
theorem dX12_oddsOf_45 : decode (mB 231) 45 = .ok (.iaload, 1) := by decide +kernel
theorem dX12_oddsOf_46 : decode (mB 231) 46 = .ok (.iastore, 1) := by decide +kernel
theorem dX12_oddsOf_47 : decode (mB 231) 47 = .ok (.aload_n 0, 1) := by decide +kernel
theorem dX12_oddsOf_48 : decode (mB 231) 48 = .ok (.getfield 68, 3) := by decide +kernel
theorem dX12_oddsOf_51 : decode (mB 231) 51 = .ok (.iconst 1, 1) := by decide +kernel
theorem dX12_oddsOf_52 : decode (mB 231) 52 = .ok (.aload_n 0, 1) := by decide +kernel
theorem dX12_oddsOf_53 : decode (mB 231) 53 = .ok (.getfield 9, 3) := by decide +kernel
theorem dX12_oddsOf_56 : decode (mB 231) 56 = .ok (.aload_n 0, 1) := by decide +kernel
theorem dX12_oddsOf_57 : decode (mB 231) 57 = .ok (.getfield 74, 3) := by decide +kernel
theorem dX12_oddsOf_60 : decode (mB 231) 60 = .ok (.iload_n 1, 1) := by decide +kernel
theorem dX12_oddsOf_61 : decode (mB 231) 61 = .ok (.iaload, 1) := by decide +kernel
theorem dX12_oddsOf_62 : decode (mB 231) 62 = .ok (.iaload, 1) := by decide +kernel
theorem dX12_oddsOf_63 : decode (mB 231) 63 = .ok (.iastore, 1) := by decide +kernel
theorem dX12_oddsOf_64 : decode (mB 231) 64 = .ok (.aload_n 0, 1) := by decide +kernel
theorem dX12_oddsOf_65 : decode (mB 231) 65 = .ok (.getfield 68, 3) := by decide +kernel
theorem dX12_oddsOf_68 : decode (mB 231) 68 = .ok (.iconst 2, 1) := by decide +kernel
theorem dX12_oddsOf_69 : decode (mB 231) 69 = .ok (.aload_n 0, 1) := by decide +kernel
theorem dX12_oddsOf_70 : decode (mB 231) 70 = .ok (.iload_n 2, 1) := by decide +kernel
theorem dX12_oddsOf_71 : decode (mB 231) 71 = .ok (.invokevirtual 171, 3) := by decide +kernel
theorem dX12_oddsOf_74 : decode (mB 231) 74 = .ok (.iastore, 1) := by decide +kernel
theorem dX12_oddsOf_75 : decode (mB 231) 75 = .ok (.aload_n 0, 1) := by decide +kernel
theorem dX12_oddsOf_76 : decode (mB 231) 76 = .ok (.getfield 68, 3) := by decide +kernel
theorem dX12_oddsOf_79 : decode (mB 231) 79 = .ok (.iconst 3, 1) := by decide +kernel
theorem dX12_oddsOf_80 : decode (mB 231) 80 = .ok (.aload_n 0, 1) := by decide +kernel
theorem dX12_oddsOf_81 : decode (mB 231) 81 = .ok (.getfield 30, 3) := by decide +kernel
theorem dX12_oddsOf_84 : decode (mB 231) 84 = .ok (.iload_n 1, 1) := by decide +kernel
theorem dX12_oddsOf_85 : decode (mB 231) 85 = .ok (.iaload, 1) := by decide +kernel
theorem dX12_oddsOf_86 : decode (mB 231) 86 = .ok (.iastore, 1) := by decide +kernel
theorem dX12_oddsOf_87 : decode (mB 231) 87 = .ok (.aload_n 0, 1) := by decide +kernel
theorem dX12_oddsOf_88 : decode (mB 231) 88 = .ok (.getfield 68, 3) := by decide +kernel
theorem dX12_oddsOf_91 : decode (mB 231) 91 = .ok (.iconst 4, 1) := by decide +kernel
theorem dX12_oddsOf_92 : decode (mB 231) 92 = .ok (.aload_n 0, 1) := by decide +kernel
theorem dX12_oddsOf_93 : decode (mB 231) 93 = .ok (.getfield 248, 3) := by decide +kernel
theorem dX12_oddsOf_96 : decode (mB 231) 96 = .ok (.iastore, 1) := by decide +kernel
theorem dX12_oddsOf_97 : decode (mB 231) 97 = .ok (.aload_n 0, 1) := by decide +kernel
theorem dX12_oddsOf_98 : decode (mB 231) 98 = .ok (.getfield 68, 3) := by decide +kernel
theorem dX12_oddsOf_101 : decode (mB 231) 101 = .ok (.iconst 5, 1) := by decide +kernel
theorem dX12_oddsOf_102 : decode (mB 231) 102 = .ok (.aload_n 0, 1) := by decide +kernel
theorem dX12_oddsOf_103 : decode (mB 231) 103 = .ok (.getfield 33, 3) := by decide +kernel
theorem dX12_oddsOf_106 : decode (mB 231) 106 = .ok (.iconst 1, 1) := by decide +kernel
theorem dX12_oddsOf_107 : decode (mB 231) 107 = .ok (.iaload, 1) := by decide +kernel
theorem dX12_oddsOf_108 : decode (mB 231) 108 = .ok (.iastore, 1) := by decide +kernel
theorem dX12_oddsOf_109 : decode (mB 231) 109 = .ok (.aload_n 0, 1) := by decide +kernel
theorem dX12_oddsOf_110 : decode (mB 231) 110 = .ok (.iconst 0, 1) := by decide +kernel
theorem dX12_oddsOf_111 : decode (mB 231) 111 = .ok (.invokevirtual 254, 3) := by decide +kernel
theorem dX12_oddsOf_114 : decode (mB 231) 114 = .ok (.istore_n 3, 1) := by decide +kernel
theorem dX12_oddsOf_115 : decode (mB 231) 115 = .ok (.iload_n 3, 1) := by decide +kernel
theorem dX12_oddsOf_116 : decode (mB 231) 116 = .ok (.ifCond .ge 7, 3) := by decide +kernel
theorem dX12_oddsOf_119 : decode (mB 231) 119 = .ok (.iconst 0, 1) := by decide +kernel
theorem dX12_oddsOf_120 : decode (mB 231) 120 = .ok (.goto 15, 3) := by decide +kernel
theorem dX12_oddsOf_123 : decode (mB 231) 123 = .ok (.iload_n 3, 1) := by decide +kernel
theorem dX12_oddsOf_124 : decode (mB 231) 124 = .ok (.bipush 12, 2) := by decide +kernel
theorem dX12_oddsOf_126 : decode (mB 231) 126 = .ok (.if_icmp .le 8, 3) := by decide +kernel
theorem dX12_oddsOf_129 : decode (mB 231) 129 = .ok (.bipush 12, 2) := by decide +kernel
theorem dX12_oddsOf_131 : decode (mB 231) 131 = .ok (.goto 4, 3) := by decide +kernel
theorem dX12_oddsOf_134 : decode (mB 231) 134 = .ok (.iload_n 3, 1) := by decide +kernel
theorem dX12_oddsOf_135 : decode (mB 231) 135 = .ok (.ireturn, 1) := by decide +kernel
theorem dX12_areSlip_0 : decode (mB 232) 0 = .ok (.iload_n 1, 1) := by decide +kernel
theorem dX12_areSlip_1 : decode (mB 232) 1 = .ok (.ifCond .lt 29, 3) := by decide +kernel
theorem dX12_areSlip_4 : decode (mB 232) 4 = .ok (.aload_n 0, 1) := by decide +kernel
theorem dX12_areSlip_5 : decode (mB 232) 5 = .ok (.iload_n 1, 1) := by decide +kernel
theorem dX12_areSlip_6 : decode (mB 232) 6 = .ok (.bipush 8, 2) := by decide +kernel
theorem dX12_areSlip_8 : decode (mB 232) 8 = .ok (.idiv, 1) := by decide +kernel
theorem dX12_areSlip_9 : decode (mB 232) 9 = .ok (.invokevirtual 156, 3) := by decide +kernel
theorem dX12_areSlip_12 : decode (mB 232) 12 = .ok (.ifCond .eq 18, 3) := by decide +kernel
theorem dX12_areSlip_15 : decode (mB 232) 15 = .ok (.aload_n 0, 1) := by decide +kernel
theorem dX12_areSlip_16 : decode (mB 232) 16 = .ok (.iload_n 1, 1) := by decide +kernel
theorem dX12_areSlip_17 : decode (mB 232) 17 = .ok (.bipush 8, 2) := by decide +kernel
theorem dX12_areSlip_19 : decode (mB 232) 19 = .ok (.irem, 1) := by decide +kernel
theorem dX12_areSlip_20 : decode (mB 232) 20 = .ok (.invokevirtual 125, 3) := by decide +kernel
theorem dX12_areSlip_23 : decode (mB 232) 23 = .ok (.ifCond .eq 7, 3) := by decide +kernel
theorem dX12_areSlip_26 : decode (mB 232) 26 = .ok (.iconst 1, 1) := by decide +kernel
theorem dX12_areSlip_27 : decode (mB 232) 27 = .ok (.goto 4, 3) := by decide +kernel
theorem dX12_areSlip_30 : decode (mB 232) 30 = .ok (.iconst 0, 1) := by decide +kernel
theorem dX12_areSlip_31 : decode (mB 232) 31 = .ok (.ireturn, 1) := by decide +kernel
theorem dX12_odds_0 : decode (mB 233) 0 = .ok (.aload_n 0, 1) := by decide +kernel
theorem dX12_odds_1 : decode (mB 233) 1 = .ok (.iload_n 1, 1) := by decide +kernel
theorem dX12_odds_2 : decode (mB 233) 2 = .ok (.invokevirtual 257, 3) := by decide +kernel
theorem dX12_odds_5 : decode (mB 233) 5 = .ok (.ifCond .ne 5, 3) := by decide +kernel
theorem dX12_odds_8 : decode (mB 233) 8 = .ok (.iconst (-1), 1) := by decide +kernel
theorem dX12_odds_9 : decode (mB 233) 9 = .ok (.ireturn, 1) := by decide +kernel
theorem dX12_odds_10 : decode (mB 233) 10 = .ok (.aload_n 0, 1) := by decide +kernel
theorem dX12_odds_11 : decode (mB 233) 11 = .ok (.invokevirtual 168, 3) := by decide +kernel
theorem dX12_odds_14 : decode (mB 233) 14 = .ok (.aload_n 0, 1) := by decide +kernel
theorem dX12_odds_15 : decode (mB 233) 15 = .ok (.iload_n 1, 1) := by decide +kernel
theorem dX12_odds_16 : decode (mB 233) 16 = .ok (.bipush 8, 2) := by decide +kernel
theorem dX12_odds_18 : decode (mB 233) 18 = .ok (.idiv, 1) := by decide +kernel
theorem dX12_odds_19 : decode (mB 233) 19 = .ok (.iload_n 1, 1) := by decide +kernel
theorem dX12_odds_20 : decode (mB 233) 20 = .ok (.bipush 8, 2) := by decide +kernel
theorem dX12_odds_22 : decode (mB 233) 22 = .ok (.irem, 1) := by decide +kernel
theorem dX12_odds_23 : decode (mB 233) 23 = .ok (.invokevirtual 260, 3) := by decide +kernel
theorem dX12_odds_26 : decode (mB 233) 26 = .ok (.ireturn, 1) := by decide +kernel
theorem dX12_rowFault_0 : decode (mB 234) 0 = .ok (.aload_n 0, 1) := by decide +kernel
theorem dX12_rowFault_1 : decode (mB 234) 1 = .ok (.getfield 98, 3) := by decide +kernel
theorem dX12_rowFault_4 : decode (mB 234) 4 = .ok (.iload_n 1, 1) := by decide +kernel
theorem dX12_rowFault_5 : decode (mB 234) 5 = .ok (.iaload, 1) := by decide +kernel
theorem dX12_rowFault_6 : decode (mB 234) 6 = .ok (.iconst (-1), 1) := by decide +kernel
theorem dX12_rowFault_7 : decode (mB 234) 7 = .ok (.if_icmp .ne 8, 3) := by decide +kernel
theorem dX12_rowFault_10 : decode (mB 234) 10 = .ok (.bipush (-11), 2) := by decide +kernel
theorem dX12_rowFault_12 : decode (mB 234) 12 = .ok (.goto 20, 3) := by decide +kernel
theorem dX12_rowFault_15 : decode (mB 234) 15 = .ok (.aload_n 0, 1) := by decide +kernel
theorem dX12_rowFault_16 : decode (mB 234) 16 = .ok (.getfield 98, 3) := by decide +kernel
theorem dX12_rowFault_19 : decode (mB 234) 19 = .ok (.iload_n 1, 1) := by decide +kernel
theorem dX12_rowFault_20 : decode (mB 234) 20 = .ok (.iaload, 1) := by decide +kernel
theorem dX12_rowFault_21 : decode (mB 234) 21 = .ok (.bipush (-2), 2) := by decide +kernel
theorem dX12_rowFault_23 : decode (mB 234) 23 = .ok (.if_icmp .ne 7, 3) := by decide +kernel
theorem dX12_rowFault_26 : decode (mB 234) 26 = .ok (.iconst 0, 1) := by decide +kernel
theorem dX12_rowFault_27 : decode (mB 234) 27 = .ok (.goto 5, 3) := by decide +kernel
theorem dX12_rowFault_30 : decode (mB 234) 30 = .ok (.bipush (-12), 2) := by decide +kernel
theorem dX12_rowFault_32 : decode (mB 234) 32 = .ok (.ireturn, 1) := by decide +kernel
theorem dX12_at_0 : decode (mB 235) 0 = .ok (.aload_n 0, 1) := by decide +kernel
theorem dX12_at_1 : decode (mB 235) 1 = .ok (.getfield 104, 3) := by decide +kernel
theorem dX12_at_4 : decode (mB 235) 4 = .ok (.bipush 60, 2) := by decide +kernel
theorem dX12_at_6 : decode (mB 235) 6 = .ok (.iload_n 1, 1) := by decide +kernel
theorem dX12_at_7 : decode (mB 235) 7 = .ok (.imul, 1) := by decide +kernel
theorem dX12_at_8 : decode (mB 235) 8 = .ok (.iload_n 2, 1) := by decide +kernel
theorem dX12_at_9 : decode (mB 235) 9 = .ok (.iadd, 1) := by decide +kernel
theorem dX12_at_10 : decode (mB 235) 10 = .ok (.laload, 1) := by decide +kernel
theorem dX12_at_11 : decode (mB 235) 11 = .ok (.l2i, 1) := by decide +kernel
theorem dX12_at_12 : decode (mB 235) 12 = .ok (.ireturn, 1) := by decide +kernel
theorem dX12_longOf_0 : decode (mB 236) 0 = .ok (.iconst 0, 1) := by decide +kernel
theorem dX12_longOf_1 : decode (mB 236) 1 = .ok (.istore_n 3, 1) := by decide +kernel
theorem dX12_longOf_2 : decode (mB 236) 2 = .ok (.iload_n 3, 1) := by decide +kernel
theorem dX12_longOf_3 : decode (mB 236) 3 = .ok (.iload_n 2, 1) := by decide +kernel
theorem dX12_longOf_4 : decode (mB 236) 4 = .ok (.if_icmp .ge 32, 3) := by decide +kernel
theorem dX12_longOf_7 : decode (mB 236) 7 = .ok (.iload_n 3, 1) := by decide +kernel
theorem dX12_longOf_8 : decode (mB 236) 8 = .ok (.aload_n 0, 1) := by decide +kernel
theorem dX12_longOf_9 : decode (mB 236) 9 = .ok (.getfield 101, 3) := by decide +kernel
theorem dX12_longOf_12 : decode (mB 236) 12 = .ok (.iload_n 1, 1) := by decide +kernel
theorem dX12_longOf_13 : decode (mB 236) 13 = .ok (.iaload, 1) := by decide +kernel
theorem dX12_longOf_14 : decode (mB 236) 14 = .ok (.if_icmp .ge 22, 3) := by decide +kernel
theorem dX12_longOf_17 : decode (mB 236) 17 = .ok (.aload_n 0, 1) := by decide +kernel
theorem dX12_longOf_18 : decode (mB 236) 18 = .ok (.aload_n 0, 1) := by decide +kernel
theorem dX12_longOf_19 : decode (mB 236) 19 = .ok (.iload_n 1, 1) := by decide +kernel
theorem dX12_longOf_20 : decode (mB 236) 20 = .ok (.iload_n 3, 1) := by decide +kernel
theorem dX12_longOf_21 : decode (mB 236) 21 = .ok (.invokevirtual 263, 3) := by decide +kernel
theorem dX12_longOf_24 : decode (mB 236) 24 = .ok (.invokevirtual 257, 3) := by decide +kernel
theorem dX12_longOf_27 : decode (mB 236) 27 = .ok (.ifCond .eq 9, 3) := by decide +kernel
theorem dX12_longOf_30 : decode (mB 236) 30 = .ok (.iinc 3 1, 3) := by decide +kernel
theorem dX12_longOf_33 : decode (mB 236) 33 = .ok (.goto (-31), 3) := by decide +kernel
theorem dX12_longOf_36 : decode (mB 236) 36 = .ok (.iload_n 3, 1) := by decide +kernel
theorem dX12_longOf_37 : decode (mB 236) 37 = .ok (.ireturn, 1) := by decide +kernel
theorem dX12_goEve_0 : decode (mB 237) 0 = .ok (.aload_n 0, 1) := by decide +kernel
theorem dX12_goEve_1 : decode (mB 237) 1 = .ok (.invokevirtual 168, 3) := by decide +kernel
theorem dX12_goEve_4 : decode (mB 237) 4 = .ok (.aload_n 0, 1) := by decide +kernel
theorem dX12_goEve_5 : decode (mB 237) 5 = .ok (.iconst 0, 1) := by decide +kernel
theorem dX12_goEve_6 : decode (mB 237) 6 = .ok (.putfield 266, 3) := by decide +kernel
theorem dX12_goEve_9 : decode (mB 237) 9 = .ok (.aload_n 0, 1) := by decide +kernel
theorem dX12_goEve_10 : decode (mB 237) 10 = .ok (.iconst 0, 1) := by decide +kernel
theorem dX12_goEve_11 : decode (mB 237) 11 = .ok (.putfield 269, 3) := by decide +kernel
theorem dX12_goEve_14 : decode (mB 237) 14 = .ok (.aload_n 0, 1) := by decide +kernel
theorem dX12_goEve_15 : decode (mB 237) 15 = .ok (.iload_n 1, 1) := by decide +kernel
theorem dX12_goEve_16 : decode (mB 237) 16 = .ok (.iload_n 2, 1) := by decide +kernel
theorem dX12_goEve_17 : decode (mB 237) 17 = .ok (.invokevirtual 272, 3) := by decide +kernel
theorem dX12_goEve_20 : decode (mB 237) 20 = .ok (.istore_n 3, 1) := by decide +kernel
theorem dX12_goEve_21 : decode (mB 237) 21 = .ok (.iconst 0, 1) := by decide +kernel
theorem dX12_goEve_22 : decode (mB 237) 22 = .ok (.istore 4, 2) := by decide +kernel
theorem dX12_goEve_24 : decode (mB 237) 24 = .ok (.iload 4, 2) := by decide +kernel
theorem dX12_goEve_26 : decode (mB 237) 26 = .ok (.iload_n 3, 1) := by decide +kernel
theorem dX12_goEve_27 : decode (mB 237) 27 = .ok (.if_icmp .ge 92, 3) := by decide +kernel
theorem dX12_goEve_30 : decode (mB 237) 30 = .ok (.aload_n 0, 1) := by decide +kernel
theorem dX12_goEve_31 : decode (mB 237) 31 = .ok (.iload_n 1, 1) := by decide +kernel
theorem dX12_goEve_32 : decode (mB 237) 32 = .ok (.iload 4, 2) := by decide +kernel
theorem dX12_goEve_34 : decode (mB 237) 34 = .ok (.invokevirtual 263, 3) := by decide +kernel
theorem dX12_goEve_37 : decode (mB 237) 37 = .ok (.bipush 8, 2) := by decide +kernel
theorem dX12_goEve_39 : decode (mB 237) 39 = .ok (.idiv, 1) := by decide +kernel
theorem dX12_goEve_40 : decode (mB 237) 40 = .ok (.istore 5, 2) := by decide +kernel
theorem dX12_goEve_42 : decode (mB 237) 42 = .ok (.aload_n 0, 1) := by decide +kernel
theorem dX12_goEve_43 : decode (mB 237) 43 = .ok (.iload_n 1, 1) := by decide +kernel
theorem dX12_goEve_44 : decode (mB 237) 44 = .ok (.iload 4, 2) := by decide +kernel
theorem dX12_goEve_46 : decode (mB 237) 46 = .ok (.invokevirtual 263, 3) := by decide +kernel
theorem dX12_goEve_49 : decode (mB 237) 49 = .ok (.bipush 8, 2) := by decide +kernel
theorem dX12_goEve_51 : decode (mB 237) 51 = .ok (.irem, 1) := by decide +kernel
theorem dX12_goEve_52 : decode (mB 237) 52 = .ok (.istore 6, 2) := by decide +kernel
theorem dX12_goEve_54 : decode (mB 237) 54 = .ok (.aload_n 0, 1) := by decide +kernel
theorem dX12_goEve_55 : decode (mB 237) 55 = .ok (.iload 5, 2) := by decide +kernel
theorem dX12_goEve_57 : decode (mB 237) 57 = .ok (.iload 6, 2) := by decide +kernel
theorem dX12_goEve_59 : decode (mB 237) 59 = .ok (.invokevirtual 251, 3) := by decide +kernel
theorem dX12_goEve_62 : decode (mB 237) 62 = .ok (.ifCond .ne 19, 3) := by decide +kernel
theorem dX12_goEve_65 : decode (mB 237) 65 = .ok (.aload_n 0, 1) := by decide +kernel
theorem dX12_goEve_66 : decode (mB 237) 66 = .ok (.dup, 1) := by decide +kernel
theorem dX12_goEve_67 : decode (mB 237) 67 = .ok (.getfield 269, 3) := by decide +kernel
theorem dX12_goEve_70 : decode (mB 237) 70 = .ok (.iconst 1, 1) := by decide +kernel
theorem dX12_goEve_71 : decode (mB 237) 71 = .ok (.iload 4, 2) := by decide +kernel
theorem dX12_goEve_73 : decode (mB 237) 73 = .ok (.ishl, 1) := by decide +kernel
theorem dX12_goEve_74 : decode (mB 237) 74 = .ok (.ior, 1) := by decide +kernel
theorem dX12_goEve_75 : decode (mB 237) 75 = .ok (.putfield 269, 3) := by decide +kernel
theorem dX12_goEve_78 : decode (mB 237) 78 = .ok (.goto 35, 3) := by decide +kernel
theorem dX12_goEve_81 : decode (mB 237) 81 = .ok (.aload_n 0, 1) := by decide +kernel
theorem dX12_goEve_82 : decode (mB 237) 82 = .ok (.iload 5, 2) := by decide +kernel
theorem dX12_goEve_84 : decode (mB 237) 84 = .ok (.iload 6, 2) := by decide +kernel
theorem dX12_goEve_86 : decode (mB 237) 86 = .ok (.invokevirtual 260, 3) := by decide +kernel
theorem dX12_goEve_89 : decode (mB 237) 89 = .ok (.bipush 6, 2) := by decide +kernel
theorem dX12_goEve_91 : decode (mB 237) 91 = .ok (.if_icmp .lt 22, 3) := by decide +kernel
theorem dX12_goEve_94 : decode (mB 237) 94 = .ok (.aload_n 0, 1) := by decide +kernel
theorem dX12_goEve_95 : decode (mB 237) 95 = .ok (.getfield 74, 3) := by decide +kernel
theorem dX12_goEve_98 : decode (mB 237) 98 = .ok (.iload 5, 2) := by decide +kernel
theorem dX12_goEve_100 : decode (mB 237) 100 = .ok (.iload 6, 2) := by decide +kernel
theorem dX12_goEve_102 : decode (mB 237) 102 = .ok (.iastore, 1) := by decide +kernel
theorem dX12_goEve_103 : decode (mB 237) 103 = .ok (.aload_n 0, 1) := by decide +kernel
theorem dX12_goEve_104 : decode (mB 237) 104 = .ok (.dup, 1) := by decide +kernel
theorem dX12_goEve_105 : decode (mB 237) 105 = .ok (.getfield 266, 3) := by decide +kernel
theorem dX12_goEve_108 : decode (mB 237) 108 = .ok (.iconst 1, 1) := by decide +kernel
theorem dX12_goEve_109 : decode (mB 237) 109 = .ok (.iadd, 1) := by decide +kernel
theorem dX12_goEve_110 : decode (mB 237) 110 = .ok (.putfield 266, 3) := by decide +kernel
theorem dX12_goEve_113 : decode (mB 237) 113 = .ok (.iinc 4 1, 3) := by decide +kernel
theorem dX12_goEve_116 : decode (mB 237) 116 = .ok (.goto (-92), 3) := by decide +kernel
theorem dX12_goEve_119 : decode (mB 237) 119 = .ok (.return_, 1) := by decide +kernel
theorem dX12_areMany_0 : decode (mB 238) 0 = .ok (.iload_n 0, 1) := by decide +kernel
theorem dX12_areMany_1 : decode (mB 238) 1 = .ok (.iconst 0, 1) := by decide +kernel
theorem dX12_areMany_2 : decode (mB 238) 2 = .ok (.bipush 12, 2) := by decide +kernel
theorem dX12_areMany_4 : decode (mB 238) 4 = .ok (.invokestatic 118, 3) := by decide +kernel
theorem dX12_areMany_7 : decode (mB 238) 7 = .ok (.ireturn, 1) := by decide +kernel
theorem dX12_later_0 : decode (mB 239) 0 = .ok (.iload_n 1, 1) := by decide +kernel
theorem dX12_later_1 : decode (mB 239) 1 = .ok (.invokestatic 137, 3) := by decide +kernel
theorem dX12_later_4 : decode (mB 239) 4 = .ok (.ifCond .eq 18, 3) := by decide +kernel
theorem dX12_later_7 : decode (mB 239) 7 = .ok (.iload_n 2, 1) := by decide +kernel
theorem dX12_later_8 : decode (mB 239) 8 = .ok (.invokestatic 275, 3) := by decide +kernel
theorem dX12_later_11 : decode (mB 239) 11 = .ok (.ifCond .eq 11, 3) := by decide +kernel
theorem dX12_later_14 : decode (mB 239) 14 = .ok (.aload_n 0, 1) := by decide +kernel
theorem dX12_later_15 : decode (mB 239) 15 = .ok (.iload_n 3, 1) := by decide +kernel
theorem dX12_later_16 : decode (mB 239) 16 = .ok (.invokevirtual 156, 3) := by decide +kernel
theorem dX12_later_19 : decode (mB 239) 19 = .ok (.ifCond .ne 5, 3) := by decide +kernel
theorem dX12_later_22 : decode (mB 239) 22 = .ok (.iconst (-1), 1) := by decide +kernel
theorem dX12_later_23 : decode (mB 239) 23 = .ok (.ireturn, 1) := by decide +kernel
theorem dX12_later_24 : decode (mB 239) 24 = .ok (.aload_n 0, 1) := by decide +kernel
theorem dX12_later_25 : decode (mB 239) 25 = .ok (.iload_n 1, 1) := by decide +kernel
theorem dX12_later_26 : decode (mB 239) 26 = .ok (.invokevirtual 278, 3) := by decide +kernel
theorem dX12_later_29 : decode (mB 239) 29 = .ok (.ifCond .ge 9, 3) := by decide +kernel
theorem dX12_later_32 : decode (mB 239) 32 = .ok (.aload_n 0, 1) := by decide +kernel
theorem dX12_later_33 : decode (mB 239) 33 = .ok (.iload_n 1, 1) := by decide +kernel
theorem dX12_later_34 : decode (mB 239) 34 = .ok (.invokevirtual 278, 3) := by decide +kernel
theorem dX12_later_37 : decode (mB 239) 37 = .ok (.ireturn, 1) := by decide +kernel
theorem dX12_later_38 : decode (mB 239) 38 = .ok (.aload_n 0, 1) := by decide +kernel
theorem dX12_later_39 : decode (mB 239) 39 = .ok (.iload_n 1, 1) := by decide +kernel
theorem dX12_later_40 : decode (mB 239) 40 = .ok (.iload_n 2, 1) := by decide +kernel
theorem dX12_later_41 : decode (mB 239) 41 = .ok (.invokevirtual 281, 3) := by decide +kernel
theorem dX12_later_44 : decode (mB 239) 44 = .ok (.aload_n 0, 1) := by decide +kernel
theorem dX12_later_45 : decode (mB 239) 45 = .ok (.getfield 74, 3) := by decide +kernel
theorem dX12_later_48 : decode (mB 239) 48 = .ok (.iload_n 3, 1) := by decide +kernel
theorem dX12_later_49 : decode (mB 239) 49 = .ok (.iaload, 1) := by decide +kernel
theorem dX12_later_50 : decode (mB 239) 50 = .ok (.ireturn, 1) := by decide +kernel
theorem dX12_eve_0 : decode (mB 240) 0 = .ok (.iload_n 1, 1) := by decide +kernel
theorem dX12_eve_1 : decode (mB 240) 1 = .ok (.invokestatic 137, 3) := by decide +kernel
theorem dX12_eve_4 : decode (mB 240) 4 = .ok (.ifCond .eq 25, 3) := by decide +kernel
theorem dX12_eve_7 : decode (mB 240) 7 = .ok (.iload_n 2, 1) := by decide +kernel
theorem dX12_eve_8 : decode (mB 240) 8 = .ok (.invokestatic 275, 3) := by decide +kernel
theorem dX12_eve_11 : decode (mB 240) 11 = .ok (.ifCond .eq 18, 3) := by decide +kernel
theorem dX12_eve_14 : decode (mB 240) 14 = .ok (.iload_n 3, 1) := by decide +kernel
theorem dX12_eve_15 : decode (mB 240) 15 = .ok (.bipush (-2), 2) := by decide +kernel
theorem dX12_eve_17 : decode (mB 240) 17 = .ok (.aload_n 0, 1) := by decide +kernel
theorem dX12_eve_18 : decode (mB 240) 18 = .ok (.getfield 115, 3) := by decide +kernel
theorem dX12_eve_21 : decode (mB 240) 21 = .ok (.iconst 1, 1) := by decide +kernel
theorem dX12_eve_22 : decode (mB 240) 22 = .ok (.isub, 1) := by decide +kernel
theorem dX12_eve_23 : decode (mB 240) 23 = .ok (.invokestatic 118, 3) := by decide +kernel
theorem dX12_eve_26 : decode (mB 240) 26 = .ok (.ifCond .ne 5, 3) := by decide +kernel
theorem dX12_eve_29 : decode (mB 240) 29 = .ok (.iconst (-1), 1) := by decide +kernel
theorem dX12_eve_30 : decode (mB 240) 30 = .ok (.ireturn, 1) := by decide +kernel
theorem dX12_eve_31 : decode (mB 240) 31 = .ok (.aload_n 0, 1) := by decide +kernel
theorem dX12_eve_32 : decode (mB 240) 32 = .ok (.iload_n 1, 1) := by decide +kernel
theorem dX12_eve_33 : decode (mB 240) 33 = .ok (.invokevirtual 278, 3) := by decide +kernel
theorem dX12_eve_36 : decode (mB 240) 36 = .ok (.ifCond .ge 9, 3) := by decide +kernel
theorem dX12_eve_39 : decode (mB 240) 39 = .ok (.aload_n 0, 1) := by decide +kernel
theorem dX12_eve_40 : decode (mB 240) 40 = .ok (.iload_n 1, 1) := by decide +kernel
theorem dX12_eve_41 : decode (mB 240) 41 = .ok (.invokevirtual 278, 3) := by decide +kernel
theorem dX12_eve_44 : decode (mB 240) 44 = .ok (.ireturn, 1) := by decide +kernel
theorem dX12_eve_45 : decode (mB 240) 45 = .ok (.aload_n 0, 1) := by decide +kernel
theorem dX12_eve_46 : decode (mB 240) 46 = .ok (.iload_n 1, 1) := by decide +kernel
theorem dX12_eve_47 : decode (mB 240) 47 = .ok (.iload_n 2, 1) := by decide +kernel
theorem dX12_eve_48 : decode (mB 240) 48 = .ok (.invokevirtual 281, 3) := by decide +kernel
theorem dX12_eve_51 : decode (mB 240) 51 = .ok (.iload_n 3, 1) := by decide +kernel
theorem dX12_eve_52 : decode (mB 240) 52 = .ok (.iconst (-1), 1) := by decide +kernel
theorem dX12_eve_53 : decode (mB 240) 53 = .ok (.if_icmp .ne 10, 3) := by decide +kernel
theorem dX12_eve_56 : decode (mB 240) 56 = .ok (.aload_n 0, 1) := by decide +kernel
theorem dX12_eve_57 : decode (mB 240) 57 = .ok (.getfield 266, 3) := by decide +kernel
theorem dX12_eve_60 : decode (mB 240) 60 = .ok (.goto 21, 3) := by decide +kernel
theorem dX12_eve_63 : decode (mB 240) 63 = .ok (.iload_n 3, 1) := by decide +kernel
theorem dX12_eve_64 : decode (mB 240) 64 = .ok (.bipush (-2), 2) := by decide +kernel
theorem dX12_eve_66 : decode (mB 240) 66 = .ok (.if_icmp .ne 10, 3) := by decide +kernel
theorem dX12_eve_69 : decode (mB 240) 69 = .ok (.aload_n 0, 1) := by decide +kernel
theorem dX12_eve_70 : decode (mB 240) 70 = .ok (.getfield 269, 3) := by decide +kernel
theorem dX12_eve_73 : decode (mB 240) 73 = .ok (.goto 8, 3) := by decide +kernel
theorem dX12_eve_76 : decode (mB 240) 76 = .ok (.aload_n 0, 1) := by decide +kernel
theorem dX12_eve_77 : decode (mB 240) 77 = .ok (.iload_n 3, 1) := by decide +kernel
theorem dX12_eve_78 : decode (mB 240) 78 = .ok (.invokevirtual 175, 3) := by decide +kernel
theorem dX12_eve_81 : decode (mB 240) 81 = .ok (.ireturn, 1) := by decide +kernel
theorem dX12_lowest_0 : decode (mB 241) 0 = .ok (.lload_n 0, 1) := by decide +kernel
theorem dX12_lowest_1 : decode (mB 241) 1 = .ok (.lconst 0, 1) := by decide +kernel
theorem dX12_lowest_2 : decode (mB 241) 2 = .ok (.lcmp, 1) := by decide +kernel
theorem dX12_lowest_3 : decode (mB 241) 3 = .ok (.ifCond .ne 7, 3) := by decide +kernel
theorem dX12_lowest_6 : decode (mB 241) 6 = .ok (.iload 4, 2) := by decide +kernel
theorem dX12_lowest_8 : decode (mB 241) 8 = .ok (.i2l, 1) := by decide +kernel
theorem dX12_lowest_9 : decode (mB 241) 9 = .ok (.lreturn, 1) := by decide +kernel
theorem dX12_lowest_10 : decode (mB 241) 10 = .ok (.lload_n 0, 1) := by decide +kernel
theorem dX12_lowest_11 : decode (mB 241) 11 = .ok (.lstore 5, 2) := by decide +kernel
theorem dX12_lowest_13 : decode (mB 241) 13 = .ok (.lload_n 2, 1) := by decide +kernel
theorem dX12_lowest_14 : decode (mB 241) 14 = .ok (.lstore 7, 2) := by decide +kernel
theorem dX12_lowest_16 : decode (mB 241) 16 = .ok (.lload 7, 2) := by decide +kernel
theorem dX12_lowest_18 : decode (mB 241) 18 = .ok (.lconst 0, 1) := by decide +kernel
theorem dX12_lowest_19 : decode (mB 241) 19 = .ok (.lcmp, 1) := by decide +kernel
theorem dX12_lowest_20 : decode (mB 241) 20 = .ok (.ifCond .eq 21, 3) := by decide +kernel
theorem dX12_lowest_23 : decode (mB 241) 23 = .ok (.lload 5, 2) := by decide +kernel
theorem dX12_lowest_25 : decode (mB 241) 25 = .ok (.lload 7, 2) := by decide +kernel
theorem dX12_lowest_27 : decode (mB 241) 27 = .ok (.lrem, 1) := by decide +kernel
theorem dX12_lowest_28 : decode (mB 241) 28 = .ok (.lstore 9, 2) := by decide +kernel
theorem dX12_lowest_30 : decode (mB 241) 30 = .ok (.lload 7, 2) := by decide +kernel
theorem dX12_lowest_32 : decode (mB 241) 32 = .ok (.lstore 5, 2) := by decide +kernel
theorem dX12_lowest_34 : decode (mB 241) 34 = .ok (.lload 9, 2) := by decide +kernel
theorem dX12_lowest_36 : decode (mB 241) 36 = .ok (.lstore 7, 2) := by decide +kernel
theorem dX12_lowest_38 : decode (mB 241) 38 = .ok (.goto (-22), 3) := by decide +kernel
theorem dX12_lowest_41 : decode (mB 241) 41 = .ok (.iload 4, 2) := by decide +kernel
theorem dX12_lowest_43 : decode (mB 241) 43 = .ok (.ifCond .ne 10, 3) := by decide +kernel
theorem dX12_lowest_46 : decode (mB 241) 46 = .ok (.lload_n 0, 1) := by decide +kernel
theorem dX12_lowest_47 : decode (mB 241) 47 = .ok (.lload 5, 2) := by decide +kernel
theorem dX12_lowest_49 : decode (mB 241) 49 = .ok (.ldiv, 1) := by decide +kernel
theorem dX12_lowest_50 : decode (mB 241) 50 = .ok (.goto 7, 3) := by decide +kernel
theorem dX12_lowest_53 : decode (mB 241) 53 = .ok (.lload_n 2, 1) := by decide +kernel
theorem dX12_lowest_54 : decode (mB 241) 54 = .ok (.lload 5, 2) := by decide +kernel
theorem dX12_lowest_56 : decode (mB 241) 56 = .ok (.ldiv, 1) := by decide +kernel
theorem dX12_lowest_57 : decode (mB 241) 57 = .ok (.lreturn, 1) := by decide +kernel
theorem dX12_likely_0 : decode (mB 242) 0 = .ok (.iload_n 1, 1) := by decide +kernel
theorem dX12_likely_1 : decode (mB 242) 1 = .ok (.invokestatic 137, 3) := by decide +kernel
theorem dX12_likely_4 : decode (mB 242) 4 = .ok (.ifCond .eq 31, 3) := by decide +kernel
theorem dX12_likely_7 : decode (mB 242) 7 = .ok (.iload_n 2, 1) := by decide +kernel
theorem dX12_likely_8 : decode (mB 242) 8 = .ok (.iconst 0, 1) := by decide +kernel
theorem dX12_likely_9 : decode (mB 242) 9 = .ok (.sipush 4095, 3) := by decide +kernel
theorem dX12_likely_12 : decode (mB 242) 12 = .ok (.invokestatic 118, 3) := by decide +kernel
theorem dX12_likely_15 : decode (mB 242) 15 = .ok (.ifCond .eq 20, 3) := by decide +kernel
theorem dX12_likely_18 : decode (mB 242) 18 = .ok (.iload_n 3, 1) := by decide +kernel
theorem dX12_likely_19 : decode (mB 242) 19 = .ok (.iconst 0, 1) := by decide +kernel
theorem dX12_likely_20 : decode (mB 242) 20 = .ok (.iconst 1, 1) := by decide +kernel
theorem dX12_likely_21 : decode (mB 242) 21 = .ok (.invokestatic 118, 3) := by decide +kernel
theorem dX12_likely_24 : decode (mB 242) 24 = .ok (.ifCond .eq 11, 3) := by decide +kernel
theorem dX12_likely_27 : decode (mB 242) 27 = .ok (.aload_n 0, 1) := by decide +kernel
theorem dX12_likely_28 : decode (mB 242) 28 = .ok (.iload_n 1, 1) := by decide +kernel
theorem dX12_likely_29 : decode (mB 242) 29 = .ok (.invokevirtual 278, 3) := by decide +kernel
theorem dX12_likely_32 : decode (mB 242) 32 = .ok (.ifCond .ge 7, 3) := by decide +kernel
theorem dX12_likely_35 : decode (mB 242) 35 = .ok (.ldc2_w 284, 3) := by decide +kernel
theorem dX12_likely_38 : decode (mB 242) 38 = .ok (.lreturn, 1) := by decide +kernel
theorem dX12_likely_39 : decode (mB 242) 39 = .ok (.aload_n 0, 1) := by decide +kernel
theorem dX12_likely_40 : decode (mB 242) 40 = .ok (.invokevirtual 168, 3) := by decide +kernel
theorem dX12_likely_43 : decode (mB 242) 43 = .ok (.aload_n 0, 1) := by decide +kernel
theorem dX12_likely_44 : decode (mB 242) 44 = .ok (.iload_n 1, 1) := by decide +kernel
theorem dX12_likely_45 : decode (mB 242) 45 = .ok (.bipush 12, 2) := by decide +kernel
theorem dX12_likely_47 : decode (mB 242) 47 = .ok (.invokevirtual 272, 3) := by decide +kernel
theorem dX12_likely_50 : decode (mB 242) 50 = .ok (.istore 4, 2) := by decide +kernel
theorem dX12_likely_52 : decode (mB 242) 52 = .ok (.iload_n 2, 1) := by decide +kernel
theorem dX12_likely_53 : decode (mB 242) 53 = .ok (.iload 4, 2) := by decide +kernel
theorem dX12_likely_55 : decode (mB 242) 55 = .ok (.ishr, 1) := by decide +kernel
theorem dX12_likely_56 : decode (mB 242) 56 = .ok (.ifCond .ne 7, 3) := by decide +kernel
theorem dX12_likely_59 : decode (mB 242) 59 = .ok (.lconst 1, 1) := by decide +kernel
theorem dX12_likely_60 : decode (mB 242) 60 = .ok (.goto 4, 3) := by decide +kernel
theorem dX12_likely_63 : decode (mB 242) 63 = .ok (.lconst 0, 1) := by decide +kernel
theorem dX12_likely_64 : decode (mB 242) 64 = .ok (.lstore 5, 2) := by decide +kernel
theorem dX12_likely_66 : decode (mB 242) 66 = .ok (.lconst 1, 1) := by decide +kernel
theorem dX12_likely_67 : decode (mB 242) 67 = .ok (.lstore 7, 2) := by decide +kernel
theorem dX12_likely_69 : decode (mB 242) 69 = .ok (.iconst 0, 1) := by decide +kernel
theorem dX12_likely_70 : decode (mB 242) 70 = .ok (.istore 9, 2) := by decide +kernel
theorem dX12_likely_72 : decode (mB 242) 72 = .ok (.iload 9, 2) := by decide +kernel
theorem dX12_likely_74 : decode (mB 242) 74 = .ok (.iload 4, 2) := by decide +kernel
theorem dX12_likely_76 : decode (mB 242) 76 = .ok (.if_icmp .ge 126, 3) := by decide +kernel
theorem dX12_likely_79 : decode (mB 242) 79 = .ok (.aload_n 0, 1) := by decide +kernel
theorem dX12_likely_80 : decode (mB 242) 80 = .ok (.iload_n 1, 1) := by decide +kernel
theorem dX12_likely_81 : decode (mB 242) 81 = .ok (.iload 9, 2) := by decide +kernel
theorem dX12_likely_83 : decode (mB 242) 83 = .ok (.invokevirtual 263, 3) := by decide +kernel
theorem dX12_likely_86 : decode (mB 242) 86 = .ok (.bipush 8, 2) := by decide +kernel
theorem dX12_likely_88 : decode (mB 242) 88 = .ok (.idiv, 1) := by decide +kernel
theorem dX12_likely_89 : decode (mB 242) 89 = .ok (.istore 10, 2) := by decide +kernel
theorem dX12_likely_91 : decode (mB 242) 91 = .ok (.aload_n 0, 1) := by decide +kernel
theorem dX12_likely_92 : decode (mB 242) 92 = .ok (.iload_n 1, 1) := by decide +kernel
theorem dX12_likely_93 : decode (mB 242) 93 = .ok (.iload 9, 2) := by decide +kernel
theorem dX12_likely_95 : decode (mB 242) 95 = .ok (.invokevirtual 263, 3) := by decide +kernel
theorem dX12_likely_98 : decode (mB 242) 98 = .ok (.bipush 8, 2) := by decide +kernel
theorem dX12_likely_100 : decode (mB 242) 100 = .ok (.irem, 1) := by decide +kernel
theorem dX12_likely_101 : decode (mB 242) 101 = .ok (.istore 11, 2) := by decide +kernel
theorem dX12_likely_103 : decode (mB 242) 103 = .ok (.iload_n 2, 1) := by decide +kernel
theorem dX12_likely_104 : decode (mB 242) 104 = .ok (.iload 9, 2) := by decide +kernel
theorem dX12_likely_106 : decode (mB 242) 106 = .ok (.ishr, 1) := by decide +kernel
theorem dX12_likely_107 : decode (mB 242) 107 = .ok (.iconst 1, 1) := by decide +kernel
theorem dX12_likely_108 : decode (mB 242) 108 = .ok (.iand, 1) := by decide +kernel
theorem dX12_likely_109 : decode (mB 242) 109 = .ok (.iconst 1, 1) := by decide +kernel
theorem dX12_likely_110 : decode (mB 242) 110 = .ok (.if_icmp .ne 7, 3) := by decide +kernel
theorem dX12_likely_113 : decode (mB 242) 113 = .ok (.iconst 1, 1) := by decide +kernel
theorem dX12_likely_114 : decode (mB 242) 114 = .ok (.goto 4, 3) := by decide +kernel
theorem dX12_likely_117 : decode (mB 242) 117 = .ok (.iconst 0, 1) := by decide +kernel
theorem dX12_likely_118 : decode (mB 242) 118 = .ok (.istore 12, 2) := by decide +kernel
theorem dX12_likely_120 : decode (mB 242) 120 = .ok (.aload_n 0, 1) := by decide +kernel
theorem dX12_likely_121 : decode (mB 242) 121 = .ok (.iload 10, 2) := by decide +kernel
theorem dX12_likely_123 : decode (mB 242) 123 = .ok (.iload 11, 2) := by decide +kernel
theorem dX12_likely_125 : decode (mB 242) 125 = .ok (.invokevirtual 251, 3) := by decide +kernel
theorem dX12_likely_128 : decode (mB 242) 128 = .ok (.ifCond .ne 14, 3) := by decide +kernel
theorem dX12_likely_131 : decode (mB 242) 131 = .ok (.iload 12, 2) := by decide +kernel
theorem dX12_likely_133 : decode (mB 242) 133 = .ok (.ifCond .eq 63, 3) := by decide +kernel
theorem dX12_likely_136 : decode (mB 242) 136 = .ok (.lconst 0, 1) := by decide +kernel
theorem dX12_likely_137 : decode (mB 242) 137 = .ok (.lstore 5, 2) := by decide +kernel
theorem dX12_likely_139 : decode (mB 242) 139 = .ok (.goto 57, 3) := by decide +kernel
theorem dX12_likely_142 : decode (mB 242) 142 = .ok (.aload_n 0, 1) := by decide +kernel
theorem dX12_likely_143 : decode (mB 242) 143 = .ok (.iload 10, 2) := by decide +kernel
theorem dX12_likely_145 : decode (mB 242) 145 = .ok (.iload 11, 2) := by decide +kernel
theorem dX12_likely_147 : decode (mB 242) 147 = .ok (.invokevirtual 260, 3) := by decide +kernel
theorem dX12_likely_150 : decode (mB 242) 150 = .ok (.istore 13, 2) := by decide +kernel
theorem dX12_likely_152 : decode (mB 242) 152 = .ok (.lload 5, 2) := by decide +kernel
theorem dX12_likely_154 : decode (mB 242) 154 = .ok (.iload 12, 2) := by decide +kernel
theorem dX12_likely_156 : decode (mB 242) 156 = .ok (.ifCond .eq 9, 3) := by decide +kernel
theorem dX12_likely_159 : decode (mB 242) 159 = .ok (.iload 13, 2) := by decide +kernel
theorem dX12_likely_161 : decode (mB 242) 161 = .ok (.i2l, 1) := by decide +kernel
theorem dX12_likely_162 : decode (mB 242) 162 = .ok (.goto 9, 3) := by decide +kernel
theorem dX12_likely_165 : decode (mB 242) 165 = .ok (.bipush 12, 2) := by decide +kernel
theorem dX12_likely_167 : decode (mB 242) 167 = .ok (.iload 13, 2) := by decide +kernel
theorem dX12_likely_169 : decode (mB 242) 169 = .ok (.isub, 1) := by decide +kernel
theorem dX12_likely_170 : decode (mB 242) 170 = .ok (.i2l, 1) := by decide +kernel
theorem dX12_likely_171 : decode (mB 242) 171 = .ok (.lmul, 1) := by decide +kernel
theorem dX12_likely_172 : decode (mB 242) 172 = .ok (.lstore 5, 2) := by decide +kernel
theorem dX12_likely_174 : decode (mB 242) 174 = .ok (.lload 7, 2) := by decide +kernel
theorem dX12_likely_176 : decode (mB 242) 176 = .ok (.ldc2_w 286, 3) := by decide +kernel
theorem dX12_likely_179 : decode (mB 242) 179 = .ok (.lmul, 1) := by decide +kernel
theorem dX12_likely_180 : decode (mB 242) 180 = .ok (.lstore 7, 2) := by decide +kernel
theorem dX12_likely_182 : decode (mB 242) 182 = .ok (.iload 12, 2) := by decide +kernel
theorem dX12_likely_184 : decode (mB 242) 184 = .ok (.ifCond .eq 12, 3) := by decide +kernel
theorem dX12_likely_187 : decode (mB 242) 187 = .ok (.aload_n 0, 1) := by decide +kernel
theorem dX12_likely_188 : decode (mB 242) 188 = .ok (.getfield 74, 3) := by decide +kernel
theorem dX12_likely_191 : decode (mB 242) 191 = .ok (.iload 10, 2) := by decide +kernel
theorem dX12_likely_193 : decode (mB 242) 193 = .ok (.iload 11, 2) := by decide +kernel
theorem dX12_likely_195 : decode (mB 242) 195 = .ok (.iastore, 1) := by decide +kernel
theorem dX12_likely_196 : decode (mB 242) 196 = .ok (.iinc 9 1, 3) := by decide +kernel
theorem dX12_likely_199 : decode (mB 242) 199 = .ok (.goto (-127), 3) := by decide +kernel
theorem dX12_likely_202 : decode (mB 242) 202 = .ok (.lload 5, 2) := by decide +kernel
theorem dX12_likely_204 : decode (mB 242) 204 = .ok (.lload 7, 2) := by decide +kernel
theorem dX12_likely_206 : decode (mB 242) 206 = .ok (.iload_n 3, 1) := by decide +kernel
theorem dX12_likely_207 : decode (mB 242) 207 = .ok (.invokestatic 288, 3) := by decide +kernel
theorem dX12_likely_210 : decode (mB 242) 210 = .ok (.lreturn, 1) := by decide +kernel
theorem dX12_all_0 : decode (mB 243) 0 = .ok (.iload_n 1, 1) := by decide +kernel
theorem dX12_all_1 : decode (mB 243) 1 = .ok (.invokestatic 137, 3) := by decide +kernel
theorem dX12_all_4 : decode (mB 243) 4 = .ok (.ifCond .eq 20, 3) := by decide +kernel
theorem dX12_all_7 : decode (mB 243) 7 = .ok (.iload_n 2, 1) := by decide +kernel
theorem dX12_all_8 : decode (mB 243) 8 = .ok (.iconst 0, 1) := by decide +kernel
theorem dX12_all_9 : decode (mB 243) 9 = .ok (.iconst 1, 1) := by decide +kernel
theorem dX12_all_10 : decode (mB 243) 10 = .ok (.invokestatic 118, 3) := by decide +kernel
theorem dX12_all_13 : decode (mB 243) 13 = .ok (.ifCond .eq 11, 3) := by decide +kernel
theorem dX12_all_16 : decode (mB 243) 16 = .ok (.aload_n 0, 1) := by decide +kernel
theorem dX12_all_17 : decode (mB 243) 17 = .ok (.iload_n 1, 1) := by decide +kernel
theorem dX12_all_18 : decode (mB 243) 18 = .ok (.invokevirtual 278, 3) := by decide +kernel
theorem dX12_all_21 : decode (mB 243) 21 = .ok (.ifCond .ge 7, 3) := by decide +kernel
theorem dX12_all_24 : decode (mB 243) 24 = .ok (.ldc2_w 284, 3) := by decide +kernel
theorem dX12_all_27 : decode (mB 243) 27 = .ok (.lreturn, 1) := by decide +kernel
theorem dX12_all_28 : decode (mB 243) 28 = .ok (.aload_n 0, 1) := by decide +kernel
theorem dX12_all_29 : decode (mB 243) 29 = .ok (.invokevirtual 168, 3) := by decide +kernel
theorem dX12_all_32 : decode (mB 243) 32 = .ok (.aload_n 0, 1) := by decide +kernel
theorem dX12_all_33 : decode (mB 243) 33 = .ok (.iload_n 1, 1) := by decide +kernel
theorem dX12_all_34 : decode (mB 243) 34 = .ok (.bipush 12, 2) := by decide +kernel
theorem dX12_all_36 : decode (mB 243) 36 = .ok (.invokevirtual 272, 3) := by decide +kernel
theorem dX12_all_39 : decode (mB 243) 39 = .ok (.istore_n 3, 1) := by decide +kernel
theorem dX12_all_40 : decode (mB 243) 40 = .ok (.lconst 1, 1) := by decide +kernel
theorem dX12_all_41 : decode (mB 243) 41 = .ok (.lstore 4, 2) := by decide +kernel
theorem dX12_all_43 : decode (mB 243) 43 = .ok (.lconst 1, 1) := by decide +kernel
theorem dX12_all_44 : decode (mB 243) 44 = .ok (.lstore 6, 2) := by decide +kernel
theorem dX12_all_46 : decode (mB 243) 46 = .ok (.iconst 0, 1) := by decide +kernel
theorem dX12_all_47 : decode (mB 243) 47 = .ok (.istore 8, 2) := by decide +kernel
theorem dX12_all_49 : decode (mB 243) 49 = .ok (.iload 8, 2) := by decide +kernel
theorem dX12_all_51 : decode (mB 243) 51 = .ok (.iload_n 3, 1) := by decide +kernel
theorem dX12_all_52 : decode (mB 243) 52 = .ok (.if_icmp .ge 78, 3) := by decide +kernel
theorem dX12_all_55 : decode (mB 243) 55 = .ok (.aload_n 0, 1) := by decide +kernel
theorem dX12_all_56 : decode (mB 243) 56 = .ok (.iload_n 1, 1) := by decide +kernel
theorem dX12_all_57 : decode (mB 243) 57 = .ok (.iload 8, 2) := by decide +kernel
theorem dX12_all_59 : decode (mB 243) 59 = .ok (.invokevirtual 263, 3) := by decide +kernel
theorem dX12_all_62 : decode (mB 243) 62 = .ok (.bipush 8, 2) := by decide +kernel
theorem dX12_all_64 : decode (mB 243) 64 = .ok (.idiv, 1) := by decide +kernel
theorem dX12_all_65 : decode (mB 243) 65 = .ok (.istore 9, 2) := by decide +kernel
theorem dX12_all_67 : decode (mB 243) 67 = .ok (.aload_n 0, 1) := by decide +kernel
theorem dX12_all_68 : decode (mB 243) 68 = .ok (.iload_n 1, 1) := by decide +kernel
theorem dX12_all_69 : decode (mB 243) 69 = .ok (.iload 8, 2) := by decide +kernel
theorem dX12_all_71 : decode (mB 243) 71 = .ok (.invokevirtual 263, 3) := by decide +kernel
theorem dX12_all_74 : decode (mB 243) 74 = .ok (.bipush 8, 2) := by decide +kernel
theorem dX12_all_76 : decode (mB 243) 76 = .ok (.irem, 1) := by decide +kernel
theorem dX12_all_77 : decode (mB 243) 77 = .ok (.istore 10, 2) := by decide +kernel
theorem dX12_all_79 : decode (mB 243) 79 = .ok (.aload_n 0, 1) := by decide +kernel
theorem dX12_all_80 : decode (mB 243) 80 = .ok (.iload 9, 2) := by decide +kernel
theorem dX12_all_82 : decode (mB 243) 82 = .ok (.iload 10, 2) := by decide +kernel
theorem dX12_all_84 : decode (mB 243) 84 = .ok (.invokevirtual 251, 3) := by decide +kernel
theorem dX12_all_87 : decode (mB 243) 87 = .ok (.ifCond .ne 6, 3) := by decide +kernel
theorem dX12_all_90 : decode (mB 243) 90 = .ok (.goto 34, 3) := by decide +kernel
theorem dX12_all_93 : decode (mB 243) 93 = .ok (.lload 4, 2) := by decide +kernel
theorem dX12_all_95 : decode (mB 243) 95 = .ok (.aload_n 0, 1) := by decide +kernel
theorem dX12_all_96 : decode (mB 243) 96 = .ok (.iload 9, 2) := by decide +kernel
theorem dX12_all_98 : decode (mB 243) 98 = .ok (.iload 10, 2) := by decide +kernel
theorem dX12_all_100 : decode (mB 243) 100 = .ok (.invokevirtual 260, 3) := by decide +kernel
theorem dX12_all_103 : decode (mB 243) 103 = .ok (.i2l, 1) := by decide +kernel
theorem dX12_all_104 : decode (mB 243) 104 = .ok (.lmul, 1) := by decide +kernel
theorem dX12_all_105 : decode (mB 243) 105 = .ok (.lstore 4, 2) := by decide +kernel
theorem dX12_all_107 : decode (mB 243) 107 = .ok (.lload 6, 2) := by decide +kernel
theorem dX12_all_109 : decode (mB 243) 109 = .ok (.ldc2_w 286, 3) := by decide +kernel
theorem dX12_all_112 : decode (mB 243) 112 = .ok (.lmul, 1) := by decide +kernel
theorem dX12_all_113 : decode (mB 243) 113 = .ok (.lstore 6, 2) := by decide +kernel
theorem dX12_all_115 : decode (mB 243) 115 = .ok (.aload_n 0, 1) := by decide +kernel
theorem dX12_all_116 : decode (mB 243) 116 = .ok (.getfield 74, 3) := by decide +kernel
theorem dX12_all_119 : decode (mB 243) 119 = .ok (.iload 9, 2) := by decide +kernel
theorem dX12_all_121 : decode (mB 243) 121 = .ok (.iload 10, 2) := by decide +kernel
theorem dX12_all_123 : decode (mB 243) 123 = .ok (.iastore, 1) := by decide +kernel
theorem dX12_all_124 : decode (mB 243) 124 = .ok (.iinc 8 1, 3) := by decide +kernel
theorem dX12_all_127 : decode (mB 243) 127 = .ok (.goto (-78), 3) := by decide +kernel
theorem dX12_all_130 : decode (mB 243) 130 = .ok (.lload 4, 2) := by decide +kernel
theorem dX12_all_132 : decode (mB 243) 132 = .ok (.lload 6, 2) := by decide +kernel
theorem dX12_all_134 : decode (mB 243) 134 = .ok (.iload_n 2, 1) := by decide +kernel
theorem dX12_all_135 : decode (mB 243) 135 = .ok (.invokestatic 288, 3) := by decide +kernel
theorem dX12_all_138 : decode (mB 243) 138 = .ok (.lreturn, 1) := by decide +kernel
theorem dX12_king_0 : decode (mB 244) 0 = .ok (.aload_n 0, 1) := by decide +kernel
theorem dX12_king_1 : decode (mB 244) 1 = .ok (.iload_n 1, 1) := by decide +kernel
theorem dX12_king_2 : decode (mB 244) 2 = .ok (.invokevirtual 125, 3) := by decide +kernel
theorem dX12_king_5 : decode (mB 244) 5 = .ok (.ifCond .eq 12, 3) := by decide +kernel
theorem dX12_king_8 : decode (mB 244) 8 = .ok (.iload_n 2, 1) := by decide +kernel
theorem dX12_king_9 : decode (mB 244) 9 = .ok (.iconst 0, 1) := by decide +kernel
theorem dX12_king_10 : decode (mB 244) 10 = .ok (.iconst 1, 1) := by decide +kernel
theorem dX12_king_11 : decode (mB 244) 11 = .ok (.invokestatic 118, 3) := by decide +kernel
theorem dX12_king_14 : decode (mB 244) 14 = .ok (.ifCond .ne 7, 3) := by decide +kernel
theorem dX12_king_17 : decode (mB 244) 17 = .ok (.ldc2_w 284, 3) := by decide +kernel
theorem dX12_king_20 : decode (mB 244) 20 = .ok (.lreturn, 1) := by decide +kernel
theorem dX12_king_21 : decode (mB 244) 21 = .ok (.aload_n 0, 1) := by decide +kernel
theorem dX12_king_22 : decode (mB 244) 22 = .ok (.invokevirtual 168, 3) := by decide +kernel
theorem dX12_king_25 : decode (mB 244) 25 = .ok (.aload_n 0, 1) := by decide +kernel
theorem dX12_king_26 : decode (mB 244) 26 = .ok (.iload_n 1, 1) := by decide +kernel
theorem dX12_king_27 : decode (mB 244) 27 = .ok (.invokevirtual 175, 3) := by decide +kernel
theorem dX12_king_30 : decode (mB 244) 30 = .ok (.i2l, 1) := by decide +kernel
theorem dX12_king_31 : decode (mB 244) 31 = .ok (.aload_n 0, 1) := by decide +kernel
theorem dX12_king_32 : decode (mB 244) 32 = .ok (.invokevirtual 292, 3) := by decide +kernel
theorem dX12_king_35 : decode (mB 244) 35 = .ok (.i2l, 1) := by decide +kernel
theorem dX12_king_36 : decode (mB 244) 36 = .ok (.iload_n 2, 1) := by decide +kernel
theorem dX12_king_37 : decode (mB 244) 37 = .ok (.invokestatic 288, 3) := by decide +kernel
theorem dX12_king_40 : decode (mB 244) 40 = .ok (.lreturn, 1) := by decide +kernel
theorem dX12_safe_0 : decode (mB 245) 0 = .ok (.aload_n 0, 1) := by decide +kernel
theorem dX12_safe_1 : decode (mB 245) 1 = .ok (.invokevirtual 168, 3) := by decide +kernel
theorem dX12_safe_4 : decode (mB 245) 4 = .ok (.iconst 0, 1) := by decide +kernel
theorem dX12_safe_5 : decode (mB 245) 5 = .ok (.istore_n 1, 1) := by decide +kernel
theorem dX12_safe_6 : decode (mB 245) 6 = .ok (.iconst 0, 1) := by decide +kernel
theorem dX12_safe_7 : decode (mB 245) 7 = .ok (.istore_n 2, 1) := by decide +kernel
theorem dX12_safe_8 : decode (mB 245) 8 = .ok (.iload_n 2, 1) := by decide +kernel
theorem dX12_safe_9 : decode (mB 245) 9 = .ok (.aload_n 0, 1) := by decide +kernel
theorem dX12_safe_10 : decode (mB 245) 10 = .ok (.getfield 115, 3) := by decide +kernel
theorem dX12_safe_13 : decode (mB 245) 13 = .ok (.if_icmp .ge 23, 3) := by decide +kernel
theorem dX12_safe_16 : decode (mB 245) 16 = .ok (.aload_n 0, 1) := by decide +kernel
theorem dX12_safe_17 : decode (mB 245) 17 = .ok (.iload_n 2, 1) := by decide +kernel
theorem dX12_safe_18 : decode (mB 245) 18 = .ok (.invokevirtual 175, 3) := by decide +kernel
theorem dX12_safe_21 : decode (mB 245) 21 = .ok (.ifCond .ne 9, 3) := by decide +kernel
theorem dX12_safe_24 : decode (mB 245) 24 = .ok (.iload_n 1, 1) := by decide +kernel
theorem dX12_safe_25 : decode (mB 245) 25 = .ok (.iconst 1, 1) := by decide +kernel
theorem dX12_safe_26 : decode (mB 245) 26 = .ok (.iload_n 2, 1) := by decide +kernel
theorem dX12_safe_27 : decode (mB 245) 27 = .ok (.ishl, 1) := by decide +kernel
theorem dX12_safe_28 : decode (mB 245) 28 = .ok (.ior, 1) := by decide +kernel
theorem dX12_safe_29 : decode (mB 245) 29 = .ok (.istore_n 1, 1) := by decide +kernel
theorem dX12_safe_30 : decode (mB 245) 30 = .ok (.iinc 2 1, 3) := by decide +kernel
theorem dX12_safe_33 : decode (mB 245) 33 = .ok (.goto (-25), 3) := by decide +kernel
theorem dX12_safe_36 : decode (mB 245) 36 = .ok (.iload_n 1, 1) := by decide +kernel
theorem dX12_safe_37 : decode (mB 245) 37 = .ok (.ireturn, 1) := by decide +kernel
theorem dX12_likeliest_0 : decode (mB 246) 0 = .ok (.aload_n 0, 1) := by decide +kernel
theorem dX12_likeliest_1 : decode (mB 246) 1 = .ok (.invokevirtual 168, 3) := by decide +kernel
theorem dX12_likeliest_4 : decode (mB 246) 4 = .ok (.bipush (-2), 2) := by decide +kernel
theorem dX12_likeliest_6 : decode (mB 246) 6 = .ok (.istore_n 1, 1) := by decide +kernel
theorem dX12_likeliest_7 : decode (mB 246) 7 = .ok (.iconst 0, 1) := by decide +kernel
theorem dX12_likeliest_8 : decode (mB 246) 8 = .ok (.istore_n 2, 1) := by decide +kernel
theorem dX12_likeliest_9 : decode (mB 246) 9 = .ok (.iload_n 2, 1) := by decide +kernel
theorem dX12_likeliest_10 : decode (mB 246) 10 = .ok (.aload_n 0, 1) := by decide +kernel
theorem dX12_likeliest_11 : decode (mB 246) 11 = .ok (.getfield 115, 3) := by decide +kernel
theorem dX12_likeliest_14 : decode (mB 246) 14 = .ok (.if_icmp .ge 36, 3) := by decide +kernel
theorem dX12_likeliest_17 : decode (mB 246) 17 = .ok (.aload_n 0, 1) := by decide +kernel
theorem dX12_likeliest_18 : decode (mB 246) 18 = .ok (.iload_n 2, 1) := by decide +kernel
theorem dX12_likeliest_19 : decode (mB 246) 19 = .ok (.invokevirtual 175, 3) := by decide +kernel
theorem dX12_likeliest_22 : decode (mB 246) 22 = .ok (.ifCond .le 22, 3) := by decide +kernel
theorem dX12_likeliest_25 : decode (mB 246) 25 = .ok (.iload_n 1, 1) := by decide +kernel
theorem dX12_likeliest_26 : decode (mB 246) 26 = .ok (.ifCond .lt 16, 3) := by decide +kernel
theorem dX12_likeliest_29 : decode (mB 246) 29 = .ok (.aload_n 0, 1) := by decide +kernel
theorem dX12_likeliest_30 : decode (mB 246) 30 = .ok (.iload_n 2, 1) := by decide +kernel
theorem dX12_likeliest_31 : decode (mB 246) 31 = .ok (.invokevirtual 175, 3) := by decide +kernel
theorem dX12_likeliest_34 : decode (mB 246) 34 = .ok (.aload_n 0, 1) := by decide +kernel
theorem dX12_likeliest_35 : decode (mB 246) 35 = .ok (.iload_n 1, 1) := by decide +kernel
theorem dX12_likeliest_36 : decode (mB 246) 36 = .ok (.invokevirtual 175, 3) := by decide +kernel
theorem dX12_likeliest_39 : decode (mB 246) 39 = .ok (.if_icmp .le 5, 3) := by decide +kernel
theorem dX12_likeliest_42 : decode (mB 246) 42 = .ok (.iload_n 2, 1) := by decide +kernel
theorem dX12_likeliest_43 : decode (mB 246) 43 = .ok (.istore_n 1, 1) := by decide +kernel
theorem dX12_likeliest_44 : decode (mB 246) 44 = .ok (.iinc 2 1, 3) := by decide +kernel
theorem dX12_likeliest_47 : decode (mB 246) 47 = .ok (.goto (-38), 3) := by decide +kernel
theorem dX12_likeliest_50 : decode (mB 246) 50 = .ok (.iload_n 1, 1) := by decide +kernel
theorem dX12_likeliest_51 : decode (mB 246) 51 = .ok (.ireturn, 1) := by decide +kernel
theorem dX12_watch_0 : decode (mB 247) 0 = .ok (.aload_n 0, 1) := by decide +kernel
theorem dX12_watch_1 : decode (mB 247) 1 = .ok (.iload_n 1, 1) := by decide +kernel
theorem dX12_watch_2 : decode (mB 247) 2 = .ok (.invokevirtual 125, 3) := by decide +kernel
theorem dX12_watch_5 : decode (mB 247) 5 = .ok (.ifCond .ne 5, 3) := by decide +kernel
theorem dX12_watch_8 : decode (mB 247) 8 = .ok (.iconst (-1), 1) := by decide +kernel
theorem dX12_watch_9 : decode (mB 247) 9 = .ok (.ireturn, 1) := by decide +kernel
theorem dX12_watch_10 : decode (mB 247) 10 = .ok (.aload_n 0, 1) := by decide +kernel
theorem dX12_watch_11 : decode (mB 247) 11 = .ok (.invokevirtual 168, 3) := by decide +kernel
theorem dX12_watch_14 : decode (mB 247) 14 = .ok (.bipush (-2), 2) := by decide +kernel
theorem dX12_watch_16 : decode (mB 247) 16 = .ok (.istore_n 2, 1) := by decide +kernel
theorem dX12_watch_17 : decode (mB 247) 17 = .ok (.iconst 0, 1) := by decide +kernel
theorem dX12_watch_18 : decode (mB 247) 18 = .ok (.istore_n 3, 1) := by decide +kernel
theorem dX12_watch_19 : decode (mB 247) 19 = .ok (.iconst 0, 1) := by decide +kernel
theorem dX12_watch_20 : decode (mB 247) 20 = .ok (.istore 4, 2) := by decide +kernel
theorem dX12_watch_22 : decode (mB 247) 22 = .ok (.iload 4, 2) := by decide +kernel
theorem dX12_watch_24 : decode (mB 247) 24 = .ok (.aload_n 0, 1) := by decide +kernel
theorem dX12_watch_25 : decode (mB 247) 25 = .ok (.getfield 122, 3) := by decide +kernel
theorem dX12_watch_28 : decode (mB 247) 28 = .ok (.if_icmp .ge 71, 3) := by decide +kernel
theorem dX12_watch_31 : decode (mB 247) 31 = .ok (.aload_n 0, 1) := by decide +kernel
theorem dX12_watch_32 : decode (mB 247) 32 = .ok (.iload 4, 2) := by decide +kernel
theorem dX12_watch_34 : decode (mB 247) 34 = .ok (.iload_n 1, 1) := by decide +kernel
theorem dX12_watch_35 : decode (mB 247) 35 = .ok (.invokevirtual 251, 3) := by decide +kernel
theorem dX12_watch_38 : decode (mB 247) 38 = .ok (.ifCond .ne 6, 3) := by decide +kernel
theorem dX12_watch_41 : decode (mB 247) 41 = .ok (.goto 52, 3) := by decide +kernel
theorem dX12_watch_44 : decode (mB 247) 44 = .ok (.aload_n 0, 1) := by decide +kernel
theorem dX12_watch_45 : decode (mB 247) 45 = .ok (.iload 4, 2) := by decide +kernel
theorem dX12_watch_47 : decode (mB 247) 47 = .ok (.iload_n 1, 1) := by decide +kernel
theorem dX12_watch_48 : decode (mB 247) 48 = .ok (.invokevirtual 260, 3) := by decide +kernel
theorem dX12_watch_51 : decode (mB 247) 51 = .ok (.istore 5, 2) := by decide +kernel
theorem dX12_watch_53 : decode (mB 247) 53 = .ok (.aload_n 0, 1) := by decide +kernel
theorem dX12_watch_54 : decode (mB 247) 54 = .ok (.getfield 74, 3) := by decide +kernel
theorem dX12_watch_57 : decode (mB 247) 57 = .ok (.iload 4, 2) := by decide +kernel
theorem dX12_watch_59 : decode (mB 247) 59 = .ok (.iaload, 1) := by decide +kernel
theorem dX12_watch_60 : decode (mB 247) 60 = .ok (.istore 6, 2) := by decide +kernel
theorem dX12_watch_62 : decode (mB 247) 62 = .ok (.iload_n 2, 1) := by decide +kernel
theorem dX12_watch_63 : decode (mB 247) 63 = .ok (.ifCond .lt 24, 3) := by decide +kernel
theorem dX12_watch_66 : decode (mB 247) 66 = .ok (.iload 5, 2) := by decide +kernel
theorem dX12_watch_68 : decode (mB 247) 68 = .ok (.iload_n 3, 1) := by decide +kernel
theorem dX12_watch_69 : decode (mB 247) 69 = .ok (.if_icmp .lt 24, 3) := by decide +kernel
theorem dX12_watch_72 : decode (mB 247) 72 = .ok (.iload 5, 2) := by decide +kernel
theorem dX12_watch_74 : decode (mB 247) 74 = .ok (.iload_n 3, 1) := by decide +kernel
theorem dX12_watch_75 : decode (mB 247) 75 = .ok (.if_icmp .ne 12, 3) := by decide +kernel
theorem dX12_watch_78 : decode (mB 247) 78 = .ok (.iload 6, 2) := by decide +kernel
theorem dX12_watch_80 : decode (mB 247) 80 = .ok (.iload_n 2, 1) := by decide +kernel
theorem dX12_watch_81 : decode (mB 247) 81 = .ok (.if_icmp .lt 6, 3) := by decide +kernel
theorem dX12_watch_84 : decode (mB 247) 84 = .ok (.goto 9, 3) := by decide +kernel
theorem dX12_watch_87 : decode (mB 247) 87 = .ok (.iload 6, 2) := by decide +kernel
theorem dX12_watch_89 : decode (mB 247) 89 = .ok (.istore_n 2, 1) := by decide +kernel
theorem dX12_watch_90 : decode (mB 247) 90 = .ok (.iload 5, 2) := by decide +kernel
theorem dX12_watch_92 : decode (mB 247) 92 = .ok (.istore_n 3, 1) := by decide +kernel
theorem dX12_watch_93 : decode (mB 247) 93 = .ok (.iinc 4 1, 3) := by decide +kernel
theorem dX12_watch_96 : decode (mB 247) 96 = .ok (.goto (-74), 3) := by decide +kernel
theorem dX12_watch_99 : decode (mB 247) 99 = .ok (.iload_n 2, 1) := by decide +kernel
theorem dX12_watch_100 : decode (mB 247) 100 = .ok (.ifCond .ge 8, 3) := by decide +kernel
theorem dX12_watch_103 : decode (mB 247) 103 = .ok (.bipush (-2), 2) := by decide +kernel
theorem dX12_watch_105 : decode (mB 247) 105 = .ok (.goto 9, 3) := by decide +kernel
theorem dX12_watch_108 : decode (mB 247) 108 = .ok (.bipush 100, 2) := by decide +kernel
theorem dX12_watch_110 : decode (mB 247) 110 = .ok (.iload_n 3, 1) := by decide +kernel
theorem dX12_watch_111 : decode (mB 247) 111 = .ok (.imul, 1) := by decide +kernel
theorem dX12_watch_112 : decode (mB 247) 112 = .ok (.iload_n 2, 1) := by decide +kernel
theorem dX12_watch_113 : decode (mB 247) 113 = .ok (.iadd, 1) := by decide +kernel
theorem dX12_watch_114 : decode (mB 247) 114 = .ok (.ireturn, 1) := by decide +kernel
theorem dX12_onHour_0 : decode (mB 248) 0 = .ok (.aload_n 0, 1) := by decide +kernel
theorem dX12_onHour_1 : decode (mB 248) 1 = .ok (.getfield 33, 3) := by decide +kernel
theorem dX12_onHour_4 : decode (mB 248) 4 = .ok (.iconst 0, 1) := by decide +kernel
theorem dX12_onHour_5 : decode (mB 248) 5 = .ok (.iaload, 1) := by decide +kernel
theorem dX12_onHour_6 : decode (mB 248) 6 = .ok (.iload_n 1, 1) := by decide +kernel
theorem dX12_onHour_7 : decode (mB 248) 7 = .ok (.iadd, 1) := by decide +kernel
theorem dX12_onHour_8 : decode (mB 248) 8 = .ok (.bipush 11, 2) := by decide +kernel
theorem dX12_onHour_10 : decode (mB 248) 10 = .ok (.if_icmp .le 8, 3) := by decide +kernel
theorem dX12_onHour_13 : decode (mB 248) 13 = .ok (.bipush 11, 2) := by decide +kernel
theorem dX12_onHour_15 : decode (mB 248) 15 = .ok (.goto 11, 3) := by decide +kernel
theorem dX12_onHour_18 : decode (mB 248) 18 = .ok (.aload_n 0, 1) := by decide +kernel
theorem dX12_onHour_19 : decode (mB 248) 19 = .ok (.getfield 33, 3) := by decide +kernel
theorem dX12_onHour_22 : decode (mB 248) 22 = .ok (.iconst 0, 1) := by decide +kernel
theorem dX12_onHour_23 : decode (mB 248) 23 = .ok (.iaload, 1) := by decide +kernel
theorem dX12_onHour_24 : decode (mB 248) 24 = .ok (.iload_n 1, 1) := by decide +kernel
theorem dX12_onHour_25 : decode (mB 248) 25 = .ok (.iadd, 1) := by decide +kernel
theorem dX12_onHour_26 : decode (mB 248) 26 = .ok (.ireturn, 1) := by decide +kernel
theorem dX12_leftBy_0 : decode (mB 249) 0 = .ok (.lload 4, 2) := by decide +kernel
theorem dX12_leftBy_2 : decode (mB 249) 2 = .ok (.lstore 6, 2) := by decide +kernel
theorem dX12_leftBy_4 : decode (mB 249) 4 = .ok (.iconst 0, 1) := by decide +kernel
theorem dX12_leftBy_5 : decode (mB 249) 5 = .ok (.istore 8, 2) := by decide +kernel
theorem dX12_leftBy_7 : decode (mB 249) 7 = .ok (.iload 8, 2) := by decide +kernel
theorem dX12_leftBy_9 : decode (mB 249) 9 = .ok (.aload_n 0, 1) := by decide +kernel
theorem dX12_leftBy_10 : decode (mB 249) 10 = .ok (.getfield 122, 3) := by decide +kernel
theorem dX12_leftBy_13 : decode (mB 249) 13 = .ok (.if_icmp .ge 93, 3) := by decide +kernel
theorem dX12_leftBy_16 : decode (mB 249) 16 = .ok (.aload_n 0, 1) := by decide +kernel
theorem dX12_leftBy_17 : decode (mB 249) 17 = .ok (.getfield 74, 3) := by decide +kernel
theorem dX12_leftBy_20 : decode (mB 249) 20 = .ok (.iload 8, 2) := by decide +kernel
theorem dX12_leftBy_22 : decode (mB 249) 22 = .ok (.iaload, 1) := by decide +kernel
theorem dX12_leftBy_23 : decode (mB 249) 23 = .ok (.iload_n 1, 1) := by decide +kernel
theorem dX12_leftBy_24 : decode (mB 249) 24 = .ok (.if_icmp .ne 76, 3) := by decide +kernel
theorem dX12_leftBy_27 : decode (mB 249) 27 = .ok (.aload_n 0, 1) := by decide +kernel
theorem dX12_leftBy_28 : decode (mB 249) 28 = .ok (.getfield 27, 3) := by decide +kernel
theorem dX12_leftBy_31 : decode (mB 249) 31 = .ok (.iload 8, 2) := by decide +kernel
theorem dX12_leftBy_33 : decode (mB 249) 33 = .ok (.iaload, 1) := by decide +kernel
theorem dX12_leftBy_34 : decode (mB 249) 34 = .ok (.iconst 1, 1) := by decide +kernel
theorem dX12_leftBy_35 : decode (mB 249) 35 = .ok (.if_icmp .ne 6, 3) := by decide +kernel
theorem dX12_leftBy_38 : decode (mB 249) 38 = .ok (.goto 62, 3) := by decide +kernel
theorem dX12_leftBy_41 : decode (mB 249) 41 = .ok (.iconst 0, 1) := by decide +kernel
theorem dX12_leftBy_42 : decode (mB 249) 42 = .ok (.istore 9, 2) := by decide +kernel
theorem dX12_leftBy_44 : decode (mB 249) 44 = .ok (.iload 9, 2) := by decide +kernel
theorem dX12_leftBy_46 : decode (mB 249) 46 = .ok (.aload_n 0, 1) := by decide +kernel
theorem dX12_leftBy_47 : decode (mB 249) 47 = .ok (.getfield 115, 3) := by decide +kernel
theorem dX12_leftBy_50 : decode (mB 249) 50 = .ok (.if_icmp .ge 50, 3) := by decide +kernel
theorem dX12_leftBy_53 : decode (mB 249) 53 = .ok (.aload_n 0, 1) := by decide +kernel
theorem dX12_leftBy_54 : decode (mB 249) 54 = .ok (.iload 8, 2) := by decide +kernel
theorem dX12_leftBy_56 : decode (mB 249) 56 = .ok (.iload 9, 2) := by decide +kernel
theorem dX12_leftBy_58 : decode (mB 249) 58 = .ok (.invokevirtual 251, 3) := by decide +kernel
theorem dX12_leftBy_61 : decode (mB 249) 61 = .ok (.ifCond .ne 6, 3) := by decide +kernel
theorem dX12_leftBy_64 : decode (mB 249) 64 = .ok (.goto 30, 3) := by decide +kernel
theorem dX12_leftBy_67 : decode (mB 249) 67 = .ok (.aload_n 0, 1) := by decide +kernel
theorem dX12_leftBy_68 : decode (mB 249) 68 = .ok (.iload_n 1, 1) := by decide +kernel
theorem dX12_leftBy_69 : decode (mB 249) 69 = .ok (.iload_n 2, 1) := by decide +kernel
theorem dX12_leftBy_70 : decode (mB 249) 70 = .ok (.iload_n 3, 1) := by decide +kernel
theorem dX12_leftBy_71 : decode (mB 249) 71 = .ok (.lload 4, 2) := by decide +kernel
theorem dX12_leftBy_73 : decode (mB 249) 73 = .ok (.iload 8, 2) := by decide +kernel
theorem dX12_leftBy_75 : decode (mB 249) 75 = .ok (.iload 9, 2) := by decide +kernel
theorem dX12_leftBy_77 : decode (mB 249) 77 = .ok (.invokevirtual 295, 3) := by decide +kernel
theorem dX12_leftBy_80 : decode (mB 249) 80 = .ok (.lstore 10, 2) := by decide +kernel
theorem dX12_leftBy_82 : decode (mB 249) 82 = .ok (.lload 10, 2) := by decide +kernel
theorem dX12_leftBy_84 : decode (mB 249) 84 = .ok (.lload 6, 2) := by decide +kernel
theorem dX12_leftBy_86 : decode (mB 249) 86 = .ok (.lcmp, 1) := by decide +kernel
theorem dX12_leftBy_87 : decode (mB 249) 87 = .ok (.ifCond .ge 7, 3) := by decide +kernel
theorem dX12_leftBy_90 : decode (mB 249) 90 = .ok (.lload 10, 2) := by decide +kernel
theorem dX12_leftBy_92 : decode (mB 249) 92 = .ok (.lstore 6, 2) := by decide +kernel
theorem dX12_leftBy_94 : decode (mB 249) 94 = .ok (.iinc 9 1, 3) := by decide +kernel
theorem dX12_leftBy_97 : decode (mB 249) 97 = .ok (.goto (-53), 3) := by decide +kernel
theorem dX12_leftBy_100 : decode (mB 249) 100 = .ok (.iinc 8 1, 3) := by decide +kernel
theorem dX12_leftBy_103 : decode (mB 249) 103 = .ok (.goto (-96), 3) := by decide +kernel
theorem dX12_leftBy_106 : decode (mB 249) 106 = .ok (.lload 6, 2) := by decide +kernel
theorem dX12_leftBy_108 : decode (mB 249) 108 = .ok (.lreturn, 1) := by decide +kernel
theorem dX12_slipBy_0 : decode (mB 250) 0 = .ok (.aload_n 0, 1) := by decide +kernel
theorem dX12_slipBy_1 : decode (mB 250) 1 = .ok (.aload_n 0, 1) := by decide +kernel
theorem dX12_slipBy_2 : decode (mB 250) 2 = .ok (.iload_n 3, 1) := by decide +kernel
theorem dX12_slipBy_3 : decode (mB 250) 3 = .ok (.invokevirtual 299, 3) := by decide +kernel
theorem dX12_slipBy_6 : decode (mB 250) 6 = .ok (.putfield 248, 3) := by decide +kernel
theorem dX12_slipBy_9 : decode (mB 250) 9 = .ok (.aload_n 0, 1) := by decide +kernel
theorem dX12_slipBy_10 : decode (mB 250) 10 = .ok (.iload 6, 2) := by decide +kernel
theorem dX12_slipBy_12 : decode (mB 250) 12 = .ok (.iload 7, 2) := by decide +kernel
theorem dX12_slipBy_14 : decode (mB 250) 14 = .ok (.invokevirtual 260, 3) := by decide +kernel
theorem dX12_slipBy_17 : decode (mB 250) 17 = .ok (.istore 8, 2) := by decide +kernel
theorem dX12_slipBy_19 : decode (mB 250) 19 = .ok (.iload 8, 2) := by decide +kernel
theorem dX12_slipBy_21 : decode (mB 250) 21 = .ok (.ifCond .ne 6, 3) := by decide +kernel
theorem dX12_slipBy_24 : decode (mB 250) 24 = .ok (.lload 4, 2) := by decide +kernel
theorem dX12_slipBy_26 : decode (mB 250) 26 = .ok (.lreturn, 1) := by decide +kernel
theorem dX12_slipBy_27 : decode (mB 250) 27 = .ok (.aload_n 0, 1) := by decide +kernel
theorem dX12_slipBy_28 : decode (mB 250) 28 = .ok (.getfield 74, 3) := by decide +kernel
theorem dX12_slipBy_31 : decode (mB 250) 31 = .ok (.iload 6, 2) := by decide +kernel
theorem dX12_slipBy_33 : decode (mB 250) 33 = .ok (.iload 7, 2) := by decide +kernel
theorem dX12_slipBy_35 : decode (mB 250) 35 = .ok (.iastore, 1) := by decide +kernel
theorem dX12_slipBy_36 : decode (mB 250) 36 = .ok (.iload 8, 2) := by decide +kernel
theorem dX12_slipBy_38 : decode (mB 250) 38 = .ok (.i2l, 1) := by decide +kernel
theorem dX12_slipBy_39 : decode (mB 250) 39 = .ok (.aload_n 0, 1) := by decide +kernel
theorem dX12_slipBy_40 : decode (mB 250) 40 = .ok (.iload_n 1, 1) := by decide +kernel
theorem dX12_slipBy_41 : decode (mB 250) 41 = .ok (.iload_n 2, 1) := by decide +kernel
theorem dX12_slipBy_42 : decode (mB 250) 42 = .ok (.iconst 1, 1) := by decide +kernel
theorem dX12_slipBy_43 : decode (mB 250) 43 = .ok (.isub, 1) := by decide +kernel
theorem dX12_slipBy_44 : decode (mB 250) 44 = .ok (.iload_n 3, 1) := by decide +kernel
theorem dX12_slipBy_45 : decode (mB 250) 45 = .ok (.iconst 1, 1) := by decide +kernel
theorem dX12_slipBy_46 : decode (mB 250) 46 = .ok (.iadd, 1) := by decide +kernel
theorem dX12_slipBy_47 : decode (mB 250) 47 = .ok (.invokevirtual 302, 3) := by decide +kernel
theorem dX12_slipBy_50 : decode (mB 250) 50 = .ok (.lmul, 1) := by decide +kernel
theorem dX12_slipBy_51 : decode (mB 250) 51 = .ok (.bipush 12, 2) := by decide +kernel
theorem dX12_slipBy_53 : decode (mB 250) 53 = .ok (.iload 8, 2) := by decide +kernel
theorem dX12_slipBy_55 : decode (mB 250) 55 = .ok (.isub, 1) := by decide +kernel
theorem dX12_slipBy_56 : decode (mB 250) 56 = .ok (.i2l, 1) := by decide +kernel
theorem dX12_slipBy_57 : decode (mB 250) 57 = .ok (.lload 4, 2) := by decide +kernel
theorem dX12_slipBy_59 : decode (mB 250) 59 = .ok (.ldc2_w 286, 3) := by decide +kernel
theorem dX12_slipBy_62 : decode (mB 250) 62 = .ok (.ldiv, 1) := by decide +kernel
theorem dX12_slipBy_63 : decode (mB 250) 63 = .ok (.lmul, 1) := by decide +kernel
theorem dX12_slipBy_64 : decode (mB 250) 64 = .ok (.ladd, 1) := by decide +kernel
theorem dX12_slipBy_65 : decode (mB 250) 65 = .ok (.lstore 9, 2) := by decide +kernel
theorem dX12_slipBy_67 : decode (mB 250) 67 = .ok (.aload_n 0, 1) := by decide +kernel
theorem dX12_slipBy_68 : decode (mB 250) 68 = .ok (.getfield 74, 3) := by decide +kernel
theorem dX12_slipBy_71 : decode (mB 250) 71 = .ok (.iload 6, 2) := by decide +kernel
theorem dX12_slipBy_73 : decode (mB 250) 73 = .ok (.iload_n 1, 1) := by decide +kernel
theorem dX12_slipBy_74 : decode (mB 250) 74 = .ok (.iastore, 1) := by decide +kernel
theorem dX12_slipBy_75 : decode (mB 250) 75 = .ok (.lload 9, 2) := by decide +kernel
theorem dX12_slipBy_77 : decode (mB 250) 77 = .ok (.lreturn, 1) := by decide +kernel
theorem dX12_leftOf_0 : decode (mB 251) 0 = .ok (.iload_n 2, 1) := by decide +kernel
theorem dX12_leftOf_1 : decode (mB 251) 1 = .ok (.ifCond .ne 10, 3) := by decide +kernel
theorem dX12_leftOf_4 : decode (mB 251) 4 = .ok (.aload_n 0, 1) := by decide +kernel
theorem dX12_leftOf_5 : decode (mB 251) 5 = .ok (.iload_n 1, 1) := by decide +kernel
theorem dX12_leftOf_6 : decode (mB 251) 6 = .ok (.invokevirtual 175, 3) := by decide +kernel
theorem dX12_leftOf_9 : decode (mB 251) 9 = .ok (.i2l, 1) := by decide +kernel
theorem dX12_leftOf_10 : decode (mB 251) 10 = .ok (.lreturn, 1) := by decide +kernel
theorem dX12_leftOf_11 : decode (mB 251) 11 = .ok (.aload_n 0, 1) := by decide +kernel
theorem dX12_leftOf_12 : decode (mB 251) 12 = .ok (.iload_n 1, 1) := by decide +kernel
theorem dX12_leftOf_13 : decode (mB 251) 13 = .ok (.iload_n 2, 1) := by decide +kernel
theorem dX12_leftOf_14 : decode (mB 251) 14 = .ok (.iload_n 3, 1) := by decide +kernel
theorem dX12_leftOf_15 : decode (mB 251) 15 = .ok (.ldc2_w 286, 3) := by decide +kernel
theorem dX12_leftOf_18 : decode (mB 251) 18 = .ok (.aload_n 0, 1) := by decide +kernel
theorem dX12_leftOf_19 : decode (mB 251) 19 = .ok (.iload_n 1, 1) := by decide +kernel
theorem dX12_leftOf_20 : decode (mB 251) 20 = .ok (.iload_n 2, 1) := by decide +kernel
theorem dX12_leftOf_21 : decode (mB 251) 21 = .ok (.iconst 1, 1) := by decide +kernel
theorem dX12_leftOf_22 : decode (mB 251) 22 = .ok (.isub, 1) := by decide +kernel
theorem dX12_leftOf_23 : decode (mB 251) 23 = .ok (.iload_n 3, 1) := by decide +kernel
theorem dX12_leftOf_24 : decode (mB 251) 24 = .ok (.iconst 1, 1) := by decide +kernel
theorem dX12_leftOf_25 : decode (mB 251) 25 = .ok (.iadd, 1) := by decide +kernel
theorem dX12_leftOf_26 : decode (mB 251) 26 = .ok (.invokevirtual 302, 3) := by decide +kernel
theorem dX12_leftOf_29 : decode (mB 251) 29 = .ok (.lmul, 1) := by decide +kernel
theorem dX12_leftOf_30 : decode (mB 251) 30 = .ok (.invokevirtual 306, 3) := by decide +kernel
theorem dX12_leftOf_33 : decode (mB 251) 33 = .ok (.lreturn, 1) := by decide +kernel
theorem dX12_rid_0 : decode (mB 252) 0 = .ok (.aload_n 0, 1) := by decide +kernel
theorem dX12_rid_1 : decode (mB 252) 1 = .ok (.iload_n 1, 1) := by decide +kernel
theorem dX12_rid_2 : decode (mB 252) 2 = .ok (.invokevirtual 125, 3) := by decide +kernel
theorem dX12_rid_5 : decode (mB 252) 5 = .ok (.ifCond .eq 21, 3) := by decide +kernel
theorem dX12_rid_8 : decode (mB 252) 8 = .ok (.iload_n 2, 1) := by decide +kernel
theorem dX12_rid_9 : decode (mB 252) 9 = .ok (.iconst 0, 1) := by decide +kernel
theorem dX12_rid_10 : decode (mB 252) 10 = .ok (.iconst 3, 1) := by decide +kernel
theorem dX12_rid_11 : decode (mB 252) 11 = .ok (.invokestatic 118, 3) := by decide +kernel
theorem dX12_rid_14 : decode (mB 252) 14 = .ok (.ifCond .eq 12, 3) := by decide +kernel
theorem dX12_rid_17 : decode (mB 252) 17 = .ok (.iload_n 3, 1) := by decide +kernel
theorem dX12_rid_18 : decode (mB 252) 18 = .ok (.iconst 0, 1) := by decide +kernel
theorem dX12_rid_19 : decode (mB 252) 19 = .ok (.iconst 1, 1) := by decide +kernel
theorem dX12_rid_20 : decode (mB 252) 20 = .ok (.invokestatic 118, 3) := by decide +kernel
theorem dX12_rid_23 : decode (mB 252) 23 = .ok (.ifCond .ne 7, 3) := by decide +kernel
theorem dX12_rid_26 : decode (mB 252) 26 = .ok (.ldc2_w 284, 3) := by decide +kernel
theorem dX12_rid_29 : decode (mB 252) 29 = .ok (.lreturn, 1) := by decide +kernel
theorem dX12_rid_30 : decode (mB 252) 30 = .ok (.aload_n 0, 1) := by decide +kernel
theorem dX12_rid_31 : decode (mB 252) 31 = .ok (.invokevirtual 168, 3) := by decide +kernel
theorem dX12_rid_34 : decode (mB 252) 34 = .ok (.aload_n 0, 1) := by decide +kernel
theorem dX12_rid_35 : decode (mB 252) 35 = .ok (.invokevirtual 292, 3) := by decide +kernel
theorem dX12_rid_38 : decode (mB 252) 38 = .ok (.i2l, 1) := by decide +kernel
theorem dX12_rid_39 : decode (mB 252) 39 = .ok (.lstore 4, 2) := by decide +kernel
theorem dX12_rid_41 : decode (mB 252) 41 = .ok (.lload 4, 2) := by decide +kernel
theorem dX12_rid_43 : decode (mB 252) 43 = .ok (.lconst 0, 1) := by decide +kernel
theorem dX12_rid_44 : decode (mB 252) 44 = .ok (.lcmp, 1) := by decide +kernel
theorem dX12_rid_45 : decode (mB 252) 45 = .ok (.ifCond .ne 5, 3) := by decide +kernel
theorem dX12_rid_48 : decode (mB 252) 48 = .ok (.lconst 1, 1) := by decide +kernel
theorem dX12_rid_49 : decode (mB 252) 49 = .ok (.lreturn, 1) := by decide +kernel
theorem dX12_rid_50 : decode (mB 252) 50 = .ok (.iconst 0, 1) := by decide +kernel
theorem dX12_rid_51 : decode (mB 252) 51 = .ok (.istore 6, 2) := by decide +kernel
theorem dX12_rid_53 : decode (mB 252) 53 = .ok (.iload 6, 2) := by decide +kernel
theorem dX12_rid_55 : decode (mB 252) 55 = .ok (.iload_n 2, 1) := by decide +kernel
theorem dX12_rid_56 : decode (mB 252) 56 = .ok (.if_icmp .ge 17, 3) := by decide +kernel
theorem dX12_rid_59 : decode (mB 252) 59 = .ok (.lload 4, 2) := by decide +kernel
theorem dX12_rid_61 : decode (mB 252) 61 = .ok (.ldc2_w 286, 3) := by decide +kernel
theorem dX12_rid_64 : decode (mB 252) 64 = .ok (.lmul, 1) := by decide +kernel
theorem dX12_rid_65 : decode (mB 252) 65 = .ok (.lstore 4, 2) := by decide +kernel
theorem dX12_rid_67 : decode (mB 252) 67 = .ok (.iinc 6 1, 3) := by decide +kernel
theorem dX12_rid_70 : decode (mB 252) 70 = .ok (.goto (-17), 3) := by decide +kernel
theorem dX12_rid_73 : decode (mB 252) 73 = .ok (.lload 4, 2) := by decide +kernel
theorem dX12_rid_75 : decode (mB 252) 75 = .ok (.aload_n 0, 1) := by decide +kernel
theorem dX12_rid_76 : decode (mB 252) 76 = .ok (.iload_n 1, 1) := by decide +kernel
theorem dX12_rid_77 : decode (mB 252) 77 = .ok (.iload_n 2, 1) := by decide +kernel
theorem dX12_rid_78 : decode (mB 252) 78 = .ok (.iconst 0, 1) := by decide +kernel
theorem dX12_rid_79 : decode (mB 252) 79 = .ok (.invokevirtual 302, 3) := by decide +kernel
theorem dX12_rid_82 : decode (mB 252) 82 = .ok (.lsub, 1) := by decide +kernel
theorem dX12_rid_83 : decode (mB 252) 83 = .ok (.lload 4, 2) := by decide +kernel
theorem dX12_rid_85 : decode (mB 252) 85 = .ok (.iload_n 3, 1) := by decide +kernel
theorem dX12_rid_86 : decode (mB 252) 86 = .ok (.invokestatic 288, 3) := by decide +kernel
theorem dX12_rid_89 : decode (mB 252) 89 = .ok (.lreturn, 1) := by decide +kernel
theorem dX12_first_0 : decode (mB 253) 0 = .ok (.aload_n 0, 1) := by decide +kernel
theorem dX12_first_1 : decode (mB 253) 1 = .ok (.iload_n 1, 1) := by decide +kernel
theorem dX12_first_2 : decode (mB 253) 2 = .ok (.invokevirtual 125, 3) := by decide +kernel
theorem dX12_first_5 : decode (mB 253) 5 = .ok (.ifCond .eq 12, 3) := by decide +kernel
theorem dX12_first_8 : decode (mB 253) 8 = .ok (.iload_n 2, 1) := by decide +kernel
theorem dX12_first_9 : decode (mB 253) 9 = .ok (.iconst 0, 1) := by decide +kernel
theorem dX12_first_10 : decode (mB 253) 10 = .ok (.iconst 3, 1) := by decide +kernel
theorem dX12_first_11 : decode (mB 253) 11 = .ok (.invokestatic 118, 3) := by decide +kernel
theorem dX12_first_14 : decode (mB 253) 14 = .ok (.ifCond .ne 5, 3) := by decide +kernel
theorem dX12_first_17 : decode (mB 253) 17 = .ok (.iconst (-1), 1) := by decide +kernel
theorem dX12_first_18 : decode (mB 253) 18 = .ok (.ireturn, 1) := by decide +kernel
theorem dX12_first_19 : decode (mB 253) 19 = .ok (.aload_n 0, 1) := by decide +kernel
theorem dX12_first_20 : decode (mB 253) 20 = .ok (.invokevirtual 168, 3) := by decide +kernel
theorem dX12_first_23 : decode (mB 253) 23 = .ok (.iload_n 2, 1) := by decide +kernel
theorem dX12_first_24 : decode (mB 253) 24 = .ok (.ifCond .ne 6, 3) := by decide +kernel
theorem dX12_first_27 : decode (mB 253) 27 = .ok (.bipush (-2), 2) := by decide +kernel
theorem dX12_first_29 : decode (mB 253) 29 = .ok (.ireturn, 1) := by decide +kernel
theorem dX12_first_30 : decode (mB 253) 30 = .ok (.ldc2_w 286, 3) := by decide +kernel
theorem dX12_first_33 : decode (mB 253) 33 = .ok (.aload_n 0, 1) := by decide +kernel
theorem dX12_first_34 : decode (mB 253) 34 = .ok (.iload_n 1, 1) := by decide +kernel
theorem dX12_first_35 : decode (mB 253) 35 = .ok (.iload_n 2, 1) := by decide +kernel
theorem dX12_first_36 : decode (mB 253) 36 = .ok (.iconst 1, 1) := by decide +kernel
theorem dX12_first_37 : decode (mB 253) 37 = .ok (.isub, 1) := by decide +kernel
theorem dX12_first_38 : decode (mB 253) 38 = .ok (.iconst 1, 1) := by decide +kernel
theorem dX12_first_39 : decode (mB 253) 39 = .ok (.invokevirtual 302, 3) := by decide +kernel
theorem dX12_first_42 : decode (mB 253) 42 = .ok (.lmul, 1) := by decide +kernel
theorem dX12_first_43 : decode (mB 253) 43 = .ok (.lstore_n 3, 1) := by decide +kernel
theorem dX12_first_44 : decode (mB 253) 44 = .ok (.aload_n 0, 1) := by decide +kernel
theorem dX12_first_45 : decode (mB 253) 45 = .ok (.iload_n 1, 1) := by decide +kernel
theorem dX12_first_46 : decode (mB 253) 46 = .ok (.iload_n 2, 1) := by decide +kernel
theorem dX12_first_47 : decode (mB 253) 47 = .ok (.iconst 0, 1) := by decide +kernel
theorem dX12_first_48 : decode (mB 253) 48 = .ok (.lload_n 3, 1) := by decide +kernel
theorem dX12_first_49 : decode (mB 253) 49 = .ok (.invokevirtual 306, 3) := by decide +kernel
theorem dX12_first_52 : decode (mB 253) 52 = .ok (.lstore 5, 2) := by decide +kernel
theorem dX12_first_54 : decode (mB 253) 54 = .ok (.lload 5, 2) := by decide +kernel
theorem dX12_first_56 : decode (mB 253) 56 = .ok (.lload_n 3, 1) := by decide +kernel
theorem dX12_first_57 : decode (mB 253) 57 = .ok (.lcmp, 1) := by decide +kernel
theorem dX12_first_58 : decode (mB 253) 58 = .ok (.ifCond .ne 6, 3) := by decide +kernel
theorem dX12_first_61 : decode (mB 253) 61 = .ok (.bipush (-2), 2) := by decide +kernel
theorem dX12_first_63 : decode (mB 253) 63 = .ok (.ireturn, 1) := by decide +kernel
theorem dX12_first_64 : decode (mB 253) 64 = .ok (.iconst 0, 1) := by decide +kernel
theorem dX12_first_65 : decode (mB 253) 65 = .ok (.istore 7, 2) := by decide +kernel
theorem dX12_first_67 : decode (mB 253) 67 = .ok (.iload 7, 2) := by decide +kernel
theorem dX12_first_69 : decode (mB 253) 69 = .ok (.aload_n 0, 1) := by decide +kernel
theorem dX12_first_70 : decode (mB 253) 70 = .ok (.getfield 122, 3) := by decide +kernel
theorem dX12_first_73 : decode (mB 253) 73 = .ok (.if_icmp .ge 90, 3) := by decide +kernel
theorem dX12_first_76 : decode (mB 253) 76 = .ok (.aload_n 0, 1) := by decide +kernel
theorem dX12_first_77 : decode (mB 253) 77 = .ok (.getfield 74, 3) := by decide +kernel
theorem dX12_first_80 : decode (mB 253) 80 = .ok (.iload 7, 2) := by decide +kernel
theorem dX12_first_82 : decode (mB 253) 82 = .ok (.iaload, 1) := by decide +kernel
theorem dX12_first_83 : decode (mB 253) 83 = .ok (.iload_n 1, 1) := by decide +kernel
theorem dX12_first_84 : decode (mB 253) 84 = .ok (.if_icmp .ne 73, 3) := by decide +kernel
theorem dX12_first_87 : decode (mB 253) 87 = .ok (.aload_n 0, 1) := by decide +kernel
theorem dX12_first_88 : decode (mB 253) 88 = .ok (.getfield 27, 3) := by decide +kernel
theorem dX12_first_91 : decode (mB 253) 91 = .ok (.iload 7, 2) := by decide +kernel
theorem dX12_first_93 : decode (mB 253) 93 = .ok (.iaload, 1) := by decide +kernel
theorem dX12_first_94 : decode (mB 253) 94 = .ok (.iconst 1, 1) := by decide +kernel
theorem dX12_first_95 : decode (mB 253) 95 = .ok (.if_icmp .ne 6, 3) := by decide +kernel
theorem dX12_first_98 : decode (mB 253) 98 = .ok (.goto 59, 3) := by decide +kernel
theorem dX12_first_101 : decode (mB 253) 101 = .ok (.iconst 0, 1) := by decide +kernel
theorem dX12_first_102 : decode (mB 253) 102 = .ok (.istore 8, 2) := by decide +kernel
theorem dX12_first_104 : decode (mB 253) 104 = .ok (.iload 8, 2) := by decide +kernel
theorem dX12_first_106 : decode (mB 253) 106 = .ok (.aload_n 0, 1) := by decide +kernel
theorem dX12_first_107 : decode (mB 253) 107 = .ok (.getfield 115, 3) := by decide +kernel
theorem dX12_first_110 : decode (mB 253) 110 = .ok (.if_icmp .ge 47, 3) := by decide +kernel
theorem dX12_first_113 : decode (mB 253) 113 = .ok (.aload_n 0, 1) := by decide +kernel
theorem dX12_first_114 : decode (mB 253) 114 = .ok (.iload 7, 2) := by decide +kernel
theorem dX12_first_116 : decode (mB 253) 116 = .ok (.iload 8, 2) := by decide +kernel
theorem dX12_first_118 : decode (mB 253) 118 = .ok (.invokevirtual 251, 3) := by decide +kernel
theorem dX12_first_121 : decode (mB 253) 121 = .ok (.ifCond .eq 30, 3) := by decide +kernel
theorem dX12_first_124 : decode (mB 253) 124 = .ok (.aload_n 0, 1) := by decide +kernel
theorem dX12_first_125 : decode (mB 253) 125 = .ok (.iload_n 1, 1) := by decide +kernel
theorem dX12_first_126 : decode (mB 253) 126 = .ok (.iload_n 2, 1) := by decide +kernel
theorem dX12_first_127 : decode (mB 253) 127 = .ok (.iconst 0, 1) := by decide +kernel
theorem dX12_first_128 : decode (mB 253) 128 = .ok (.lload_n 3, 1) := by decide +kernel
theorem dX12_first_129 : decode (mB 253) 129 = .ok (.iload 7, 2) := by decide +kernel
theorem dX12_first_131 : decode (mB 253) 131 = .ok (.iload 8, 2) := by decide +kernel
theorem dX12_first_133 : decode (mB 253) 133 = .ok (.invokevirtual 295, 3) := by decide +kernel
theorem dX12_first_136 : decode (mB 253) 136 = .ok (.lload 5, 2) := by decide +kernel
theorem dX12_first_138 : decode (mB 253) 138 = .ok (.lcmp, 1) := by decide +kernel
theorem dX12_first_139 : decode (mB 253) 139 = .ok (.ifCond .ne 12, 3) := by decide +kernel
theorem dX12_first_142 : decode (mB 253) 142 = .ok (.bipush 8, 2) := by decide +kernel
theorem dX12_first_144 : decode (mB 253) 144 = .ok (.iload 7, 2) := by decide +kernel
theorem dX12_first_146 : decode (mB 253) 146 = .ok (.imul, 1) := by decide +kernel
theorem dX12_first_147 : decode (mB 253) 147 = .ok (.iload 8, 2) := by decide +kernel
theorem dX12_first_149 : decode (mB 253) 149 = .ok (.iadd, 1) := by decide +kernel
theorem dX12_first_150 : decode (mB 253) 150 = .ok (.ireturn, 1) := by decide +kernel
theorem dX12_first_151 : decode (mB 253) 151 = .ok (.iinc 8 1, 3) := by decide +kernel
theorem dX12_first_154 : decode (mB 253) 154 = .ok (.goto (-50), 3) := by decide +kernel
theorem dX12_first_157 : decode (mB 253) 157 = .ok (.iinc 7 1, 3) := by decide +kernel
theorem dX12_first_160 : decode (mB 253) 160 = .ok (.goto (-93), 3) := by decide +kernel
theorem dX12_first_163 : decode (mB 253) 163 = .ok (.bipush (-2), 2) := by decide +kernel
theorem dX12_first_165 : decode (mB 253) 165 = .ok (.ireturn, 1) := by decide +kernel
theorem dX12_hire_0 : decode (mB 254) 0 = .ok (.aload_n 0, 1) := by decide +kernel
theorem dX12_hire_1 : decode (mB 254) 1 = .ok (.iload_n 1, 1) := by decide +kernel
theorem dX12_hire_2 : decode (mB 254) 2 = .ok (.invokevirtual 125, 3) := by decide +kernel
theorem dX12_hire_5 : decode (mB 254) 5 = .ok (.ifCond .eq 22, 3) := by decide +kernel
theorem dX12_hire_8 : decode (mB 254) 8 = .ok (.iload_n 2, 1) := by decide +kernel
theorem dX12_hire_9 : decode (mB 254) 9 = .ok (.iconst 0, 1) := by decide +kernel
theorem dX12_hire_10 : decode (mB 254) 10 = .ok (.bipush 12, 2) := by decide +kernel
theorem dX12_hire_12 : decode (mB 254) 12 = .ok (.invokestatic 118, 3) := by decide +kernel
theorem dX12_hire_15 : decode (mB 254) 15 = .ok (.ifCond .eq 12, 3) := by decide +kernel
theorem dX12_hire_18 : decode (mB 254) 18 = .ok (.iload_n 3, 1) := by decide +kernel
theorem dX12_hire_19 : decode (mB 254) 19 = .ok (.iconst 0, 1) := by decide +kernel
theorem dX12_hire_20 : decode (mB 254) 20 = .ok (.iconst 1, 1) := by decide +kernel
theorem dX12_hire_21 : decode (mB 254) 21 = .ok (.invokestatic 118, 3) := by decide +kernel
theorem dX12_hire_24 : decode (mB 254) 24 = .ok (.ifCond .ne 5, 3) := by decide +kernel
theorem dX12_hire_27 : decode (mB 254) 27 = .ok (.iconst (-1), 1) := by decide +kernel
theorem dX12_hire_28 : decode (mB 254) 28 = .ok (.ireturn, 1) := by decide +kernel
theorem dX12_hire_29 : decode (mB 254) 29 = .ok (.iconst 0, 1) := by decide +kernel
theorem dX12_hire_30 : decode (mB 254) 30 = .ok (.istore 4, 2) := by decide +kernel
theorem dX12_hire_32 : decode (mB 254) 32 = .ok (.iconst 0, 1) := by decide +kernel
theorem dX12_hire_33 : decode (mB 254) 33 = .ok (.istore 5, 2) := by decide +kernel
theorem dX12_hire_35 : decode (mB 254) 35 = .ok (.iload 5, 2) := by decide +kernel
theorem dX12_hire_37 : decode (mB 254) 37 = .ok (.aload_n 0, 1) := by decide +kernel
theorem dX12_hire_38 : decode (mB 254) 38 = .ok (.getfield 122, 3) := by decide +kernel
theorem dX12_hire_41 : decode (mB 254) 41 = .ok (.if_icmp .ge 34, 3) := by decide +kernel
theorem dX12_hire_44 : decode (mB 254) 44 = .ok (.aload_n 0, 1) := by decide +kernel
theorem dX12_hire_45 : decode (mB 254) 45 = .ok (.getfield 24, 3) := by decide +kernel
theorem dX12_hire_48 : decode (mB 254) 48 = .ok (.iload 5, 2) := by decide +kernel
theorem dX12_hire_50 : decode (mB 254) 50 = .ok (.iaload, 1) := by decide +kernel
theorem dX12_hire_51 : decode (mB 254) 51 = .ok (.iload_n 1, 1) := by decide +kernel
theorem dX12_hire_52 : decode (mB 254) 52 = .ok (.if_icmp .ne 17, 3) := by decide +kernel
theorem dX12_hire_55 : decode (mB 254) 55 = .ok (.aload_n 0, 1) := by decide +kernel
theorem dX12_hire_56 : decode (mB 254) 56 = .ok (.getfield 30, 3) := by decide +kernel
theorem dX12_hire_59 : decode (mB 254) 59 = .ok (.iload 5, 2) := by decide +kernel
theorem dX12_hire_61 : decode (mB 254) 61 = .ok (.iaload, 1) := by decide +kernel
theorem dX12_hire_62 : decode (mB 254) 62 = .ok (.iconst 4, 1) := by decide +kernel
theorem dX12_hire_63 : decode (mB 254) 63 = .ok (.if_icmp .eq 6, 3) := by decide +kernel
theorem dX12_hire_66 : decode (mB 254) 66 = .ok (.iinc 4 1, 3) := by decide +kernel
theorem dX12_hire_69 : decode (mB 254) 69 = .ok (.iinc 5 1, 3) := by decide +kernel
theorem dX12_hire_72 : decode (mB 254) 72 = .ok (.goto (-37), 3) := by decide +kernel
theorem dX12_hire_75 : decode (mB 254) 75 = .ok (.iload_n 2, 1) := by decide +kernel
theorem dX12_hire_76 : decode (mB 254) 76 = .ok (.iload 4, 2) := by decide +kernel
theorem dX12_hire_78 : decode (mB 254) 78 = .ok (.if_icmp .le 6, 3) := by decide +kernel
theorem dX12_hire_81 : decode (mB 254) 81 = .ok (.bipush (-2), 2) := by decide +kernel
theorem dX12_hire_83 : decode (mB 254) 83 = .ok (.ireturn, 1) := by decide +kernel
theorem dX12_hire_84 : decode (mB 254) 84 = .ok (.iconst 0, 1) := by decide +kernel
theorem dX12_hire_85 : decode (mB 254) 85 = .ok (.istore 5, 2) := by decide +kernel
theorem dX12_hire_87 : decode (mB 254) 87 = .ok (.iload 5, 2) := by decide +kernel
theorem dX12_hire_89 : decode (mB 254) 89 = .ok (.aload_n 0, 1) := by decide +kernel
theorem dX12_hire_90 : decode (mB 254) 90 = .ok (.getfield 115, 3) := by decide +kernel
theorem dX12_hire_93 : decode (mB 254) 93 = .ok (.if_icmp .ge 44, 3) := by decide +kernel
theorem dX12_hire_96 : decode (mB 254) 96 = .ok (.aload_n 0, 1) := by decide +kernel
theorem dX12_hire_97 : decode (mB 254) 97 = .ok (.getfield 77, 3) := by decide +kernel
theorem dX12_hire_100 : decode (mB 254) 100 = .ok (.iload 5, 2) := by decide +kernel
theorem dX12_hire_102 : decode (mB 254) 102 = .ok (.iload 5, 2) := by decide +kernel
theorem dX12_hire_104 : decode (mB 254) 104 = .ok (.iload_n 1, 1) := by decide +kernel
theorem dX12_hire_105 : decode (mB 254) 105 = .ok (.if_icmp .eq 14, 3) := by decide +kernel
theorem dX12_hire_108 : decode (mB 254) 108 = .ok (.aload_n 0, 1) := by decide +kernel
theorem dX12_hire_109 : decode (mB 254) 109 = .ok (.getfield 15, 3) := by decide +kernel
theorem dX12_hire_112 : decode (mB 254) 112 = .ok (.iload 5, 2) := by decide +kernel
theorem dX12_hire_114 : decode (mB 254) 114 = .ok (.iaload, 1) := by decide +kernel
theorem dX12_hire_115 : decode (mB 254) 115 = .ok (.iconst 1, 1) := by decide +kernel
theorem dX12_hire_116 : decode (mB 254) 116 = .ok (.if_icmp .ne 7, 3) := by decide +kernel
theorem dX12_hire_119 : decode (mB 254) 119 = .ok (.iconst 0, 1) := by decide +kernel
theorem dX12_hire_120 : decode (mB 254) 120 = .ok (.goto 10, 3) := by decide +kernel
theorem dX12_hire_123 : decode (mB 254) 123 = .ok (.aload_n 0, 1) := by decide +kernel
theorem dX12_hire_124 : decode (mB 254) 124 = .ok (.getfield 21, 3) := by decide +kernel
theorem dX12_hire_127 : decode (mB 254) 127 = .ok (.iload 5, 2) := by decide +kernel
theorem dX12_hire_129 : decode (mB 254) 129 = .ok (.iaload, 1) := by decide +kernel
theorem dX12_hire_130 : decode (mB 254) 130 = .ok (.iastore, 1) := by decide +kernel
theorem dX12_hire_131 : decode (mB 254) 131 = .ok (.iinc 5 1, 3) := by decide +kernel
theorem dX12_hire_134 : decode (mB 254) 134 = .ok (.goto (-47), 3) := by decide +kernel
theorem dX12_hire_137 : decode (mB 254) 137 = .ok (.iconst 0, 1) := by decide +kernel
theorem dX12_hire_138 : decode (mB 254) 138 = .ok (.istore 5, 2) := by decide +kernel
theorem dX12_hire_140 : decode (mB 254) 140 = .ok (.bipush (-2), 2) := by decide +kernel
theorem dX12_hire_142 : decode (mB 254) 142 = .ok (.istore 6, 2) := by decide +kernel
theorem dX12_hire_144 : decode (mB 254) 144 = .ok (.iconst 0, 1) := by decide +kernel
theorem dX12_hire_145 : decode (mB 254) 145 = .ok (.istore 7, 2) := by decide +kernel
theorem dX12_hire_147 : decode (mB 254) 147 = .ok (.iload 7, 2) := by decide +kernel
theorem dX12_hire_149 : decode (mB 254) 149 = .ok (.iload_n 2, 1) := by decide +kernel
theorem dX12_hire_150 : decode (mB 254) 150 = .ok (.if_icmp .ge 102, 3) := by decide +kernel
theorem dX12_hire_153 : decode (mB 254) 153 = .ok (.bipush (-2), 2) := by decide +kernel
theorem dX12_hire_155 : decode (mB 254) 155 = .ok (.istore 8, 2) := by decide +kernel
theorem dX12_hire_157 : decode (mB 254) 157 = .ok (.iconst 0, 1) := by decide +kernel
theorem dX12_hire_158 : decode (mB 254) 158 = .ok (.istore 9, 2) := by decide +kernel
theorem dX12_hire_160 : decode (mB 254) 160 = .ok (.iload 9, 2) := by decide +kernel
theorem dX12_hire_162 : decode (mB 254) 162 = .ok (.aload_n 0, 1) := by decide +kernel
theorem dX12_hire_163 : decode (mB 254) 163 = .ok (.getfield 115, 3) := by decide +kernel
theorem dX12_hire_166 : decode (mB 254) 166 = .ok (.if_icmp .ge 45, 3) := by decide +kernel
theorem dX12_hire_169 : decode (mB 254) 169 = .ok (.aload_n 0, 1) := by decide +kernel
theorem dX12_hire_170 : decode (mB 254) 170 = .ok (.getfield 77, 3) := by decide +kernel
theorem dX12_hire_173 : decode (mB 254) 173 = .ok (.iload 9, 2) := by decide +kernel
theorem dX12_hire_175 : decode (mB 254) 175 = .ok (.iaload, 1) := by decide +kernel
theorem dX12_hire_176 : decode (mB 254) 176 = .ok (.ifCond .le 29, 3) := by decide +kernel
theorem dX12_hire_179 : decode (mB 254) 179 = .ok (.iload 8, 2) := by decide +kernel
theorem dX12_hire_181 : decode (mB 254) 181 = .ok (.ifCond .lt 20, 3) := by decide +kernel
theorem dX12_hire_184 : decode (mB 254) 184 = .ok (.aload_n 0, 1) := by decide +kernel
theorem dX12_hire_185 : decode (mB 254) 185 = .ok (.getfield 18, 3) := by decide +kernel
theorem dX12_hire_188 : decode (mB 254) 188 = .ok (.iload 9, 2) := by decide +kernel
theorem dX12_hire_190 : decode (mB 254) 190 = .ok (.iaload, 1) := by decide +kernel
theorem dX12_hire_191 : decode (mB 254) 191 = .ok (.aload_n 0, 1) := by decide +kernel
theorem dX12_hire_192 : decode (mB 254) 192 = .ok (.getfield 18, 3) := by decide +kernel
theorem dX12_hire_195 : decode (mB 254) 195 = .ok (.iload 8, 2) := by decide +kernel
theorem dX12_hire_197 : decode (mB 254) 197 = .ok (.iaload, 1) := by decide +kernel
theorem dX12_hire_198 : decode (mB 254) 198 = .ok (.if_icmp .ge 7, 3) := by decide +kernel
theorem dX12_hire_201 : decode (mB 254) 201 = .ok (.iload 9, 2) := by decide +kernel
theorem dX12_hire_203 : decode (mB 254) 203 = .ok (.istore 8, 2) := by decide +kernel
theorem dX12_hire_205 : decode (mB 254) 205 = .ok (.iinc 9 1, 3) := by decide +kernel
theorem dX12_hire_208 : decode (mB 254) 208 = .ok (.goto (-48), 3) := by decide +kernel
theorem dX12_hire_211 : decode (mB 254) 211 = .ok (.iload 8, 2) := by decide +kernel
theorem dX12_hire_213 : decode (mB 254) 213 = .ok (.ifCond .ge 6, 3) := by decide +kernel
theorem dX12_hire_216 : decode (mB 254) 216 = .ok (.bipush (-2), 2) := by decide +kernel
theorem dX12_hire_218 : decode (mB 254) 218 = .ok (.ireturn, 1) := by decide +kernel
theorem dX12_hire_219 : decode (mB 254) 219 = .ok (.aload_n 0, 1) := by decide +kernel
theorem dX12_hire_220 : decode (mB 254) 220 = .ok (.getfield 77, 3) := by decide +kernel
theorem dX12_hire_223 : decode (mB 254) 223 = .ok (.iload 8, 2) := by decide +kernel
theorem dX12_hire_225 : decode (mB 254) 225 = .ok (.dup2, 1) := by decide +kernel
theorem dX12_hire_226 : decode (mB 254) 226 = .ok (.iaload, 1) := by decide +kernel
theorem dX12_hire_227 : decode (mB 254) 227 = .ok (.iconst 1, 1) := by decide +kernel
theorem dX12_hire_228 : decode (mB 254) 228 = .ok (.isub, 1) := by decide +kernel
theorem dX12_hire_229 : decode (mB 254) 229 = .ok (.iastore, 1) := by decide +kernel
theorem dX12_hire_230 : decode (mB 254) 230 = .ok (.iload 5, 2) := by decide +kernel
theorem dX12_hire_232 : decode (mB 254) 232 = .ok (.aload_n 0, 1) := by decide +kernel
theorem dX12_hire_233 : decode (mB 254) 233 = .ok (.getfield 18, 3) := by decide +kernel
theorem dX12_hire_236 : decode (mB 254) 236 = .ok (.iload 8, 2) := by decide +kernel
theorem dX12_hire_238 : decode (mB 254) 238 = .ok (.iaload, 1) := by decide +kernel
theorem dX12_hire_239 : decode (mB 254) 239 = .ok (.iadd, 1) := by decide +kernel
theorem dX12_hire_240 : decode (mB 254) 240 = .ok (.istore 5, 2) := by decide +kernel
theorem dX12_hire_242 : decode (mB 254) 242 = .ok (.iload 8, 2) := by decide +kernel
theorem dX12_hire_244 : decode (mB 254) 244 = .ok (.istore 6, 2) := by decide +kernel
theorem dX12_hire_246 : decode (mB 254) 246 = .ok (.iinc 7 1, 3) := by decide +kernel
theorem dX12_hire_249 : decode (mB 254) 249 = .ok (.goto (-102), 3) := by decide +kernel
theorem dX12_hire_252 : decode (mB 254) 252 = .ok (.iload_n 3, 1) := by decide +kernel
theorem dX12_hire_253 : decode (mB 254) 253 = .ok (.ifCond .ne 8, 3) := by decide +kernel
theorem dX12_hire_256 : decode (mB 254) 256 = .ok (.iload 5, 2) := by decide +kernel
theorem dX12_hire_258 : decode (mB 254) 258 = .ok (.goto 5, 3) := by decide +kernel
theorem dX12_hire_261 : decode (mB 254) 261 = .ok (.iload 6, 2) := by decide +kernel
theorem dX12_hire_263 : decode (mB 254) 263 = .ok (.ireturn, 1) := by decide +kernel
