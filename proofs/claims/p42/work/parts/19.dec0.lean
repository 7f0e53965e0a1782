theorem gX0_init_0 : dq 0 0 (.aload_n 0) 1 = true ∧ dq 0 1 (.invokespecial 1) 3 = true ∧ dq 0 4 (.aload_n 0) 1 = true ∧ dq 0 5 (.aload_n 1) 1 = true ∧ dq 0 6 (.putfield 7) 3 = true ∧ dq 0 9 (.aload_n 0) 1 = true ∧ dq 0 10 (.bipush 40) 2 = true ∧ dq 0 12 (.newarray .int) 2 = true ∧ dq 0 14 (.putfield 13) 3 = true ∧ dq 0 17 (.aload_n 0) 1 = true ∧ dq 0 18 (.bipush 40) 2 = true ∧ dq 0 20 (.newarray .int) 2 = true ∧ dq 0 22 (.putfield 17) 3 = true ∧ dq 0 25 (.aload_n 0) 1 = true ∧ dq 0 26 (.bipush 40) 2 = true ∧ dq 0 28 (.newarray .int) 2 = true := by decide +kernel
theorem dX0_init_0 : decode (mB 0) 0 = .ok (.aload_n 0, 1) := dqo gX0_init_0.1
theorem dX0_init_1 : decode (mB 0) 1 = .ok (.invokespecial 1, 3) := dqo gX0_init_0.2.1
theorem dX0_init_4 : decode (mB 0) 4 = .ok (.aload_n 0, 1) := dqo gX0_init_0.2.2.1
theorem dX0_init_5 : decode (mB 0) 5 = .ok (.aload_n 1, 1) := dqo gX0_init_0.2.2.2.1
theorem dX0_init_6 : decode (mB 0) 6 = .ok (.putfield 7, 3) := dqo gX0_init_0.2.2.2.2.1
theorem dX0_init_9 : decode (mB 0) 9 = .ok (.aload_n 0, 1) := dqo gX0_init_0.2.2.2.2.2.1
theorem dX0_init_10 : decode (mB 0) 10 = .ok (.bipush 40, 2) := dqo gX0_init_0.2.2.2.2.2.2.1
theorem dX0_init_12 : decode (mB 0) 12 = .ok (.newarray .int, 2) := dqo gX0_init_0.2.2.2.2.2.2.2.1
theorem dX0_init_14 : decode (mB 0) 14 = .ok (.putfield 13, 3) := dqo gX0_init_0.2.2.2.2.2.2.2.2.1
theorem dX0_init_17 : decode (mB 0) 17 = .ok (.aload_n 0, 1) := dqo gX0_init_0.2.2.2.2.2.2.2.2.2.1
theorem dX0_init_18 : decode (mB 0) 18 = .ok (.bipush 40, 2) := dqo gX0_init_0.2.2.2.2.2.2.2.2.2.2.1
theorem dX0_init_20 : decode (mB 0) 20 = .ok (.newarray .int, 2) := dqo gX0_init_0.2.2.2.2.2.2.2.2.2.2.2.1
theorem dX0_init_22 : decode (mB 0) 22 = .ok (.putfield 17, 3) := dqo gX0_init_0.2.2.2.2.2.2.2.2.2.2.2.2.1
theorem dX0_init_25 : decode (mB 0) 25 = .ok (.aload_n 0, 1) := dqo gX0_init_0.2.2.2.2.2.2.2.2.2.2.2.2.2.1
theorem dX0_init_26 : decode (mB 0) 26 = .ok (.bipush 40, 2) := dqo gX0_init_0.2.2.2.2.2.2.2.2.2.2.2.2.2.2.1
theorem dX0_init_28 : decode (mB 0) 28 = .ok (.newarray .int, 2) := dqo gX0_init_0.2.2.2.2.2.2.2.2.2.2.2.2.2.2.2
theorem gX0_init_30 : dq 0 30 (.putfield 20) 3 = true ∧ dq 0 33 (.aload_n 0) 1 = true ∧ dq 0 34 (.bipush 40) 2 = true ∧ dq 0 36 (.newarray .int) 2 = true ∧ dq 0 38 (.putfield 23) 3 = true ∧ dq 0 41 (.return_) 1 = true := by decide +kernel
theorem dX0_init_30 : decode (mB 0) 30 = .ok (.putfield 20, 3) := dqo gX0_init_30.1
theorem dX0_init_33 : decode (mB 0) 33 = .ok (.aload_n 0, 1) := dqo gX0_init_30.2.1
theorem dX0_init_34 : decode (mB 0) 34 = .ok (.bipush 40, 2) := dqo gX0_init_30.2.2.1
theorem dX0_init_36 : decode (mB 0) 36 = .ok (.newarray .int, 2) := dqo gX0_init_30.2.2.2.1
theorem dX0_init_38 : decode (mB 0) 38 = .ok (.putfield 23, 3) := dqo gX0_init_30.2.2.2.2.1
theorem dX0_init_41 : decode (mB 0) 41 = .ok (.return_, 1) := dqo gX0_init_30.2.2.2.2.2
theorem gX0_done_0 : dq 1 0 (.aload_n 0) 1 = true ∧ dq 1 1 (.getfield 26) 3 = true ∧ dq 1 4 (.ireturn) 1 = true := by decide +kernel
theorem dX0_done_0 : decode (mB 1) 0 = .ok (.aload_n 0, 1) := dqo gX0_done_0.1
theorem dX0_done_1 : decode (mB 1) 1 = .ok (.getfield 26, 3) := dqo gX0_done_0.2.1
theorem dX0_done_4 : decode (mB 1) 4 = .ok (.ireturn, 1) := dqo gX0_done_0.2.2
theorem gX0_undone_0 : dq 2 0 (.aload_n 0) 1 = true ∧ dq 2 1 (.getfield 30) 3 = true ∧ dq 2 4 (.ireturn) 1 = true := by decide +kernel
theorem dX0_undone_0 : decode (mB 2) 0 = .ok (.aload_n 0, 1) := dqo gX0_undone_0.1
theorem dX0_undone_1 : decode (mB 2) 1 = .ok (.getfield 30, 3) := dqo gX0_undone_0.2.1
theorem dX0_undone_4 : decode (mB 2) 4 = .ok (.ireturn, 1) := dqo gX0_undone_0.2.2
theorem gX0_add_0 : dq 3 0 (.aload_n 0) 1 = true ∧ dq 3 1 (.getfield 26) 3 = true ∧ dq 3 4 (.bipush 40) 2 = true ∧ dq 3 6 (.if_icmp .lt 7) 3 = true ∧ dq 3 9 (.aload_n 0) 1 = true ∧ dq 3 10 (.invokevirtual 33) 3 = true ∧ dq 3 13 (.aload_n 0) 1 = true ∧ dq 3 14 (.getfield 13) 3 = true ∧ dq 3 17 (.aload_n 0) 1 = true ∧ dq 3 18 (.getfield 26) 3 = true ∧ dq 3 21 (.iload_n 1) 1 = true ∧ dq 3 22 (.iastore) 1 = true ∧ dq 3 23 (.aload_n 0) 1 = true ∧ dq 3 24 (.getfield 17) 3 = true ∧ dq 3 27 (.aload_n 0) 1 = true ∧ dq 3 28 (.getfield 26) 3 = true := by decide +kernel
theorem dX0_add_0 : decode (mB 3) 0 = .ok (.aload_n 0, 1) := dqo gX0_add_0.1
theorem dX0_add_1 : decode (mB 3) 1 = .ok (.getfield 26, 3) := dqo gX0_add_0.2.1
theorem dX0_add_4 : decode (mB 3) 4 = .ok (.bipush 40, 2) := dqo gX0_add_0.2.2.1
theorem dX0_add_6 : decode (mB 3) 6 = .ok (.if_icmp .lt 7, 3) := dqo gX0_add_0.2.2.2.1
theorem dX0_add_9 : decode (mB 3) 9 = .ok (.aload_n 0, 1) := dqo gX0_add_0.2.2.2.2.1
theorem dX0_add_10 : decode (mB 3) 10 = .ok (.invokevirtual 33, 3) := dqo gX0_add_0.2.2.2.2.2.1
theorem dX0_add_13 : decode (mB 3) 13 = .ok (.aload_n 0, 1) := dqo gX0_add_0.2.2.2.2.2.2.1
theorem dX0_add_14 : decode (mB 3) 14 = .ok (.getfield 13, 3) := dqo gX0_add_0.2.2.2.2.2.2.2.1
theorem dX0_add_17 : decode (mB 3) 17 = .ok (.aload_n 0, 1) := dqo gX0_add_0.2.2.2.2.2.2.2.2.1
theorem dX0_add_18 : decode (mB 3) 18 = .ok (.getfield 26, 3) := dqo gX0_add_0.2.2.2.2.2.2.2.2.2.1
theorem dX0_add_21 : decode (mB 3) 21 = .ok (.iload_n 1, 1) := dqo gX0_add_0.2.2.2.2.2.2.2.2.2.2.1
theorem dX0_add_22 : decode (mB 3) 22 = .ok (.iastore, 1) := dqo gX0_add_0.2.2.2.2.2.2.2.2.2.2.2.1
theorem dX0_add_23 : decode (mB 3) 23 = .ok (.aload_n 0, 1) := dqo gX0_add_0.2.2.2.2.2.2.2.2.2.2.2.2.1
theorem dX0_add_24 : decode (mB 3) 24 = .ok (.getfield 17, 3) := dqo gX0_add_0.2.2.2.2.2.2.2.2.2.2.2.2.2.1
theorem dX0_add_27 : decode (mB 3) 27 = .ok (.aload_n 0, 1) := dqo gX0_add_0.2.2.2.2.2.2.2.2.2.2.2.2.2.2.1
theorem dX0_add_28 : decode (mB 3) 28 = .ok (.getfield 26, 3) := dqo gX0_add_0.2.2.2.2.2.2.2.2.2.2.2.2.2.2.2
theorem gX0_add_31 : dq 3 31 (.iload_n 2) 1 = true ∧ dq 3 32 (.iastore) 1 = true ∧ dq 3 33 (.aload_n 0) 1 = true ∧ dq 3 34 (.getfield 20) 3 = true ∧ dq 3 37 (.aload_n 0) 1 = true ∧ dq 3 38 (.getfield 26) 3 = true ∧ dq 3 41 (.iload_n 3) 1 = true ∧ dq 3 42 (.iastore) 1 = true ∧ dq 3 43 (.aload_n 0) 1 = true ∧ dq 3 44 (.getfield 23) 3 = true ∧ dq 3 47 (.aload_n 0) 1 = true ∧ dq 3 48 (.getfield 26) 3 = true ∧ dq 3 51 (.iload 4) 2 = true ∧ dq 3 53 (.iastore) 1 = true ∧ dq 3 54 (.aload_n 0) 1 = true ∧ dq 3 55 (.dup) 1 = true := by decide +kernel
theorem dX0_add_31 : decode (mB 3) 31 = .ok (.iload_n 2, 1) := dqo gX0_add_31.1
theorem dX0_add_32 : decode (mB 3) 32 = .ok (.iastore, 1) := dqo gX0_add_31.2.1
theorem dX0_add_33 : decode (mB 3) 33 = .ok (.aload_n 0, 1) := dqo gX0_add_31.2.2.1
theorem dX0_add_34 : decode (mB 3) 34 = .ok (.getfield 20, 3) := dqo gX0_add_31.2.2.2.1
theorem dX0_add_37 : decode (mB 3) 37 = .ok (.aload_n 0, 1) := dqo gX0_add_31.2.2.2.2.1
theorem dX0_add_38 : decode (mB 3) 38 = .ok (.getfield 26, 3) := dqo gX0_add_31.2.2.2.2.2.1
theorem dX0_add_41 : decode (mB 3) 41 = .ok (.iload_n 3, 1) := dqo gX0_add_31.2.2.2.2.2.2.1
theorem dX0_add_42 : decode (mB 3) 42 = .ok (.iastore, 1) := dqo gX0_add_31.2.2.2.2.2.2.2.1
theorem dX0_add_43 : decode (mB 3) 43 = .ok (.aload_n 0, 1) := dqo gX0_add_31.2.2.2.2.2.2.2.2.1
theorem dX0_add_44 : decode (mB 3) 44 = .ok (.getfield 23, 3) := dqo gX0_add_31.2.2.2.2.2.2.2.2.2.1
theorem dX0_add_47 : decode (mB 3) 47 = .ok (.aload_n 0, 1) := dqo gX0_add_31.2.2.2.2.2.2.2.2.2.2.1
theorem dX0_add_48 : decode (mB 3) 48 = .ok (.getfield 26, 3) := dqo gX0_add_31.2.2.2.2.2.2.2.2.2.2.2.1
theorem dX0_add_51 : decode (mB 3) 51 = .ok (.iload 4, 2) := dqo gX0_add_31.2.2.2.2.2.2.2.2.2.2.2.2.1
theorem dX0_add_53 : decode (mB 3) 53 = .ok (.iastore, 1) := dqo gX0_add_31.2.2.2.2.2.2.2.2.2.2.2.2.2.1
theorem dX0_add_54 : decode (mB 3) 54 = .ok (.aload_n 0, 1) := dqo gX0_add_31.2.2.2.2.2.2.2.2.2.2.2.2.2.2.1
theorem dX0_add_55 : decode (mB 3) 55 = .ok (.dup, 1) := dqo gX0_add_31.2.2.2.2.2.2.2.2.2.2.2.2.2.2.2
theorem gX0_add_56 : dq 3 56 (.getfield 26) 3 = true ∧ dq 3 59 (.iconst 1) 1 = true ∧ dq 3 60 (.iadd) 1 = true ∧ dq 3 61 (.putfield 26) 3 = true ∧ dq 3 64 (.aload_n 0) 1 = true ∧ dq 3 65 (.iconst 0) 1 = true ∧ dq 3 66 (.putfield 30) 3 = true ∧ dq 3 69 (.return_) 1 = true := by decide +kernel
theorem dX0_add_56 : decode (mB 3) 56 = .ok (.getfield 26, 3) := dqo gX0_add_56.1
theorem dX0_add_59 : decode (mB 3) 59 = .ok (.iconst 1, 1) := dqo gX0_add_56.2.1
theorem dX0_add_60 : decode (mB 3) 60 = .ok (.iadd, 1) := dqo gX0_add_56.2.2.1
theorem dX0_add_61 : decode (mB 3) 61 = .ok (.putfield 26, 3) := dqo gX0_add_56.2.2.2.1
theorem dX0_add_64 : decode (mB 3) 64 = .ok (.aload_n 0, 1) := dqo gX0_add_56.2.2.2.2.1
theorem dX0_add_65 : decode (mB 3) 65 = .ok (.iconst 0, 1) := dqo gX0_add_56.2.2.2.2.2.1
theorem dX0_add_66 : decode (mB 3) 66 = .ok (.putfield 30, 3) := dqo gX0_add_56.2.2.2.2.2.2.1
theorem dX0_add_69 : decode (mB 3) 69 = .ok (.return_, 1) := dqo gX0_add_56.2.2.2.2.2.2.2
theorem gX0_forgetOldest_0 : dq 4 0 (.aload_n 0) 1 = true ∧ dq 4 1 (.getfield 13) 3 = true ∧ dq 4 4 (.iconst 1) 1 = true ∧ dq 4 5 (.aload_n 0) 1 = true ∧ dq 4 6 (.getfield 13) 3 = true ∧ dq 4 9 (.iconst 0) 1 = true ∧ dq 4 10 (.bipush 39) 2 = true ∧ dq 4 12 (.invokestatic 36) 3 = true ∧ dq 4 15 (.aload_n 0) 1 = true ∧ dq 4 16 (.getfield 17) 3 = true ∧ dq 4 19 (.iconst 1) 1 = true ∧ dq 4 20 (.aload_n 0) 1 = true ∧ dq 4 21 (.getfield 17) 3 = true ∧ dq 4 24 (.iconst 0) 1 = true ∧ dq 4 25 (.bipush 39) 2 = true ∧ dq 4 27 (.invokestatic 36) 3 = true := by decide +kernel
theorem dX0_forgetOldest_0 : decode (mB 4) 0 = .ok (.aload_n 0, 1) := dqo gX0_forgetOldest_0.1
theorem dX0_forgetOldest_1 : decode (mB 4) 1 = .ok (.getfield 13, 3) := dqo gX0_forgetOldest_0.2.1
theorem dX0_forgetOldest_4 : decode (mB 4) 4 = .ok (.iconst 1, 1) := dqo gX0_forgetOldest_0.2.2.1
theorem dX0_forgetOldest_5 : decode (mB 4) 5 = .ok (.aload_n 0, 1) := dqo gX0_forgetOldest_0.2.2.2.1
theorem dX0_forgetOldest_6 : decode (mB 4) 6 = .ok (.getfield 13, 3) := dqo gX0_forgetOldest_0.2.2.2.2.1
theorem dX0_forgetOldest_9 : decode (mB 4) 9 = .ok (.iconst 0, 1) := dqo gX0_forgetOldest_0.2.2.2.2.2.1
theorem dX0_forgetOldest_10 : decode (mB 4) 10 = .ok (.bipush 39, 2) := dqo gX0_forgetOldest_0.2.2.2.2.2.2.1
theorem dX0_forgetOldest_12 : decode (mB 4) 12 = .ok (.invokestatic 36, 3) := dqo gX0_forgetOldest_0.2.2.2.2.2.2.2.1
theorem dX0_forgetOldest_15 : decode (mB 4) 15 = .ok (.aload_n 0, 1) := dqo gX0_forgetOldest_0.2.2.2.2.2.2.2.2.1
theorem dX0_forgetOldest_16 : decode (mB 4) 16 = .ok (.getfield 17, 3) := dqo gX0_forgetOldest_0.2.2.2.2.2.2.2.2.2.1
theorem dX0_forgetOldest_19 : decode (mB 4) 19 = .ok (.iconst 1, 1) := dqo gX0_forgetOldest_0.2.2.2.2.2.2.2.2.2.2.1
theorem dX0_forgetOldest_20 : decode (mB 4) 20 = .ok (.aload_n 0, 1) := dqo gX0_forgetOldest_0.2.2.2.2.2.2.2.2.2.2.2.1
theorem dX0_forgetOldest_21 : decode (mB 4) 21 = .ok (.getfield 17, 3) := dqo gX0_forgetOldest_0.2.2.2.2.2.2.2.2.2.2.2.2.1
theorem dX0_forgetOldest_24 : decode (mB 4) 24 = .ok (.iconst 0, 1) := dqo gX0_forgetOldest_0.2.2.2.2.2.2.2.2.2.2.2.2.2.1
theorem dX0_forgetOldest_25 : decode (mB 4) 25 = .ok (.bipush 39, 2) := dqo gX0_forgetOldest_0.2.2.2.2.2.2.2.2.2.2.2.2.2.2.1
theorem dX0_forgetOldest_27 : decode (mB 4) 27 = .ok (.invokestatic 36, 3) := dqo gX0_forgetOldest_0.2.2.2.2.2.2.2.2.2.2.2.2.2.2.2
theorem gX0_forgetOldest_30 : dq 4 30 (.aload_n 0) 1 = true ∧ dq 4 31 (.getfield 20) 3 = true ∧ dq 4 34 (.iconst 1) 1 = true ∧ dq 4 35 (.aload_n 0) 1 = true ∧ dq 4 36 (.getfield 20) 3 = true ∧ dq 4 39 (.iconst 0) 1 = true ∧ dq 4 40 (.bipush 39) 2 = true ∧ dq 4 42 (.invokestatic 36) 3 = true ∧ dq 4 45 (.aload_n 0) 1 = true ∧ dq 4 46 (.getfield 23) 3 = true ∧ dq 4 49 (.iconst 1) 1 = true ∧ dq 4 50 (.aload_n 0) 1 = true ∧ dq 4 51 (.getfield 23) 3 = true ∧ dq 4 54 (.iconst 0) 1 = true ∧ dq 4 55 (.bipush 39) 2 = true ∧ dq 4 57 (.invokestatic 36) 3 = true := by decide +kernel
theorem dX0_forgetOldest_30 : decode (mB 4) 30 = .ok (.aload_n 0, 1) := dqo gX0_forgetOldest_30.1
theorem dX0_forgetOldest_31 : decode (mB 4) 31 = .ok (.getfield 20, 3) := dqo gX0_forgetOldest_30.2.1
theorem dX0_forgetOldest_34 : decode (mB 4) 34 = .ok (.iconst 1, 1) := dqo gX0_forgetOldest_30.2.2.1
theorem dX0_forgetOldest_35 : decode (mB 4) 35 = .ok (.aload_n 0, 1) := dqo gX0_forgetOldest_30.2.2.2.1
theorem dX0_forgetOldest_36 : decode (mB 4) 36 = .ok (.getfield 20, 3) := dqo gX0_forgetOldest_30.2.2.2.2.1
theorem dX0_forgetOldest_39 : decode (mB 4) 39 = .ok (.iconst 0, 1) := dqo gX0_forgetOldest_30.2.2.2.2.2.1
theorem dX0_forgetOldest_40 : decode (mB 4) 40 = .ok (.bipush 39, 2) := dqo gX0_forgetOldest_30.2.2.2.2.2.2.1
theorem dX0_forgetOldest_42 : decode (mB 4) 42 = .ok (.invokestatic 36, 3) := dqo gX0_forgetOldest_30.2.2.2.2.2.2.2.1
theorem dX0_forgetOldest_45 : decode (mB 4) 45 = .ok (.aload_n 0, 1) := dqo gX0_forgetOldest_30.2.2.2.2.2.2.2.2.1
theorem dX0_forgetOldest_46 : decode (mB 4) 46 = .ok (.getfield 23, 3) := dqo gX0_forgetOldest_30.2.2.2.2.2.2.2.2.2.1
theorem dX0_forgetOldest_49 : decode (mB 4) 49 = .ok (.iconst 1, 1) := dqo gX0_forgetOldest_30.2.2.2.2.2.2.2.2.2.2.1
theorem dX0_forgetOldest_50 : decode (mB 4) 50 = .ok (.aload_n 0, 1) := dqo gX0_forgetOldest_30.2.2.2.2.2.2.2.2.2.2.2.1
theorem dX0_forgetOldest_51 : decode (mB 4) 51 = .ok (.getfield 23, 3) := dqo gX0_forgetOldest_30.2.2.2.2.2.2.2.2.2.2.2.2.1
theorem dX0_forgetOldest_54 : decode (mB 4) 54 = .ok (.iconst 0, 1) := dqo gX0_forgetOldest_30.2.2.2.2.2.2.2.2.2.2.2.2.2.1
theorem dX0_forgetOldest_55 : decode (mB 4) 55 = .ok (.bipush 39, 2) := dqo gX0_forgetOldest_30.2.2.2.2.2.2.2.2.2.2.2.2.2.2.1
theorem dX0_forgetOldest_57 : decode (mB 4) 57 = .ok (.invokestatic 36, 3) := dqo gX0_forgetOldest_30.2.2.2.2.2.2.2.2.2.2.2.2.2.2.2
theorem gX0_forgetOldest_60 : dq 4 60 (.aload_n 0) 1 = true ∧ dq 4 61 (.bipush 39) 2 = true ∧ dq 4 63 (.putfield 26) 3 = true ∧ dq 4 66 (.return_) 1 = true := by decide +kernel
theorem dX0_forgetOldest_60 : decode (mB 4) 60 = .ok (.aload_n 0, 1) := dqo gX0_forgetOldest_60.1
theorem dX0_forgetOldest_61 : decode (mB 4) 61 = .ok (.bipush 39, 2) := dqo gX0_forgetOldest_60.2.1
theorem dX0_forgetOldest_63 : decode (mB 4) 63 = .ok (.putfield 26, 3) := dqo gX0_forgetOldest_60.2.2.1
theorem dX0_forgetOldest_66 : decode (mB 4) 66 = .ok (.return_, 1) := dqo gX0_forgetOldest_60.2.2.2
theorem gX0_undoLatest_0 : dq 5 0 (.aload_n 0) 1 = true ∧ dq 5 1 (.getfield 26) 3 = true ∧ dq 5 4 (.ifCond .le 57) 3 = true ∧ dq 5 7 (.aload_n 0) 1 = true ∧ dq 5 8 (.dup) 1 = true ∧ dq 5 9 (.getfield 26) 3 = true ∧ dq 5 12 (.iconst 1) 1 = true ∧ dq 5 13 (.isub) 1 = true ∧ dq 5 14 (.putfield 26) 3 = true ∧ dq 5 17 (.aload_n 0) 1 = true ∧ dq 5 18 (.dup) 1 = true ∧ dq 5 19 (.getfield 30) 3 = true ∧ dq 5 22 (.iconst 1) 1 = true ∧ dq 5 23 (.iadd) 1 = true ∧ dq 5 24 (.putfield 30) 3 = true ∧ dq 5 27 (.aload_n 0) 1 = true := by decide +kernel
theorem dX0_undoLatest_0 : decode (mB 5) 0 = .ok (.aload_n 0, 1) := dqo gX0_undoLatest_0.1
theorem dX0_undoLatest_1 : decode (mB 5) 1 = .ok (.getfield 26, 3) := dqo gX0_undoLatest_0.2.1
theorem dX0_undoLatest_4 : decode (mB 5) 4 = .ok (.ifCond .le 57, 3) := dqo gX0_undoLatest_0.2.2.1
theorem dX0_undoLatest_7 : decode (mB 5) 7 = .ok (.aload_n 0, 1) := dqo gX0_undoLatest_0.2.2.2.1
theorem dX0_undoLatest_8 : decode (mB 5) 8 = .ok (.dup, 1) := dqo gX0_undoLatest_0.2.2.2.2.1
theorem dX0_undoLatest_9 : decode (mB 5) 9 = .ok (.getfield 26, 3) := dqo gX0_undoLatest_0.2.2.2.2.2.1
theorem dX0_undoLatest_12 : decode (mB 5) 12 = .ok (.iconst 1, 1) := dqo gX0_undoLatest_0.2.2.2.2.2.2.1
theorem dX0_undoLatest_13 : decode (mB 5) 13 = .ok (.isub, 1) := dqo gX0_undoLatest_0.2.2.2.2.2.2.2.1
theorem dX0_undoLatest_14 : decode (mB 5) 14 = .ok (.putfield 26, 3) := dqo gX0_undoLatest_0.2.2.2.2.2.2.2.2.1
theorem dX0_undoLatest_17 : decode (mB 5) 17 = .ok (.aload_n 0, 1) := dqo gX0_undoLatest_0.2.2.2.2.2.2.2.2.2.1
theorem dX0_undoLatest_18 : decode (mB 5) 18 = .ok (.dup, 1) := dqo gX0_undoLatest_0.2.2.2.2.2.2.2.2.2.2.1
theorem dX0_undoLatest_19 : decode (mB 5) 19 = .ok (.getfield 30, 3) := dqo gX0_undoLatest_0.2.2.2.2.2.2.2.2.2.2.2.1
theorem dX0_undoLatest_22 : decode (mB 5) 22 = .ok (.iconst 1, 1) := dqo gX0_undoLatest_0.2.2.2.2.2.2.2.2.2.2.2.2.1
theorem dX0_undoLatest_23 : decode (mB 5) 23 = .ok (.iadd, 1) := dqo gX0_undoLatest_0.2.2.2.2.2.2.2.2.2.2.2.2.2.1
theorem dX0_undoLatest_24 : decode (mB 5) 24 = .ok (.putfield 30, 3) := dqo gX0_undoLatest_0.2.2.2.2.2.2.2.2.2.2.2.2.2.2.1
theorem dX0_undoLatest_27 : decode (mB 5) 27 = .ok (.aload_n 0, 1) := dqo gX0_undoLatest_0.2.2.2.2.2.2.2.2.2.2.2.2.2.2.2
theorem gX0_undoLatest_28 : dq 5 28 (.getfield 7) 3 = true ∧ dq 5 31 (.aload_n 0) 1 = true ∧ dq 5 32 (.getfield 13) 3 = true ∧ dq 5 35 (.aload_n 0) 1 = true ∧ dq 5 36 (.getfield 26) 3 = true ∧ dq 5 39 (.iaload) 1 = true ∧ dq 5 40 (.aload_n 0) 1 = true ∧ dq 5 41 (.getfield 17) 3 = true ∧ dq 5 44 (.aload_n 0) 1 = true ∧ dq 5 45 (.getfield 26) 3 = true ∧ dq 5 48 (.iaload) 1 = true ∧ dq 5 49 (.aload_n 0) 1 = true ∧ dq 5 50 (.getfield 20) 3 = true ∧ dq 5 53 (.aload_n 0) 1 = true ∧ dq 5 54 (.getfield 26) 3 = true ∧ dq 5 57 (.iaload) 1 = true := by decide +kernel
theorem dX0_undoLatest_28 : decode (mB 5) 28 = .ok (.getfield 7, 3) := dqo gX0_undoLatest_28.1
theorem dX0_undoLatest_31 : decode (mB 5) 31 = .ok (.aload_n 0, 1) := dqo gX0_undoLatest_28.2.1
theorem dX0_undoLatest_32 : decode (mB 5) 32 = .ok (.getfield 13, 3) := dqo gX0_undoLatest_28.2.2.1
theorem dX0_undoLatest_35 : decode (mB 5) 35 = .ok (.aload_n 0, 1) := dqo gX0_undoLatest_28.2.2.2.1
theorem dX0_undoLatest_36 : decode (mB 5) 36 = .ok (.getfield 26, 3) := dqo gX0_undoLatest_28.2.2.2.2.1
theorem dX0_undoLatest_39 : decode (mB 5) 39 = .ok (.iaload, 1) := dqo gX0_undoLatest_28.2.2.2.2.2.1
theorem dX0_undoLatest_40 : decode (mB 5) 40 = .ok (.aload_n 0, 1) := dqo gX0_undoLatest_28.2.2.2.2.2.2.1
theorem dX0_undoLatest_41 : decode (mB 5) 41 = .ok (.getfield 17, 3) := dqo gX0_undoLatest_28.2.2.2.2.2.2.2.1
theorem dX0_undoLatest_44 : decode (mB 5) 44 = .ok (.aload_n 0, 1) := dqo gX0_undoLatest_28.2.2.2.2.2.2.2.2.1
theorem dX0_undoLatest_45 : decode (mB 5) 45 = .ok (.getfield 26, 3) := dqo gX0_undoLatest_28.2.2.2.2.2.2.2.2.2.1
theorem dX0_undoLatest_48 : decode (mB 5) 48 = .ok (.iaload, 1) := dqo gX0_undoLatest_28.2.2.2.2.2.2.2.2.2.2.1
theorem dX0_undoLatest_49 : decode (mB 5) 49 = .ok (.aload_n 0, 1) := dqo gX0_undoLatest_28.2.2.2.2.2.2.2.2.2.2.2.1
theorem dX0_undoLatest_50 : decode (mB 5) 50 = .ok (.getfield 20, 3) := dqo gX0_undoLatest_28.2.2.2.2.2.2.2.2.2.2.2.2.1
theorem dX0_undoLatest_53 : decode (mB 5) 53 = .ok (.aload_n 0, 1) := dqo gX0_undoLatest_28.2.2.2.2.2.2.2.2.2.2.2.2.2.1
theorem dX0_undoLatest_54 : decode (mB 5) 54 = .ok (.getfield 26, 3) := dqo gX0_undoLatest_28.2.2.2.2.2.2.2.2.2.2.2.2.2.2.1
theorem dX0_undoLatest_57 : decode (mB 5) 57 = .ok (.iaload, 1) := dqo gX0_undoLatest_28.2.2.2.2.2.2.2.2.2.2.2.2.2.2.2
theorem gX0_undoLatest_58 : dq 5 58 (.invokevirtual 42) 3 = true ∧ dq 5 61 (.return_) 1 = true := by decide +kernel
theorem dX0_undoLatest_58 : decode (mB 5) 58 = .ok (.invokevirtual 42, 3) := dqo gX0_undoLatest_58.1
theorem dX0_undoLatest_61 : decode (mB 5) 61 = .ok (.return_, 1) := dqo gX0_undoLatest_58.2
theorem gX0_redoNext_0 : dq 6 0 (.aload_n 0) 1 = true ∧ dq 6 1 (.getfield 30) 3 = true ∧ dq 6 4 (.ifCond .le 66) 3 = true ∧ dq 6 7 (.aload_n 0) 1 = true ∧ dq 6 8 (.getfield 26) 3 = true ∧ dq 6 11 (.bipush 40) 2 = true ∧ dq 6 13 (.if_icmp .ge 57) 3 = true ∧ dq 6 16 (.aload_n 0) 1 = true ∧ dq 6 17 (.getfield 7) 3 = true ∧ dq 6 20 (.aload_n 0) 1 = true ∧ dq 6 21 (.getfield 13) 3 = true ∧ dq 6 24 (.aload_n 0) 1 = true ∧ dq 6 25 (.getfield 26) 3 = true ∧ dq 6 28 (.iaload) 1 = true ∧ dq 6 29 (.aload_n 0) 1 = true ∧ dq 6 30 (.getfield 17) 3 = true := by decide +kernel
theorem dX0_redoNext_0 : decode (mB 6) 0 = .ok (.aload_n 0, 1) := dqo gX0_redoNext_0.1
theorem dX0_redoNext_1 : decode (mB 6) 1 = .ok (.getfield 30, 3) := dqo gX0_redoNext_0.2.1
theorem dX0_redoNext_4 : decode (mB 6) 4 = .ok (.ifCond .le 66, 3) := dqo gX0_redoNext_0.2.2.1
theorem dX0_redoNext_7 : decode (mB 6) 7 = .ok (.aload_n 0, 1) := dqo gX0_redoNext_0.2.2.2.1
theorem dX0_redoNext_8 : decode (mB 6) 8 = .ok (.getfield 26, 3) := dqo gX0_redoNext_0.2.2.2.2.1
theorem dX0_redoNext_11 : decode (mB 6) 11 = .ok (.bipush 40, 2) := dqo gX0_redoNext_0.2.2.2.2.2.1
theorem dX0_redoNext_13 : decode (mB 6) 13 = .ok (.if_icmp .ge 57, 3) := dqo gX0_redoNext_0.2.2.2.2.2.2.1
theorem dX0_redoNext_16 : decode (mB 6) 16 = .ok (.aload_n 0, 1) := dqo gX0_redoNext_0.2.2.2.2.2.2.2.1
theorem dX0_redoNext_17 : decode (mB 6) 17 = .ok (.getfield 7, 3) := dqo gX0_redoNext_0.2.2.2.2.2.2.2.2.1
theorem dX0_redoNext_20 : decode (mB 6) 20 = .ok (.aload_n 0, 1) := dqo gX0_redoNext_0.2.2.2.2.2.2.2.2.2.1
theorem dX0_redoNext_21 : decode (mB 6) 21 = .ok (.getfield 13, 3) := dqo gX0_redoNext_0.2.2.2.2.2.2.2.2.2.2.1
theorem dX0_redoNext_24 : decode (mB 6) 24 = .ok (.aload_n 0, 1) := dqo gX0_redoNext_0.2.2.2.2.2.2.2.2.2.2.2.1
theorem dX0_redoNext_25 : decode (mB 6) 25 = .ok (.getfield 26, 3) := dqo gX0_redoNext_0.2.2.2.2.2.2.2.2.2.2.2.2.1
theorem dX0_redoNext_28 : decode (mB 6) 28 = .ok (.iaload, 1) := dqo gX0_redoNext_0.2.2.2.2.2.2.2.2.2.2.2.2.2.1
theorem dX0_redoNext_29 : decode (mB 6) 29 = .ok (.aload_n 0, 1) := dqo gX0_redoNext_0.2.2.2.2.2.2.2.2.2.2.2.2.2.2.1
theorem dX0_redoNext_30 : decode (mB 6) 30 = .ok (.getfield 17, 3) := dqo gX0_redoNext_0.2.2.2.2.2.2.2.2.2.2.2.2.2.2.2
theorem gX0_redoNext_33 : dq 6 33 (.aload_n 0) 1 = true ∧ dq 6 34 (.getfield 26) 3 = true ∧ dq 6 37 (.iaload) 1 = true ∧ dq 6 38 (.aload_n 0) 1 = true ∧ dq 6 39 (.getfield 23) 3 = true ∧ dq 6 42 (.aload_n 0) 1 = true ∧ dq 6 43 (.getfield 26) 3 = true ∧ dq 6 46 (.iaload) 1 = true ∧ dq 6 47 (.invokevirtual 42) 3 = true ∧ dq 6 50 (.aload_n 0) 1 = true ∧ dq 6 51 (.dup) 1 = true ∧ dq 6 52 (.getfield 26) 3 = true ∧ dq 6 55 (.iconst 1) 1 = true ∧ dq 6 56 (.iadd) 1 = true ∧ dq 6 57 (.putfield 26) 3 = true ∧ dq 6 60 (.aload_n 0) 1 = true := by decide +kernel
theorem dX0_redoNext_33 : decode (mB 6) 33 = .ok (.aload_n 0, 1) := dqo gX0_redoNext_33.1
theorem dX0_redoNext_34 : decode (mB 6) 34 = .ok (.getfield 26, 3) := dqo gX0_redoNext_33.2.1
theorem dX0_redoNext_37 : decode (mB 6) 37 = .ok (.iaload, 1) := dqo gX0_redoNext_33.2.2.1
theorem dX0_redoNext_38 : decode (mB 6) 38 = .ok (.aload_n 0, 1) := dqo gX0_redoNext_33.2.2.2.1
theorem dX0_redoNext_39 : decode (mB 6) 39 = .ok (.getfield 23, 3) := dqo gX0_redoNext_33.2.2.2.2.1
theorem dX0_redoNext_42 : decode (mB 6) 42 = .ok (.aload_n 0, 1) := dqo gX0_redoNext_33.2.2.2.2.2.1
theorem dX0_redoNext_43 : decode (mB 6) 43 = .ok (.getfield 26, 3) := dqo gX0_redoNext_33.2.2.2.2.2.2.1
theorem dX0_redoNext_46 : decode (mB 6) 46 = .ok (.iaload, 1) := dqo gX0_redoNext_33.2.2.2.2.2.2.2.1
theorem dX0_redoNext_47 : decode (mB 6) 47 = .ok (.invokevirtual 42, 3) := dqo gX0_redoNext_33.2.2.2.2.2.2.2.2.1
theorem dX0_redoNext_50 : decode (mB 6) 50 = .ok (.aload_n 0, 1) := dqo gX0_redoNext_33.2.2.2.2.2.2.2.2.2.1
theorem dX0_redoNext_51 : decode (mB 6) 51 = .ok (.dup, 1) := dqo gX0_redoNext_33.2.2.2.2.2.2.2.2.2.2.1
theorem dX0_redoNext_52 : decode (mB 6) 52 = .ok (.getfield 26, 3) := dqo gX0_redoNext_33.2.2.2.2.2.2.2.2.2.2.2.1
theorem dX0_redoNext_55 : decode (mB 6) 55 = .ok (.iconst 1, 1) := dqo gX0_redoNext_33.2.2.2.2.2.2.2.2.2.2.2.2.1
theorem dX0_redoNext_56 : decode (mB 6) 56 = .ok (.iadd, 1) := dqo gX0_redoNext_33.2.2.2.2.2.2.2.2.2.2.2.2.2.1
theorem dX0_redoNext_57 : decode (mB 6) 57 = .ok (.putfield 26, 3) := dqo gX0_redoNext_33.2.2.2.2.2.2.2.2.2.2.2.2.2.2.1
theorem dX0_redoNext_60 : decode (mB 6) 60 = .ok (.aload_n 0, 1) := dqo gX0_redoNext_33.2.2.2.2.2.2.2.2.2.2.2.2.2.2.2
theorem gX0_redoNext_61 : dq 6 61 (.dup) 1 = true ∧ dq 6 62 (.getfield 30) 3 = true ∧ dq 6 65 (.iconst 1) 1 = true ∧ dq 6 66 (.isub) 1 = true ∧ dq 6 67 (.putfield 30) 3 = true ∧ dq 6 70 (.return_) 1 = true := by decide +kernel
theorem dX0_redoNext_61 : decode (mB 6) 61 = .ok (.dup, 1) := dqo gX0_redoNext_61.1
theorem dX0_redoNext_62 : decode (mB 6) 62 = .ok (.getfield 30, 3) := dqo gX0_redoNext_61.2.1
theorem dX0_redoNext_65 : decode (mB 6) 65 = .ok (.iconst 1, 1) := dqo gX0_redoNext_61.2.2.1
theorem dX0_redoNext_66 : decode (mB 6) 66 = .ok (.isub, 1) := dqo gX0_redoNext_61.2.2.2.1
theorem dX0_redoNext_67 : decode (mB 6) 67 = .ok (.putfield 30, 3) := dqo gX0_redoNext_61.2.2.2.2.1
theorem dX0_redoNext_70 : decode (mB 6) 70 = .ok (.return_, 1) := dqo gX0_redoNext_61.2.2.2.2.2
theorem gX1_init_0 : dq 7 0 (.aload_n 0) 1 = true ∧ dq 7 1 (.invokespecial 3) 3 = true ∧ dq 7 4 (.aload_n 0) 1 = true ∧ dq 7 5 (.aload_n 1) 1 = true ∧ dq 7 6 (.putfield 9) 3 = true ∧ dq 7 9 (.aload_n 0) 1 = true ∧ dq 7 10 (.iconst 4) 1 = true ∧ dq 7 11 (.newarray .int) 2 = true ∧ dq 7 13 (.putfield 15) 3 = true ∧ dq 7 16 (.aload_n 0) 1 = true ∧ dq 7 17 (.iconst 4) 1 = true ∧ dq 7 18 (.newarray .int) 2 = true ∧ dq 7 20 (.putfield 19) 3 = true ∧ dq 7 23 (.aload_n 0) 1 = true ∧ dq 7 24 (.bipush 12) 2 = true ∧ dq 7 26 (.newarray .int) 2 = true := by decide +kernel
theorem dX1_init_0 : decode (mB 7) 0 = .ok (.aload_n 0, 1) := dqo gX1_init_0.1
theorem dX1_init_1 : decode (mB 7) 1 = .ok (.invokespecial 3, 3) := dqo gX1_init_0.2.1
theorem dX1_init_4 : decode (mB 7) 4 = .ok (.aload_n 0, 1) := dqo gX1_init_0.2.2.1
theorem dX1_init_5 : decode (mB 7) 5 = .ok (.aload_n 1, 1) := dqo gX1_init_0.2.2.2.1
theorem dX1_init_6 : decode (mB 7) 6 = .ok (.putfield 9, 3) := dqo gX1_init_0.2.2.2.2.1
theorem dX1_init_9 : decode (mB 7) 9 = .ok (.aload_n 0, 1) := dqo gX1_init_0.2.2.2.2.2.1
theorem dX1_init_10 : decode (mB 7) 10 = .ok (.iconst 4, 1) := dqo gX1_init_0.2.2.2.2.2.2.1
theorem dX1_init_11 : decode (mB 7) 11 = .ok (.newarray .int, 2) := dqo gX1_init_0.2.2.2.2.2.2.2.1
theorem dX1_init_13 : decode (mB 7) 13 = .ok (.putfield 15, 3) := dqo gX1_init_0.2.2.2.2.2.2.2.2.1
theorem dX1_init_16 : decode (mB 7) 16 = .ok (.aload_n 0, 1) := dqo gX1_init_0.2.2.2.2.2.2.2.2.2.1
theorem dX1_init_17 : decode (mB 7) 17 = .ok (.iconst 4, 1) := dqo gX1_init_0.2.2.2.2.2.2.2.2.2.2.1
theorem dX1_init_18 : decode (mB 7) 18 = .ok (.newarray .int, 2) := dqo gX1_init_0.2.2.2.2.2.2.2.2.2.2.2.1
theorem dX1_init_20 : decode (mB 7) 20 = .ok (.putfield 19, 3) := dqo gX1_init_0.2.2.2.2.2.2.2.2.2.2.2.2.1
theorem dX1_init_23 : decode (mB 7) 23 = .ok (.aload_n 0, 1) := dqo gX1_init_0.2.2.2.2.2.2.2.2.2.2.2.2.2.1
theorem dX1_init_24 : decode (mB 7) 24 = .ok (.bipush 12, 2) := dqo gX1_init_0.2.2.2.2.2.2.2.2.2.2.2.2.2.2.1
theorem dX1_init_26 : decode (mB 7) 26 = .ok (.newarray .int, 2) := dqo gX1_init_0.2.2.2.2.2.2.2.2.2.2.2.2.2.2.2
theorem gX1_init_28 : dq 7 28 (.putfield 22) 3 = true ∧ dq 7 31 (.aload_n 0) 1 = true ∧ dq 7 32 (.bipush 12) 2 = true ∧ dq 7 34 (.newarray .int) 2 = true ∧ dq 7 36 (.putfield 25) 3 = true ∧ dq 7 39 (.return_) 1 = true := by decide +kernel
theorem dX1_init_28 : decode (mB 7) 28 = .ok (.putfield 22, 3) := dqo gX1_init_28.1
theorem dX1_init_31 : decode (mB 7) 31 = .ok (.aload_n 0, 1) := dqo gX1_init_28.2.1
theorem dX1_init_32 : decode (mB 7) 32 = .ok (.bipush 12, 2) := dqo gX1_init_28.2.2.1
theorem dX1_init_34 : decode (mB 7) 34 = .ok (.newarray .int, 2) := dqo gX1_init_28.2.2.2.1
theorem dX1_init_36 : decode (mB 7) 36 = .ok (.putfield 25, 3) := dqo gX1_init_28.2.2.2.2.1
theorem dX1_init_39 : decode (mB 7) 39 = .ok (.return_, 1) := dqo gX1_init_28.2.2.2.2.2
theorem gX1_note_0 : dq 8 0 (.iload_n 1) 1 = true ∧ dq 8 1 (.ifCond .lt 18) 3 = true ∧ dq 8 4 (.iload_n 1) 1 = true ∧ dq 8 5 (.iconst 4) 1 = true ∧ dq 8 6 (.if_icmp .ge 13) 3 = true ∧ dq 8 9 (.aload_n 0) 1 = true ∧ dq 8 10 (.getfield 15) 3 = true ∧ dq 8 13 (.iload_n 1) 1 = true ∧ dq 8 14 (.dup2) 1 = true ∧ dq 8 15 (.iaload) 1 = true ∧ dq 8 16 (.iconst 1) 1 = true ∧ dq 8 17 (.iadd) 1 = true ∧ dq 8 18 (.iastore) 1 = true ∧ dq 8 19 (.return_) 1 = true := by decide +kernel
theorem dX1_note_0 : decode (mB 8) 0 = .ok (.iload_n 1, 1) := dqo gX1_note_0.1
theorem dX1_note_1 : decode (mB 8) 1 = .ok (.ifCond .lt 18, 3) := dqo gX1_note_0.2.1
theorem dX1_note_4 : decode (mB 8) 4 = .ok (.iload_n 1, 1) := dqo gX1_note_0.2.2.1
theorem dX1_note_5 : decode (mB 8) 5 = .ok (.iconst 4, 1) := dqo gX1_note_0.2.2.2.1
theorem dX1_note_6 : decode (mB 8) 6 = .ok (.if_icmp .ge 13, 3) := dqo gX1_note_0.2.2.2.2.1
theorem dX1_note_9 : decode (mB 8) 9 = .ok (.aload_n 0, 1) := dqo gX1_note_0.2.2.2.2.2.1
theorem dX1_note_10 : decode (mB 8) 10 = .ok (.getfield 15, 3) := dqo gX1_note_0.2.2.2.2.2.2.1
theorem dX1_note_13 : decode (mB 8) 13 = .ok (.iload_n 1, 1) := dqo gX1_note_0.2.2.2.2.2.2.2.1
theorem dX1_note_14 : decode (mB 8) 14 = .ok (.dup2, 1) := dqo gX1_note_0.2.2.2.2.2.2.2.2.1
theorem dX1_note_15 : decode (mB 8) 15 = .ok (.iaload, 1) := dqo gX1_note_0.2.2.2.2.2.2.2.2.2.1
theorem dX1_note_16 : decode (mB 8) 16 = .ok (.iconst 1, 1) := dqo gX1_note_0.2.2.2.2.2.2.2.2.2.2.1
theorem dX1_note_17 : decode (mB 8) 17 = .ok (.iadd, 1) := dqo gX1_note_0.2.2.2.2.2.2.2.2.2.2.2.1
theorem dX1_note_18 : decode (mB 8) 18 = .ok (.iastore, 1) := dqo gX1_note_0.2.2.2.2.2.2.2.2.2.2.2.2.1
theorem dX1_note_19 : decode (mB 8) 19 = .ok (.return_, 1) := dqo gX1_note_0.2.2.2.2.2.2.2.2.2.2.2.2.2
theorem gX1_noted_0 : dq 9 0 (.iload_n 1) 1 = true ∧ dq 9 1 (.ifCond .lt 17) 3 = true ∧ dq 9 4 (.iload_n 1) 1 = true ∧ dq 9 5 (.iconst 4) 1 = true ∧ dq 9 6 (.if_icmp .ge 12) 3 = true ∧ dq 9 9 (.aload_n 0) 1 = true ∧ dq 9 10 (.getfield 15) 3 = true ∧ dq 9 13 (.iload_n 1) 1 = true ∧ dq 9 14 (.iaload) 1 = true ∧ dq 9 15 (.goto 4) 3 = true ∧ dq 9 18 (.iconst 0) 1 = true ∧ dq 9 19 (.ireturn) 1 = true := by decide +kernel
theorem dX1_noted_0 : decode (mB 9) 0 = .ok (.iload_n 1, 1) := dqo gX1_noted_0.1
theorem dX1_noted_1 : decode (mB 9) 1 = .ok (.ifCond .lt 17, 3) := dqo gX1_noted_0.2.1
theorem dX1_noted_4 : decode (mB 9) 4 = .ok (.iload_n 1, 1) := dqo gX1_noted_0.2.2.1
theorem dX1_noted_5 : decode (mB 9) 5 = .ok (.iconst 4, 1) := dqo gX1_noted_0.2.2.2.1
theorem dX1_noted_6 : decode (mB 9) 6 = .ok (.if_icmp .ge 12, 3) := dqo gX1_noted_0.2.2.2.2.1
theorem dX1_noted_9 : decode (mB 9) 9 = .ok (.aload_n 0, 1) := dqo gX1_noted_0.2.2.2.2.2.1
theorem dX1_noted_10 : decode (mB 9) 10 = .ok (.getfield 15, 3) := dqo gX1_noted_0.2.2.2.2.2.2.1
theorem dX1_noted_13 : decode (mB 9) 13 = .ok (.iload_n 1, 1) := dqo gX1_noted_0.2.2.2.2.2.2.2.1
theorem dX1_noted_14 : decode (mB 9) 14 = .ok (.iaload, 1) := dqo gX1_noted_0.2.2.2.2.2.2.2.2.1
theorem dX1_noted_15 : decode (mB 9) 15 = .ok (.goto 4, 3) := dqo gX1_noted_0.2.2.2.2.2.2.2.2.2.1
theorem dX1_noted_18 : decode (mB 9) 18 = .ok (.iconst 0, 1) := dqo gX1_noted_0.2.2.2.2.2.2.2.2.2.2.1
theorem dX1_noted_19 : decode (mB 9) 19 = .ok (.ireturn, 1) := dqo gX1_noted_0.2.2.2.2.2.2.2.2.2.2.2
theorem gX1_hasImage_0 : dq 10 0 (.aload_n 0) 1 = true ∧ dq 10 1 (.getfield 28) 3 = true ∧ dq 10 4 (.ireturn) 1 = true := by decide +kernel
theorem dX1_hasImage_0 : decode (mB 10) 0 = .ok (.aload_n 0, 1) := dqo gX1_hasImage_0.1
theorem dX1_hasImage_1 : decode (mB 10) 1 = .ok (.getfield 28, 3) := dqo gX1_hasImage_0.2.1
theorem dX1_hasImage_4 : decode (mB 10) 4 = .ok (.ireturn, 1) := dqo gX1_hasImage_0.2.2
theorem gX1_keepImage_0 : dq 11 0 (.aload_n 0) 1 = true ∧ dq 11 1 (.iconst 1) 1 = true ∧ dq 11 2 (.putfield 28) 3 = true ∧ dq 11 5 (.aload_n 0) 1 = true ∧ dq 11 6 (.aload_n 0) 1 = true ∧ dq 11 7 (.getfield 9) 3 = true ∧ dq 11 10 (.invokevirtual 32) 3 = true ∧ dq 11 13 (.putfield 38) 3 = true ∧ dq 11 16 (.aload_n 0) 1 = true ∧ dq 11 17 (.aload_n 0) 1 = true ∧ dq 11 18 (.getfield 9) 3 = true ∧ dq 11 21 (.invokevirtual 42) 3 = true ∧ dq 11 24 (.putfield 45) 3 = true ∧ dq 11 27 (.aload_n 0) 1 = true ∧ dq 11 28 (.getfield 15) 3 = true ∧ dq 11 31 (.iconst 0) 1 = true := by decide +kernel
theorem dX1_keepImage_0 : decode (mB 11) 0 = .ok (.aload_n 0, 1) := dqo gX1_keepImage_0.1
theorem dX1_keepImage_1 : decode (mB 11) 1 = .ok (.iconst 1, 1) := dqo gX1_keepImage_0.2.1
theorem dX1_keepImage_2 : decode (mB 11) 2 = .ok (.putfield 28, 3) := dqo gX1_keepImage_0.2.2.1
theorem dX1_keepImage_5 : decode (mB 11) 5 = .ok (.aload_n 0, 1) := dqo gX1_keepImage_0.2.2.2.1
theorem dX1_keepImage_6 : decode (mB 11) 6 = .ok (.aload_n 0, 1) := dqo gX1_keepImage_0.2.2.2.2.1
theorem dX1_keepImage_7 : decode (mB 11) 7 = .ok (.getfield 9, 3) := dqo gX1_keepImage_0.2.2.2.2.2.1
theorem dX1_keepImage_10 : decode (mB 11) 10 = .ok (.invokevirtual 32, 3) := dqo gX1_keepImage_0.2.2.2.2.2.2.1
theorem dX1_keepImage_13 : decode (mB 11) 13 = .ok (.putfield 38, 3) := dqo gX1_keepImage_0.2.2.2.2.2.2.2.1
theorem dX1_keepImage_16 : decode (mB 11) 16 = .ok (.aload_n 0, 1) := dqo gX1_keepImage_0.2.2.2.2.2.2.2.2.1
theorem dX1_keepImage_17 : decode (mB 11) 17 = .ok (.aload_n 0, 1) := dqo gX1_keepImage_0.2.2.2.2.2.2.2.2.2.1
theorem dX1_keepImage_18 : decode (mB 11) 18 = .ok (.getfield 9, 3) := dqo gX1_keepImage_0.2.2.2.2.2.2.2.2.2.2.1
theorem dX1_keepImage_21 : decode (mB 11) 21 = .ok (.invokevirtual 42, 3) := dqo gX1_keepImage_0.2.2.2.2.2.2.2.2.2.2.2.1
theorem dX1_keepImage_24 : decode (mB 11) 24 = .ok (.putfield 45, 3) := dqo gX1_keepImage_0.2.2.2.2.2.2.2.2.2.2.2.2.1
theorem dX1_keepImage_27 : decode (mB 11) 27 = .ok (.aload_n 0, 1) := dqo gX1_keepImage_0.2.2.2.2.2.2.2.2.2.2.2.2.2.1
theorem dX1_keepImage_28 : decode (mB 11) 28 = .ok (.getfield 15, 3) := dqo gX1_keepImage_0.2.2.2.2.2.2.2.2.2.2.2.2.2.2.1
theorem dX1_keepImage_31 : decode (mB 11) 31 = .ok (.iconst 0, 1) := dqo gX1_keepImage_0.2.2.2.2.2.2.2.2.2.2.2.2.2.2.2
theorem gX1_keepImage_32 : dq 11 32 (.aload_n 0) 1 = true ∧ dq 11 33 (.getfield 19) 3 = true ∧ dq 11 36 (.iconst 0) 1 = true ∧ dq 11 37 (.iconst 4) 1 = true ∧ dq 11 38 (.invokestatic 48) 3 = true ∧ dq 11 41 (.iconst 0) 1 = true ∧ dq 11 42 (.istore_n 1) 1 = true ∧ dq 11 43 (.iload_n 1) 1 = true ∧ dq 11 44 (.aload_n 0) 1 = true ∧ dq 11 45 (.getfield 38) 3 = true ∧ dq 11 48 (.if_icmp .ge 46) 3 = true ∧ dq 11 51 (.iload_n 1) 1 = true ∧ dq 11 52 (.bipush 12) 2 = true ∧ dq 11 54 (.if_icmp .ge 40) 3 = true ∧ dq 11 57 (.aload_n 0) 1 = true ∧ dq 11 58 (.getfield 22) 3 = true := by decide +kernel
theorem dX1_keepImage_32 : decode (mB 11) 32 = .ok (.aload_n 0, 1) := dqo gX1_keepImage_32.1
theorem dX1_keepImage_33 : decode (mB 11) 33 = .ok (.getfield 19, 3) := dqo gX1_keepImage_32.2.1
theorem dX1_keepImage_36 : decode (mB 11) 36 = .ok (.iconst 0, 1) := dqo gX1_keepImage_32.2.2.1
theorem dX1_keepImage_37 : decode (mB 11) 37 = .ok (.iconst 4, 1) := dqo gX1_keepImage_32.2.2.2.1
theorem dX1_keepImage_38 : decode (mB 11) 38 = .ok (.invokestatic 48, 3) := dqo gX1_keepImage_32.2.2.2.2.1
theorem dX1_keepImage_41 : decode (mB 11) 41 = .ok (.iconst 0, 1) := dqo gX1_keepImage_32.2.2.2.2.2.1
theorem dX1_keepImage_42 : decode (mB 11) 42 = .ok (.istore_n 1, 1) := dqo gX1_keepImage_32.2.2.2.2.2.2.1
theorem dX1_keepImage_43 : decode (mB 11) 43 = .ok (.iload_n 1, 1) := dqo gX1_keepImage_32.2.2.2.2.2.2.2.1
theorem dX1_keepImage_44 : decode (mB 11) 44 = .ok (.aload_n 0, 1) := dqo gX1_keepImage_32.2.2.2.2.2.2.2.2.1
theorem dX1_keepImage_45 : decode (mB 11) 45 = .ok (.getfield 38, 3) := dqo gX1_keepImage_32.2.2.2.2.2.2.2.2.2.1
theorem dX1_keepImage_48 : decode (mB 11) 48 = .ok (.if_icmp .ge 46, 3) := dqo gX1_keepImage_32.2.2.2.2.2.2.2.2.2.2.1
theorem dX1_keepImage_51 : decode (mB 11) 51 = .ok (.iload_n 1, 1) := dqo gX1_keepImage_32.2.2.2.2.2.2.2.2.2.2.2.1
theorem dX1_keepImage_52 : decode (mB 11) 52 = .ok (.bipush 12, 2) := dqo gX1_keepImage_32.2.2.2.2.2.2.2.2.2.2.2.2.1
theorem dX1_keepImage_54 : decode (mB 11) 54 = .ok (.if_icmp .ge 40, 3) := dqo gX1_keepImage_32.2.2.2.2.2.2.2.2.2.2.2.2.2.1
theorem dX1_keepImage_57 : decode (mB 11) 57 = .ok (.aload_n 0, 1) := dqo gX1_keepImage_32.2.2.2.2.2.2.2.2.2.2.2.2.2.2.1
theorem dX1_keepImage_58 : decode (mB 11) 58 = .ok (.getfield 22, 3) := dqo gX1_keepImage_32.2.2.2.2.2.2.2.2.2.2.2.2.2.2.2
theorem gX1_keepImage_61 : dq 11 61 (.iload_n 1) 1 = true ∧ dq 11 62 (.aload_n 0) 1 = true ∧ dq 11 63 (.getfield 9) 3 = true ∧ dq 11 66 (.iconst 4) 1 = true ∧ dq 11 67 (.iload_n 1) 1 = true ∧ dq 11 68 (.invokevirtual 54) 3 = true ∧ dq 11 71 (.iastore) 1 = true ∧ dq 11 72 (.aload_n 0) 1 = true ∧ dq 11 73 (.getfield 25) 3 = true ∧ dq 11 76 (.iload_n 1) 1 = true ∧ dq 11 77 (.aload_n 0) 1 = true ∧ dq 11 78 (.getfield 9) 3 = true ∧ dq 11 81 (.bipush 6) 2 = true ∧ dq 11 83 (.iload_n 1) 1 = true ∧ dq 11 84 (.invokevirtual 54) 3 = true ∧ dq 11 87 (.iastore) 1 = true := by decide +kernel
theorem dX1_keepImage_61 : decode (mB 11) 61 = .ok (.iload_n 1, 1) := dqo gX1_keepImage_61.1
theorem dX1_keepImage_62 : decode (mB 11) 62 = .ok (.aload_n 0, 1) := dqo gX1_keepImage_61.2.1
theorem dX1_keepImage_63 : decode (mB 11) 63 = .ok (.getfield 9, 3) := dqo gX1_keepImage_61.2.2.1
theorem dX1_keepImage_66 : decode (mB 11) 66 = .ok (.iconst 4, 1) := dqo gX1_keepImage_61.2.2.2.1
theorem dX1_keepImage_67 : decode (mB 11) 67 = .ok (.iload_n 1, 1) := dqo gX1_keepImage_61.2.2.2.2.1
theorem dX1_keepImage_68 : decode (mB 11) 68 = .ok (.invokevirtual 54, 3) := dqo gX1_keepImage_61.2.2.2.2.2.1
theorem dX1_keepImage_71 : decode (mB 11) 71 = .ok (.iastore, 1) := dqo gX1_keepImage_61.2.2.2.2.2.2.1
theorem dX1_keepImage_72 : decode (mB 11) 72 = .ok (.aload_n 0, 1) := dqo gX1_keepImage_61.2.2.2.2.2.2.2.1
theorem dX1_keepImage_73 : decode (mB 11) 73 = .ok (.getfield 25, 3) := dqo gX1_keepImage_61.2.2.2.2.2.2.2.2.1
theorem dX1_keepImage_76 : decode (mB 11) 76 = .ok (.iload_n 1, 1) := dqo gX1_keepImage_61.2.2.2.2.2.2.2.2.2.1
theorem dX1_keepImage_77 : decode (mB 11) 77 = .ok (.aload_n 0, 1) := dqo gX1_keepImage_61.2.2.2.2.2.2.2.2.2.2.1
theorem dX1_keepImage_78 : decode (mB 11) 78 = .ok (.getfield 9, 3) := dqo gX1_keepImage_61.2.2.2.2.2.2.2.2.2.2.2.1
theorem dX1_keepImage_81 : decode (mB 11) 81 = .ok (.bipush 6, 2) := dqo gX1_keepImage_61.2.2.2.2.2.2.2.2.2.2.2.2.1
theorem dX1_keepImage_83 : decode (mB 11) 83 = .ok (.iload_n 1, 1) := dqo gX1_keepImage_61.2.2.2.2.2.2.2.2.2.2.2.2.2.1
theorem dX1_keepImage_84 : decode (mB 11) 84 = .ok (.invokevirtual 54, 3) := dqo gX1_keepImage_61.2.2.2.2.2.2.2.2.2.2.2.2.2.2.1
theorem dX1_keepImage_87 : decode (mB 11) 87 = .ok (.iastore, 1) := dqo gX1_keepImage_61.2.2.2.2.2.2.2.2.2.2.2.2.2.2.2
theorem gX1_keepImage_88 : dq 11 88 (.iinc 1 1) 3 = true ∧ dq 11 91 (.goto (-48)) 3 = true ∧ dq 11 94 (.return_) 1 = true := by decide +kernel
theorem dX1_keepImage_88 : decode (mB 11) 88 = .ok (.iinc 1 1, 3) := dqo gX1_keepImage_88.1
theorem dX1_keepImage_91 : decode (mB 11) 91 = .ok (.goto (-48), 3) := dqo gX1_keepImage_88.2.1
theorem dX1_keepImage_94 : decode (mB 11) 94 = .ok (.return_, 1) := dqo gX1_keepImage_88.2.2
theorem gX1_layBack_0 : dq 12 0 (.aload_n 0) 1 = true ∧ dq 12 1 (.getfield 9) 3 = true ∧ dq 12 4 (.bipush 7) 2 = true ∧ dq 12 6 (.iconst 0) 1 = true ∧ dq 12 7 (.aload_n 0) 1 = true ∧ dq 12 8 (.getfield 45) 3 = true ∧ dq 12 11 (.invokevirtual 58) 3 = true ∧ dq 12 14 (.aload_n 0) 1 = true ∧ dq 12 15 (.getfield 19) 3 = true ∧ dq 12 18 (.iconst 0) 1 = true ∧ dq 12 19 (.aload_n 0) 1 = true ∧ dq 12 20 (.getfield 15) 3 = true ∧ dq 12 23 (.iconst 0) 1 = true ∧ dq 12 24 (.iconst 4) 1 = true ∧ dq 12 25 (.invokestatic 48) 3 = true ∧ dq 12 28 (.iconst 0) 1 = true := by decide +kernel
theorem dX1_layBack_0 : decode (mB 12) 0 = .ok (.aload_n 0, 1) := dqo gX1_layBack_0.1
theorem dX1_layBack_1 : decode (mB 12) 1 = .ok (.getfield 9, 3) := dqo gX1_layBack_0.2.1
theorem dX1_layBack_4 : decode (mB 12) 4 = .ok (.bipush 7, 2) := dqo gX1_layBack_0.2.2.1
theorem dX1_layBack_6 : decode (mB 12) 6 = .ok (.iconst 0, 1) := dqo gX1_layBack_0.2.2.2.1
theorem dX1_layBack_7 : decode (mB 12) 7 = .ok (.aload_n 0, 1) := dqo gX1_layBack_0.2.2.2.2.1
theorem dX1_layBack_8 : decode (mB 12) 8 = .ok (.getfield 45, 3) := dqo gX1_layBack_0.2.2.2.2.2.1
theorem dX1_layBack_11 : decode (mB 12) 11 = .ok (.invokevirtual 58, 3) := dqo gX1_layBack_0.2.2.2.2.2.2.1
theorem dX1_layBack_14 : decode (mB 12) 14 = .ok (.aload_n 0, 1) := dqo gX1_layBack_0.2.2.2.2.2.2.2.1
theorem dX1_layBack_15 : decode (mB 12) 15 = .ok (.getfield 19, 3) := dqo gX1_layBack_0.2.2.2.2.2.2.2.2.1
theorem dX1_layBack_18 : decode (mB 12) 18 = .ok (.iconst 0, 1) := dqo gX1_layBack_0.2.2.2.2.2.2.2.2.2.1
theorem dX1_layBack_19 : decode (mB 12) 19 = .ok (.aload_n 0, 1) := dqo gX1_layBack_0.2.2.2.2.2.2.2.2.2.2.1
theorem dX1_layBack_20 : decode (mB 12) 20 = .ok (.getfield 15, 3) := dqo gX1_layBack_0.2.2.2.2.2.2.2.2.2.2.2.1
theorem dX1_layBack_23 : decode (mB 12) 23 = .ok (.iconst 0, 1) := dqo gX1_layBack_0.2.2.2.2.2.2.2.2.2.2.2.2.1
theorem dX1_layBack_24 : decode (mB 12) 24 = .ok (.iconst 4, 1) := dqo gX1_layBack_0.2.2.2.2.2.2.2.2.2.2.2.2.2.1
theorem dX1_layBack_25 : decode (mB 12) 25 = .ok (.invokestatic 48, 3) := dqo gX1_layBack_0.2.2.2.2.2.2.2.2.2.2.2.2.2.2.1
theorem dX1_layBack_28 : decode (mB 12) 28 = .ok (.iconst 0, 1) := dqo gX1_layBack_0.2.2.2.2.2.2.2.2.2.2.2.2.2.2.2
theorem gX1_layBack_29 : dq 12 29 (.istore_n 1) 1 = true ∧ dq 12 30 (.iload_n 1) 1 = true ∧ dq 12 31 (.aload_n 0) 1 = true ∧ dq 12 32 (.getfield 38) 3 = true ∧ dq 12 35 (.if_icmp .ge 46) 3 = true ∧ dq 12 38 (.iload_n 1) 1 = true ∧ dq 12 39 (.bipush 12) 2 = true ∧ dq 12 41 (.if_icmp .ge 40) 3 = true ∧ dq 12 44 (.aload_n 0) 1 = true ∧ dq 12 45 (.getfield 9) 3 = true ∧ dq 12 48 (.iconst 4) 1 = true ∧ dq 12 49 (.iload_n 1) 1 = true ∧ dq 12 50 (.aload_n 0) 1 = true ∧ dq 12 51 (.getfield 22) 3 = true ∧ dq 12 54 (.iload_n 1) 1 = true ∧ dq 12 55 (.iaload) 1 = true := by decide +kernel
theorem dX1_layBack_29 : decode (mB 12) 29 = .ok (.istore_n 1, 1) := dqo gX1_layBack_29.1
theorem dX1_layBack_30 : decode (mB 12) 30 = .ok (.iload_n 1, 1) := dqo gX1_layBack_29.2.1
theorem dX1_layBack_31 : decode (mB 12) 31 = .ok (.aload_n 0, 1) := dqo gX1_layBack_29.2.2.1
theorem dX1_layBack_32 : decode (mB 12) 32 = .ok (.getfield 38, 3) := dqo gX1_layBack_29.2.2.2.1
theorem dX1_layBack_35 : decode (mB 12) 35 = .ok (.if_icmp .ge 46, 3) := dqo gX1_layBack_29.2.2.2.2.1
theorem dX1_layBack_38 : decode (mB 12) 38 = .ok (.iload_n 1, 1) := dqo gX1_layBack_29.2.2.2.2.2.1
theorem dX1_layBack_39 : decode (mB 12) 39 = .ok (.bipush 12, 2) := dqo gX1_layBack_29.2.2.2.2.2.2.1
theorem dX1_layBack_41 : decode (mB 12) 41 = .ok (.if_icmp .ge 40, 3) := dqo gX1_layBack_29.2.2.2.2.2.2.2.1
theorem dX1_layBack_44 : decode (mB 12) 44 = .ok (.aload_n 0, 1) := dqo gX1_layBack_29.2.2.2.2.2.2.2.2.1
theorem dX1_layBack_45 : decode (mB 12) 45 = .ok (.getfield 9, 3) := dqo gX1_layBack_29.2.2.2.2.2.2.2.2.2.1
theorem dX1_layBack_48 : decode (mB 12) 48 = .ok (.iconst 4, 1) := dqo gX1_layBack_29.2.2.2.2.2.2.2.2.2.2.1
theorem dX1_layBack_49 : decode (mB 12) 49 = .ok (.iload_n 1, 1) := dqo gX1_layBack_29.2.2.2.2.2.2.2.2.2.2.2.1
theorem dX1_layBack_50 : decode (mB 12) 50 = .ok (.aload_n 0, 1) := dqo gX1_layBack_29.2.2.2.2.2.2.2.2.2.2.2.2.1
theorem dX1_layBack_51 : decode (mB 12) 51 = .ok (.getfield 22, 3) := dqo gX1_layBack_29.2.2.2.2.2.2.2.2.2.2.2.2.2.1
theorem dX1_layBack_54 : decode (mB 12) 54 = .ok (.iload_n 1, 1) := dqo gX1_layBack_29.2.2.2.2.2.2.2.2.2.2.2.2.2.2.1
theorem dX1_layBack_55 : decode (mB 12) 55 = .ok (.iaload, 1) := dqo gX1_layBack_29.2.2.2.2.2.2.2.2.2.2.2.2.2.2.2
theorem gX1_layBack_56 : dq 12 56 (.invokevirtual 58) 3 = true ∧ dq 12 59 (.aload_n 0) 1 = true ∧ dq 12 60 (.getfield 9) 3 = true ∧ dq 12 63 (.bipush 6) 2 = true ∧ dq 12 65 (.iload_n 1) 1 = true ∧ dq 12 66 (.aload_n 0) 1 = true ∧ dq 12 67 (.getfield 25) 3 = true ∧ dq 12 70 (.iload_n 1) 1 = true ∧ dq 12 71 (.iaload) 1 = true ∧ dq 12 72 (.invokevirtual 58) 3 = true ∧ dq 12 75 (.iinc 1 1) 3 = true ∧ dq 12 78 (.goto (-48)) 3 = true ∧ dq 12 81 (.return_) 1 = true := by decide +kernel
theorem dX1_layBack_56 : decode (mB 12) 56 = .ok (.invokevirtual 58, 3) := dqo gX1_layBack_56.1
theorem dX1_layBack_59 : decode (mB 12) 59 = .ok (.aload_n 0, 1) := dqo gX1_layBack_56.2.1
theorem dX1_layBack_60 : decode (mB 12) 60 = .ok (.getfield 9, 3) := dqo gX1_layBack_56.2.2.1
theorem dX1_layBack_63 : decode (mB 12) 63 = .ok (.bipush 6, 2) := dqo gX1_layBack_56.2.2.2.1
theorem dX1_layBack_65 : decode (mB 12) 65 = .ok (.iload_n 1, 1) := dqo gX1_layBack_56.2.2.2.2.1
theorem dX1_layBack_66 : decode (mB 12) 66 = .ok (.aload_n 0, 1) := dqo gX1_layBack_56.2.2.2.2.2.1
theorem dX1_layBack_67 : decode (mB 12) 67 = .ok (.getfield 25, 3) := dqo gX1_layBack_56.2.2.2.2.2.2.1
theorem dX1_layBack_70 : decode (mB 12) 70 = .ok (.iload_n 1, 1) := dqo gX1_layBack_56.2.2.2.2.2.2.2.1
theorem dX1_layBack_71 : decode (mB 12) 71 = .ok (.iaload, 1) := dqo gX1_layBack_56.2.2.2.2.2.2.2.2.1
theorem dX1_layBack_72 : decode (mB 12) 72 = .ok (.invokevirtual 58, 3) := dqo gX1_layBack_56.2.2.2.2.2.2.2.2.2.1
theorem dX1_layBack_75 : decode (mB 12) 75 = .ok (.iinc 1 1, 3) := dqo gX1_layBack_56.2.2.2.2.2.2.2.2.2.2.1
theorem dX1_layBack_78 : decode (mB 12) 78 = .ok (.goto (-48), 3) := dqo gX1_layBack_56.2.2.2.2.2.2.2.2.2.2.2.1
theorem dX1_layBack_81 : decode (mB 12) 81 = .ok (.return_, 1) := dqo gX1_layBack_56.2.2.2.2.2.2.2.2.2.2.2.2
theorem gX2_init_0 : dq 13 0 (.aload_n 0) 1 = true ∧ dq 13 1 (.invokespecial 3) 3 = true ∧ dq 13 4 (.aload_n 0) 1 = true ∧ dq 13 5 (.aload_n 1) 1 = true ∧ dq 13 6 (.putfield 9) 3 = true ∧ dq 13 9 (.aload_n 0) 1 = true ∧ dq 13 10 (.aload_n 2) 1 = true ∧ dq 13 11 (.putfield 15) 3 = true ∧ dq 13 14 (.aload_n 0) 1 = true ∧ dq 13 15 (.bipush 12) 2 = true ∧ dq 13 17 (.newarray .int) 2 = true ∧ dq 13 19 (.putfield 19) 3 = true ∧ dq 13 22 (.return_) 1 = true := by decide +kernel
theorem dX2_init_0 : decode (mB 13) 0 = .ok (.aload_n 0, 1) := dqo gX2_init_0.1
theorem dX2_init_1 : decode (mB 13) 1 = .ok (.invokespecial 3, 3) := dqo gX2_init_0.2.1
theorem dX2_init_4 : decode (mB 13) 4 = .ok (.aload_n 0, 1) := dqo gX2_init_0.2.2.1
theorem dX2_init_5 : decode (mB 13) 5 = .ok (.aload_n 1, 1) := dqo gX2_init_0.2.2.2.1
theorem dX2_init_6 : decode (mB 13) 6 = .ok (.putfield 9, 3) := dqo gX2_init_0.2.2.2.2.1
theorem dX2_init_9 : decode (mB 13) 9 = .ok (.aload_n 0, 1) := dqo gX2_init_0.2.2.2.2.2.1
theorem dX2_init_10 : decode (mB 13) 10 = .ok (.aload_n 2, 1) := dqo gX2_init_0.2.2.2.2.2.2.1
theorem dX2_init_11 : decode (mB 13) 11 = .ok (.putfield 15, 3) := dqo gX2_init_0.2.2.2.2.2.2.2.1
theorem dX2_init_14 : decode (mB 13) 14 = .ok (.aload_n 0, 1) := dqo gX2_init_0.2.2.2.2.2.2.2.2.1
theorem dX2_init_15 : decode (mB 13) 15 = .ok (.bipush 12, 2) := dqo gX2_init_0.2.2.2.2.2.2.2.2.2.1
theorem dX2_init_17 : decode (mB 13) 17 = .ok (.newarray .int, 2) := dqo gX2_init_0.2.2.2.2.2.2.2.2.2.2.1
theorem dX2_init_19 : decode (mB 13) 19 = .ok (.putfield 19, 3) := dqo gX2_init_0.2.2.2.2.2.2.2.2.2.2.2.1
theorem dX2_init_22 : decode (mB 13) 22 = .ok (.return_, 1) := dqo gX2_init_0.2.2.2.2.2.2.2.2.2.2.2.2
theorem gX2_begin_0 : dq 14 0 (.aload_n 0) 1 = true ∧ dq 14 1 (.getfield 15) 3 = true ∧ dq 14 4 (.invokevirtual 23) 3 = true ∧ dq 14 7 (.bipush 12) 2 = true ∧ dq 14 9 (.aload_n 1) 1 = true ∧ dq 14 10 (.iload_n 2) 1 = true ∧ dq 14 11 (.invokevirtual 28) 3 = true ∧ dq 14 14 (.invokestatic 34) 3 = true ∧ dq 14 17 (.istore_n 3) 1 = true ∧ dq 14 18 (.aload_n 0) 1 = true ∧ dq 14 19 (.iconst 0) 1 = true ∧ dq 14 20 (.putfield 40) 3 = true ∧ dq 14 23 (.iconst 0) 1 = true ∧ dq 14 24 (.istore 4) 2 = true ∧ dq 14 26 (.iload 4) 2 = true ∧ dq 14 28 (.iload_n 3) 1 = true := by decide +kernel
theorem dX2_begin_0 : decode (mB 14) 0 = .ok (.aload_n 0, 1) := dqo gX2_begin_0.1
theorem dX2_begin_1 : decode (mB 14) 1 = .ok (.getfield 15, 3) := dqo gX2_begin_0.2.1
theorem dX2_begin_4 : decode (mB 14) 4 = .ok (.invokevirtual 23, 3) := dqo gX2_begin_0.2.2.1
theorem dX2_begin_7 : decode (mB 14) 7 = .ok (.bipush 12, 2) := dqo gX2_begin_0.2.2.2.1
theorem dX2_begin_9 : decode (mB 14) 9 = .ok (.aload_n 1, 1) := dqo gX2_begin_0.2.2.2.2.1
theorem dX2_begin_10 : decode (mB 14) 10 = .ok (.iload_n 2, 1) := dqo gX2_begin_0.2.2.2.2.2.1
theorem dX2_begin_11 : decode (mB 14) 11 = .ok (.invokevirtual 28, 3) := dqo gX2_begin_0.2.2.2.2.2.2.1
theorem dX2_begin_14 : decode (mB 14) 14 = .ok (.invokestatic 34, 3) := dqo gX2_begin_0.2.2.2.2.2.2.2.1
theorem dX2_begin_17 : decode (mB 14) 17 = .ok (.istore_n 3, 1) := dqo gX2_begin_0.2.2.2.2.2.2.2.2.1
theorem dX2_begin_18 : decode (mB 14) 18 = .ok (.aload_n 0, 1) := dqo gX2_begin_0.2.2.2.2.2.2.2.2.2.1
theorem dX2_begin_19 : decode (mB 14) 19 = .ok (.iconst 0, 1) := dqo gX2_begin_0.2.2.2.2.2.2.2.2.2.2.1
theorem dX2_begin_20 : decode (mB 14) 20 = .ok (.putfield 40, 3) := dqo gX2_begin_0.2.2.2.2.2.2.2.2.2.2.2.1
theorem dX2_begin_23 : decode (mB 14) 23 = .ok (.iconst 0, 1) := dqo gX2_begin_0.2.2.2.2.2.2.2.2.2.2.2.2.1
theorem dX2_begin_24 : decode (mB 14) 24 = .ok (.istore 4, 2) := dqo gX2_begin_0.2.2.2.2.2.2.2.2.2.2.2.2.2.1
theorem dX2_begin_26 : decode (mB 14) 26 = .ok (.iload 4, 2) := dqo gX2_begin_0.2.2.2.2.2.2.2.2.2.2.2.2.2.2.1
theorem dX2_begin_28 : decode (mB 14) 28 = .ok (.iload_n 3, 1) := dqo gX2_begin_0.2.2.2.2.2.2.2.2.2.2.2.2.2.2.2
theorem gX2_begin_29 : dq 14 29 (.if_icmp .ge 49) 3 = true ∧ dq 14 32 (.aload_n 1) 1 = true ∧ dq 14 33 (.iload_n 2) 1 = true ∧ dq 14 34 (.iload 4) 2 = true ∧ dq 14 36 (.invokevirtual 44) 3 = true ∧ dq 14 39 (.l2i) 1 = true ∧ dq 14 40 (.istore 5) 2 = true ∧ dq 14 42 (.aload_n 0) 1 = true ∧ dq 14 43 (.getfield 9) 3 = true ∧ dq 14 46 (.iload 5) 2 = true ∧ dq 14 48 (.invokevirtual 48) 3 = true ∧ dq 14 51 (.ifCond .ne 4) 3 = true ∧ dq 14 54 (.return_) 1 = true ∧ dq 14 55 (.aload_n 0) 1 = true ∧ dq 14 56 (.getfield 19) 3 = true ∧ dq 14 59 (.iload 4) 2 = true := by decide +kernel
theorem dX2_begin_29 : decode (mB 14) 29 = .ok (.if_icmp .ge 49, 3) := dqo gX2_begin_29.1
theorem dX2_begin_32 : decode (mB 14) 32 = .ok (.aload_n 1, 1) := dqo gX2_begin_29.2.1
theorem dX2_begin_33 : decode (mB 14) 33 = .ok (.iload_n 2, 1) := dqo gX2_begin_29.2.2.1
theorem dX2_begin_34 : decode (mB 14) 34 = .ok (.iload 4, 2) := dqo gX2_begin_29.2.2.2.1
theorem dX2_begin_36 : decode (mB 14) 36 = .ok (.invokevirtual 44, 3) := dqo gX2_begin_29.2.2.2.2.1
theorem dX2_begin_39 : decode (mB 14) 39 = .ok (.l2i, 1) := dqo gX2_begin_29.2.2.2.2.2.1
theorem dX2_begin_40 : decode (mB 14) 40 = .ok (.istore 5, 2) := dqo gX2_begin_29.2.2.2.2.2.2.1
theorem dX2_begin_42 : decode (mB 14) 42 = .ok (.aload_n 0, 1) := dqo gX2_begin_29.2.2.2.2.2.2.2.1
theorem dX2_begin_43 : decode (mB 14) 43 = .ok (.getfield 9, 3) := dqo gX2_begin_29.2.2.2.2.2.2.2.2.1
theorem dX2_begin_46 : decode (mB 14) 46 = .ok (.iload 5, 2) := dqo gX2_begin_29.2.2.2.2.2.2.2.2.2.1
theorem dX2_begin_48 : decode (mB 14) 48 = .ok (.invokevirtual 48, 3) := dqo gX2_begin_29.2.2.2.2.2.2.2.2.2.2.1
theorem dX2_begin_51 : decode (mB 14) 51 = .ok (.ifCond .ne 4, 3) := dqo gX2_begin_29.2.2.2.2.2.2.2.2.2.2.2.1
theorem dX2_begin_54 : decode (mB 14) 54 = .ok (.return_, 1) := dqo gX2_begin_29.2.2.2.2.2.2.2.2.2.2.2.2.1
theorem dX2_begin_55 : decode (mB 14) 55 = .ok (.aload_n 0, 1) := dqo gX2_begin_29.2.2.2.2.2.2.2.2.2.2.2.2.2.1
theorem dX2_begin_56 : decode (mB 14) 56 = .ok (.getfield 19, 3) := dqo gX2_begin_29.2.2.2.2.2.2.2.2.2.2.2.2.2.2.1
theorem dX2_begin_59 : decode (mB 14) 59 = .ok (.iload 4, 2) := dqo gX2_begin_29.2.2.2.2.2.2.2.2.2.2.2.2.2.2.2
theorem gX2_begin_61 : dq 14 61 (.iload 5) 2 = true ∧ dq 14 63 (.iastore) 1 = true ∧ dq 14 64 (.aload_n 0) 1 = true ∧ dq 14 65 (.iload 4) 2 = true ∧ dq 14 67 (.iconst 1) 1 = true ∧ dq 14 68 (.iadd) 1 = true ∧ dq 14 69 (.putfield 40) 3 = true ∧ dq 14 72 (.iinc 4 1) 3 = true ∧ dq 14 75 (.goto (-49)) 3 = true ∧ dq 14 78 (.return_) 1 = true := by decide +kernel
theorem dX2_begin_61 : decode (mB 14) 61 = .ok (.iload 5, 2) := dqo gX2_begin_61.1
theorem dX2_begin_63 : decode (mB 14) 63 = .ok (.iastore, 1) := dqo gX2_begin_61.2.1
theorem dX2_begin_64 : decode (mB 14) 64 = .ok (.aload_n 0, 1) := dqo gX2_begin_61.2.2.1
theorem dX2_begin_65 : decode (mB 14) 65 = .ok (.iload 4, 2) := dqo gX2_begin_61.2.2.2.1
theorem dX2_begin_67 : decode (mB 14) 67 = .ok (.iconst 1, 1) := dqo gX2_begin_61.2.2.2.2.1
theorem dX2_begin_68 : decode (mB 14) 68 = .ok (.iadd, 1) := dqo gX2_begin_61.2.2.2.2.2.1
theorem dX2_begin_69 : decode (mB 14) 69 = .ok (.putfield 40, 3) := dqo gX2_begin_61.2.2.2.2.2.2.1
theorem dX2_begin_72 : decode (mB 14) 72 = .ok (.iinc 4 1, 3) := dqo gX2_begin_61.2.2.2.2.2.2.2.1
theorem dX2_begin_75 : decode (mB 14) 75 = .ok (.goto (-49), 3) := dqo gX2_begin_61.2.2.2.2.2.2.2.2.1
theorem dX2_begin_78 : decode (mB 14) 78 = .ok (.return_, 1) := dqo gX2_begin_61.2.2.2.2.2.2.2.2.2
theorem gX2_size_0 : dq 15 0 (.aload_n 0) 1 = true ∧ dq 15 1 (.getfield 40) 3 = true ∧ dq 15 4 (.ireturn) 1 = true := by decide +kernel
theorem dX2_size_0 : decode (mB 15) 0 = .ok (.aload_n 0, 1) := dqo gX2_size_0.1
theorem dX2_size_1 : decode (mB 15) 1 = .ok (.getfield 40, 3) := dqo gX2_size_0.2.1
theorem dX2_size_4 : decode (mB 15) 4 = .ok (.ireturn, 1) := dqo gX2_size_0.2.2
theorem gX2_ticketAt_0 : dq 16 0 (.iload_n 1) 1 = true ∧ dq 16 1 (.ifCond .lt 22) 3 = true ∧ dq 16 4 (.iload_n 1) 1 = true ∧ dq 16 5 (.aload_n 0) 1 = true ∧ dq 16 6 (.getfield 40) 3 = true ∧ dq 16 9 (.if_icmp .ge 14) 3 = true ∧ dq 16 12 (.aload_n 0) 1 = true ∧ dq 16 13 (.getfield 19) 3 = true ∧ dq 16 16 (.iload_n 1) 1 = true ∧ dq 16 17 (.iaload) 1 = true ∧ dq 16 18 (.iconst 3) 1 = true ∧ dq 16 19 (.ishr) 1 = true ∧ dq 16 20 (.goto 5) 3 = true ∧ dq 16 23 (.bipush (-2)) 2 = true ∧ dq 16 25 (.ireturn) 1 = true := by decide +kernel
theorem dX2_ticketAt_0 : decode (mB 16) 0 = .ok (.iload_n 1, 1) := dqo gX2_ticketAt_0.1
theorem dX2_ticketAt_1 : decode (mB 16) 1 = .ok (.ifCond .lt 22, 3) := dqo gX2_ticketAt_0.2.1
theorem dX2_ticketAt_4 : decode (mB 16) 4 = .ok (.iload_n 1, 1) := dqo gX2_ticketAt_0.2.2.1
theorem dX2_ticketAt_5 : decode (mB 16) 5 = .ok (.aload_n 0, 1) := dqo gX2_ticketAt_0.2.2.2.1
theorem dX2_ticketAt_6 : decode (mB 16) 6 = .ok (.getfield 40, 3) := dqo gX2_ticketAt_0.2.2.2.2.1
theorem dX2_ticketAt_9 : decode (mB 16) 9 = .ok (.if_icmp .ge 14, 3) := dqo gX2_ticketAt_0.2.2.2.2.2.1
theorem dX2_ticketAt_12 : decode (mB 16) 12 = .ok (.aload_n 0, 1) := dqo gX2_ticketAt_0.2.2.2.2.2.2.1
theorem dX2_ticketAt_13 : decode (mB 16) 13 = .ok (.getfield 19, 3) := dqo gX2_ticketAt_0.2.2.2.2.2.2.2.1
theorem dX2_ticketAt_16 : decode (mB 16) 16 = .ok (.iload_n 1, 1) := dqo gX2_ticketAt_0.2.2.2.2.2.2.2.2.1
theorem dX2_ticketAt_17 : decode (mB 16) 17 = .ok (.iaload, 1) := dqo gX2_ticketAt_0.2.2.2.2.2.2.2.2.2.1
theorem dX2_ticketAt_18 : decode (mB 16) 18 = .ok (.iconst 3, 1) := dqo gX2_ticketAt_0.2.2.2.2.2.2.2.2.2.2.1
theorem dX2_ticketAt_19 : decode (mB 16) 19 = .ok (.ishr, 1) := dqo gX2_ticketAt_0.2.2.2.2.2.2.2.2.2.2.2.1
theorem dX2_ticketAt_20 : decode (mB 16) 20 = .ok (.goto 5, 3) := dqo gX2_ticketAt_0.2.2.2.2.2.2.2.2.2.2.2.2.1
theorem dX2_ticketAt_23 : decode (mB 16) 23 = .ok (.bipush (-2), 2) := dqo gX2_ticketAt_0.2.2.2.2.2.2.2.2.2.2.2.2.2.1
theorem dX2_ticketAt_25 : decode (mB 16) 25 = .ok (.ireturn, 1) := dqo gX2_ticketAt_0.2.2.2.2.2.2.2.2.2.2.2.2.2.2
theorem gX2_toAt_0 : dq 17 0 (.iload_n 1) 1 = true ∧ dq 17 1 (.ifCond .lt 23) 3 = true ∧ dq 17 4 (.iload_n 1) 1 = true ∧ dq 17 5 (.aload_n 0) 1 = true ∧ dq 17 6 (.getfield 40) 3 = true ∧ dq 17 9 (.if_icmp .ge 15) 3 = true ∧ dq 17 12 (.aload_n 0) 1 = true ∧ dq 17 13 (.getfield 19) 3 = true ∧ dq 17 16 (.iload_n 1) 1 = true ∧ dq 17 17 (.iaload) 1 = true ∧ dq 17 18 (.bipush 7) 2 = true ∧ dq 17 20 (.iand) 1 = true ∧ dq 17 21 (.goto 5) 3 = true ∧ dq 17 24 (.bipush (-2)) 2 = true ∧ dq 17 26 (.ireturn) 1 = true := by decide +kernel
theorem dX2_toAt_0 : decode (mB 17) 0 = .ok (.iload_n 1, 1) := dqo gX2_toAt_0.1
theorem dX2_toAt_1 : decode (mB 17) 1 = .ok (.ifCond .lt 23, 3) := dqo gX2_toAt_0.2.1
theorem dX2_toAt_4 : decode (mB 17) 4 = .ok (.iload_n 1, 1) := dqo gX2_toAt_0.2.2.1
theorem dX2_toAt_5 : decode (mB 17) 5 = .ok (.aload_n 0, 1) := dqo gX2_toAt_0.2.2.2.1
theorem dX2_toAt_6 : decode (mB 17) 6 = .ok (.getfield 40, 3) := dqo gX2_toAt_0.2.2.2.2.1
theorem dX2_toAt_9 : decode (mB 17) 9 = .ok (.if_icmp .ge 15, 3) := dqo gX2_toAt_0.2.2.2.2.2.1
theorem dX2_toAt_12 : decode (mB 17) 12 = .ok (.aload_n 0, 1) := dqo gX2_toAt_0.2.2.2.2.2.2.1
theorem dX2_toAt_13 : decode (mB 17) 13 = .ok (.getfield 19, 3) := dqo gX2_toAt_0.2.2.2.2.2.2.2.1
theorem dX2_toAt_16 : decode (mB 17) 16 = .ok (.iload_n 1, 1) := dqo gX2_toAt_0.2.2.2.2.2.2.2.2.1
theorem dX2_toAt_17 : decode (mB 17) 17 = .ok (.iaload, 1) := dqo gX2_toAt_0.2.2.2.2.2.2.2.2.2.1
theorem dX2_toAt_18 : decode (mB 17) 18 = .ok (.bipush 7, 2) := dqo gX2_toAt_0.2.2.2.2.2.2.2.2.2.2.1
theorem dX2_toAt_20 : decode (mB 17) 20 = .ok (.iand, 1) := dqo gX2_toAt_0.2.2.2.2.2.2.2.2.2.2.2.1
theorem dX2_toAt_21 : decode (mB 17) 21 = .ok (.goto 5, 3) := dqo gX2_toAt_0.2.2.2.2.2.2.2.2.2.2.2.2.1
theorem dX2_toAt_24 : decode (mB 17) 24 = .ok (.bipush (-2), 2) := dqo gX2_toAt_0.2.2.2.2.2.2.2.2.2.2.2.2.2.1
theorem dX2_toAt_26 : decode (mB 17) 26 = .ok (.ireturn, 1) := dqo gX2_toAt_0.2.2.2.2.2.2.2.2.2.2.2.2.2.2
theorem gX2_wells_0 : dq 18 0 (.aload_n 0) 1 = true ∧ dq 18 1 (.getfield 54) 3 = true ∧ dq 18 4 (.ireturn) 1 = true := by decide +kernel
theorem dX2_wells_0 : decode (mB 18) 0 = .ok (.aload_n 0, 1) := dqo gX2_wells_0.1
theorem dX2_wells_1 : decode (mB 18) 1 = .ok (.getfield 54, 3) := dqo gX2_wells_0.2.1
theorem dX2_wells_4 : decode (mB 18) 4 = .ok (.ireturn, 1) := dqo gX2_wells_0.2.2
theorem gX2_leftOut_0 : dq 19 0 (.aload_n 0) 1 = true ∧ dq 19 1 (.getfield 57) 3 = true ∧ dq 19 4 (.ireturn) 1 = true := by decide +kernel
theorem dX2_leftOut_0 : decode (mB 19) 0 = .ok (.aload_n 0, 1) := dqo gX2_leftOut_0.1
theorem dX2_leftOut_1 : decode (mB 19) 1 = .ok (.getfield 57, 3) := dqo gX2_leftOut_0.2.1
theorem dX2_leftOut_4 : decode (mB 19) 4 = .ok (.ireturn, 1) := dqo gX2_leftOut_0.2.2
theorem gX2_above_0 : dq 20 0 (.aload_n 0) 1 = true ∧ dq 20 1 (.getfield 60) 3 = true ∧ dq 20 4 (.lreturn) 1 = true := by decide +kernel
theorem dX2_above_0 : decode (mB 20) 0 = .ok (.aload_n 0, 1) := dqo gX2_above_0.1
theorem dX2_above_1 : decode (mB 20) 1 = .ok (.getfield 60, 3) := dqo gX2_above_0.2.1
theorem dX2_above_4 : decode (mB 20) 4 = .ok (.lreturn, 1) := dqo gX2_above_0.2.2
theorem gX2_below_0 : dq 21 0 (.aload_n 0) 1 = true ∧ dq 21 1 (.getfield 64) 3 = true ∧ dq 21 4 (.lreturn) 1 = true := by decide +kernel
theorem dX2_below_0 : decode (mB 21) 0 = .ok (.aload_n 0, 1) := dqo gX2_below_0.1
theorem dX2_below_1 : decode (mB 21) 1 = .ok (.getfield 64, 3) := dqo gX2_below_0.2.1
theorem dX2_below_4 : decode (mB 21) 4 = .ok (.lreturn, 1) := dqo gX2_below_0.2.2
theorem gX2_goByWell_0 : dq 22 0 (.aload_n 0) 1 = true ∧ dq 22 1 (.iconst 0) 1 = true ∧ dq 22 2 (.putfield 54) 3 = true ∧ dq 22 5 (.aload_n 0) 1 = true ∧ dq 22 6 (.iconst 0) 1 = true ∧ dq 22 7 (.putfield 57) 3 = true ∧ dq 22 10 (.iconst 0) 1 = true ∧ dq 22 11 (.istore_n 2) 1 = true ∧ dq 22 12 (.iload_n 2) 1 = true ∧ dq 22 13 (.iload_n 1) 1 = true ∧ dq 22 14 (.if_icmp .ge 101) 3 = true ∧ dq 22 17 (.iload_n 2) 1 = true ∧ dq 22 18 (.aload_n 0) 1 = true ∧ dq 22 19 (.getfield 40) 3 = true ∧ dq 22 22 (.if_icmp .ge 93) 3 = true ∧ dq 22 25 (.aload_n 0) 1 = true := by decide +kernel
theorem dX2_goByWell_0 : decode (mB 22) 0 = .ok (.aload_n 0, 1) := dqo gX2_goByWell_0.1
theorem dX2_goByWell_1 : decode (mB 22) 1 = .ok (.iconst 0, 1) := dqo gX2_goByWell_0.2.1
theorem dX2_goByWell_2 : decode (mB 22) 2 = .ok (.putfield 54, 3) := dqo gX2_goByWell_0.2.2.1
theorem dX2_goByWell_5 : decode (mB 22) 5 = .ok (.aload_n 0, 1) := dqo gX2_goByWell_0.2.2.2.1
theorem dX2_goByWell_6 : decode (mB 22) 6 = .ok (.iconst 0, 1) := dqo gX2_goByWell_0.2.2.2.2.1
theorem dX2_goByWell_7 : decode (mB 22) 7 = .ok (.putfield 57, 3) := dqo gX2_goByWell_0.2.2.2.2.2.1
theorem dX2_goByWell_10 : decode (mB 22) 10 = .ok (.iconst 0, 1) := dqo gX2_goByWell_0.2.2.2.2.2.2.1
theorem dX2_goByWell_11 : decode (mB 22) 11 = .ok (.istore_n 2, 1) := dqo gX2_goByWell_0.2.2.2.2.2.2.2.1
theorem dX2_goByWell_12 : decode (mB 22) 12 = .ok (.iload_n 2, 1) := dqo gX2_goByWell_0.2.2.2.2.2.2.2.2.1
theorem dX2_goByWell_13 : decode (mB 22) 13 = .ok (.iload_n 1, 1) := dqo gX2_goByWell_0.2.2.2.2.2.2.2.2.2.1
theorem dX2_goByWell_14 : decode (mB 22) 14 = .ok (.if_icmp .ge 101, 3) := dqo gX2_goByWell_0.2.2.2.2.2.2.2.2.2.2.1
theorem dX2_goByWell_17 : decode (mB 22) 17 = .ok (.iload_n 2, 1) := dqo gX2_goByWell_0.2.2.2.2.2.2.2.2.2.2.2.1
theorem dX2_goByWell_18 : decode (mB 22) 18 = .ok (.aload_n 0, 1) := dqo gX2_goByWell_0.2.2.2.2.2.2.2.2.2.2.2.2.1
theorem dX2_goByWell_19 : decode (mB 22) 19 = .ok (.getfield 40, 3) := dqo gX2_goByWell_0.2.2.2.2.2.2.2.2.2.2.2.2.2.1
theorem dX2_goByWell_22 : decode (mB 22) 22 = .ok (.if_icmp .ge 93, 3) := dqo gX2_goByWell_0.2.2.2.2.2.2.2.2.2.2.2.2.2.2.1
theorem dX2_goByWell_25 : decode (mB 22) 25 = .ok (.aload_n 0, 1) := dqo gX2_goByWell_0.2.2.2.2.2.2.2.2.2.2.2.2.2.2.2
theorem gX2_goByWell_26 : dq 22 26 (.getfield 15) 3 = true ∧ dq 22 29 (.aload_n 0) 1 = true ∧ dq 22 30 (.iload_n 2) 1 = true ∧ dq 22 31 (.invokevirtual 67) 3 = true ∧ dq 22 34 (.aload_n 0) 1 = true ∧ dq 22 35 (.iload_n 2) 1 = true ∧ dq 22 36 (.invokevirtual 70) 3 = true ∧ dq 22 39 (.invokevirtual 73) 3 = true ∧ dq 22 42 (.ifCond .ne 18) 3 = true ∧ dq 22 45 (.aload_n 0) 1 = true ∧ dq 22 46 (.dup) 1 = true ∧ dq 22 47 (.getfield 57) 3 = true ∧ dq 22 50 (.iconst 1) 1 = true ∧ dq 22 51 (.iload_n 2) 1 = true ∧ dq 22 52 (.ishl) 1 = true ∧ dq 22 53 (.ior) 1 = true := by decide +kernel
theorem dX2_goByWell_26 : decode (mB 22) 26 = .ok (.getfield 15, 3) := dqo gX2_goByWell_26.1
theorem dX2_goByWell_29 : decode (mB 22) 29 = .ok (.aload_n 0, 1) := dqo gX2_goByWell_26.2.1
theorem dX2_goByWell_30 : decode (mB 22) 30 = .ok (.iload_n 2, 1) := dqo gX2_goByWell_26.2.2.1
theorem dX2_goByWell_31 : decode (mB 22) 31 = .ok (.invokevirtual 67, 3) := dqo gX2_goByWell_26.2.2.2.1
theorem dX2_goByWell_34 : decode (mB 22) 34 = .ok (.aload_n 0, 1) := dqo gX2_goByWell_26.2.2.2.2.1
theorem dX2_goByWell_35 : decode (mB 22) 35 = .ok (.iload_n 2, 1) := dqo gX2_goByWell_26.2.2.2.2.2.1
theorem dX2_goByWell_36 : decode (mB 22) 36 = .ok (.invokevirtual 70, 3) := dqo gX2_goByWell_26.2.2.2.2.2.2.1
theorem dX2_goByWell_39 : decode (mB 22) 39 = .ok (.invokevirtual 73, 3) := dqo gX2_goByWell_26.2.2.2.2.2.2.2.1
theorem dX2_goByWell_42 : decode (mB 22) 42 = .ok (.ifCond .ne 18, 3) := dqo gX2_goByWell_26.2.2.2.2.2.2.2.2.1
theorem dX2_goByWell_45 : decode (mB 22) 45 = .ok (.aload_n 0, 1) := dqo gX2_goByWell_26.2.2.2.2.2.2.2.2.2.1
theorem dX2_goByWell_46 : decode (mB 22) 46 = .ok (.dup, 1) := dqo gX2_goByWell_26.2.2.2.2.2.2.2.2.2.2.1
theorem dX2_goByWell_47 : decode (mB 22) 47 = .ok (.getfield 57, 3) := dqo gX2_goByWell_26.2.2.2.2.2.2.2.2.2.2.2.1
theorem dX2_goByWell_50 : decode (mB 22) 50 = .ok (.iconst 1, 1) := dqo gX2_goByWell_26.2.2.2.2.2.2.2.2.2.2.2.2.1
theorem dX2_goByWell_51 : decode (mB 22) 51 = .ok (.iload_n 2, 1) := dqo gX2_goByWell_26.2.2.2.2.2.2.2.2.2.2.2.2.2.1
theorem dX2_goByWell_52 : decode (mB 22) 52 = .ok (.ishl, 1) := dqo gX2_goByWell_26.2.2.2.2.2.2.2.2.2.2.2.2.2.2.1
theorem dX2_goByWell_53 : decode (mB 22) 53 = .ok (.ior, 1) := dqo gX2_goByWell_26.2.2.2.2.2.2.2.2.2.2.2.2.2.2.2
theorem gX2_goByWell_54 : dq 22 54 (.putfield 57) 3 = true ∧ dq 22 57 (.goto 52) 3 = true ∧ dq 22 60 (.aload_n 0) 1 = true ∧ dq 22 61 (.getfield 15) 3 = true ∧ dq 22 64 (.aload_n 0) 1 = true ∧ dq 22 65 (.iload_n 2) 1 = true ∧ dq 22 66 (.invokevirtual 67) 3 = true ∧ dq 22 69 (.aload_n 0) 1 = true ∧ dq 22 70 (.iload_n 2) 1 = true ∧ dq 22 71 (.invokevirtual 70) 3 = true ∧ dq 22 74 (.invokevirtual 77) 3 = true ∧ dq 22 77 (.bipush 6) 2 = true ∧ dq 22 79 (.if_icmp .lt 30) 3 = true ∧ dq 22 82 (.aload_n 0) 1 = true ∧ dq 22 83 (.dup) 1 = true ∧ dq 22 84 (.getfield 54) 3 = true := by decide +kernel
theorem dX2_goByWell_54 : decode (mB 22) 54 = .ok (.putfield 57, 3) := dqo gX2_goByWell_54.1
theorem dX2_goByWell_57 : decode (mB 22) 57 = .ok (.goto 52, 3) := dqo gX2_goByWell_54.2.1
theorem dX2_goByWell_60 : decode (mB 22) 60 = .ok (.aload_n 0, 1) := dqo gX2_goByWell_54.2.2.1
theorem dX2_goByWell_61 : decode (mB 22) 61 = .ok (.getfield 15, 3) := dqo gX2_goByWell_54.2.2.2.1
theorem dX2_goByWell_64 : decode (mB 22) 64 = .ok (.aload_n 0, 1) := dqo gX2_goByWell_54.2.2.2.2.1
theorem dX2_goByWell_65 : decode (mB 22) 65 = .ok (.iload_n 2, 1) := dqo gX2_goByWell_54.2.2.2.2.2.1
theorem dX2_goByWell_66 : decode (mB 22) 66 = .ok (.invokevirtual 67, 3) := dqo gX2_goByWell_54.2.2.2.2.2.2.1
theorem dX2_goByWell_69 : decode (mB 22) 69 = .ok (.aload_n 0, 1) := dqo gX2_goByWell_54.2.2.2.2.2.2.2.1
theorem dX2_goByWell_70 : decode (mB 22) 70 = .ok (.iload_n 2, 1) := dqo gX2_goByWell_54.2.2.2.2.2.2.2.2.1
theorem dX2_goByWell_71 : decode (mB 22) 71 = .ok (.invokevirtual 70, 3) := dqo gX2_goByWell_54.2.2.2.2.2.2.2.2.2.1
theorem dX2_goByWell_74 : decode (mB 22) 74 = .ok (.invokevirtual 77, 3) := dqo gX2_goByWell_54.2.2.2.2.2.2.2.2.2.2.1
theorem dX2_goByWell_77 : decode (mB 22) 77 = .ok (.bipush 6, 2) := dqo gX2_goByWell_54.2.2.2.2.2.2.2.2.2.2.2.1
theorem dX2_goByWell_79 : decode (mB 22) 79 = .ok (.if_icmp .lt 30, 3) := dqo gX2_goByWell_54.2.2.2.2.2.2.2.2.2.2.2.2.1
theorem dX2_goByWell_82 : decode (mB 22) 82 = .ok (.aload_n 0, 1) := dqo gX2_goByWell_54.2.2.2.2.2.2.2.2.2.2.2.2.2.1
theorem dX2_goByWell_83 : decode (mB 22) 83 = .ok (.dup, 1) := dqo gX2_goByWell_54.2.2.2.2.2.2.2.2.2.2.2.2.2.2.1
theorem dX2_goByWell_84 : decode (mB 22) 84 = .ok (.getfield 54, 3) := dqo gX2_goByWell_54.2.2.2.2.2.2.2.2.2.2.2.2.2.2.2
theorem gX2_goByWell_87 : dq 22 87 (.iconst 1) 1 = true ∧ dq 22 88 (.iadd) 1 = true ∧ dq 22 89 (.putfield 54) 3 = true ∧ dq 22 92 (.aload_n 0) 1 = true ∧ dq 22 93 (.getfield 15) 3 = true ∧ dq 22 96 (.aload_n 0) 1 = true ∧ dq 22 97 (.iload_n 2) 1 = true ∧ dq 22 98 (.invokevirtual 67) 3 = true ∧ dq 22 101 (.aload_n 0) 1 = true ∧ dq 22 102 (.iload_n 2) 1 = true ∧ dq 22 103 (.invokevirtual 70) 3 = true ∧ dq 22 106 (.invokevirtual 80) 3 = true ∧ dq 22 109 (.iinc 2 1) 3 = true ∧ dq 22 112 (.goto (-100)) 3 = true ∧ dq 22 115 (.return_) 1 = true := by decide +kernel
theorem dX2_goByWell_87 : decode (mB 22) 87 = .ok (.iconst 1, 1) := dqo gX2_goByWell_87.1
theorem dX2_goByWell_88 : decode (mB 22) 88 = .ok (.iadd, 1) := dqo gX2_goByWell_87.2.1
theorem dX2_goByWell_89 : decode (mB 22) 89 = .ok (.putfield 54, 3) := dqo gX2_goByWell_87.2.2.1
theorem dX2_goByWell_92 : decode (mB 22) 92 = .ok (.aload_n 0, 1) := dqo gX2_goByWell_87.2.2.2.1
theorem dX2_goByWell_93 : decode (mB 22) 93 = .ok (.getfield 15, 3) := dqo gX2_goByWell_87.2.2.2.2.1
theorem dX2_goByWell_96 : decode (mB 22) 96 = .ok (.aload_n 0, 1) := dqo gX2_goByWell_87.2.2.2.2.2.1
theorem dX2_goByWell_97 : decode (mB 22) 97 = .ok (.iload_n 2, 1) := dqo gX2_goByWell_87.2.2.2.2.2.2.1
theorem dX2_goByWell_98 : decode (mB 22) 98 = .ok (.invokevirtual 67, 3) := dqo gX2_goByWell_87.2.2.2.2.2.2.2.1
theorem dX2_goByWell_101 : decode (mB 22) 101 = .ok (.aload_n 0, 1) := dqo gX2_goByWell_87.2.2.2.2.2.2.2.2.1
theorem dX2_goByWell_102 : decode (mB 22) 102 = .ok (.iload_n 2, 1) := dqo gX2_goByWell_87.2.2.2.2.2.2.2.2.2.1
theorem dX2_goByWell_103 : decode (mB 22) 103 = .ok (.invokevirtual 70, 3) := dqo gX2_goByWell_87.2.2.2.2.2.2.2.2.2.2.1
theorem dX2_goByWell_106 : decode (mB 22) 106 = .ok (.invokevirtual 80, 3) := dqo gX2_goByWell_87.2.2.2.2.2.2.2.2.2.2.2.1
theorem dX2_goByWell_109 : decode (mB 22) 109 = .ok (.iinc 2 1, 3) := dqo gX2_goByWell_87.2.2.2.2.2.2.2.2.2.2.2.2.1
theorem dX2_goByWell_112 : decode (mB 22) 112 = .ok (.goto (-100), 3) := dqo gX2_goByWell_87.2.2.2.2.2.2.2.2.2.2.2.2.2.1
theorem dX2_goByWell_115 : decode (mB 22) 115 = .ok (.return_, 1) := dqo gX2_goByWell_87.2.2.2.2.2.2.2.2.2.2.2.2.2.2
theorem gX2_weighSet_0 : dq 23 0 (.iload_n 1) 1 = true ∧ dq 23 1 (.aload_n 0) 1 = true ∧ dq 23 2 (.getfield 40) 3 = true ∧ dq 23 5 (.iushr) 1 = true ∧ dq 23 6 (.ifCond .ne 7) 3 = true ∧ dq 23 9 (.iconst 1) 1 = true ∧ dq 23 10 (.goto 4) 3 = true ∧ dq 23 13 (.iconst 0) 1 = true ∧ dq 23 14 (.istore_n 2) 1 = true ∧ dq 23 15 (.aload_n 0) 1 = true ∧ dq 23 16 (.lconst 1) 1 = true ∧ dq 23 17 (.putfield 60) 3 = true ∧ dq 23 20 (.aload_n 0) 1 = true ∧ dq 23 21 (.lconst 1) 1 = true ∧ dq 23 22 (.putfield 64) 3 = true ∧ dq 23 25 (.iconst 0) 1 = true := by decide +kernel
theorem dX2_weighSet_0 : decode (mB 23) 0 = .ok (.iload_n 1, 1) := dqo gX2_weighSet_0.1
theorem dX2_weighSet_1 : decode (mB 23) 1 = .ok (.aload_n 0, 1) := dqo gX2_weighSet_0.2.1
theorem dX2_weighSet_2 : decode (mB 23) 2 = .ok (.getfield 40, 3) := dqo gX2_weighSet_0.2.2.1
theorem dX2_weighSet_5 : decode (mB 23) 5 = .ok (.iushr, 1) := dqo gX2_weighSet_0.2.2.2.1
theorem dX2_weighSet_6 : decode (mB 23) 6 = .ok (.ifCond .ne 7, 3) := dqo gX2_weighSet_0.2.2.2.2.1
theorem dX2_weighSet_9 : decode (mB 23) 9 = .ok (.iconst 1, 1) := dqo gX2_weighSet_0.2.2.2.2.2.1
theorem dX2_weighSet_10 : decode (mB 23) 10 = .ok (.goto 4, 3) := dqo gX2_weighSet_0.2.2.2.2.2.2.1
theorem dX2_weighSet_13 : decode (mB 23) 13 = .ok (.iconst 0, 1) := dqo gX2_weighSet_0.2.2.2.2.2.2.2.1
theorem dX2_weighSet_14 : decode (mB 23) 14 = .ok (.istore_n 2, 1) := dqo gX2_weighSet_0.2.2.2.2.2.2.2.2.1
theorem dX2_weighSet_15 : decode (mB 23) 15 = .ok (.aload_n 0, 1) := dqo gX2_weighSet_0.2.2.2.2.2.2.2.2.2.1
theorem dX2_weighSet_16 : decode (mB 23) 16 = .ok (.lconst 1, 1) := dqo gX2_weighSet_0.2.2.2.2.2.2.2.2.2.2.1
theorem dX2_weighSet_17 : decode (mB 23) 17 = .ok (.putfield 60, 3) := dqo gX2_weighSet_0.2.2.2.2.2.2.2.2.2.2.2.1
theorem dX2_weighSet_20 : decode (mB 23) 20 = .ok (.aload_n 0, 1) := dqo gX2_weighSet_0.2.2.2.2.2.2.2.2.2.2.2.2.1
theorem dX2_weighSet_21 : decode (mB 23) 21 = .ok (.lconst 1, 1) := dqo gX2_weighSet_0.2.2.2.2.2.2.2.2.2.2.2.2.2.1
theorem dX2_weighSet_22 : decode (mB 23) 22 = .ok (.putfield 64, 3) := dqo gX2_weighSet_0.2.2.2.2.2.2.2.2.2.2.2.2.2.2.1
theorem dX2_weighSet_25 : decode (mB 23) 25 = .ok (.iconst 0, 1) := dqo gX2_weighSet_0.2.2.2.2.2.2.2.2.2.2.2.2.2.2.2
theorem gX2_weighSet_26 : dq 23 26 (.istore_n 3) 1 = true ∧ dq 23 27 (.iload_n 3) 1 = true ∧ dq 23 28 (.aload_n 0) 1 = true ∧ dq 23 29 (.getfield 40) 3 = true ∧ dq 23 32 (.if_icmp .ge 62) 3 = true ∧ dq 23 35 (.iload_n 1) 1 = true ∧ dq 23 36 (.iload_n 3) 1 = true ∧ dq 23 37 (.ishr) 1 = true ∧ dq 23 38 (.iconst 1) 1 = true ∧ dq 23 39 (.iand) 1 = true ∧ dq 23 40 (.iconst 1) 1 = true ∧ dq 23 41 (.if_icmp .ne 7) 3 = true ∧ dq 23 44 (.iconst 1) 1 = true ∧ dq 23 45 (.goto 4) 3 = true ∧ dq 23 48 (.iconst 0) 1 = true ∧ dq 23 49 (.istore 4) 2 = true := by decide +kernel
theorem dX2_weighSet_26 : decode (mB 23) 26 = .ok (.istore_n 3, 1) := dqo gX2_weighSet_26.1
theorem dX2_weighSet_27 : decode (mB 23) 27 = .ok (.iload_n 3, 1) := dqo gX2_weighSet_26.2.1
theorem dX2_weighSet_28 : decode (mB 23) 28 = .ok (.aload_n 0, 1) := dqo gX2_weighSet_26.2.2.1
theorem dX2_weighSet_29 : decode (mB 23) 29 = .ok (.getfield 40, 3) := dqo gX2_weighSet_26.2.2.2.1
theorem dX2_weighSet_32 : decode (mB 23) 32 = .ok (.if_icmp .ge 62, 3) := dqo gX2_weighSet_26.2.2.2.2.1
theorem dX2_weighSet_35 : decode (mB 23) 35 = .ok (.iload_n 1, 1) := dqo gX2_weighSet_26.2.2.2.2.2.1
theorem dX2_weighSet_36 : decode (mB 23) 36 = .ok (.iload_n 3, 1) := dqo gX2_weighSet_26.2.2.2.2.2.2.1
theorem dX2_weighSet_37 : decode (mB 23) 37 = .ok (.ishr, 1) := dqo gX2_weighSet_26.2.2.2.2.2.2.2.1
theorem dX2_weighSet_38 : decode (mB 23) 38 = .ok (.iconst 1, 1) := dqo gX2_weighSet_26.2.2.2.2.2.2.2.2.1
theorem dX2_weighSet_39 : decode (mB 23) 39 = .ok (.iand, 1) := dqo gX2_weighSet_26.2.2.2.2.2.2.2.2.2.1
theorem dX2_weighSet_40 : decode (mB 23) 40 = .ok (.iconst 1, 1) := dqo gX2_weighSet_26.2.2.2.2.2.2.2.2.2.2.1
theorem dX2_weighSet_41 : decode (mB 23) 41 = .ok (.if_icmp .ne 7, 3) := dqo gX2_weighSet_26.2.2.2.2.2.2.2.2.2.2.2.1
theorem dX2_weighSet_44 : decode (mB 23) 44 = .ok (.iconst 1, 1) := dqo gX2_weighSet_26.2.2.2.2.2.2.2.2.2.2.2.2.1
theorem dX2_weighSet_45 : decode (mB 23) 45 = .ok (.goto 4, 3) := dqo gX2_weighSet_26.2.2.2.2.2.2.2.2.2.2.2.2.2.1
theorem dX2_weighSet_48 : decode (mB 23) 48 = .ok (.iconst 0, 1) := dqo gX2_weighSet_26.2.2.2.2.2.2.2.2.2.2.2.2.2.2.1
theorem dX2_weighSet_49 : decode (mB 23) 49 = .ok (.istore 4, 2) := dqo gX2_weighSet_26.2.2.2.2.2.2.2.2.2.2.2.2.2.2.2
theorem gX2_weighSet_51 : dq 23 51 (.aload_n 0) 1 = true ∧ dq 23 52 (.getfield 15) 3 = true ∧ dq 23 55 (.aload_n 0) 1 = true ∧ dq 23 56 (.iload_n 3) 1 = true ∧ dq 23 57 (.invokevirtual 67) 3 = true ∧ dq 23 60 (.aload_n 0) 1 = true ∧ dq 23 61 (.iload_n 3) 1 = true ∧ dq 23 62 (.invokevirtual 70) 3 = true ∧ dq 23 65 (.invokevirtual 73) 3 = true ∧ dq 23 68 (.ifCond .eq 13) 3 = true ∧ dq 23 71 (.aload_n 0) 1 = true ∧ dq 23 72 (.iload_n 3) 1 = true ∧ dq 23 73 (.iload 4) 2 = true ∧ dq 23 75 (.invokevirtual 84) 3 = true ∧ dq 23 78 (.goto 10) 3 = true ∧ dq 23 81 (.iload 4) 2 = true := by decide +kernel
theorem dX2_weighSet_51 : decode (mB 23) 51 = .ok (.aload_n 0, 1) := dqo gX2_weighSet_51.1
theorem dX2_weighSet_52 : decode (mB 23) 52 = .ok (.getfield 15, 3) := dqo gX2_weighSet_51.2.1
theorem dX2_weighSet_55 : decode (mB 23) 55 = .ok (.aload_n 0, 1) := dqo gX2_weighSet_51.2.2.1
theorem dX2_weighSet_56 : decode (mB 23) 56 = .ok (.iload_n 3, 1) := dqo gX2_weighSet_51.2.2.2.1
theorem dX2_weighSet_57 : decode (mB 23) 57 = .ok (.invokevirtual 67, 3) := dqo gX2_weighSet_51.2.2.2.2.1
theorem dX2_weighSet_60 : decode (mB 23) 60 = .ok (.aload_n 0, 1) := dqo gX2_weighSet_51.2.2.2.2.2.1
theorem dX2_weighSet_61 : decode (mB 23) 61 = .ok (.iload_n 3, 1) := dqo gX2_weighSet_51.2.2.2.2.2.2.1
theorem dX2_weighSet_62 : decode (mB 23) 62 = .ok (.invokevirtual 70, 3) := dqo gX2_weighSet_51.2.2.2.2.2.2.2.1
theorem dX2_weighSet_65 : decode (mB 23) 65 = .ok (.invokevirtual 73, 3) := dqo gX2_weighSet_51.2.2.2.2.2.2.2.2.1
theorem dX2_weighSet_68 : decode (mB 23) 68 = .ok (.ifCond .eq 13, 3) := dqo gX2_weighSet_51.2.2.2.2.2.2.2.2.2.1
theorem dX2_weighSet_71 : decode (mB 23) 71 = .ok (.aload_n 0, 1) := dqo gX2_weighSet_51.2.2.2.2.2.2.2.2.2.2.1
theorem dX2_weighSet_72 : decode (mB 23) 72 = .ok (.iload_n 3, 1) := dqo gX2_weighSet_51.2.2.2.2.2.2.2.2.2.2.2.1
theorem dX2_weighSet_73 : decode (mB 23) 73 = .ok (.iload 4, 2) := dqo gX2_weighSet_51.2.2.2.2.2.2.2.2.2.2.2.2.1
theorem dX2_weighSet_75 : decode (mB 23) 75 = .ok (.invokevirtual 84, 3) := dqo gX2_weighSet_51.2.2.2.2.2.2.2.2.2.2.2.2.2.1
theorem dX2_weighSet_78 : decode (mB 23) 78 = .ok (.goto 10, 3) := dqo gX2_weighSet_51.2.2.2.2.2.2.2.2.2.2.2.2.2.2.1
theorem dX2_weighSet_81 : decode (mB 23) 81 = .ok (.iload 4, 2) := dqo gX2_weighSet_51.2.2.2.2.2.2.2.2.2.2.2.2.2.2.2
theorem gX2_weighSet_83 : dq 23 83 (.ifCond .eq 5) 3 = true ∧ dq 23 86 (.iconst 0) 1 = true ∧ dq 23 87 (.istore_n 2) 1 = true ∧ dq 23 88 (.iinc 3 1) 3 = true ∧ dq 23 91 (.goto (-64)) 3 = true ∧ dq 23 94 (.iload_n 2) 1 = true ∧ dq 23 95 (.ifCond .ne 8) 3 = true ∧ dq 23 98 (.aload_n 0) 1 = true ∧ dq 23 99 (.lconst 0) 1 = true ∧ dq 23 100 (.putfield 60) 3 = true ∧ dq 23 103 (.return_) 1 = true := by decide +kernel
theorem dX2_weighSet_83 : decode (mB 23) 83 = .ok (.ifCond .eq 5, 3) := dqo gX2_weighSet_83.1
theorem dX2_weighSet_86 : decode (mB 23) 86 = .ok (.iconst 0, 1) := dqo gX2_weighSet_83.2.1
theorem dX2_weighSet_87 : decode (mB 23) 87 = .ok (.istore_n 2, 1) := dqo gX2_weighSet_83.2.2.1
theorem dX2_weighSet_88 : decode (mB 23) 88 = .ok (.iinc 3 1, 3) := dqo gX2_weighSet_83.2.2.2.1
theorem dX2_weighSet_91 : decode (mB 23) 91 = .ok (.goto (-64), 3) := dqo gX2_weighSet_83.2.2.2.2.1
theorem dX2_weighSet_94 : decode (mB 23) 94 = .ok (.iload_n 2, 1) := dqo gX2_weighSet_83.2.2.2.2.2.1
theorem dX2_weighSet_95 : decode (mB 23) 95 = .ok (.ifCond .ne 8, 3) := dqo gX2_weighSet_83.2.2.2.2.2.2.1
theorem dX2_weighSet_98 : decode (mB 23) 98 = .ok (.aload_n 0, 1) := dqo gX2_weighSet_83.2.2.2.2.2.2.2.1
theorem dX2_weighSet_99 : decode (mB 23) 99 = .ok (.lconst 0, 1) := dqo gX2_weighSet_83.2.2.2.2.2.2.2.2.1
theorem dX2_weighSet_100 : decode (mB 23) 100 = .ok (.putfield 60, 3) := dqo gX2_weighSet_83.2.2.2.2.2.2.2.2.2.1
theorem dX2_weighSet_103 : decode (mB 23) 103 = .ok (.return_, 1) := dqo gX2_weighSet_83.2.2.2.2.2.2.2.2.2.2
theorem gX2_weighAllThatCan_0 : dq 24 0 (.aload_n 0) 1 = true ∧ dq 24 1 (.lconst 1) 1 = true ∧ dq 24 2 (.putfield 60) 3 = true ∧ dq 24 5 (.aload_n 0) 1 = true ∧ dq 24 6 (.lconst 1) 1 = true ∧ dq 24 7 (.putfield 64) 3 = true ∧ dq 24 10 (.iconst 0) 1 = true ∧ dq 24 11 (.istore_n 1) 1 = true ∧ dq 24 12 (.iload_n 1) 1 = true ∧ dq 24 13 (.aload_n 0) 1 = true ∧ dq 24 14 (.getfield 40) 3 = true ∧ dq 24 17 (.if_icmp .ge 35) 3 = true ∧ dq 24 20 (.aload_n 0) 1 = true ∧ dq 24 21 (.getfield 15) 3 = true ∧ dq 24 24 (.aload_n 0) 1 = true ∧ dq 24 25 (.iload_n 1) 1 = true := by decide +kernel
theorem dX2_weighAllThatCan_0 : decode (mB 24) 0 = .ok (.aload_n 0, 1) := dqo gX2_weighAllThatCan_0.1
theorem dX2_weighAllThatCan_1 : decode (mB 24) 1 = .ok (.lconst 1, 1) := dqo gX2_weighAllThatCan_0.2.1
theorem dX2_weighAllThatCan_2 : decode (mB 24) 2 = .ok (.putfield 60, 3) := dqo gX2_weighAllThatCan_0.2.2.1
theorem dX2_weighAllThatCan_5 : decode (mB 24) 5 = .ok (.aload_n 0, 1) := dqo gX2_weighAllThatCan_0.2.2.2.1
theorem dX2_weighAllThatCan_6 : decode (mB 24) 6 = .ok (.lconst 1, 1) := dqo gX2_weighAllThatCan_0.2.2.2.2.1
theorem dX2_weighAllThatCan_7 : decode (mB 24) 7 = .ok (.putfield 64, 3) := dqo gX2_weighAllThatCan_0.2.2.2.2.2.1
theorem dX2_weighAllThatCan_10 : decode (mB 24) 10 = .ok (.iconst 0, 1) := dqo gX2_weighAllThatCan_0.2.2.2.2.2.2.1
theorem dX2_weighAllThatCan_11 : decode (mB 24) 11 = .ok (.istore_n 1, 1) := dqo gX2_weighAllThatCan_0.2.2.2.2.2.2.2.1
theorem dX2_weighAllThatCan_12 : decode (mB 24) 12 = .ok (.iload_n 1, 1) := dqo gX2_weighAllThatCan_0.2.2.2.2.2.2.2.2.1
theorem dX2_weighAllThatCan_13 : decode (mB 24) 13 = .ok (.aload_n 0, 1) := dqo gX2_weighAllThatCan_0.2.2.2.2.2.2.2.2.2.1
theorem dX2_weighAllThatCan_14 : decode (mB 24) 14 = .ok (.getfield 40, 3) := dqo gX2_weighAllThatCan_0.2.2.2.2.2.2.2.2.2.2.1
theorem dX2_weighAllThatCan_17 : decode (mB 24) 17 = .ok (.if_icmp .ge 35, 3) := dqo gX2_weighAllThatCan_0.2.2.2.2.2.2.2.2.2.2.2.1
theorem dX2_weighAllThatCan_20 : decode (mB 24) 20 = .ok (.aload_n 0, 1) := dqo gX2_weighAllThatCan_0.2.2.2.2.2.2.2.2.2.2.2.2.1
theorem dX2_weighAllThatCan_21 : decode (mB 24) 21 = .ok (.getfield 15, 3) := dqo gX2_weighAllThatCan_0.2.2.2.2.2.2.2.2.2.2.2.2.2.1
theorem dX2_weighAllThatCan_24 : decode (mB 24) 24 = .ok (.aload_n 0, 1) := dqo gX2_weighAllThatCan_0.2.2.2.2.2.2.2.2.2.2.2.2.2.2.1
theorem dX2_weighAllThatCan_25 : decode (mB 24) 25 = .ok (.iload_n 1, 1) := dqo gX2_weighAllThatCan_0.2.2.2.2.2.2.2.2.2.2.2.2.2.2.2
theorem gX2_weighAllThatCan_26 : dq 24 26 (.invokevirtual 67) 3 = true ∧ dq 24 29 (.aload_n 0) 1 = true ∧ dq 24 30 (.iload_n 1) 1 = true ∧ dq 24 31 (.invokevirtual 70) 3 = true ∧ dq 24 34 (.invokevirtual 73) 3 = true ∧ dq 24 37 (.ifCond .eq 9) 3 = true ∧ dq 24 40 (.aload_n 0) 1 = true ∧ dq 24 41 (.iload_n 1) 1 = true ∧ dq 24 42 (.iconst 1) 1 = true ∧ dq 24 43 (.invokevirtual 84) 3 = true ∧ dq 24 46 (.iinc 1 1) 3 = true ∧ dq 24 49 (.goto (-37)) 3 = true ∧ dq 24 52 (.return_) 1 = true := by decide +kernel
theorem dX2_weighAllThatCan_26 : decode (mB 24) 26 = .ok (.invokevirtual 67, 3) := dqo gX2_weighAllThatCan_26.1
theorem dX2_weighAllThatCan_29 : decode (mB 24) 29 = .ok (.aload_n 0, 1) := dqo gX2_weighAllThatCan_26.2.1
theorem dX2_weighAllThatCan_30 : decode (mB 24) 30 = .ok (.iload_n 1, 1) := dqo gX2_weighAllThatCan_26.2.2.1
theorem dX2_weighAllThatCan_31 : decode (mB 24) 31 = .ok (.invokevirtual 70, 3) := dqo gX2_weighAllThatCan_26.2.2.2.1
theorem dX2_weighAllThatCan_34 : decode (mB 24) 34 = .ok (.invokevirtual 73, 3) := dqo gX2_weighAllThatCan_26.2.2.2.2.1
theorem dX2_weighAllThatCan_37 : decode (mB 24) 37 = .ok (.ifCond .eq 9, 3) := dqo gX2_weighAllThatCan_26.2.2.2.2.2.1
theorem dX2_weighAllThatCan_40 : decode (mB 24) 40 = .ok (.aload_n 0, 1) := dqo gX2_weighAllThatCan_26.2.2.2.2.2.2.1
theorem dX2_weighAllThatCan_41 : decode (mB 24) 41 = .ok (.iload_n 1, 1) := dqo gX2_weighAllThatCan_26.2.2.2.2.2.2.2.1
theorem dX2_weighAllThatCan_42 : decode (mB 24) 42 = .ok (.iconst 1, 1) := dqo gX2_weighAllThatCan_26.2.2.2.2.2.2.2.2.1
theorem dX2_weighAllThatCan_43 : decode (mB 24) 43 = .ok (.invokevirtual 84, 3) := dqo gX2_weighAllThatCan_26.2.2.2.2.2.2.2.2.2.1
theorem dX2_weighAllThatCan_46 : decode (mB 24) 46 = .ok (.iinc 1 1, 3) := dqo gX2_weighAllThatCan_26.2.2.2.2.2.2.2.2.2.2.1
theorem dX2_weighAllThatCan_49 : decode (mB 24) 49 = .ok (.goto (-37), 3) := dqo gX2_weighAllThatCan_26.2.2.2.2.2.2.2.2.2.2.2.1
theorem dX2_weighAllThatCan_52 : decode (mB 24) 52 = .ok (.return_, 1) := dqo gX2_weighAllThatCan_26.2.2.2.2.2.2.2.2.2.2.2.2
theorem gX2_weighStep_0 : dq 25 0 (.aload_n 0) 1 = true ∧ dq 25 1 (.getfield 15) 3 = true ∧ dq 25 4 (.aload_n 0) 1 = true ∧ dq 25 5 (.iload_n 1) 1 = true ∧ dq 25 6 (.invokevirtual 67) 3 = true ∧ dq 25 9 (.aload_n 0) 1 = true ∧ dq 25 10 (.iload_n 1) 1 = true ∧ dq 25 11 (.invokevirtual 70) 3 = true ∧ dq 25 14 (.invokevirtual 77) 3 = true ∧ dq 25 17 (.istore_n 3) 1 = true ∧ dq 25 18 (.aload_n 0) 1 = true ∧ dq 25 19 (.dup) 1 = true ∧ dq 25 20 (.getfield 60) 3 = true ∧ dq 25 23 (.iload_n 2) 1 = true ∧ dq 25 24 (.ifCond .eq 8) 3 = true ∧ dq 25 27 (.iload_n 3) 1 = true := by decide +kernel
theorem dX2_weighStep_0 : decode (mB 25) 0 = .ok (.aload_n 0, 1) := dqo gX2_weighStep_0.1
theorem dX2_weighStep_1 : decode (mB 25) 1 = .ok (.getfield 15, 3) := dqo gX2_weighStep_0.2.1
theorem dX2_weighStep_4 : decode (mB 25) 4 = .ok (.aload_n 0, 1) := dqo gX2_weighStep_0.2.2.1
theorem dX2_weighStep_5 : decode (mB 25) 5 = .ok (.iload_n 1, 1) := dqo gX2_weighStep_0.2.2.2.1
theorem dX2_weighStep_6 : decode (mB 25) 6 = .ok (.invokevirtual 67, 3) := dqo gX2_weighStep_0.2.2.2.2.1
theorem dX2_weighStep_9 : decode (mB 25) 9 = .ok (.aload_n 0, 1) := dqo gX2_weighStep_0.2.2.2.2.2.1
theorem dX2_weighStep_10 : decode (mB 25) 10 = .ok (.iload_n 1, 1) := dqo gX2_weighStep_0.2.2.2.2.2.2.1
theorem dX2_weighStep_11 : decode (mB 25) 11 = .ok (.invokevirtual 70, 3) := dqo gX2_weighStep_0.2.2.2.2.2.2.2.1
theorem dX2_weighStep_14 : decode (mB 25) 14 = .ok (.invokevirtual 77, 3) := dqo gX2_weighStep_0.2.2.2.2.2.2.2.2.1
theorem dX2_weighStep_17 : decode (mB 25) 17 = .ok (.istore_n 3, 1) := dqo gX2_weighStep_0.2.2.2.2.2.2.2.2.2.1
theorem dX2_weighStep_18 : decode (mB 25) 18 = .ok (.aload_n 0, 1) := dqo gX2_weighStep_0.2.2.2.2.2.2.2.2.2.2.1
theorem dX2_weighStep_19 : decode (mB 25) 19 = .ok (.dup, 1) := dqo gX2_weighStep_0.2.2.2.2.2.2.2.2.2.2.2.1
theorem dX2_weighStep_20 : decode (mB 25) 20 = .ok (.getfield 60, 3) := dqo gX2_weighStep_0.2.2.2.2.2.2.2.2.2.2.2.2.1
theorem dX2_weighStep_23 : decode (mB 25) 23 = .ok (.iload_n 2, 1) := dqo gX2_weighStep_0.2.2.2.2.2.2.2.2.2.2.2.2.2.1
theorem dX2_weighStep_24 : decode (mB 25) 24 = .ok (.ifCond .eq 8, 3) := dqo gX2_weighStep_0.2.2.2.2.2.2.2.2.2.2.2.2.2.2.1
theorem dX2_weighStep_27 : decode (mB 25) 27 = .ok (.iload_n 3, 1) := dqo gX2_weighStep_0.2.2.2.2.2.2.2.2.2.2.2.2.2.2.2
theorem gX2_weighStep_28 : dq 25 28 (.i2l) 1 = true ∧ dq 25 29 (.goto 8) 3 = true ∧ dq 25 32 (.bipush 12) 2 = true ∧ dq 25 34 (.iload_n 3) 1 = true ∧ dq 25 35 (.isub) 1 = true ∧ dq 25 36 (.i2l) 1 = true ∧ dq 25 37 (.lmul) 1 = true ∧ dq 25 38 (.putfield 60) 3 = true ∧ dq 25 41 (.aload_n 0) 1 = true ∧ dq 25 42 (.dup) 1 = true ∧ dq 25 43 (.getfield 64) 3 = true ∧ dq 25 46 (.ldc2_w 88) 3 = true ∧ dq 25 49 (.lmul) 1 = true ∧ dq 25 50 (.putfield 64) 3 = true ∧ dq 25 53 (.iload_n 2) 1 = true ∧ dq 25 54 (.ifCond .eq 20) 3 = true := by decide +kernel
theorem dX2_weighStep_28 : decode (mB 25) 28 = .ok (.i2l, 1) := dqo gX2_weighStep_28.1
theorem dX2_weighStep_29 : decode (mB 25) 29 = .ok (.goto 8, 3) := dqo gX2_weighStep_28.2.1
theorem dX2_weighStep_32 : decode (mB 25) 32 = .ok (.bipush 12, 2) := dqo gX2_weighStep_28.2.2.1
theorem dX2_weighStep_34 : decode (mB 25) 34 = .ok (.iload_n 3, 1) := dqo gX2_weighStep_28.2.2.2.1
theorem dX2_weighStep_35 : decode (mB 25) 35 = .ok (.isub, 1) := dqo gX2_weighStep_28.2.2.2.2.1
theorem dX2_weighStep_36 : decode (mB 25) 36 = .ok (.i2l, 1) := dqo gX2_weighStep_28.2.2.2.2.2.1
theorem dX2_weighStep_37 : decode (mB 25) 37 = .ok (.lmul, 1) := dqo gX2_weighStep_28.2.2.2.2.2.2.1
theorem dX2_weighStep_38 : decode (mB 25) 38 = .ok (.putfield 60, 3) := dqo gX2_weighStep_28.2.2.2.2.2.2.2.1
theorem dX2_weighStep_41 : decode (mB 25) 41 = .ok (.aload_n 0, 1) := dqo gX2_weighStep_28.2.2.2.2.2.2.2.2.1
theorem dX2_weighStep_42 : decode (mB 25) 42 = .ok (.dup, 1) := dqo gX2_weighStep_28.2.2.2.2.2.2.2.2.2.1
theorem dX2_weighStep_43 : decode (mB 25) 43 = .ok (.getfield 64, 3) := dqo gX2_weighStep_28.2.2.2.2.2.2.2.2.2.2.1
theorem dX2_weighStep_46 : decode (mB 25) 46 = .ok (.ldc2_w 88, 3) := dqo gX2_weighStep_28.2.2.2.2.2.2.2.2.2.2.2.1
theorem dX2_weighStep_49 : decode (mB 25) 49 = .ok (.lmul, 1) := dqo gX2_weighStep_28.2.2.2.2.2.2.2.2.2.2.2.2.1
theorem dX2_weighStep_50 : decode (mB 25) 50 = .ok (.putfield 64, 3) := dqo gX2_weighStep_28.2.2.2.2.2.2.2.2.2.2.2.2.2.1
theorem dX2_weighStep_53 : decode (mB 25) 53 = .ok (.iload_n 2, 1) := dqo gX2_weighStep_28.2.2.2.2.2.2.2.2.2.2.2.2.2.2.1
theorem dX2_weighStep_54 : decode (mB 25) 54 = .ok (.ifCond .eq 20, 3) := dqo gX2_weighStep_28.2.2.2.2.2.2.2.2.2.2.2.2.2.2.2
theorem gX2_weighStep_57 : dq 25 57 (.aload_n 0) 1 = true ∧ dq 25 58 (.getfield 15) 3 = true ∧ dq 25 61 (.aload_n 0) 1 = true ∧ dq 25 62 (.iload_n 1) 1 = true ∧ dq 25 63 (.invokevirtual 67) 3 = true ∧ dq 25 66 (.aload_n 0) 1 = true ∧ dq 25 67 (.iload_n 1) 1 = true ∧ dq 25 68 (.invokevirtual 70) 3 = true ∧ dq 25 71 (.invokevirtual 80) 3 = true ∧ dq 25 74 (.return_) 1 = true := by decide +kernel
theorem dX2_weighStep_57 : decode (mB 25) 57 = .ok (.aload_n 0, 1) := dqo gX2_weighStep_57.1
theorem dX2_weighStep_58 : decode (mB 25) 58 = .ok (.getfield 15, 3) := dqo gX2_weighStep_57.2.1
theorem dX2_weighStep_61 : decode (mB 25) 61 = .ok (.aload_n 0, 1) := dqo gX2_weighStep_57.2.2.1
theorem dX2_weighStep_62 : decode (mB 25) 62 = .ok (.iload_n 1, 1) := dqo gX2_weighStep_57.2.2.2.1
theorem dX2_weighStep_63 : decode (mB 25) 63 = .ok (.invokevirtual 67, 3) := dqo gX2_weighStep_57.2.2.2.2.1
theorem dX2_weighStep_66 : decode (mB 25) 66 = .ok (.aload_n 0, 1) := dqo gX2_weighStep_57.2.2.2.2.2.1
theorem dX2_weighStep_67 : decode (mB 25) 67 = .ok (.iload_n 1, 1) := dqo gX2_weighStep_57.2.2.2.2.2.2.1
theorem dX2_weighStep_68 : decode (mB 25) 68 = .ok (.invokevirtual 70, 3) := dqo gX2_weighStep_57.2.2.2.2.2.2.2.1
theorem dX2_weighStep_71 : decode (mB 25) 71 = .ok (.invokevirtual 80, 3) := dqo gX2_weighStep_57.2.2.2.2.2.2.2.2.1
theorem dX2_weighStep_74 : decode (mB 25) 74 = .ok (.return_, 1) := dqo gX2_weighStep_57.2.2.2.2.2.2.2.2.2
theorem gX3_init_0 : dq 26 0 (.aload_n 0) 1 = true ∧ dq 26 1 (.invokespecial 3) 3 = true ∧ dq 26 4 (.aload_n 0) 1 = true ∧ dq 26 5 (.bipush 50) 2 = true ∧ dq 26 7 (.newarray .int) 2 = true ∧ dq 26 9 (.putfield 11) 3 = true ∧ dq 26 12 (.aload_n 0) 1 = true ∧ dq 26 13 (.bipush 24) 2 = true ∧ dq 26 15 (.newarray .int) 2 = true ∧ dq 26 17 (.putfield 15) 3 = true ∧ dq 26 20 (.return_) 1 = true := by decide +kernel
theorem dX3_init_0 : decode (mB 26) 0 = .ok (.aload_n 0, 1) := dqo gX3_init_0.1
theorem dX3_init_1 : decode (mB 26) 1 = .ok (.invokespecial 3, 3) := dqo gX3_init_0.2.1
theorem dX3_init_4 : decode (mB 26) 4 = .ok (.aload_n 0, 1) := dqo gX3_init_0.2.2.1
theorem dX3_init_5 : decode (mB 26) 5 = .ok (.bipush 50, 2) := dqo gX3_init_0.2.2.2.1
theorem dX3_init_7 : decode (mB 26) 7 = .ok (.newarray .int, 2) := dqo gX3_init_0.2.2.2.2.1
theorem dX3_init_9 : decode (mB 26) 9 = .ok (.putfield 11, 3) := dqo gX3_init_0.2.2.2.2.2.1
theorem dX3_init_12 : decode (mB 26) 12 = .ok (.aload_n 0, 1) := dqo gX3_init_0.2.2.2.2.2.2.1
theorem dX3_init_13 : decode (mB 26) 13 = .ok (.bipush 24, 2) := dqo gX3_init_0.2.2.2.2.2.2.2.1
theorem dX3_init_15 : decode (mB 26) 15 = .ok (.newarray .int, 2) := dqo gX3_init_0.2.2.2.2.2.2.2.2.1
theorem dX3_init_17 : decode (mB 26) 17 = .ok (.putfield 15, 3) := dqo gX3_init_0.2.2.2.2.2.2.2.2.2.1
theorem dX3_init_20 : decode (mB 26) 20 = .ok (.return_, 1) := dqo gX3_init_0.2.2.2.2.2.2.2.2.2.2
theorem gX3_isKind_0 : dq 27 0 (.iload_n 0) 1 = true ∧ dq 27 1 (.ifCond .lt 13) 3 = true ∧ dq 27 4 (.iload_n 0) 1 = true ∧ dq 27 5 (.bipush 8) 2 = true ∧ dq 27 7 (.if_icmp .ge 7) 3 = true ∧ dq 27 10 (.iconst 1) 1 = true ∧ dq 27 11 (.goto 4) 3 = true ∧ dq 27 14 (.iconst 0) 1 = true ∧ dq 27 15 (.ireturn) 1 = true := by decide +kernel
theorem dX3_isKind_0 : decode (mB 27) 0 = .ok (.iload_n 0, 1) := dqo gX3_isKind_0.1
theorem dX3_isKind_1 : decode (mB 27) 1 = .ok (.ifCond .lt 13, 3) := dqo gX3_isKind_0.2.1
theorem dX3_isKind_4 : decode (mB 27) 4 = .ok (.iload_n 0, 1) := dqo gX3_isKind_0.2.2.1
theorem dX3_isKind_5 : decode (mB 27) 5 = .ok (.bipush 8, 2) := dqo gX3_isKind_0.2.2.2.1
theorem dX3_isKind_7 : decode (mB 27) 7 = .ok (.if_icmp .ge 7, 3) := dqo gX3_isKind_0.2.2.2.2.1
theorem dX3_isKind_10 : decode (mB 27) 10 = .ok (.iconst 1, 1) := dqo gX3_isKind_0.2.2.2.2.2.1
theorem dX3_isKind_11 : decode (mB 27) 11 = .ok (.goto 4, 3) := dqo gX3_isKind_0.2.2.2.2.2.2.1
theorem dX3_isKind_14 : decode (mB 27) 14 = .ok (.iconst 0, 1) := dqo gX3_isKind_0.2.2.2.2.2.2.2.1
theorem dX3_isKind_15 : decode (mB 27) 15 = .ok (.ireturn, 1) := dqo gX3_isKind_0.2.2.2.2.2.2.2.2
theorem gX3_isUnder_0 : dq 28 0 (.iload_n 0) 1 = true ∧ dq 28 1 (.istore_n 2) 1 = true ∧ dq 28 2 (.iconst 0) 1 = true ∧ dq 28 3 (.istore_n 3) 1 = true ∧ dq 28 4 (.iload_n 3) 1 = true ∧ dq 28 5 (.bipush 8) 2 = true ∧ dq 28 7 (.if_icmp .ge 29) 3 = true ∧ dq 28 10 (.iload_n 2) 1 = true ∧ dq 28 11 (.invokestatic 18) 3 = true ∧ dq 28 14 (.ifCond .eq 22) 3 = true ∧ dq 28 17 (.iload_n 2) 1 = true ∧ dq 28 18 (.iload_n 1) 1 = true ∧ dq 28 19 (.if_icmp .ne 5) 3 = true ∧ dq 28 22 (.iconst 1) 1 = true ∧ dq 28 23 (.ireturn) 1 = true ∧ dq 28 24 (.getstatic 22) 3 = true := by decide +kernel
theorem dX3_isUnder_0 : decode (mB 28) 0 = .ok (.iload_n 0, 1) := dqo gX3_isUnder_0.1
theorem dX3_isUnder_1 : decode (mB 28) 1 = .ok (.istore_n 2, 1) := dqo gX3_isUnder_0.2.1
theorem dX3_isUnder_2 : decode (mB 28) 2 = .ok (.iconst 0, 1) := dqo gX3_isUnder_0.2.2.1
theorem dX3_isUnder_3 : decode (mB 28) 3 = .ok (.istore_n 3, 1) := dqo gX3_isUnder_0.2.2.2.1
theorem dX3_isUnder_4 : decode (mB 28) 4 = .ok (.iload_n 3, 1) := dqo gX3_isUnder_0.2.2.2.2.1
theorem dX3_isUnder_5 : decode (mB 28) 5 = .ok (.bipush 8, 2) := dqo gX3_isUnder_0.2.2.2.2.2.1
theorem dX3_isUnder_7 : decode (mB 28) 7 = .ok (.if_icmp .ge 29, 3) := dqo gX3_isUnder_0.2.2.2.2.2.2.1
theorem dX3_isUnder_10 : decode (mB 28) 10 = .ok (.iload_n 2, 1) := dqo gX3_isUnder_0.2.2.2.2.2.2.2.1
theorem dX3_isUnder_11 : decode (mB 28) 11 = .ok (.invokestatic 18, 3) := dqo gX3_isUnder_0.2.2.2.2.2.2.2.2.1
theorem dX3_isUnder_14 : decode (mB 28) 14 = .ok (.ifCond .eq 22, 3) := dqo gX3_isUnder_0.2.2.2.2.2.2.2.2.2.1
theorem dX3_isUnder_17 : decode (mB 28) 17 = .ok (.iload_n 2, 1) := dqo gX3_isUnder_0.2.2.2.2.2.2.2.2.2.2.1
theorem dX3_isUnder_18 : decode (mB 28) 18 = .ok (.iload_n 1, 1) := dqo gX3_isUnder_0.2.2.2.2.2.2.2.2.2.2.2.1
theorem dX3_isUnder_19 : decode (mB 28) 19 = .ok (.if_icmp .ne 5, 3) := dqo gX3_isUnder_0.2.2.2.2.2.2.2.2.2.2.2.2.1
theorem dX3_isUnder_22 : decode (mB 28) 22 = .ok (.iconst 1, 1) := dqo gX3_isUnder_0.2.2.2.2.2.2.2.2.2.2.2.2.2.1
theorem dX3_isUnder_23 : decode (mB 28) 23 = .ok (.ireturn, 1) := dqo gX3_isUnder_0.2.2.2.2.2.2.2.2.2.2.2.2.2.2.1
theorem dX3_isUnder_24 : decode (mB 28) 24 = .ok (.getstatic 22, 3) := dqo gX3_isUnder_0.2.2.2.2.2.2.2.2.2.2.2.2.2.2.2
theorem gX3_isUnder_27 : dq 28 27 (.iload_n 2) 1 = true ∧ dq 28 28 (.iaload) 1 = true ∧ dq 28 29 (.istore_n 2) 1 = true ∧ dq 28 30 (.iinc 3 1) 3 = true ∧ dq 28 33 (.goto (-29)) 3 = true ∧ dq 28 36 (.iconst 0) 1 = true ∧ dq 28 37 (.ireturn) 1 = true := by decide +kernel
theorem dX3_isUnder_27 : decode (mB 28) 27 = .ok (.iload_n 2, 1) := dqo gX3_isUnder_27.1
theorem dX3_isUnder_28 : decode (mB 28) 28 = .ok (.iaload, 1) := dqo gX3_isUnder_27.2.1
theorem dX3_isUnder_29 : decode (mB 28) 29 = .ok (.istore_n 2, 1) := dqo gX3_isUnder_27.2.2.1
theorem dX3_isUnder_30 : decode (mB 28) 30 = .ok (.iinc 3 1, 3) := dqo gX3_isUnder_27.2.2.2.1
theorem dX3_isUnder_33 : decode (mB 28) 33 = .ok (.goto (-29), 3) := dqo gX3_isUnder_27.2.2.2.2.1
theorem dX3_isUnder_36 : decode (mB 28) 36 = .ok (.iconst 0, 1) := dqo gX3_isUnder_27.2.2.2.2.2.1
theorem dX3_isUnder_37 : decode (mB 28) 37 = .ok (.ireturn, 1) := dqo gX3_isUnder_27.2.2.2.2.2.2
theorem gX3_isBody_0 : dq 29 0 (.iload_n 1) 1 = true ∧ dq 29 1 (.ifCond .lt 15) 3 = true ∧ dq 29 4 (.iload_n 1) 1 = true ∧ dq 29 5 (.aload_n 0) 1 = true ∧ dq 29 6 (.getfield 25) 3 = true ∧ dq 29 9 (.if_icmp .ge 7) 3 = true ∧ dq 29 12 (.iconst 1) 1 = true ∧ dq 29 13 (.goto 4) 3 = true ∧ dq 29 16 (.iconst 0) 1 = true ∧ dq 29 17 (.ireturn) 1 = true := by decide +kernel
theorem dX3_isBody_0 : decode (mB 29) 0 = .ok (.iload_n 1, 1) := dqo gX3_isBody_0.1
theorem dX3_isBody_1 : decode (mB 29) 1 = .ok (.ifCond .lt 15, 3) := dqo gX3_isBody_0.2.1
theorem dX3_isBody_4 : decode (mB 29) 4 = .ok (.iload_n 1, 1) := dqo gX3_isBody_0.2.2.1
theorem dX3_isBody_5 : decode (mB 29) 5 = .ok (.aload_n 0, 1) := dqo gX3_isBody_0.2.2.2.1
theorem dX3_isBody_6 : decode (mB 29) 6 = .ok (.getfield 25, 3) := dqo gX3_isBody_0.2.2.2.2.1
theorem dX3_isBody_9 : decode (mB 29) 9 = .ok (.if_icmp .ge 7, 3) := dqo gX3_isBody_0.2.2.2.2.2.1
theorem dX3_isBody_12 : decode (mB 29) 12 = .ok (.iconst 1, 1) := dqo gX3_isBody_0.2.2.2.2.2.2.1
theorem dX3_isBody_13 : decode (mB 29) 13 = .ok (.goto 4, 3) := dqo gX3_isBody_0.2.2.2.2.2.2.2.1
theorem dX3_isBody_16 : decode (mB 29) 16 = .ok (.iconst 0, 1) := dqo gX3_isBody_0.2.2.2.2.2.2.2.2.1
theorem dX3_isBody_17 : decode (mB 29) 17 = .ok (.ireturn, 1) := dqo gX3_isBody_0.2.2.2.2.2.2.2.2.2
theorem gX3_kindOf_0 : dq 30 0 (.aload_n 0) 1 = true ∧ dq 30 1 (.iload_n 1) 1 = true ∧ dq 30 2 (.invokevirtual 29) 3 = true ∧ dq 30 5 (.ifCond .eq 12) 3 = true ∧ dq 30 8 (.aload_n 0) 1 = true ∧ dq 30 9 (.getfield 11) 3 = true ∧ dq 30 12 (.iload_n 1) 1 = true ∧ dq 30 13 (.iaload) 1 = true ∧ dq 30 14 (.goto 4) 3 = true ∧ dq 30 17 (.iconst (-1)) 1 = true ∧ dq 30 18 (.ireturn) 1 = true := by decide +kernel
theorem dX3_kindOf_0 : decode (mB 30) 0 = .ok (.aload_n 0, 1) := dqo gX3_kindOf_0.1
theorem dX3_kindOf_1 : decode (mB 30) 1 = .ok (.iload_n 1, 1) := dqo gX3_kindOf_0.2.1
theorem dX3_kindOf_2 : decode (mB 30) 2 = .ok (.invokevirtual 29, 3) := dqo gX3_kindOf_0.2.2.1
theorem dX3_kindOf_5 : decode (mB 30) 5 = .ok (.ifCond .eq 12, 3) := dqo gX3_kindOf_0.2.2.2.1
theorem dX3_kindOf_8 : decode (mB 30) 8 = .ok (.aload_n 0, 1) := dqo gX3_kindOf_0.2.2.2.2.1
theorem dX3_kindOf_9 : decode (mB 30) 9 = .ok (.getfield 11, 3) := dqo gX3_kindOf_0.2.2.2.2.2.1
theorem dX3_kindOf_12 : decode (mB 30) 12 = .ok (.iload_n 1, 1) := dqo gX3_kindOf_0.2.2.2.2.2.2.1
theorem dX3_kindOf_13 : decode (mB 30) 13 = .ok (.iaload, 1) := dqo gX3_kindOf_0.2.2.2.2.2.2.2.1
theorem dX3_kindOf_14 : decode (mB 30) 14 = .ok (.goto 4, 3) := dqo gX3_kindOf_0.2.2.2.2.2.2.2.2.1
theorem dX3_kindOf_17 : decode (mB 30) 17 = .ok (.iconst (-1), 1) := dqo gX3_kindOf_0.2.2.2.2.2.2.2.2.2.1
theorem dX3_kindOf_18 : decode (mB 30) 18 = .ok (.ireturn, 1) := dqo gX3_kindOf_0.2.2.2.2.2.2.2.2.2.2
theorem gX3_addBody_0 : dq 31 0 (.aload_n 0) 1 = true ∧ dq 31 1 (.getfield 25) 3 = true ∧ dq 31 4 (.bipush 50) 2 = true ∧ dq 31 6 (.if_icmp .lt 6) 3 = true ∧ dq 31 9 (.bipush (-3)) 2 = true ∧ dq 31 11 (.ireturn) 1 = true ∧ dq 31 12 (.aload_n 0) 1 = true ∧ dq 31 13 (.getfield 11) 3 = true ∧ dq 31 16 (.aload_n 0) 1 = true ∧ dq 31 17 (.getfield 25) 3 = true ∧ dq 31 20 (.iload_n 1) 1 = true ∧ dq 31 21 (.iastore) 1 = true ∧ dq 31 22 (.aload_n 0) 1 = true ∧ dq 31 23 (.dup) 1 = true ∧ dq 31 24 (.getfield 25) 3 = true ∧ dq 31 27 (.iconst 1) 1 = true := by decide +kernel
theorem dX3_addBody_0 : decode (mB 31) 0 = .ok (.aload_n 0, 1) := dqo gX3_addBody_0.1
theorem dX3_addBody_1 : decode (mB 31) 1 = .ok (.getfield 25, 3) := dqo gX3_addBody_0.2.1
theorem dX3_addBody_4 : decode (mB 31) 4 = .ok (.bipush 50, 2) := dqo gX3_addBody_0.2.2.1
theorem dX3_addBody_6 : decode (mB 31) 6 = .ok (.if_icmp .lt 6, 3) := dqo gX3_addBody_0.2.2.2.1
theorem dX3_addBody_9 : decode (mB 31) 9 = .ok (.bipush (-3), 2) := dqo gX3_addBody_0.2.2.2.2.1
theorem dX3_addBody_11 : decode (mB 31) 11 = .ok (.ireturn, 1) := dqo gX3_addBody_0.2.2.2.2.2.1
theorem dX3_addBody_12 : decode (mB 31) 12 = .ok (.aload_n 0, 1) := dqo gX3_addBody_0.2.2.2.2.2.2.1
theorem dX3_addBody_13 : decode (mB 31) 13 = .ok (.getfield 11, 3) := dqo gX3_addBody_0.2.2.2.2.2.2.2.1
theorem dX3_addBody_16 : decode (mB 31) 16 = .ok (.aload_n 0, 1) := dqo gX3_addBody_0.2.2.2.2.2.2.2.2.1
theorem dX3_addBody_17 : decode (mB 31) 17 = .ok (.getfield 25, 3) := dqo gX3_addBody_0.2.2.2.2.2.2.2.2.2.1
theorem dX3_addBody_20 : decode (mB 31) 20 = .ok (.iload_n 1, 1) := dqo gX3_addBody_0.2.2.2.2.2.2.2.2.2.2.1
theorem dX3_addBody_21 : decode (mB 31) 21 = .ok (.iastore, 1) := dqo gX3_addBody_0.2.2.2.2.2.2.2.2.2.2.2.1
theorem dX3_addBody_22 : decode (mB 31) 22 = .ok (.aload_n 0, 1) := dqo gX3_addBody_0.2.2.2.2.2.2.2.2.2.2.2.2.1
theorem dX3_addBody_23 : decode (mB 31) 23 = .ok (.dup, 1) := dqo gX3_addBody_0.2.2.2.2.2.2.2.2.2.2.2.2.2.1
theorem dX3_addBody_24 : decode (mB 31) 24 = .ok (.getfield 25, 3) := dqo gX3_addBody_0.2.2.2.2.2.2.2.2.2.2.2.2.2.2.1
theorem dX3_addBody_27 : decode (mB 31) 27 = .ok (.iconst 1, 1) := dqo gX3_addBody_0.2.2.2.2.2.2.2.2.2.2.2.2.2.2.2
theorem gX3_addBody_28 : dq 31 28 (.iadd) 1 = true ∧ dq 31 29 (.putfield 25) 3 = true ∧ dq 31 32 (.aload_n 0) 1 = true ∧ dq 31 33 (.getfield 25) 3 = true ∧ dq 31 36 (.iconst 1) 1 = true ∧ dq 31 37 (.isub) 1 = true ∧ dq 31 38 (.ireturn) 1 = true := by decide +kernel
theorem dX3_addBody_28 : decode (mB 31) 28 = .ok (.iadd, 1) := dqo gX3_addBody_28.1
theorem dX3_addBody_29 : decode (mB 31) 29 = .ok (.putfield 25, 3) := dqo gX3_addBody_28.2.1
theorem dX3_addBody_32 : decode (mB 31) 32 = .ok (.aload_n 0, 1) := dqo gX3_addBody_28.2.2.1
theorem dX3_addBody_33 : decode (mB 31) 33 = .ok (.getfield 25, 3) := dqo gX3_addBody_28.2.2.2.1
theorem dX3_addBody_36 : decode (mB 31) 36 = .ok (.iconst 1, 1) := dqo gX3_addBody_28.2.2.2.2.1
theorem dX3_addBody_37 : decode (mB 31) 37 = .ok (.isub, 1) := dqo gX3_addBody_28.2.2.2.2.2.1
theorem dX3_addBody_38 : decode (mB 31) 38 = .ok (.ireturn, 1) := dqo gX3_addBody_28.2.2.2.2.2.2
theorem gX3_bodies_0 : dq 32 0 (.aload_n 0) 1 = true ∧ dq 32 1 (.getfield 25) 3 = true ∧ dq 32 4 (.ireturn) 1 = true := by decide +kernel
theorem dX3_bodies_0 : decode (mB 32) 0 = .ok (.aload_n 0, 1) := dqo gX3_bodies_0.1
theorem dX3_bodies_1 : decode (mB 32) 1 = .ok (.getfield 25, 3) := dqo gX3_bodies_0.2.1
theorem dX3_bodies_4 : decode (mB 32) 4 = .ok (.ireturn, 1) := dqo gX3_bodies_0.2.2
theorem gX3_ran_0 : dq 33 0 (.aload_n 0) 1 = true ∧ dq 33 1 (.getfield 32) 3 = true ∧ dq 33 4 (.ireturn) 1 = true := by decide +kernel
theorem dX3_ran_0 : decode (mB 33) 0 = .ok (.aload_n 0, 1) := dqo gX3_ran_0.1
theorem dX3_ran_1 : decode (mB 33) 1 = .ok (.getfield 32, 3) := dqo gX3_ran_0.2.1
theorem dX3_ran_4 : decode (mB 33) 4 = .ok (.ireturn, 1) := dqo gX3_ran_0.2.2
theorem gX3_traced_0 : dq 34 0 (.aload_n 0) 1 = true ∧ dq 34 1 (.getfield 32) 3 = true ∧ dq 34 4 (.bipush 24) 2 = true ∧ dq 34 6 (.invokestatic 35) 3 = true ∧ dq 34 9 (.ireturn) 1 = true := by decide +kernel
theorem dX3_traced_0 : decode (mB 34) 0 = .ok (.aload_n 0, 1) := dqo gX3_traced_0.1
theorem dX3_traced_1 : decode (mB 34) 1 = .ok (.getfield 32, 3) := dqo gX3_traced_0.2.1
theorem dX3_traced_4 : decode (mB 34) 4 = .ok (.bipush 24, 2) := dqo gX3_traced_0.2.2.1
theorem dX3_traced_6 : decode (mB 34) 6 = .ok (.invokestatic 35, 3) := dqo gX3_traced_0.2.2.2.1
theorem dX3_traced_9 : decode (mB 34) 9 = .ok (.ireturn, 1) := dqo gX3_traced_0.2.2.2.2
theorem gX3_traceAt_0 : dq 35 0 (.iload_n 1) 1 = true ∧ dq 35 1 (.ifCond .lt 20) 3 = true ∧ dq 35 4 (.iload_n 1) 1 = true ∧ dq 35 5 (.aload_n 0) 1 = true ∧ dq 35 6 (.invokevirtual 41) 3 = true ∧ dq 35 9 (.if_icmp .ge 12) 3 = true ∧ dq 35 12 (.aload_n 0) 1 = true ∧ dq 35 13 (.getfield 15) 3 = true ∧ dq 35 16 (.iload_n 1) 1 = true ∧ dq 35 17 (.iaload) 1 = true ∧ dq 35 18 (.goto 4) 3 = true ∧ dq 35 21 (.iconst 0) 1 = true ∧ dq 35 22 (.ireturn) 1 = true := by decide +kernel
theorem dX3_traceAt_0 : decode (mB 35) 0 = .ok (.iload_n 1, 1) := dqo gX3_traceAt_0.1
theorem dX3_traceAt_1 : decode (mB 35) 1 = .ok (.ifCond .lt 20, 3) := dqo gX3_traceAt_0.2.1
theorem dX3_traceAt_4 : decode (mB 35) 4 = .ok (.iload_n 1, 1) := dqo gX3_traceAt_0.2.2.1
theorem dX3_traceAt_5 : decode (mB 35) 5 = .ok (.aload_n 0, 1) := dqo gX3_traceAt_0.2.2.2.1
theorem dX3_traceAt_6 : decode (mB 35) 6 = .ok (.invokevirtual 41, 3) := dqo gX3_traceAt_0.2.2.2.2.1
theorem dX3_traceAt_9 : decode (mB 35) 9 = .ok (.if_icmp .ge 12, 3) := dqo gX3_traceAt_0.2.2.2.2.2.1
theorem dX3_traceAt_12 : decode (mB 35) 12 = .ok (.aload_n 0, 1) := dqo gX3_traceAt_0.2.2.2.2.2.2.1
theorem dX3_traceAt_13 : decode (mB 35) 13 = .ok (.getfield 15, 3) := dqo gX3_traceAt_0.2.2.2.2.2.2.2.1
theorem dX3_traceAt_16 : decode (mB 35) 16 = .ok (.iload_n 1, 1) := dqo gX3_traceAt_0.2.2.2.2.2.2.2.2.1
theorem dX3_traceAt_17 : decode (mB 35) 17 = .ok (.iaload, 1) := dqo gX3_traceAt_0.2.2.2.2.2.2.2.2.2.1
theorem dX3_traceAt_18 : decode (mB 35) 18 = .ok (.goto 4, 3) := dqo gX3_traceAt_0.2.2.2.2.2.2.2.2.2.2.1
theorem dX3_traceAt_21 : decode (mB 35) 21 = .ok (.iconst 0, 1) := dqo gX3_traceAt_0.2.2.2.2.2.2.2.2.2.2.2.1
theorem dX3_traceAt_22 : decode (mB 35) 22 = .ok (.ireturn, 1) := dqo gX3_traceAt_0.2.2.2.2.2.2.2.2.2.2.2.2
theorem gX3_begin_0 : dq 36 0 (.aload_n 0) 1 = true ∧ dq 36 1 (.iconst 0) 1 = true ∧ dq 36 2 (.putfield 32) 3 = true ∧ dq 36 5 (.aload_n 0) 1 = true ∧ dq 36 6 (.iload_n 1) 1 = true ∧ dq 36 7 (.invokevirtual 29) 3 = true ∧ dq 36 10 (.ifCond .eq 12) 3 = true ∧ dq 36 13 (.iload_n 2) 1 = true ∧ dq 36 14 (.ifCond .lt 8) 3 = true ∧ dq 36 17 (.iload_n 2) 1 = true ∧ dq 36 18 (.iconst 4) 1 = true ∧ dq 36 19 (.if_icmp .lt 5) 3 = true ∧ dq 36 22 (.iconst 0) 1 = true ∧ dq 36 23 (.ireturn) 1 = true ∧ dq 36 24 (.aload_n 0) 1 = true ∧ dq 36 25 (.iload_n 1) 1 = true := by decide +kernel
theorem dX3_begin_0 : decode (mB 36) 0 = .ok (.aload_n 0, 1) := dqo gX3_begin_0.1
theorem dX3_begin_1 : decode (mB 36) 1 = .ok (.iconst 0, 1) := dqo gX3_begin_0.2.1
theorem dX3_begin_2 : decode (mB 36) 2 = .ok (.putfield 32, 3) := dqo gX3_begin_0.2.2.1
theorem dX3_begin_5 : decode (mB 36) 5 = .ok (.aload_n 0, 1) := dqo gX3_begin_0.2.2.2.1
theorem dX3_begin_6 : decode (mB 36) 6 = .ok (.iload_n 1, 1) := dqo gX3_begin_0.2.2.2.2.1
theorem dX3_begin_7 : decode (mB 36) 7 = .ok (.invokevirtual 29, 3) := dqo gX3_begin_0.2.2.2.2.2.1
theorem dX3_begin_10 : decode (mB 36) 10 = .ok (.ifCond .eq 12, 3) := dqo gX3_begin_0.2.2.2.2.2.2.1
theorem dX3_begin_13 : decode (mB 36) 13 = .ok (.iload_n 2, 1) := dqo gX3_begin_0.2.2.2.2.2.2.2.1
theorem dX3_begin_14 : decode (mB 36) 14 = .ok (.ifCond .lt 8, 3) := dqo gX3_begin_0.2.2.2.2.2.2.2.2.1
theorem dX3_begin_17 : decode (mB 36) 17 = .ok (.iload_n 2, 1) := dqo gX3_begin_0.2.2.2.2.2.2.2.2.2.1
theorem dX3_begin_18 : decode (mB 36) 18 = .ok (.iconst 4, 1) := dqo gX3_begin_0.2.2.2.2.2.2.2.2.2.2.1
theorem dX3_begin_19 : decode (mB 36) 19 = .ok (.if_icmp .lt 5, 3) := dqo gX3_begin_0.2.2.2.2.2.2.2.2.2.2.2.1
theorem dX3_begin_22 : decode (mB 36) 22 = .ok (.iconst 0, 1) := dqo gX3_begin_0.2.2.2.2.2.2.2.2.2.2.2.2.1
theorem dX3_begin_23 : decode (mB 36) 23 = .ok (.ireturn, 1) := dqo gX3_begin_0.2.2.2.2.2.2.2.2.2.2.2.2.2.1
theorem dX3_begin_24 : decode (mB 36) 24 = .ok (.aload_n 0, 1) := dqo gX3_begin_0.2.2.2.2.2.2.2.2.2.2.2.2.2.2.1
theorem dX3_begin_25 : decode (mB 36) 25 = .ok (.iload_n 1, 1) := dqo gX3_begin_0.2.2.2.2.2.2.2.2.2.2.2.2.2.2.2
theorem gX3_begin_26 : dq 36 26 (.putfield 45) 3 = true ∧ dq 36 29 (.aload_n 0) 1 = true ∧ dq 36 30 (.aload_n 0) 1 = true ∧ dq 36 31 (.iload_n 1) 1 = true ∧ dq 36 32 (.invokevirtual 48) 3 = true ∧ dq 36 35 (.iload_n 2) 1 = true ∧ dq 36 36 (.iload_n 3) 1 = true ∧ dq 36 37 (.iconst 0) 1 = true ∧ dq 36 38 (.invokestatic 52) 3 = true ∧ dq 36 41 (.ireturn) 1 = true := by decide +kernel
theorem dX3_begin_26 : decode (mB 36) 26 = .ok (.putfield 45, 3) := dqo gX3_begin_26.1
theorem dX3_begin_29 : decode (mB 36) 29 = .ok (.aload_n 0, 1) := dqo gX3_begin_26.2.1
theorem dX3_begin_30 : decode (mB 36) 30 = .ok (.aload_n 0, 1) := dqo gX3_begin_26.2.2.1
theorem dX3_begin_31 : decode (mB 36) 31 = .ok (.iload_n 1, 1) := dqo gX3_begin_26.2.2.2.1
theorem dX3_begin_32 : decode (mB 36) 32 = .ok (.invokevirtual 48, 3) := dqo gX3_begin_26.2.2.2.2.1
theorem dX3_begin_35 : decode (mB 36) 35 = .ok (.iload_n 2, 1) := dqo gX3_begin_26.2.2.2.2.2.1
theorem dX3_begin_36 : decode (mB 36) 36 = .ok (.iload_n 3, 1) := dqo gX3_begin_26.2.2.2.2.2.2.1
theorem dX3_begin_37 : decode (mB 36) 37 = .ok (.iconst 0, 1) := dqo gX3_begin_26.2.2.2.2.2.2.2.1
theorem dX3_begin_38 : decode (mB 36) 38 = .ok (.invokestatic 52, 3) := dqo gX3_begin_26.2.2.2.2.2.2.2.2.1
theorem dX3_begin_41 : decode (mB 36) 41 = .ok (.ireturn, 1) := dqo gX3_begin_26.2.2.2.2.2.2.2.2.2
theorem gX3_noteBody_0 : dq 37 0 (.aload_n 0) 1 = true ∧ dq 37 1 (.getfield 32) 3 = true ∧ dq 37 4 (.bipush 24) 2 = true ∧ dq 37 6 (.if_icmp .ge 13) 3 = true ∧ dq 37 9 (.aload_n 0) 1 = true ∧ dq 37 10 (.getfield 15) 3 = true ∧ dq 37 13 (.aload_n 0) 1 = true ∧ dq 37 14 (.getfield 32) 3 = true ∧ dq 37 17 (.iload_n 1) 1 = true ∧ dq 37 18 (.iastore) 1 = true ∧ dq 37 19 (.aload_n 0) 1 = true ∧ dq 37 20 (.dup) 1 = true ∧ dq 37 21 (.getfield 32) 3 = true ∧ dq 37 24 (.iconst 1) 1 = true ∧ dq 37 25 (.iadd) 1 = true ∧ dq 37 26 (.putfield 32) 3 = true := by decide +kernel
theorem dX3_noteBody_0 : decode (mB 37) 0 = .ok (.aload_n 0, 1) := dqo gX3_noteBody_0.1
theorem dX3_noteBody_1 : decode (mB 37) 1 = .ok (.getfield 32, 3) := dqo gX3_noteBody_0.2.1
theorem dX3_noteBody_4 : decode (mB 37) 4 = .ok (.bipush 24, 2) := dqo gX3_noteBody_0.2.2.1
theorem dX3_noteBody_6 : decode (mB 37) 6 = .ok (.if_icmp .ge 13, 3) := dqo gX3_noteBody_0.2.2.2.1
theorem dX3_noteBody_9 : decode (mB 37) 9 = .ok (.aload_n 0, 1) := dqo gX3_noteBody_0.2.2.2.2.1
theorem dX3_noteBody_10 : decode (mB 37) 10 = .ok (.getfield 15, 3) := dqo gX3_noteBody_0.2.2.2.2.2.1
theorem dX3_noteBody_13 : decode (mB 37) 13 = .ok (.aload_n 0, 1) := dqo gX3_noteBody_0.2.2.2.2.2.2.1
theorem dX3_noteBody_14 : decode (mB 37) 14 = .ok (.getfield 32, 3) := dqo gX3_noteBody_0.2.2.2.2.2.2.2.1
theorem dX3_noteBody_17 : decode (mB 37) 17 = .ok (.iload_n 1, 1) := dqo gX3_noteBody_0.2.2.2.2.2.2.2.2.1
theorem dX3_noteBody_18 : decode (mB 37) 18 = .ok (.iastore, 1) := dqo gX3_noteBody_0.2.2.2.2.2.2.2.2.2.1
theorem dX3_noteBody_19 : decode (mB 37) 19 = .ok (.aload_n 0, 1) := dqo gX3_noteBody_0.2.2.2.2.2.2.2.2.2.2.1
theorem dX3_noteBody_20 : decode (mB 37) 20 = .ok (.dup, 1) := dqo gX3_noteBody_0.2.2.2.2.2.2.2.2.2.2.2.1
theorem dX3_noteBody_21 : decode (mB 37) 21 = .ok (.getfield 32, 3) := dqo gX3_noteBody_0.2.2.2.2.2.2.2.2.2.2.2.2.1
theorem dX3_noteBody_24 : decode (mB 37) 24 = .ok (.iconst 1, 1) := dqo gX3_noteBody_0.2.2.2.2.2.2.2.2.2.2.2.2.2.1
theorem dX3_noteBody_25 : decode (mB 37) 25 = .ok (.iadd, 1) := dqo gX3_noteBody_0.2.2.2.2.2.2.2.2.2.2.2.2.2.2.1
theorem dX3_noteBody_26 : decode (mB 37) 26 = .ok (.putfield 32, 3) := dqo gX3_noteBody_0.2.2.2.2.2.2.2.2.2.2.2.2.2.2.2
theorem dX3_noteBody_29 : decode (mB 37) 29 = .ok (.return_, 1) := dqo (by decide +kernel)
theorem gX3_ownerOf_0 : dq 38 0 (.iload_n 0) 1 = true ∧ dq 38 1 (.istore_n 2) 1 = true ∧ dq 38 2 (.iconst 0) 1 = true ∧ dq 38 3 (.istore_n 3) 1 = true ∧ dq 38 4 (.iload_n 3) 1 = true ∧ dq 38 5 (.bipush 8) 2 = true ∧ dq 38 7 (.if_icmp .ge 36) 3 = true ∧ dq 38 10 (.iload_n 2) 1 = true ∧ dq 38 11 (.invokestatic 18) 3 = true ∧ dq 38 14 (.ifCond .eq 29) 3 = true ∧ dq 38 17 (.getstatic 56) 3 = true ∧ dq 38 20 (.iload_n 2) 1 = true ∧ dq 38 21 (.iconst 4) 1 = true ∧ dq 38 22 (.imul) 1 = true ∧ dq 38 23 (.iload_n 1) 1 = true ∧ dq 38 24 (.iadd) 1 = true := by decide +kernel
theorem dX3_ownerOf_0 : decode (mB 38) 0 = .ok (.iload_n 0, 1) := dqo gX3_ownerOf_0.1
theorem dX3_ownerOf_1 : decode (mB 38) 1 = .ok (.istore_n 2, 1) := dqo gX3_ownerOf_0.2.1
theorem dX3_ownerOf_2 : decode (mB 38) 2 = .ok (.iconst 0, 1) := dqo gX3_ownerOf_0.2.2.1
theorem dX3_ownerOf_3 : decode (mB 38) 3 = .ok (.istore_n 3, 1) := dqo gX3_ownerOf_0.2.2.2.1
theorem dX3_ownerOf_4 : decode (mB 38) 4 = .ok (.iload_n 3, 1) := dqo gX3_ownerOf_0.2.2.2.2.1
theorem dX3_ownerOf_5 : decode (mB 38) 5 = .ok (.bipush 8, 2) := dqo gX3_ownerOf_0.2.2.2.2.2.1
theorem dX3_ownerOf_7 : decode (mB 38) 7 = .ok (.if_icmp .ge 36, 3) := dqo gX3_ownerOf_0.2.2.2.2.2.2.1
theorem dX3_ownerOf_10 : decode (mB 38) 10 = .ok (.iload_n 2, 1) := dqo gX3_ownerOf_0.2.2.2.2.2.2.2.1
theorem dX3_ownerOf_11 : decode (mB 38) 11 = .ok (.invokestatic 18, 3) := dqo gX3_ownerOf_0.2.2.2.2.2.2.2.2.1
theorem dX3_ownerOf_14 : decode (mB 38) 14 = .ok (.ifCond .eq 29, 3) := dqo gX3_ownerOf_0.2.2.2.2.2.2.2.2.2.1
theorem dX3_ownerOf_17 : decode (mB 38) 17 = .ok (.getstatic 56, 3) := dqo gX3_ownerOf_0.2.2.2.2.2.2.2.2.2.2.1
theorem dX3_ownerOf_20 : decode (mB 38) 20 = .ok (.iload_n 2, 1) := dqo gX3_ownerOf_0.2.2.2.2.2.2.2.2.2.2.2.1
theorem dX3_ownerOf_21 : decode (mB 38) 21 = .ok (.iconst 4, 1) := dqo gX3_ownerOf_0.2.2.2.2.2.2.2.2.2.2.2.2.1
theorem dX3_ownerOf_22 : decode (mB 38) 22 = .ok (.imul, 1) := dqo gX3_ownerOf_0.2.2.2.2.2.2.2.2.2.2.2.2.2.1
theorem dX3_ownerOf_23 : decode (mB 38) 23 = .ok (.iload_n 1, 1) := dqo gX3_ownerOf_0.2.2.2.2.2.2.2.2.2.2.2.2.2.2.1
theorem dX3_ownerOf_24 : decode (mB 38) 24 = .ok (.iadd, 1) := dqo gX3_ownerOf_0.2.2.2.2.2.2.2.2.2.2.2.2.2.2.2
theorem gX3_ownerOf_25 : dq 38 25 (.iaload) 1 = true ∧ dq 38 26 (.ifCond .eq 5) 3 = true ∧ dq 38 29 (.iload_n 2) 1 = true ∧ dq 38 30 (.ireturn) 1 = true ∧ dq 38 31 (.getstatic 22) 3 = true ∧ dq 38 34 (.iload_n 2) 1 = true ∧ dq 38 35 (.iaload) 1 = true ∧ dq 38 36 (.istore_n 2) 1 = true ∧ dq 38 37 (.iinc 3 1) 3 = true ∧ dq 38 40 (.goto (-36)) 3 = true ∧ dq 38 43 (.iconst (-1)) 1 = true ∧ dq 38 44 (.ireturn) 1 = true := by decide +kernel
theorem dX3_ownerOf_25 : decode (mB 38) 25 = .ok (.iaload, 1) := dqo gX3_ownerOf_25.1
theorem dX3_ownerOf_26 : decode (mB 38) 26 = .ok (.ifCond .eq 5, 3) := dqo gX3_ownerOf_25.2.1
theorem dX3_ownerOf_29 : decode (mB 38) 29 = .ok (.iload_n 2, 1) := dqo gX3_ownerOf_25.2.2.1
theorem dX3_ownerOf_30 : decode (mB 38) 30 = .ok (.ireturn, 1) := dqo gX3_ownerOf_25.2.2.2.1
theorem dX3_ownerOf_31 : decode (mB 38) 31 = .ok (.getstatic 22, 3) := dqo gX3_ownerOf_25.2.2.2.2.1
theorem dX3_ownerOf_34 : decode (mB 38) 34 = .ok (.iload_n 2, 1) := dqo gX3_ownerOf_25.2.2.2.2.2.1
theorem dX3_ownerOf_35 : decode (mB 38) 35 = .ok (.iaload, 1) := dqo gX3_ownerOf_25.2.2.2.2.2.2.1
theorem dX3_ownerOf_36 : decode (mB 38) 36 = .ok (.istore_n 2, 1) := dqo gX3_ownerOf_25.2.2.2.2.2.2.2.1
theorem dX3_ownerOf_37 : decode (mB 38) 37 = .ok (.iinc 3 1, 3) := dqo gX3_ownerOf_25.2.2.2.2.2.2.2.2.1
theorem dX3_ownerOf_40 : decode (mB 38) 40 = .ok (.goto (-36), 3) := dqo gX3_ownerOf_25.2.2.2.2.2.2.2.2.2.1
theorem dX3_ownerOf_43 : decode (mB 38) 43 = .ok (.iconst (-1), 1) := dqo gX3_ownerOf_25.2.2.2.2.2.2.2.2.2.2.1
theorem dX3_ownerOf_44 : decode (mB 38) 44 = .ok (.ireturn, 1) := dqo gX3_ownerOf_25.2.2.2.2.2.2.2.2.2.2.2
theorem gX3_perform_0 : dq 39 0 (.iload_n 1) 1 = true ∧ dq 39 1 (.iload_n 2) 1 = true ∧ dq 39 2 (.invokestatic 59) 3 = true ∧ dq 39 5 (.istore 5) 2 = true ∧ dq 39 7 (.iload 5) 2 = true ∧ dq 39 9 (.ifCond .lt 10) 3 = true ∧ dq 39 12 (.iload 4) 2 = true ∧ dq 39 14 (.bipush 40) 2 = true ∧ dq 39 16 (.if_icmp .le 5) 3 = true ∧ dq 39 19 (.iconst 0) 1 = true ∧ dq 39 20 (.ireturn) 1 = true ∧ dq 39 21 (.getstatic 56) 3 = true ∧ dq 39 24 (.iload 5) 2 = true ∧ dq 39 26 (.iconst 4) 1 = true ∧ dq 39 27 (.imul) 1 = true ∧ dq 39 28 (.iload_n 2) 1 = true := by decide +kernel
theorem dX3_perform_0 : decode (mB 39) 0 = .ok (.iload_n 1, 1) := dqo gX3_perform_0.1
theorem dX3_perform_1 : decode (mB 39) 1 = .ok (.iload_n 2, 1) := dqo gX3_perform_0.2.1
theorem dX3_perform_2 : decode (mB 39) 2 = .ok (.invokestatic 59, 3) := dqo gX3_perform_0.2.2.1
theorem dX3_perform_5 : decode (mB 39) 5 = .ok (.istore 5, 2) := dqo gX3_perform_0.2.2.2.1
theorem dX3_perform_7 : decode (mB 39) 7 = .ok (.iload 5, 2) := dqo gX3_perform_0.2.2.2.2.1
theorem dX3_perform_9 : decode (mB 39) 9 = .ok (.ifCond .lt 10, 3) := dqo gX3_perform_0.2.2.2.2.2.1
theorem dX3_perform_12 : decode (mB 39) 12 = .ok (.iload 4, 2) := dqo gX3_perform_0.2.2.2.2.2.2.1
theorem dX3_perform_14 : decode (mB 39) 14 = .ok (.bipush 40, 2) := dqo gX3_perform_0.2.2.2.2.2.2.2.1
theorem dX3_perform_16 : decode (mB 39) 16 = .ok (.if_icmp .le 5, 3) := dqo gX3_perform_0.2.2.2.2.2.2.2.2.1
theorem dX3_perform_19 : decode (mB 39) 19 = .ok (.iconst 0, 1) := dqo gX3_perform_0.2.2.2.2.2.2.2.2.2.1
theorem dX3_perform_20 : decode (mB 39) 20 = .ok (.ireturn, 1) := dqo gX3_perform_0.2.2.2.2.2.2.2.2.2.2.1
theorem dX3_perform_21 : decode (mB 39) 21 = .ok (.getstatic 56, 3) := dqo gX3_perform_0.2.2.2.2.2.2.2.2.2.2.2.1
theorem dX3_perform_24 : decode (mB 39) 24 = .ok (.iload 5, 2) := dqo gX3_perform_0.2.2.2.2.2.2.2.2.2.2.2.2.1
theorem dX3_perform_26 : decode (mB 39) 26 = .ok (.iconst 4, 1) := dqo gX3_perform_0.2.2.2.2.2.2.2.2.2.2.2.2.2.1
theorem dX3_perform_27 : decode (mB 39) 27 = .ok (.imul, 1) := dqo gX3_perform_0.2.2.2.2.2.2.2.2.2.2.2.2.2.2.1
theorem dX3_perform_28 : decode (mB 39) 28 = .ok (.iload_n 2, 1) := dqo gX3_perform_0.2.2.2.2.2.2.2.2.2.2.2.2.2.2.2
theorem gX3_perform_29 : dq 39 29 (.iadd) 1 = true ∧ dq 39 30 (.iaload) 1 = true ∧ dq 39 31 (.istore 6) 2 = true ∧ dq 39 33 (.aload_n 0) 1 = true ∧ dq 39 34 (.aload_n 0) 1 = true ∧ dq 39 35 (.getfield 45) 3 = true ∧ dq 39 38 (.invokevirtual 48) 3 = true ∧ dq 39 41 (.istore 7) 2 = true ∧ dq 39 43 (.getstatic 22) 3 = true ∧ dq 39 46 (.iload 5) 2 = true ∧ dq 39 48 (.iaload) 1 = true ∧ dq 39 49 (.istore 8) 2 = true ∧ dq 39 51 (.iload 4) 2 = true ∧ dq 39 53 (.iconst 1) 1 = true ∧ dq 39 54 (.iadd) 1 = true ∧ dq 39 55 (.istore 9) 2 = true := by decide +kernel
theorem dX3_perform_29 : decode (mB 39) 29 = .ok (.iadd, 1) := dqo gX3_perform_29.1
theorem dX3_perform_30 : decode (mB 39) 30 = .ok (.iaload, 1) := dqo gX3_perform_29.2.1
theorem dX3_perform_31 : decode (mB 39) 31 = .ok (.istore 6, 2) := dqo gX3_perform_29.2.2.1
theorem dX3_perform_33 : decode (mB 39) 33 = .ok (.aload_n 0, 1) := dqo gX3_perform_29.2.2.2.1
theorem dX3_perform_34 : decode (mB 39) 34 = .ok (.aload_n 0, 1) := dqo gX3_perform_29.2.2.2.2.1
theorem dX3_perform_35 : decode (mB 39) 35 = .ok (.getfield 45, 3) := dqo gX3_perform_29.2.2.2.2.2.1
theorem dX3_perform_38 : decode (mB 39) 38 = .ok (.invokevirtual 48, 3) := dqo gX3_perform_29.2.2.2.2.2.2.1
theorem dX3_perform_41 : decode (mB 39) 41 = .ok (.istore 7, 2) := dqo gX3_perform_29.2.2.2.2.2.2.2.1
theorem dX3_perform_43 : decode (mB 39) 43 = .ok (.getstatic 22, 3) := dqo gX3_perform_29.2.2.2.2.2.2.2.2.1
theorem dX3_perform_46 : decode (mB 39) 46 = .ok (.iload 5, 2) := dqo gX3_perform_29.2.2.2.2.2.2.2.2.2.1
theorem dX3_perform_48 : decode (mB 39) 48 = .ok (.iaload, 1) := dqo gX3_perform_29.2.2.2.2.2.2.2.2.2.2.1
theorem dX3_perform_49 : decode (mB 39) 49 = .ok (.istore 8, 2) := dqo gX3_perform_29.2.2.2.2.2.2.2.2.2.2.2.1
theorem dX3_perform_51 : decode (mB 39) 51 = .ok (.iload 4, 2) := dqo gX3_perform_29.2.2.2.2.2.2.2.2.2.2.2.2.1
theorem dX3_perform_53 : decode (mB 39) 53 = .ok (.iconst 1, 1) := dqo gX3_perform_29.2.2.2.2.2.2.2.2.2.2.2.2.2.1
theorem dX3_perform_54 : decode (mB 39) 54 = .ok (.iadd, 1) := dqo gX3_perform_29.2.2.2.2.2.2.2.2.2.2.2.2.2.2.1
theorem dX3_perform_55 : decode (mB 39) 55 = .ok (.istore 9, 2) := dqo gX3_perform_29.2.2.2.2.2.2.2.2.2.2.2.2.2.2.2
theorem gX3_perform_57 : dq 39 57 (.aload_n 0) 1 = true ∧ dq 39 58 (.iload 6) 2 = true ∧ dq 39 60 (.invokevirtual 62) 3 = true ∧ dq 39 63 (.iload 6) 2 = true ∧ dq 39 65 (.lookupswitch 319 #[(1, 123), (2, 130), (10, 152), (11, 165), (20, 172), (30, 185), (40, 197), (41, 210), (50, 223), (60, 236), (61, 258), (70, 271), (80, 284), (81, 306)]) 123 = true ∧ dq 39 188 (.iload_n 3) 1 = true ∧ dq 39 189 (.aload_n 0) 1 = true ∧ dq 39 190 (.getfield 45) 3 = true ∧ dq 39 193 (.iadd) 1 = true ∧ dq 39 194 (.ireturn) 1 = true ∧ dq 39 195 (.aload_n 0) 1 = true ∧ dq 39 196 (.iload 7) 2 = true ∧ dq 39 198 (.iconst 1) 1 = true ∧ dq 39 199 (.iload_n 3) 1 = true ∧ dq 39 200 (.iload 9) 2 = true ∧ dq 39 202 (.invokestatic 52) 3 = true := by decide +kernel
theorem dX3_perform_57 : decode (mB 39) 57 = .ok (.aload_n 0, 1) := dqo gX3_perform_57.1
theorem dX3_perform_58 : decode (mB 39) 58 = .ok (.iload 6, 2) := dqo gX3_perform_57.2.1
theorem dX3_perform_60 : decode (mB 39) 60 = .ok (.invokevirtual 62, 3) := dqo gX3_perform_57.2.2.1
theorem dX3_perform_63 : decode (mB 39) 63 = .ok (.iload 6, 2) := dqo gX3_perform_57.2.2.2.1
theorem dX3_perform_65 : decode (mB 39) 65 = .ok (.lookupswitch 319 #[(1, 123), (2, 130), (10, 152), (11, 165), (20, 172), (30, 185), (40, 197), (41, 210), (50, 223), (60, 236), (61, 258), (70, 271), (80, 284), (81, 306)], 123) := dqo gX3_perform_57.2.2.2.2.1
theorem dX3_perform_188 : decode (mB 39) 188 = .ok (.iload_n 3, 1) := dqo gX3_perform_57.2.2.2.2.2.1
theorem dX3_perform_189 : decode (mB 39) 189 = .ok (.aload_n 0, 1) := dqo gX3_perform_57.2.2.2.2.2.2.1
theorem dX3_perform_190 : decode (mB 39) 190 = .ok (.getfield 45, 3) := dqo gX3_perform_57.2.2.2.2.2.2.2.1
theorem dX3_perform_193 : decode (mB 39) 193 = .ok (.iadd, 1) := dqo gX3_perform_57.2.2.2.2.2.2.2.2.1
theorem dX3_perform_194 : decode (mB 39) 194 = .ok (.ireturn, 1) := dqo gX3_perform_57.2.2.2.2.2.2.2.2.2.1
theorem dX3_perform_195 : decode (mB 39) 195 = .ok (.aload_n 0, 1) := dqo gX3_perform_57.2.2.2.2.2.2.2.2.2.2.1
theorem dX3_perform_196 : decode (mB 39) 196 = .ok (.iload 7, 2) := dqo gX3_perform_57.2.2.2.2.2.2.2.2.2.2.2.1
theorem dX3_perform_198 : decode (mB 39) 198 = .ok (.iconst 1, 1) := dqo gX3_perform_57.2.2.2.2.2.2.2.2.2.2.2.2.1
theorem dX3_perform_199 : decode (mB 39) 199 = .ok (.iload_n 3, 1) := dqo gX3_perform_57.2.2.2.2.2.2.2.2.2.2.2.2.2.1
theorem dX3_perform_200 : decode (mB 39) 200 = .ok (.iload 9, 2) := dqo gX3_perform_57.2.2.2.2.2.2.2.2.2.2.2.2.2.2.1
theorem dX3_perform_202 : decode (mB 39) 202 = .ok (.invokestatic 52, 3) := dqo gX3_perform_57.2.2.2.2.2.2.2.2.2.2.2.2.2.2.2
theorem gX3_perform_205 : dq 39 205 (.aload_n 0) 1 = true ∧ dq 39 206 (.iload 7) 2 = true ∧ dq 39 208 (.iconst 2) 1 = true ∧ dq 39 209 (.iconst 1) 1 = true ∧ dq 39 210 (.iload 9) 2 = true ∧ dq 39 212 (.invokestatic 52) 3 = true ∧ dq 39 215 (.isub) 1 = true ∧ dq 39 216 (.ireturn) 1 = true ∧ dq 39 217 (.aload_n 0) 1 = true ∧ dq 39 218 (.iload 7) 2 = true ∧ dq 39 220 (.iconst 0) 1 = true ∧ dq 39 221 (.iload_n 3) 1 = true ∧ dq 39 222 (.iload 9) 2 = true ∧ dq 39 224 (.invokestatic 52) 3 = true ∧ dq 39 227 (.iconst 2) 1 = true ∧ dq 39 228 (.imul) 1 = true := by decide +kernel
theorem dX3_perform_205 : decode (mB 39) 205 = .ok (.aload_n 0, 1) := dqo gX3_perform_205.1
theorem dX3_perform_206 : decode (mB 39) 206 = .ok (.iload 7, 2) := dqo gX3_perform_205.2.1
theorem dX3_perform_208 : decode (mB 39) 208 = .ok (.iconst 2, 1) := dqo gX3_perform_205.2.2.1
theorem dX3_perform_209 : decode (mB 39) 209 = .ok (.iconst 1, 1) := dqo gX3_perform_205.2.2.2.1
theorem dX3_perform_210 : decode (mB 39) 210 = .ok (.iload 9, 2) := dqo gX3_perform_205.2.2.2.2.1
theorem dX3_perform_212 : decode (mB 39) 212 = .ok (.invokestatic 52, 3) := dqo gX3_perform_205.2.2.2.2.2.1
theorem dX3_perform_215 : decode (mB 39) 215 = .ok (.isub, 1) := dqo gX3_perform_205.2.2.2.2.2.2.1
theorem dX3_perform_216 : decode (mB 39) 216 = .ok (.ireturn, 1) := dqo gX3_perform_205.2.2.2.2.2.2.2.1
theorem dX3_perform_217 : decode (mB 39) 217 = .ok (.aload_n 0, 1) := dqo gX3_perform_205.2.2.2.2.2.2.2.2.1
theorem dX3_perform_218 : decode (mB 39) 218 = .ok (.iload 7, 2) := dqo gX3_perform_205.2.2.2.2.2.2.2.2.2.1
theorem dX3_perform_220 : decode (mB 39) 220 = .ok (.iconst 0, 1) := dqo gX3_perform_205.2.2.2.2.2.2.2.2.2.2.1
theorem dX3_perform_221 : decode (mB 39) 221 = .ok (.iload_n 3, 1) := dqo gX3_perform_205.2.2.2.2.2.2.2.2.2.2.2.1
theorem dX3_perform_222 : decode (mB 39) 222 = .ok (.iload 9, 2) := dqo gX3_perform_205.2.2.2.2.2.2.2.2.2.2.2.2.1
theorem dX3_perform_224 : decode (mB 39) 224 = .ok (.invokestatic 52, 3) := dqo gX3_perform_205.2.2.2.2.2.2.2.2.2.2.2.2.2.1
theorem dX3_perform_227 : decode (mB 39) 227 = .ok (.iconst 2, 1) := dqo gX3_perform_205.2.2.2.2.2.2.2.2.2.2.2.2.2.2.1
theorem dX3_perform_228 : decode (mB 39) 228 = .ok (.imul, 1) := dqo gX3_perform_205.2.2.2.2.2.2.2.2.2.2.2.2.2.2.2
theorem gX3_perform_229 : dq 39 229 (.ireturn) 1 = true ∧ dq 39 230 (.iload_n 3) 1 = true ∧ dq 39 231 (.aload_n 0) 1 = true ∧ dq 39 232 (.getfield 45) 3 = true ∧ dq 39 235 (.ixor) 1 = true ∧ dq 39 236 (.ireturn) 1 = true ∧ dq 39 237 (.aload_n 0) 1 = true ∧ dq 39 238 (.iload 8) 2 = true ∧ dq 39 240 (.iconst 0) 1 = true ∧ dq 39 241 (.iload_n 3) 1 = true ∧ dq 39 242 (.iload 9) 2 = true ∧ dq 39 244 (.invokestatic 52) 3 = true ∧ dq 39 247 (.iconst 3) 1 = true ∧ dq 39 248 (.iadd) 1 = true ∧ dq 39 249 (.ireturn) 1 = true ∧ dq 39 250 (.aload_n 0) 1 = true := by decide +kernel
theorem dX3_perform_229 : decode (mB 39) 229 = .ok (.ireturn, 1) := dqo gX3_perform_229.1
theorem dX3_perform_230 : decode (mB 39) 230 = .ok (.iload_n 3, 1) := dqo gX3_perform_229.2.1
theorem dX3_perform_231 : decode (mB 39) 231 = .ok (.aload_n 0, 1) := dqo gX3_perform_229.2.2.1
theorem dX3_perform_232 : decode (mB 39) 232 = .ok (.getfield 45, 3) := dqo gX3_perform_229.2.2.2.1
theorem dX3_perform_235 : decode (mB 39) 235 = .ok (.ixor, 1) := dqo gX3_perform_229.2.2.2.2.1
theorem dX3_perform_236 : decode (mB 39) 236 = .ok (.ireturn, 1) := dqo gX3_perform_229.2.2.2.2.2.1
theorem dX3_perform_237 : decode (mB 39) 237 = .ok (.aload_n 0, 1) := dqo gX3_perform_229.2.2.2.2.2.2.1
theorem dX3_perform_238 : decode (mB 39) 238 = .ok (.iload 8, 2) := dqo gX3_perform_229.2.2.2.2.2.2.2.1
theorem dX3_perform_240 : decode (mB 39) 240 = .ok (.iconst 0, 1) := dqo gX3_perform_229.2.2.2.2.2.2.2.2.1
theorem dX3_perform_241 : decode (mB 39) 241 = .ok (.iload_n 3, 1) := dqo gX3_perform_229.2.2.2.2.2.2.2.2.2.1
theorem dX3_perform_242 : decode (mB 39) 242 = .ok (.iload 9, 2) := dqo gX3_perform_229.2.2.2.2.2.2.2.2.2.2.1
theorem dX3_perform_244 : decode (mB 39) 244 = .ok (.invokestatic 52, 3) := dqo gX3_perform_229.2.2.2.2.2.2.2.2.2.2.2.1
theorem dX3_perform_247 : decode (mB 39) 247 = .ok (.iconst 3, 1) := dqo gX3_perform_229.2.2.2.2.2.2.2.2.2.2.2.2.1
theorem dX3_perform_248 : decode (mB 39) 248 = .ok (.iadd, 1) := dqo gX3_perform_229.2.2.2.2.2.2.2.2.2.2.2.2.2.1
theorem dX3_perform_249 : decode (mB 39) 249 = .ok (.ireturn, 1) := dqo gX3_perform_229.2.2.2.2.2.2.2.2.2.2.2.2.2.2.1
theorem dX3_perform_250 : decode (mB 39) 250 = .ok (.aload_n 0, 1) := dqo gX3_perform_229.2.2.2.2.2.2.2.2.2.2.2.2.2.2.2
theorem gX3_perform_251 : dq 39 251 (.iload 8) 2 = true ∧ dq 39 253 (.iconst 1) 1 = true ∧ dq 39 254 (.iload_n 3) 1 = true ∧ dq 39 255 (.iload 9) 2 = true ∧ dq 39 257 (.invokestatic 52) 3 = true ∧ dq 39 260 (.ineg) 1 = true ∧ dq 39 261 (.ireturn) 1 = true ∧ dq 39 262 (.aload_n 0) 1 = true ∧ dq 39 263 (.iload 8) 2 = true ∧ dq 39 265 (.iconst 2) 1 = true ∧ dq 39 266 (.iload_n 3) 1 = true ∧ dq 39 267 (.iload 9) 2 = true ∧ dq 39 269 (.invokestatic 52) 3 = true ∧ dq 39 272 (.iconst 3) 1 = true ∧ dq 39 273 (.imul) 1 = true ∧ dq 39 274 (.ireturn) 1 = true := by decide +kernel
theorem dX3_perform_251 : decode (mB 39) 251 = .ok (.iload 8, 2) := dqo gX3_perform_251.1
theorem dX3_perform_253 : decode (mB 39) 253 = .ok (.iconst 1, 1) := dqo gX3_perform_251.2.1
theorem dX3_perform_254 : decode (mB 39) 254 = .ok (.iload_n 3, 1) := dqo gX3_perform_251.2.2.1
theorem dX3_perform_255 : decode (mB 39) 255 = .ok (.iload 9, 2) := dqo gX3_perform_251.2.2.2.1
theorem dX3_perform_257 : decode (mB 39) 257 = .ok (.invokestatic 52, 3) := dqo gX3_perform_251.2.2.2.2.1
theorem dX3_perform_260 : decode (mB 39) 260 = .ok (.ineg, 1) := dqo gX3_perform_251.2.2.2.2.2.1
theorem dX3_perform_261 : decode (mB 39) 261 = .ok (.ireturn, 1) := dqo gX3_perform_251.2.2.2.2.2.2.1
theorem dX3_perform_262 : decode (mB 39) 262 = .ok (.aload_n 0, 1) := dqo gX3_perform_251.2.2.2.2.2.2.2.1
theorem dX3_perform_263 : decode (mB 39) 263 = .ok (.iload 8, 2) := dqo gX3_perform_251.2.2.2.2.2.2.2.2.1
theorem dX3_perform_265 : decode (mB 39) 265 = .ok (.iconst 2, 1) := dqo gX3_perform_251.2.2.2.2.2.2.2.2.2.1
theorem dX3_perform_266 : decode (mB 39) 266 = .ok (.iload_n 3, 1) := dqo gX3_perform_251.2.2.2.2.2.2.2.2.2.2.1
theorem dX3_perform_267 : decode (mB 39) 267 = .ok (.iload 9, 2) := dqo gX3_perform_251.2.2.2.2.2.2.2.2.2.2.2.1
theorem dX3_perform_269 : decode (mB 39) 269 = .ok (.invokestatic 52, 3) := dqo gX3_perform_251.2.2.2.2.2.2.2.2.2.2.2.2.1
theorem dX3_perform_272 : decode (mB 39) 272 = .ok (.iconst 3, 1) := dqo gX3_perform_251.2.2.2.2.2.2.2.2.2.2.2.2.2.1
theorem dX3_perform_273 : decode (mB 39) 273 = .ok (.imul, 1) := dqo gX3_perform_251.2.2.2.2.2.2.2.2.2.2.2.2.2.2.1
theorem dX3_perform_274 : decode (mB 39) 274 = .ok (.ireturn, 1) := dqo gX3_perform_251.2.2.2.2.2.2.2.2.2.2.2.2.2.2.2
theorem gX3_perform_275 : dq 39 275 (.aload_n 0) 1 = true ∧ dq 39 276 (.iload 8) 2 = true ∧ dq 39 278 (.iconst 1) 1 = true ∧ dq 39 279 (.iload_n 3) 1 = true ∧ dq 39 280 (.iconst 1) 1 = true ∧ dq 39 281 (.iadd) 1 = true ∧ dq 39 282 (.iload 9) 2 = true ∧ dq 39 284 (.invokestatic 52) 3 = true ∧ dq 39 287 (.ireturn) 1 = true ∧ dq 39 288 (.aload_n 0) 1 = true ∧ dq 39 289 (.iload 8) 2 = true ∧ dq 39 291 (.iconst 3) 1 = true ∧ dq 39 292 (.iload_n 3) 1 = true ∧ dq 39 293 (.iload 9) 2 = true ∧ dq 39 295 (.invokestatic 52) 3 = true ∧ dq 39 298 (.iconst 5) 1 = true := by decide +kernel
theorem dX3_perform_275 : decode (mB 39) 275 = .ok (.aload_n 0, 1) := dqo gX3_perform_275.1
theorem dX3_perform_276 : decode (mB 39) 276 = .ok (.iload 8, 2) := dqo gX3_perform_275.2.1
theorem dX3_perform_278 : decode (mB 39) 278 = .ok (.iconst 1, 1) := dqo gX3_perform_275.2.2.1
theorem dX3_perform_279 : decode (mB 39) 279 = .ok (.iload_n 3, 1) := dqo gX3_perform_275.2.2.2.1
theorem dX3_perform_280 : decode (mB 39) 280 = .ok (.iconst 1, 1) := dqo gX3_perform_275.2.2.2.2.1
theorem dX3_perform_281 : decode (mB 39) 281 = .ok (.iadd, 1) := dqo gX3_perform_275.2.2.2.2.2.1
theorem dX3_perform_282 : decode (mB 39) 282 = .ok (.iload 9, 2) := dqo gX3_perform_275.2.2.2.2.2.2.1
theorem dX3_perform_284 : decode (mB 39) 284 = .ok (.invokestatic 52, 3) := dqo gX3_perform_275.2.2.2.2.2.2.2.1
theorem dX3_perform_287 : decode (mB 39) 287 = .ok (.ireturn, 1) := dqo gX3_perform_275.2.2.2.2.2.2.2.2.1
theorem dX3_perform_288 : decode (mB 39) 288 = .ok (.aload_n 0, 1) := dqo gX3_perform_275.2.2.2.2.2.2.2.2.2.1
theorem dX3_perform_289 : decode (mB 39) 289 = .ok (.iload 8, 2) := dqo gX3_perform_275.2.2.2.2.2.2.2.2.2.2.1
theorem dX3_perform_291 : decode (mB 39) 291 = .ok (.iconst 3, 1) := dqo gX3_perform_275.2.2.2.2.2.2.2.2.2.2.2.1
theorem dX3_perform_292 : decode (mB 39) 292 = .ok (.iload_n 3, 1) := dqo gX3_perform_275.2.2.2.2.2.2.2.2.2.2.2.2.1
theorem dX3_perform_293 : decode (mB 39) 293 = .ok (.iload 9, 2) := dqo gX3_perform_275.2.2.2.2.2.2.2.2.2.2.2.2.2.1
theorem dX3_perform_295 : decode (mB 39) 295 = .ok (.invokestatic 52, 3) := dqo gX3_perform_275.2.2.2.2.2.2.2.2.2.2.2.2.2.2.1
theorem dX3_perform_298 : decode (mB 39) 298 = .ok (.iconst 5, 1) := dqo gX3_perform_275.2.2.2.2.2.2.2.2.2.2.2.2.2.2.2
theorem gX3_perform_299 : dq 39 299 (.ixor) 1 = true ∧ dq 39 300 (.ireturn) 1 = true ∧ dq 39 301 (.aload_n 0) 1 = true ∧ dq 39 302 (.iload 8) 2 = true ∧ dq 39 304 (.iconst 2) 1 = true ∧ dq 39 305 (.iload_n 3) 1 = true ∧ dq 39 306 (.iload 9) 2 = true ∧ dq 39 308 (.invokestatic 52) 3 = true ∧ dq 39 311 (.aload_n 0) 1 = true ∧ dq 39 312 (.iload 7) 2 = true ∧ dq 39 314 (.iconst 0) 1 = true ∧ dq 39 315 (.iconst 2) 1 = true ∧ dq 39 316 (.iload 9) 2 = true ∧ dq 39 318 (.invokestatic 52) 3 = true ∧ dq 39 321 (.isub) 1 = true ∧ dq 39 322 (.ireturn) 1 = true := by decide +kernel
theorem dX3_perform_299 : decode (mB 39) 299 = .ok (.ixor, 1) := dqo gX3_perform_299.1
theorem dX3_perform_300 : decode (mB 39) 300 = .ok (.ireturn, 1) := dqo gX3_perform_299.2.1
theorem dX3_perform_301 : decode (mB 39) 301 = .ok (.aload_n 0, 1) := dqo gX3_perform_299.2.2.1
theorem dX3_perform_302 : decode (mB 39) 302 = .ok (.iload 8, 2) := dqo gX3_perform_299.2.2.2.1
theorem dX3_perform_304 : decode (mB 39) 304 = .ok (.iconst 2, 1) := dqo gX3_perform_299.2.2.2.2.1
theorem dX3_perform_305 : decode (mB 39) 305 = .ok (.iload_n 3, 1) := dqo gX3_perform_299.2.2.2.2.2.1
theorem dX3_perform_306 : decode (mB 39) 306 = .ok (.iload 9, 2) := dqo gX3_perform_299.2.2.2.2.2.2.1
theorem dX3_perform_308 : decode (mB 39) 308 = .ok (.invokestatic 52, 3) := dqo gX3_perform_299.2.2.2.2.2.2.2.1
theorem dX3_perform_311 : decode (mB 39) 311 = .ok (.aload_n 0, 1) := dqo gX3_perform_299.2.2.2.2.2.2.2.2.1
theorem dX3_perform_312 : decode (mB 39) 312 = .ok (.iload 7, 2) := dqo gX3_perform_299.2.2.2.2.2.2.2.2.2.1
theorem dX3_perform_314 : decode (mB 39) 314 = .ok (.iconst 0, 1) := dqo gX3_perform_299.2.2.2.2.2.2.2.2.2.2.1
theorem dX3_perform_315 : decode (mB 39) 315 = .ok (.iconst 2, 1) := dqo gX3_perform_299.2.2.2.2.2.2.2.2.2.2.2.1
theorem dX3_perform_316 : decode (mB 39) 316 = .ok (.iload 9, 2) := dqo gX3_perform_299.2.2.2.2.2.2.2.2.2.2.2.2.1
theorem dX3_perform_318 : decode (mB 39) 318 = .ok (.invokestatic 52, 3) := dqo gX3_perform_299.2.2.2.2.2.2.2.2.2.2.2.2.2.1
theorem dX3_perform_321 : decode (mB 39) 321 = .ok (.isub, 1) := dqo gX3_perform_299.2.2.2.2.2.2.2.2.2.2.2.2.2.2.1
theorem dX3_perform_322 : decode (mB 39) 322 = .ok (.ireturn, 1) := dqo gX3_perform_299.2.2.2.2.2.2.2.2.2.2.2.2.2.2.2
theorem gX3_perform_323 : dq 39 323 (.aload_n 0) 1 = true ∧ dq 39 324 (.iload 8) 2 = true ∧ dq 39 326 (.iconst 3) 1 = true ∧ dq 39 327 (.iload_n 3) 1 = true ∧ dq 39 328 (.iload 9) 2 = true ∧ dq 39 330 (.invokestatic 52) 3 = true ∧ dq 39 333 (.iconst 1) 1 = true ∧ dq 39 334 (.iadd) 1 = true ∧ dq 39 335 (.ireturn) 1 = true ∧ dq 39 336 (.aload_n 0) 1 = true ∧ dq 39 337 (.iload 8) 2 = true ∧ dq 39 339 (.iconst 0) 1 = true ∧ dq 39 340 (.iload_n 3) 1 = true ∧ dq 39 341 (.iload 9) 2 = true ∧ dq 39 343 (.invokestatic 52) 3 = true ∧ dq 39 346 (.iconst 2) 1 = true := by decide +kernel
theorem dX3_perform_323 : decode (mB 39) 323 = .ok (.aload_n 0, 1) := dqo gX3_perform_323.1
theorem dX3_perform_324 : decode (mB 39) 324 = .ok (.iload 8, 2) := dqo gX3_perform_323.2.1
theorem dX3_perform_326 : decode (mB 39) 326 = .ok (.iconst 3, 1) := dqo gX3_perform_323.2.2.1
theorem dX3_perform_327 : decode (mB 39) 327 = .ok (.iload_n 3, 1) := dqo gX3_perform_323.2.2.2.1
theorem dX3_perform_328 : decode (mB 39) 328 = .ok (.iload 9, 2) := dqo gX3_perform_323.2.2.2.2.1
theorem dX3_perform_330 : decode (mB 39) 330 = .ok (.invokestatic 52, 3) := dqo gX3_perform_323.2.2.2.2.2.1
theorem dX3_perform_333 : decode (mB 39) 333 = .ok (.iconst 1, 1) := dqo gX3_perform_323.2.2.2.2.2.2.1
theorem dX3_perform_334 : decode (mB 39) 334 = .ok (.iadd, 1) := dqo gX3_perform_323.2.2.2.2.2.2.2.1
theorem dX3_perform_335 : decode (mB 39) 335 = .ok (.ireturn, 1) := dqo gX3_perform_323.2.2.2.2.2.2.2.2.1
theorem dX3_perform_336 : decode (mB 39) 336 = .ok (.aload_n 0, 1) := dqo gX3_perform_323.2.2.2.2.2.2.2.2.2.1
theorem dX3_perform_337 : decode (mB 39) 337 = .ok (.iload 8, 2) := dqo gX3_perform_323.2.2.2.2.2.2.2.2.2.2.1
theorem dX3_perform_339 : decode (mB 39) 339 = .ok (.iconst 0, 1) := dqo gX3_perform_323.2.2.2.2.2.2.2.2.2.2.2.1
theorem dX3_perform_340 : decode (mB 39) 340 = .ok (.iload_n 3, 1) := dqo gX3_perform_323.2.2.2.2.2.2.2.2.2.2.2.2.1
theorem dX3_perform_341 : decode (mB 39) 341 = .ok (.iload 9, 2) := dqo gX3_perform_323.2.2.2.2.2.2.2.2.2.2.2.2.2.1
theorem dX3_perform_343 : decode (mB 39) 343 = .ok (.invokestatic 52, 3) := dqo gX3_perform_323.2.2.2.2.2.2.2.2.2.2.2.2.2.2.1
theorem dX3_perform_346 : decode (mB 39) 346 = .ok (.iconst 2, 1) := dqo gX3_perform_323.2.2.2.2.2.2.2.2.2.2.2.2.2.2.2
theorem gX3_perform_347 : dq 39 347 (.imul) 1 = true ∧ dq 39 348 (.ireturn) 1 = true ∧ dq 39 349 (.aload_n 0) 1 = true ∧ dq 39 350 (.iload 8) 2 = true ∧ dq 39 352 (.iconst 1) 1 = true ∧ dq 39 353 (.iload_n 3) 1 = true ∧ dq 39 354 (.iload 9) 2 = true ∧ dq 39 356 (.invokestatic 52) 3 = true ∧ dq 39 359 (.aload_n 0) 1 = true ∧ dq 39 360 (.iload 7) 2 = true ∧ dq 39 362 (.iconst 2) 1 = true ∧ dq 39 363 (.iconst 2) 1 = true ∧ dq 39 364 (.iload 9) 2 = true ∧ dq 39 366 (.invokestatic 52) 3 = true ∧ dq 39 369 (.iadd) 1 = true ∧ dq 39 370 (.ireturn) 1 = true := by decide +kernel
theorem dX3_perform_347 : decode (mB 39) 347 = .ok (.imul, 1) := dqo gX3_perform_347.1
theorem dX3_perform_348 : decode (mB 39) 348 = .ok (.ireturn, 1) := dqo gX3_perform_347.2.1
theorem dX3_perform_349 : decode (mB 39) 349 = .ok (.aload_n 0, 1) := dqo gX3_perform_347.2.2.1
theorem dX3_perform_350 : decode (mB 39) 350 = .ok (.iload 8, 2) := dqo gX3_perform_347.2.2.2.1
theorem dX3_perform_352 : decode (mB 39) 352 = .ok (.iconst 1, 1) := dqo gX3_perform_347.2.2.2.2.1
theorem dX3_perform_353 : decode (mB 39) 353 = .ok (.iload_n 3, 1) := dqo gX3_perform_347.2.2.2.2.2.1
theorem dX3_perform_354 : decode (mB 39) 354 = .ok (.iload 9, 2) := dqo gX3_perform_347.2.2.2.2.2.2.1
theorem dX3_perform_356 : decode (mB 39) 356 = .ok (.invokestatic 52, 3) := dqo gX3_perform_347.2.2.2.2.2.2.2.1
theorem dX3_perform_359 : decode (mB 39) 359 = .ok (.aload_n 0, 1) := dqo gX3_perform_347.2.2.2.2.2.2.2.2.1
theorem dX3_perform_360 : decode (mB 39) 360 = .ok (.iload 7, 2) := dqo gX3_perform_347.2.2.2.2.2.2.2.2.2.1
theorem dX3_perform_362 : decode (mB 39) 362 = .ok (.iconst 2, 1) := dqo gX3_perform_347.2.2.2.2.2.2.2.2.2.2.1
theorem dX3_perform_363 : decode (mB 39) 363 = .ok (.iconst 2, 1) := dqo gX3_perform_347.2.2.2.2.2.2.2.2.2.2.2.1
theorem dX3_perform_364 : decode (mB 39) 364 = .ok (.iload 9, 2) := dqo gX3_perform_347.2.2.2.2.2.2.2.2.2.2.2.2.1
theorem dX3_perform_366 : decode (mB 39) 366 = .ok (.invokestatic 52, 3) := dqo gX3_perform_347.2.2.2.2.2.2.2.2.2.2.2.2.2.1
theorem dX3_perform_369 : decode (mB 39) 369 = .ok (.iadd, 1) := dqo gX3_perform_347.2.2.2.2.2.2.2.2.2.2.2.2.2.2.1
theorem dX3_perform_370 : decode (mB 39) 370 = .ok (.ireturn, 1) := dqo gX3_perform_347.2.2.2.2.2.2.2.2.2.2.2.2.2.2.2
theorem gX3_perform_371 : dq 39 371 (.aload_n 0) 1 = true ∧ dq 39 372 (.iload 8) 2 = true ∧ dq 39 374 (.iconst 0) 1 = true ∧ dq 39 375 (.iload_n 3) 1 = true ∧ dq 39 376 (.iload 9) 2 = true ∧ dq 39 378 (.invokestatic 52) 3 = true ∧ dq 39 381 (.iconst 1) 1 = true ∧ dq 39 382 (.isub) 1 = true ∧ dq 39 383 (.ireturn) 1 = true ∧ dq 39 384 (.iconst 0) 1 = true ∧ dq 39 385 (.ireturn) 1 = true := by decide +kernel
theorem dX3_perform_371 : decode (mB 39) 371 = .ok (.aload_n 0, 1) := dqo gX3_perform_371.1
theorem dX3_perform_372 : decode (mB 39) 372 = .ok (.iload 8, 2) := dqo gX3_perform_371.2.1
theorem dX3_perform_374 : decode (mB 39) 374 = .ok (.iconst 0, 1) := dqo gX3_perform_371.2.2.1
theorem dX3_perform_375 : decode (mB 39) 375 = .ok (.iload_n 3, 1) := dqo gX3_perform_371.2.2.2.1
theorem dX3_perform_376 : decode (mB 39) 376 = .ok (.iload 9, 2) := dqo gX3_perform_371.2.2.2.2.1
theorem dX3_perform_378 : decode (mB 39) 378 = .ok (.invokestatic 52, 3) := dqo gX3_perform_371.2.2.2.2.2.1
theorem dX3_perform_381 : decode (mB 39) 381 = .ok (.iconst 1, 1) := dqo gX3_perform_371.2.2.2.2.2.2.1
theorem dX3_perform_382 : decode (mB 39) 382 = .ok (.isub, 1) := dqo gX3_perform_371.2.2.2.2.2.2.2.1
theorem dX3_perform_383 : decode (mB 39) 383 = .ok (.ireturn, 1) := dqo gX3_perform_371.2.2.2.2.2.2.2.2.1
theorem dX3_perform_384 : decode (mB 39) 384 = .ok (.iconst 0, 1) := dqo gX3_perform_371.2.2.2.2.2.2.2.2.2.1
theorem dX3_perform_385 : decode (mB 39) 385 = .ok (.ireturn, 1) := dqo gX3_perform_371.2.2.2.2.2.2.2.2.2.2
theorem gX4_init_0 : dq 40 0 (.aload_n 0) 1 = true ∧ dq 40 1 (.invokespecial 3) 3 = true ∧ dq 40 4 (.aload_n 0) 1 = true ∧ dq 40 5 (.bipush 121) 2 = true ∧ dq 40 7 (.newarray .int) 2 = true ∧ dq 40 9 (.putfield 11) 3 = true ∧ dq 40 12 (.aload_n 0) 1 = true ∧ dq 40 13 (.bipush 121) 2 = true ∧ dq 40 15 (.newarray .int) 2 = true ∧ dq 40 17 (.putfield 15) 3 = true ∧ dq 40 20 (.aload_n 0) 1 = true ∧ dq 40 21 (.bipush 121) 2 = true ∧ dq 40 23 (.newarray .int) 2 = true ∧ dq 40 25 (.putfield 18) 3 = true ∧ dq 40 28 (.aload_n 0) 1 = true ∧ dq 40 29 (.bipush 6) 2 = true := by decide +kernel
theorem dX4_init_0 : decode (mB 40) 0 = .ok (.aload_n 0, 1) := dqo gX4_init_0.1
theorem dX4_init_1 : decode (mB 40) 1 = .ok (.invokespecial 3, 3) := dqo gX4_init_0.2.1
theorem dX4_init_4 : decode (mB 40) 4 = .ok (.aload_n 0, 1) := dqo gX4_init_0.2.2.1
theorem dX4_init_5 : decode (mB 40) 5 = .ok (.bipush 121, 2) := dqo gX4_init_0.2.2.2.1
theorem dX4_init_7 : decode (mB 40) 7 = .ok (.newarray .int, 2) := dqo gX4_init_0.2.2.2.2.1
theorem dX4_init_9 : decode (mB 40) 9 = .ok (.putfield 11, 3) := dqo gX4_init_0.2.2.2.2.2.1
theorem dX4_init_12 : decode (mB 40) 12 = .ok (.aload_n 0, 1) := dqo gX4_init_0.2.2.2.2.2.2.1
theorem dX4_init_13 : decode (mB 40) 13 = .ok (.bipush 121, 2) := dqo gX4_init_0.2.2.2.2.2.2.2.1
theorem dX4_init_15 : decode (mB 40) 15 = .ok (.newarray .int, 2) := dqo gX4_init_0.2.2.2.2.2.2.2.2.1
theorem dX4_init_17 : decode (mB 40) 17 = .ok (.putfield 15, 3) := dqo gX4_init_0.2.2.2.2.2.2.2.2.2.1
theorem dX4_init_20 : decode (mB 40) 20 = .ok (.aload_n 0, 1) := dqo gX4_init_0.2.2.2.2.2.2.2.2.2.2.1
theorem dX4_init_21 : decode (mB 40) 21 = .ok (.bipush 121, 2) := dqo gX4_init_0.2.2.2.2.2.2.2.2.2.2.2.1
theorem dX4_init_23 : decode (mB 40) 23 = .ok (.newarray .int, 2) := dqo gX4_init_0.2.2.2.2.2.2.2.2.2.2.2.2.1
theorem dX4_init_25 : decode (mB 40) 25 = .ok (.putfield 18, 3) := dqo gX4_init_0.2.2.2.2.2.2.2.2.2.2.2.2.2.1
theorem dX4_init_28 : decode (mB 40) 28 = .ok (.aload_n 0, 1) := dqo gX4_init_0.2.2.2.2.2.2.2.2.2.2.2.2.2.2.1
theorem dX4_init_29 : decode (mB 40) 29 = .ok (.bipush 6, 2) := dqo gX4_init_0.2.2.2.2.2.2.2.2.2.2.2.2.2.2.2
theorem gX4_init_31 : dq 40 31 (.newarray .int) 2 = true ∧ dq 40 33 (.putfield 21) 3 = true ∧ dq 40 36 (.return_) 1 = true := by decide +kernel
theorem dX4_init_31 : decode (mB 40) 31 = .ok (.newarray .int, 2) := dqo gX4_init_31.1
theorem dX4_init_33 : decode (mB 40) 33 = .ok (.putfield 21, 3) := dqo gX4_init_31.2.1
theorem dX4_init_36 : decode (mB 40) 36 = .ok (.return_, 1) := dqo gX4_init_31.2.2
theorem gX4_isTold_0 : dq 41 0 (.aload_n 0) 1 = true ∧ dq 41 1 (.getfield 24) 3 = true ∧ dq 41 4 (.ifCond .le 7) 3 = true ∧ dq 41 7 (.iconst 1) 1 = true ∧ dq 41 8 (.goto 4) 3 = true ∧ dq 41 11 (.iconst 0) 1 = true ∧ dq 41 12 (.ireturn) 1 = true := by decide +kernel
theorem dX4_isTold_0 : decode (mB 41) 0 = .ok (.aload_n 0, 1) := dqo gX4_isTold_0.1
theorem dX4_isTold_1 : decode (mB 41) 1 = .ok (.getfield 24, 3) := dqo gX4_isTold_0.2.1
theorem dX4_isTold_4 : decode (mB 41) 4 = .ok (.ifCond .le 7, 3) := dqo gX4_isTold_0.2.2.1
theorem dX4_isTold_7 : decode (mB 41) 7 = .ok (.iconst 1, 1) := dqo gX4_isTold_0.2.2.2.1
theorem dX4_isTold_8 : decode (mB 41) 8 = .ok (.goto 4, 3) := dqo gX4_isTold_0.2.2.2.2.1
theorem dX4_isTold_11 : decode (mB 41) 11 = .ok (.iconst 0, 1) := dqo gX4_isTold_0.2.2.2.2.2.1
theorem dX4_isTold_12 : decode (mB 41) 12 = .ok (.ireturn, 1) := dqo gX4_isTold_0.2.2.2.2.2.2
theorem gX4_clear_0 : dq 42 0 (.aload_n 0) 1 = true ∧ dq 42 1 (.iconst 0) 1 = true ∧ dq 42 2 (.putfield 24) 3 = true ∧ dq 42 5 (.return_) 1 = true := by decide +kernel
theorem dX4_clear_0 : decode (mB 42) 0 = .ok (.aload_n 0, 1) := dqo gX4_clear_0.1
theorem dX4_clear_1 : decode (mB 42) 1 = .ok (.iconst 0, 1) := dqo gX4_clear_0.2.1
theorem dX4_clear_2 : decode (mB 42) 2 = .ok (.putfield 24, 3) := dqo gX4_clear_0.2.2.1
theorem dX4_clear_5 : decode (mB 42) 5 = .ok (.return_, 1) := dqo gX4_clear_0.2.2.2
theorem gX4_addStep_0 : dq 43 0 (.aload_n 0) 1 = true ∧ dq 43 1 (.getfield 24) 3 = true ∧ dq 43 4 (.bipush 121) 2 = true ∧ dq 43 6 (.if_icmp .ge 33) 3 = true ∧ dq 43 9 (.aload_n 0) 1 = true ∧ dq 43 10 (.getfield 11) 3 = true ∧ dq 43 13 (.aload_n 0) 1 = true ∧ dq 43 14 (.getfield 24) 3 = true ∧ dq 43 17 (.iload_n 1) 1 = true ∧ dq 43 18 (.iastore) 1 = true ∧ dq 43 19 (.aload_n 0) 1 = true ∧ dq 43 20 (.getfield 15) 3 = true ∧ dq 43 23 (.aload_n 0) 1 = true ∧ dq 43 24 (.getfield 24) 3 = true ∧ dq 43 27 (.iload_n 2) 1 = true ∧ dq 43 28 (.iastore) 1 = true := by decide +kernel
theorem dX4_addStep_0 : decode (mB 43) 0 = .ok (.aload_n 0, 1) := dqo gX4_addStep_0.1
theorem dX4_addStep_1 : decode (mB 43) 1 = .ok (.getfield 24, 3) := dqo gX4_addStep_0.2.1
theorem dX4_addStep_4 : decode (mB 43) 4 = .ok (.bipush 121, 2) := dqo gX4_addStep_0.2.2.1
theorem dX4_addStep_6 : decode (mB 43) 6 = .ok (.if_icmp .ge 33, 3) := dqo gX4_addStep_0.2.2.2.1
theorem dX4_addStep_9 : decode (mB 43) 9 = .ok (.aload_n 0, 1) := dqo gX4_addStep_0.2.2.2.2.1
theorem dX4_addStep_10 : decode (mB 43) 10 = .ok (.getfield 11, 3) := dqo gX4_addStep_0.2.2.2.2.2.1
theorem dX4_addStep_13 : decode (mB 43) 13 = .ok (.aload_n 0, 1) := dqo gX4_addStep_0.2.2.2.2.2.2.1
theorem dX4_addStep_14 : decode (mB 43) 14 = .ok (.getfield 24, 3) := dqo gX4_addStep_0.2.2.2.2.2.2.2.1
theorem dX4_addStep_17 : decode (mB 43) 17 = .ok (.iload_n 1, 1) := dqo gX4_addStep_0.2.2.2.2.2.2.2.2.1
theorem dX4_addStep_18 : decode (mB 43) 18 = .ok (.iastore, 1) := dqo gX4_addStep_0.2.2.2.2.2.2.2.2.2.1
theorem dX4_addStep_19 : decode (mB 43) 19 = .ok (.aload_n 0, 1) := dqo gX4_addStep_0.2.2.2.2.2.2.2.2.2.2.1
theorem dX4_addStep_20 : decode (mB 43) 20 = .ok (.getfield 15, 3) := dqo gX4_addStep_0.2.2.2.2.2.2.2.2.2.2.2.1
theorem dX4_addStep_23 : decode (mB 43) 23 = .ok (.aload_n 0, 1) := dqo gX4_addStep_0.2.2.2.2.2.2.2.2.2.2.2.2.1
theorem dX4_addStep_24 : decode (mB 43) 24 = .ok (.getfield 24, 3) := dqo gX4_addStep_0.2.2.2.2.2.2.2.2.2.2.2.2.2.1
theorem dX4_addStep_27 : decode (mB 43) 27 = .ok (.iload_n 2, 1) := dqo gX4_addStep_0.2.2.2.2.2.2.2.2.2.2.2.2.2.2.1
theorem dX4_addStep_28 : decode (mB 43) 28 = .ok (.iastore, 1) := dqo gX4_addStep_0.2.2.2.2.2.2.2.2.2.2.2.2.2.2.2
theorem gX4_addStep_29 : dq 43 29 (.aload_n 0) 1 = true ∧ dq 43 30 (.dup) 1 = true ∧ dq 43 31 (.getfield 24) 3 = true ∧ dq 43 34 (.iconst 1) 1 = true ∧ dq 43 35 (.iadd) 1 = true ∧ dq 43 36 (.putfield 24) 3 = true ∧ dq 43 39 (.return_) 1 = true := by decide +kernel
theorem dX4_addStep_29 : decode (mB 43) 29 = .ok (.aload_n 0, 1) := dqo gX4_addStep_29.1
theorem dX4_addStep_30 : decode (mB 43) 30 = .ok (.dup, 1) := dqo gX4_addStep_29.2.1
theorem dX4_addStep_31 : decode (mB 43) 31 = .ok (.getfield 24, 3) := dqo gX4_addStep_29.2.2.1
theorem dX4_addStep_34 : decode (mB 43) 34 = .ok (.iconst 1, 1) := dqo gX4_addStep_29.2.2.2.1
theorem dX4_addStep_35 : decode (mB 43) 35 = .ok (.iadd, 1) := dqo gX4_addStep_29.2.2.2.2.1
theorem dX4_addStep_36 : decode (mB 43) 36 = .ok (.putfield 24, 3) := dqo gX4_addStep_29.2.2.2.2.2.1
theorem dX4_addStep_39 : decode (mB 43) 39 = .ok (.return_, 1) := dqo gX4_addStep_29.2.2.2.2.2.2
theorem gX4_become_0 : dq 44 0 (.aload_n 0) 1 = true ∧ dq 44 1 (.aload_n 1) 1 = true ∧ dq 44 2 (.getfield 24) 3 = true ∧ dq 44 5 (.putfield 24) 3 = true ∧ dq 44 8 (.aload_n 1) 1 = true ∧ dq 44 9 (.getfield 11) 3 = true ∧ dq 44 12 (.iconst 0) 1 = true ∧ dq 44 13 (.aload_n 0) 1 = true ∧ dq 44 14 (.getfield 11) 3 = true ∧ dq 44 17 (.iconst 0) 1 = true ∧ dq 44 18 (.bipush 121) 2 = true ∧ dq 44 20 (.invokestatic 28) 3 = true ∧ dq 44 23 (.aload_n 1) 1 = true ∧ dq 44 24 (.getfield 15) 3 = true ∧ dq 44 27 (.iconst 0) 1 = true ∧ dq 44 28 (.aload_n 0) 1 = true := by decide +kernel
theorem dX4_become_0 : decode (mB 44) 0 = .ok (.aload_n 0, 1) := dqo gX4_become_0.1
theorem dX4_become_1 : decode (mB 44) 1 = .ok (.aload_n 1, 1) := dqo gX4_become_0.2.1
theorem dX4_become_2 : decode (mB 44) 2 = .ok (.getfield 24, 3) := dqo gX4_become_0.2.2.1
theorem dX4_become_5 : decode (mB 44) 5 = .ok (.putfield 24, 3) := dqo gX4_become_0.2.2.2.1
theorem dX4_become_8 : decode (mB 44) 8 = .ok (.aload_n 1, 1) := dqo gX4_become_0.2.2.2.2.1
theorem dX4_become_9 : decode (mB 44) 9 = .ok (.getfield 11, 3) := dqo gX4_become_0.2.2.2.2.2.1
theorem dX4_become_12 : decode (mB 44) 12 = .ok (.iconst 0, 1) := dqo gX4_become_0.2.2.2.2.2.2.1
theorem dX4_become_13 : decode (mB 44) 13 = .ok (.aload_n 0, 1) := dqo gX4_become_0.2.2.2.2.2.2.2.1
theorem dX4_become_14 : decode (mB 44) 14 = .ok (.getfield 11, 3) := dqo gX4_become_0.2.2.2.2.2.2.2.2.1
theorem dX4_become_17 : decode (mB 44) 17 = .ok (.iconst 0, 1) := dqo gX4_become_0.2.2.2.2.2.2.2.2.2.1
theorem dX4_become_18 : decode (mB 44) 18 = .ok (.bipush 121, 2) := dqo gX4_become_0.2.2.2.2.2.2.2.2.2.2.1
theorem dX4_become_20 : decode (mB 44) 20 = .ok (.invokestatic 28, 3) := dqo gX4_become_0.2.2.2.2.2.2.2.2.2.2.2.1
theorem dX4_become_23 : decode (mB 44) 23 = .ok (.aload_n 1, 1) := dqo gX4_become_0.2.2.2.2.2.2.2.2.2.2.2.2.1
theorem dX4_become_24 : decode (mB 44) 24 = .ok (.getfield 15, 3) := dqo gX4_become_0.2.2.2.2.2.2.2.2.2.2.2.2.2.1
theorem dX4_become_27 : decode (mB 44) 27 = .ok (.iconst 0, 1) := dqo gX4_become_0.2.2.2.2.2.2.2.2.2.2.2.2.2.2.1
theorem dX4_become_28 : decode (mB 44) 28 = .ok (.aload_n 0, 1) := dqo gX4_become_0.2.2.2.2.2.2.2.2.2.2.2.2.2.2.2
theorem gX4_become_29 : dq 44 29 (.getfield 15) 3 = true ∧ dq 44 32 (.iconst 0) 1 = true ∧ dq 44 33 (.bipush 121) 2 = true ∧ dq 44 35 (.invokestatic 28) 3 = true ∧ dq 44 38 (.return_) 1 = true := by decide +kernel
theorem dX4_become_29 : decode (mB 44) 29 = .ok (.getfield 15, 3) := dqo gX4_become_29.1
theorem dX4_become_32 : decode (mB 44) 32 = .ok (.iconst 0, 1) := dqo gX4_become_29.2.1
theorem dX4_become_33 : decode (mB 44) 33 = .ok (.bipush 121, 2) := dqo gX4_become_29.2.2.1
theorem dX4_become_35 : decode (mB 44) 35 = .ok (.invokestatic 28, 3) := dqo gX4_become_29.2.2.2.1
theorem dX4_become_38 : decode (mB 44) 38 = .ok (.return_, 1) := dqo gX4_become_29.2.2.2.2
theorem gX4_workOut_0 : dq 45 0 (.aload_n 0) 1 = true ∧ dq 45 1 (.getfield 21) 3 = true ∧ dq 45 4 (.iconst 0) 1 = true ∧ dq 45 5 (.iload_n 1) 1 = true ∧ dq 45 6 (.iastore) 1 = true ∧ dq 45 7 (.aload_n 0) 1 = true ∧ dq 45 8 (.getfield 21) 3 = true ∧ dq 45 11 (.iconst 1) 1 = true ∧ dq 45 12 (.iload_n 2) 1 = true ∧ dq 45 13 (.iastore) 1 = true ∧ dq 45 14 (.aload_n 0) 1 = true ∧ dq 45 15 (.getfield 21) 3 = true ∧ dq 45 18 (.iconst 2) 1 = true ∧ dq 45 19 (.iload_n 3) 1 = true ∧ dq 45 20 (.iastore) 1 = true ∧ dq 45 21 (.aload_n 0) 1 = true := by decide +kernel
theorem dX4_workOut_0 : decode (mB 45) 0 = .ok (.aload_n 0, 1) := dqo gX4_workOut_0.1
theorem dX4_workOut_1 : decode (mB 45) 1 = .ok (.getfield 21, 3) := dqo gX4_workOut_0.2.1
theorem dX4_workOut_4 : decode (mB 45) 4 = .ok (.iconst 0, 1) := dqo gX4_workOut_0.2.2.1
theorem dX4_workOut_5 : decode (mB 45) 5 = .ok (.iload_n 1, 1) := dqo gX4_workOut_0.2.2.2.1
theorem dX4_workOut_6 : decode (mB 45) 6 = .ok (.iastore, 1) := dqo gX4_workOut_0.2.2.2.2.1
theorem dX4_workOut_7 : decode (mB 45) 7 = .ok (.aload_n 0, 1) := dqo gX4_workOut_0.2.2.2.2.2.1
theorem dX4_workOut_8 : decode (mB 45) 8 = .ok (.getfield 21, 3) := dqo gX4_workOut_0.2.2.2.2.2.2.1
theorem dX4_workOut_11 : decode (mB 45) 11 = .ok (.iconst 1, 1) := dqo gX4_workOut_0.2.2.2.2.2.2.2.1
theorem dX4_workOut_12 : decode (mB 45) 12 = .ok (.iload_n 2, 1) := dqo gX4_workOut_0.2.2.2.2.2.2.2.2.1
theorem dX4_workOut_13 : decode (mB 45) 13 = .ok (.iastore, 1) := dqo gX4_workOut_0.2.2.2.2.2.2.2.2.2.1
theorem dX4_workOut_14 : decode (mB 45) 14 = .ok (.aload_n 0, 1) := dqo gX4_workOut_0.2.2.2.2.2.2.2.2.2.2.1
theorem dX4_workOut_15 : decode (mB 45) 15 = .ok (.getfield 21, 3) := dqo gX4_workOut_0.2.2.2.2.2.2.2.2.2.2.2.1
theorem dX4_workOut_18 : decode (mB 45) 18 = .ok (.iconst 2, 1) := dqo gX4_workOut_0.2.2.2.2.2.2.2.2.2.2.2.2.1
theorem dX4_workOut_19 : decode (mB 45) 19 = .ok (.iload_n 3, 1) := dqo gX4_workOut_0.2.2.2.2.2.2.2.2.2.2.2.2.2.1
theorem dX4_workOut_20 : decode (mB 45) 20 = .ok (.iastore, 1) := dqo gX4_workOut_0.2.2.2.2.2.2.2.2.2.2.2.2.2.2.1
theorem dX4_workOut_21 : decode (mB 45) 21 = .ok (.aload_n 0, 1) := dqo gX4_workOut_0.2.2.2.2.2.2.2.2.2.2.2.2.2.2.2
theorem gX4_workOut_22 : dq 45 22 (.getfield 21) 3 = true ∧ dq 45 25 (.iconst 3) 1 = true ∧ dq 45 26 (.iload 4) 2 = true ∧ dq 45 28 (.iastore) 1 = true ∧ dq 45 29 (.aload_n 0) 1 = true ∧ dq 45 30 (.getfield 21) 3 = true ∧ dq 45 33 (.iconst 4) 1 = true ∧ dq 45 34 (.iload 5) 2 = true ∧ dq 45 36 (.iastore) 1 = true ∧ dq 45 37 (.aload_n 0) 1 = true ∧ dq 45 38 (.getfield 21) 3 = true ∧ dq 45 41 (.iconst 5) 1 = true ∧ dq 45 42 (.iload 6) 2 = true ∧ dq 45 44 (.iastore) 1 = true ∧ dq 45 45 (.aload_n 0) 1 = true ∧ dq 45 46 (.iconst 0) 1 = true := by decide +kernel
theorem dX4_workOut_22 : decode (mB 45) 22 = .ok (.getfield 21, 3) := dqo gX4_workOut_22.1
theorem dX4_workOut_25 : decode (mB 45) 25 = .ok (.iconst 3, 1) := dqo gX4_workOut_22.2.1
theorem dX4_workOut_26 : decode (mB 45) 26 = .ok (.iload 4, 2) := dqo gX4_workOut_22.2.2.1
theorem dX4_workOut_28 : decode (mB 45) 28 = .ok (.iastore, 1) := dqo gX4_workOut_22.2.2.2.1
theorem dX4_workOut_29 : decode (mB 45) 29 = .ok (.aload_n 0, 1) := dqo gX4_workOut_22.2.2.2.2.1
theorem dX4_workOut_30 : decode (mB 45) 30 = .ok (.getfield 21, 3) := dqo gX4_workOut_22.2.2.2.2.2.1
theorem dX4_workOut_33 : decode (mB 45) 33 = .ok (.iconst 4, 1) := dqo gX4_workOut_22.2.2.2.2.2.2.1
theorem dX4_workOut_34 : decode (mB 45) 34 = .ok (.iload 5, 2) := dqo gX4_workOut_22.2.2.2.2.2.2.2.1
theorem dX4_workOut_36 : decode (mB 45) 36 = .ok (.iastore, 1) := dqo gX4_workOut_22.2.2.2.2.2.2.2.2.1
theorem dX4_workOut_37 : decode (mB 45) 37 = .ok (.aload_n 0, 1) := dqo gX4_workOut_22.2.2.2.2.2.2.2.2.2.1
theorem dX4_workOut_38 : decode (mB 45) 38 = .ok (.getfield 21, 3) := dqo gX4_workOut_22.2.2.2.2.2.2.2.2.2.2.1
theorem dX4_workOut_41 : decode (mB 45) 41 = .ok (.iconst 5, 1) := dqo gX4_workOut_22.2.2.2.2.2.2.2.2.2.2.2.1
theorem dX4_workOut_42 : decode (mB 45) 42 = .ok (.iload 6, 2) := dqo gX4_workOut_22.2.2.2.2.2.2.2.2.2.2.2.2.1
theorem dX4_workOut_44 : decode (mB 45) 44 = .ok (.iastore, 1) := dqo gX4_workOut_22.2.2.2.2.2.2.2.2.2.2.2.2.2.1
theorem dX4_workOut_45 : decode (mB 45) 45 = .ok (.aload_n 0, 1) := dqo gX4_workOut_22.2.2.2.2.2.2.2.2.2.2.2.2.2.2.1
theorem dX4_workOut_46 : decode (mB 45) 46 = .ok (.iconst 0, 1) := dqo gX4_workOut_22.2.2.2.2.2.2.2.2.2.2.2.2.2.2.2
theorem gX4_workOut_47 : dq 45 47 (.putfield 34) 3 = true ∧ dq 45 50 (.iconst 1) 1 = true ∧ dq 45 51 (.istore 7) 2 = true ∧ dq 45 53 (.iconst 0) 1 = true ∧ dq 45 54 (.istore 8) 2 = true ∧ dq 45 56 (.iload 8) 2 = true ∧ dq 45 58 (.aload_n 0) 1 = true ∧ dq 45 59 (.getfield 24) 3 = true ∧ dq 45 62 (.if_icmp .ge 89) 3 = true ∧ dq 45 65 (.iload 8) 2 = true ∧ dq 45 67 (.bipush 121) 2 = true ∧ dq 45 69 (.if_icmp .ge 82) 3 = true ∧ dq 45 72 (.aload_n 0) 1 = true ∧ dq 45 73 (.getfield 11) 3 = true ∧ dq 45 76 (.iload 8) 2 = true ∧ dq 45 78 (.iaload) 1 = true := by decide +kernel
theorem dX4_workOut_47 : decode (mB 45) 47 = .ok (.putfield 34, 3) := dqo gX4_workOut_47.1
theorem dX4_workOut_50 : decode (mB 45) 50 = .ok (.iconst 1, 1) := dqo gX4_workOut_47.2.1
theorem dX4_workOut_51 : decode (mB 45) 51 = .ok (.istore 7, 2) := dqo gX4_workOut_47.2.2.1
theorem dX4_workOut_53 : decode (mB 45) 53 = .ok (.iconst 0, 1) := dqo gX4_workOut_47.2.2.2.1
theorem dX4_workOut_54 : decode (mB 45) 54 = .ok (.istore 8, 2) := dqo gX4_workOut_47.2.2.2.2.1
theorem dX4_workOut_56 : decode (mB 45) 56 = .ok (.iload 8, 2) := dqo gX4_workOut_47.2.2.2.2.2.1
theorem dX4_workOut_58 : decode (mB 45) 58 = .ok (.aload_n 0, 1) := dqo gX4_workOut_47.2.2.2.2.2.2.1
theorem dX4_workOut_59 : decode (mB 45) 59 = .ok (.getfield 24, 3) := dqo gX4_workOut_47.2.2.2.2.2.2.2.1
theorem dX4_workOut_62 : decode (mB 45) 62 = .ok (.if_icmp .ge 89, 3) := dqo gX4_workOut_47.2.2.2.2.2.2.2.2.1
theorem dX4_workOut_65 : decode (mB 45) 65 = .ok (.iload 8, 2) := dqo gX4_workOut_47.2.2.2.2.2.2.2.2.2.1
theorem dX4_workOut_67 : decode (mB 45) 67 = .ok (.bipush 121, 2) := dqo gX4_workOut_47.2.2.2.2.2.2.2.2.2.2.1
theorem dX4_workOut_69 : decode (mB 45) 69 = .ok (.if_icmp .ge 82, 3) := dqo gX4_workOut_47.2.2.2.2.2.2.2.2.2.2.2.1
theorem dX4_workOut_72 : decode (mB 45) 72 = .ok (.aload_n 0, 1) := dqo gX4_workOut_47.2.2.2.2.2.2.2.2.2.2.2.2.1
theorem dX4_workOut_73 : decode (mB 45) 73 = .ok (.getfield 11, 3) := dqo gX4_workOut_47.2.2.2.2.2.2.2.2.2.2.2.2.2.1
theorem dX4_workOut_76 : decode (mB 45) 76 = .ok (.iload 8, 2) := dqo gX4_workOut_47.2.2.2.2.2.2.2.2.2.2.2.2.2.2.1
theorem dX4_workOut_78 : decode (mB 45) 78 = .ok (.iaload, 1) := dqo gX4_workOut_47.2.2.2.2.2.2.2.2.2.2.2.2.2.2.2
theorem gX4_workOut_79 : dq 45 79 (.istore 9) 2 = true ∧ dq 45 81 (.iload 9) 2 = true ∧ dq 45 83 (.bipush 63) 2 = true ∧ dq 45 85 (.if_icmp .ne 20) 3 = true ∧ dq 45 88 (.aload_n 0) 1 = true ∧ dq 45 89 (.invokevirtual 37) 3 = true ∧ dq 45 92 (.ifCond .eq 7) 3 = true ∧ dq 45 95 (.iconst 1) 1 = true ∧ dq 45 96 (.goto 4) 3 = true ∧ dq 45 99 (.iconst 0) 1 = true ∧ dq 45 100 (.istore 7) 2 = true ∧ dq 45 102 (.goto 43) 3 = true ∧ dq 45 105 (.iload 9) 2 = true ∧ dq 45 107 (.bipush 59) 2 = true ∧ dq 45 109 (.if_icmp .ne 23) 3 = true ∧ dq 45 112 (.aload_n 0) 1 = true := by decide +kernel
theorem dX4_workOut_79 : decode (mB 45) 79 = .ok (.istore 9, 2) := dqo gX4_workOut_79.1
theorem dX4_workOut_81 : decode (mB 45) 81 = .ok (.iload 9, 2) := dqo gX4_workOut_79.2.1
theorem dX4_workOut_83 : decode (mB 45) 83 = .ok (.bipush 63, 2) := dqo gX4_workOut_79.2.2.1
theorem dX4_workOut_85 : decode (mB 45) 85 = .ok (.if_icmp .ne 20, 3) := dqo gX4_workOut_79.2.2.2.1
theorem dX4_workOut_88 : decode (mB 45) 88 = .ok (.aload_n 0, 1) := dqo gX4_workOut_79.2.2.2.2.1
theorem dX4_workOut_89 : decode (mB 45) 89 = .ok (.invokevirtual 37, 3) := dqo gX4_workOut_79.2.2.2.2.2.1
theorem dX4_workOut_92 : decode (mB 45) 92 = .ok (.ifCond .eq 7, 3) := dqo gX4_workOut_79.2.2.2.2.2.2.1
theorem dX4_workOut_95 : decode (mB 45) 95 = .ok (.iconst 1, 1) := dqo gX4_workOut_79.2.2.2.2.2.2.2.1
theorem dX4_workOut_96 : decode (mB 45) 96 = .ok (.goto 4, 3) := dqo gX4_workOut_79.2.2.2.2.2.2.2.2.1
theorem dX4_workOut_99 : decode (mB 45) 99 = .ok (.iconst 0, 1) := dqo gX4_workOut_79.2.2.2.2.2.2.2.2.2.1
theorem dX4_workOut_100 : decode (mB 45) 100 = .ok (.istore 7, 2) := dqo gX4_workOut_79.2.2.2.2.2.2.2.2.2.2.1
theorem dX4_workOut_102 : decode (mB 45) 102 = .ok (.goto 43, 3) := dqo gX4_workOut_79.2.2.2.2.2.2.2.2.2.2.2.1
theorem dX4_workOut_105 : decode (mB 45) 105 = .ok (.iload 9, 2) := dqo gX4_workOut_79.2.2.2.2.2.2.2.2.2.2.2.2.1
theorem dX4_workOut_107 : decode (mB 45) 107 = .ok (.bipush 59, 2) := dqo gX4_workOut_79.2.2.2.2.2.2.2.2.2.2.2.2.2.1
theorem dX4_workOut_109 : decode (mB 45) 109 = .ok (.if_icmp .ne 23, 3) := dqo gX4_workOut_79.2.2.2.2.2.2.2.2.2.2.2.2.2.2.1
theorem dX4_workOut_112 : decode (mB 45) 112 = .ok (.aload_n 0, 1) := dqo gX4_workOut_79.2.2.2.2.2.2.2.2.2.2.2.2.2.2.2
theorem gX4_workOut_113 : dq 45 113 (.invokevirtual 37) 3 = true ∧ dq 45 116 (.istore 10) 2 = true ∧ dq 45 118 (.iload 7) 2 = true ∧ dq 45 120 (.ifCond .eq 6) 3 = true ∧ dq 45 123 (.iload 10) 2 = true ∧ dq 45 125 (.ireturn) 1 = true ∧ dq 45 126 (.iconst 1) 1 = true ∧ dq 45 127 (.istore 7) 2 = true ∧ dq 45 129 (.goto 16) 3 = true ∧ dq 45 132 (.aload_n 0) 1 = true ∧ dq 45 133 (.iload 9) 2 = true ∧ dq 45 135 (.aload_n 0) 1 = true ∧ dq 45 136 (.getfield 15) 3 = true ∧ dq 45 139 (.iload 8) 2 = true ∧ dq 45 141 (.iaload) 1 = true ∧ dq 45 142 (.invokevirtual 41) 3 = true := by decide +kernel
theorem dX4_workOut_113 : decode (mB 45) 113 = .ok (.invokevirtual 37, 3) := dqo gX4_workOut_113.1
theorem dX4_workOut_116 : decode (mB 45) 116 = .ok (.istore 10, 2) := dqo gX4_workOut_113.2.1
theorem dX4_workOut_118 : decode (mB 45) 118 = .ok (.iload 7, 2) := dqo gX4_workOut_113.2.2.1
theorem dX4_workOut_120 : decode (mB 45) 120 = .ok (.ifCond .eq 6, 3) := dqo gX4_workOut_113.2.2.2.1
theorem dX4_workOut_123 : decode (mB 45) 123 = .ok (.iload 10, 2) := dqo gX4_workOut_113.2.2.2.2.1
theorem dX4_workOut_125 : decode (mB 45) 125 = .ok (.ireturn, 1) := dqo gX4_workOut_113.2.2.2.2.2.1
theorem dX4_workOut_126 : decode (mB 45) 126 = .ok (.iconst 1, 1) := dqo gX4_workOut_113.2.2.2.2.2.2.1
theorem dX4_workOut_127 : decode (mB 45) 127 = .ok (.istore 7, 2) := dqo gX4_workOut_113.2.2.2.2.2.2.2.1
theorem dX4_workOut_129 : decode (mB 45) 129 = .ok (.goto 16, 3) := dqo gX4_workOut_113.2.2.2.2.2.2.2.2.1
theorem dX4_workOut_132 : decode (mB 45) 132 = .ok (.aload_n 0, 1) := dqo gX4_workOut_113.2.2.2.2.2.2.2.2.2.1
theorem dX4_workOut_133 : decode (mB 45) 133 = .ok (.iload 9, 2) := dqo gX4_workOut_113.2.2.2.2.2.2.2.2.2.2.1
theorem dX4_workOut_135 : decode (mB 45) 135 = .ok (.aload_n 0, 1) := dqo gX4_workOut_113.2.2.2.2.2.2.2.2.2.2.2.1
theorem dX4_workOut_136 : decode (mB 45) 136 = .ok (.getfield 15, 3) := dqo gX4_workOut_113.2.2.2.2.2.2.2.2.2.2.2.2.1
theorem dX4_workOut_139 : decode (mB 45) 139 = .ok (.iload 8, 2) := dqo gX4_workOut_113.2.2.2.2.2.2.2.2.2.2.2.2.2.1
theorem dX4_workOut_141 : decode (mB 45) 141 = .ok (.iaload, 1) := dqo gX4_workOut_113.2.2.2.2.2.2.2.2.2.2.2.2.2.2.1
theorem dX4_workOut_142 : decode (mB 45) 142 = .ok (.invokevirtual 41, 3) := dqo gX4_workOut_113.2.2.2.2.2.2.2.2.2.2.2.2.2.2.2
theorem gX4_workOut_145 : dq 45 145 (.iinc 8 1) 3 = true ∧ dq 45 148 (.goto (-92)) 3 = true ∧ dq 45 151 (.iconst 0) 1 = true ∧ dq 45 152 (.ireturn) 1 = true := by decide +kernel
theorem dX4_workOut_145 : decode (mB 45) 145 = .ok (.iinc 8 1, 3) := dqo gX4_workOut_145.1
theorem dX4_workOut_148 : decode (mB 45) 148 = .ok (.goto (-92), 3) := dqo gX4_workOut_145.2.1
theorem dX4_workOut_151 : decode (mB 45) 151 = .ok (.iconst 0, 1) := dqo gX4_workOut_145.2.2.1
theorem dX4_workOut_152 : decode (mB 45) 152 = .ok (.ireturn, 1) := dqo gX4_workOut_145.2.2.2
theorem gX4_doStep_0 : dq 46 0 (.iload_n 1) 1 = true ∧ dq 46 1 (.bipush 48) 2 = true ∧ dq 46 3 (.if_icmp .ne 11) 3 = true ∧ dq 46 6 (.aload_n 0) 1 = true ∧ dq 46 7 (.iload_n 2) 1 = true ∧ dq 46 8 (.invokevirtual 45) 3 = true ∧ dq 46 11 (.goto 100) 3 = true ∧ dq 46 14 (.iload_n 1) 1 = true ∧ dq 46 15 (.bipush 110) 2 = true ∧ dq 46 17 (.if_icmp .ne 33) 3 = true ∧ dq 46 20 (.aload_n 0) 1 = true ∧ dq 46 21 (.iload_n 2) 1 = true ∧ dq 46 22 (.ifCond .lt 21) 3 = true ∧ dq 46 25 (.iload_n 2) 1 = true ∧ dq 46 26 (.aload_n 0) 1 = true ∧ dq 46 27 (.getfield 21) 3 = true := by decide +kernel
theorem dX4_doStep_0 : decode (mB 46) 0 = .ok (.iload_n 1, 1) := dqo gX4_doStep_0.1
theorem dX4_doStep_1 : decode (mB 46) 1 = .ok (.bipush 48, 2) := dqo gX4_doStep_0.2.1
theorem dX4_doStep_3 : decode (mB 46) 3 = .ok (.if_icmp .ne 11, 3) := dqo gX4_doStep_0.2.2.1
theorem dX4_doStep_6 : decode (mB 46) 6 = .ok (.aload_n 0, 1) := dqo gX4_doStep_0.2.2.2.1
theorem dX4_doStep_7 : decode (mB 46) 7 = .ok (.iload_n 2, 1) := dqo gX4_doStep_0.2.2.2.2.1
theorem dX4_doStep_8 : decode (mB 46) 8 = .ok (.invokevirtual 45, 3) := dqo gX4_doStep_0.2.2.2.2.2.1
theorem dX4_doStep_11 : decode (mB 46) 11 = .ok (.goto 100, 3) := dqo gX4_doStep_0.2.2.2.2.2.2.1
theorem dX4_doStep_14 : decode (mB 46) 14 = .ok (.iload_n 1, 1) := dqo gX4_doStep_0.2.2.2.2.2.2.2.1
theorem dX4_doStep_15 : decode (mB 46) 15 = .ok (.bipush 110, 2) := dqo gX4_doStep_0.2.2.2.2.2.2.2.2.1
theorem dX4_doStep_17 : decode (mB 46) 17 = .ok (.if_icmp .ne 33, 3) := dqo gX4_doStep_0.2.2.2.2.2.2.2.2.2.1
theorem dX4_doStep_20 : decode (mB 46) 20 = .ok (.aload_n 0, 1) := dqo gX4_doStep_0.2.2.2.2.2.2.2.2.2.2.1
theorem dX4_doStep_21 : decode (mB 46) 21 = .ok (.iload_n 2, 1) := dqo gX4_doStep_0.2.2.2.2.2.2.2.2.2.2.2.1
theorem dX4_doStep_22 : decode (mB 46) 22 = .ok (.ifCond .lt 21, 3) := dqo gX4_doStep_0.2.2.2.2.2.2.2.2.2.2.2.2.1
theorem dX4_doStep_25 : decode (mB 46) 25 = .ok (.iload_n 2, 1) := dqo gX4_doStep_0.2.2.2.2.2.2.2.2.2.2.2.2.2.1
theorem dX4_doStep_26 : decode (mB 46) 26 = .ok (.aload_n 0, 1) := dqo gX4_doStep_0.2.2.2.2.2.2.2.2.2.2.2.2.2.2.1
theorem dX4_doStep_27 : decode (mB 46) 27 = .ok (.getfield 21, 3) := dqo gX4_doStep_0.2.2.2.2.2.2.2.2.2.2.2.2.2.2.2
theorem gX4_doStep_30 : dq 46 30 (.arraylength) 1 = true ∧ dq 46 31 (.if_icmp .ge 12) 3 = true ∧ dq 46 34 (.aload_n 0) 1 = true ∧ dq 46 35 (.getfield 21) 3 = true ∧ dq 46 38 (.iload_n 2) 1 = true ∧ dq 46 39 (.iaload) 1 = true ∧ dq 46 40 (.goto 4) 3 = true ∧ dq 46 43 (.iconst 0) 1 = true ∧ dq 46 44 (.invokevirtual 45) 3 = true ∧ dq 46 47 (.goto 64) 3 = true ∧ dq 46 50 (.iload_n 1) 1 = true ∧ dq 46 51 (.bipush 126) 2 = true ∧ dq 46 53 (.if_icmp .ne 15) 3 = true ∧ dq 46 56 (.aload_n 0) 1 = true ∧ dq 46 57 (.aload_n 0) 1 = true ∧ dq 46 58 (.invokevirtual 37) 3 = true := by decide +kernel
theorem dX4_doStep_30 : decode (mB 46) 30 = .ok (.arraylength, 1) := dqo gX4_doStep_30.1
theorem dX4_doStep_31 : decode (mB 46) 31 = .ok (.if_icmp .ge 12, 3) := dqo gX4_doStep_30.2.1
theorem dX4_doStep_34 : decode (mB 46) 34 = .ok (.aload_n 0, 1) := dqo gX4_doStep_30.2.2.1
theorem dX4_doStep_35 : decode (mB 46) 35 = .ok (.getfield 21, 3) := dqo gX4_doStep_30.2.2.2.1
theorem dX4_doStep_38 : decode (mB 46) 38 = .ok (.iload_n 2, 1) := dqo gX4_doStep_30.2.2.2.2.1
theorem dX4_doStep_39 : decode (mB 46) 39 = .ok (.iaload, 1) := dqo gX4_doStep_30.2.2.2.2.2.1
theorem dX4_doStep_40 : decode (mB 46) 40 = .ok (.goto 4, 3) := dqo gX4_doStep_30.2.2.2.2.2.2.1
theorem dX4_doStep_43 : decode (mB 46) 43 = .ok (.iconst 0, 1) := dqo gX4_doStep_30.2.2.2.2.2.2.2.1
theorem dX4_doStep_44 : decode (mB 46) 44 = .ok (.invokevirtual 45, 3) := dqo gX4_doStep_30.2.2.2.2.2.2.2.2.1
theorem dX4_doStep_47 : decode (mB 46) 47 = .ok (.goto 64, 3) := dqo gX4_doStep_30.2.2.2.2.2.2.2.2.2.1
theorem dX4_doStep_50 : decode (mB 46) 50 = .ok (.iload_n 1, 1) := dqo gX4_doStep_30.2.2.2.2.2.2.2.2.2.2.1
theorem dX4_doStep_51 : decode (mB 46) 51 = .ok (.bipush 126, 2) := dqo gX4_doStep_30.2.2.2.2.2.2.2.2.2.2.2.1
theorem dX4_doStep_53 : decode (mB 46) 53 = .ok (.if_icmp .ne 15, 3) := dqo gX4_doStep_30.2.2.2.2.2.2.2.2.2.2.2.2.1
theorem dX4_doStep_56 : decode (mB 46) 56 = .ok (.aload_n 0, 1) := dqo gX4_doStep_30.2.2.2.2.2.2.2.2.2.2.2.2.2.1
theorem dX4_doStep_57 : decode (mB 46) 57 = .ok (.aload_n 0, 1) := dqo gX4_doStep_30.2.2.2.2.2.2.2.2.2.2.2.2.2.2.1
theorem dX4_doStep_58 : decode (mB 46) 58 = .ok (.invokevirtual 37, 3) := dqo gX4_doStep_30.2.2.2.2.2.2.2.2.2.2.2.2.2.2.2
theorem gX4_doStep_61 : dq 46 61 (.ineg) 1 = true ∧ dq 46 62 (.invokevirtual 45) 3 = true ∧ dq 46 65 (.goto 46) 3 = true ∧ dq 46 68 (.iload_n 1) 1 = true ∧ dq 46 69 (.bipush 33) 2 = true ∧ dq 46 71 (.if_icmp .ne 22) 3 = true ∧ dq 46 74 (.aload_n 0) 1 = true ∧ dq 46 75 (.aload_n 0) 1 = true ∧ dq 46 76 (.invokevirtual 37) 3 = true ∧ dq 46 79 (.ifCond .ne 7) 3 = true ∧ dq 46 82 (.iconst 1) 1 = true ∧ dq 46 83 (.goto 4) 3 = true ∧ dq 46 86 (.iconst 0) 1 = true ∧ dq 46 87 (.invokevirtual 45) 3 = true ∧ dq 46 90 (.goto 21) 3 = true ∧ dq 46 93 (.aload_n 0) 1 = true := by decide +kernel
theorem dX4_doStep_61 : decode (mB 46) 61 = .ok (.ineg, 1) := dqo gX4_doStep_61.1
theorem dX4_doStep_62 : decode (mB 46) 62 = .ok (.invokevirtual 45, 3) := dqo gX4_doStep_61.2.1
theorem dX4_doStep_65 : decode (mB 46) 65 = .ok (.goto 46, 3) := dqo gX4_doStep_61.2.2.1
theorem dX4_doStep_68 : decode (mB 46) 68 = .ok (.iload_n 1, 1) := dqo gX4_doStep_61.2.2.2.1
theorem dX4_doStep_69 : decode (mB 46) 69 = .ok (.bipush 33, 2) := dqo gX4_doStep_61.2.2.2.2.1
theorem dX4_doStep_71 : decode (mB 46) 71 = .ok (.if_icmp .ne 22, 3) := dqo gX4_doStep_61.2.2.2.2.2.1
theorem dX4_doStep_74 : decode (mB 46) 74 = .ok (.aload_n 0, 1) := dqo gX4_doStep_61.2.2.2.2.2.2.1
theorem dX4_doStep_75 : decode (mB 46) 75 = .ok (.aload_n 0, 1) := dqo gX4_doStep_61.2.2.2.2.2.2.2.1
theorem dX4_doStep_76 : decode (mB 46) 76 = .ok (.invokevirtual 37, 3) := dqo gX4_doStep_61.2.2.2.2.2.2.2.2.1
theorem dX4_doStep_79 : decode (mB 46) 79 = .ok (.ifCond .ne 7, 3) := dqo gX4_doStep_61.2.2.2.2.2.2.2.2.2.1
theorem dX4_doStep_82 : decode (mB 46) 82 = .ok (.iconst 1, 1) := dqo gX4_doStep_61.2.2.2.2.2.2.2.2.2.2.1
theorem dX4_doStep_83 : decode (mB 46) 83 = .ok (.goto 4, 3) := dqo gX4_doStep_61.2.2.2.2.2.2.2.2.2.2.2.1
theorem dX4_doStep_86 : decode (mB 46) 86 = .ok (.iconst 0, 1) := dqo gX4_doStep_61.2.2.2.2.2.2.2.2.2.2.2.2.1
theorem dX4_doStep_87 : decode (mB 46) 87 = .ok (.invokevirtual 45, 3) := dqo gX4_doStep_61.2.2.2.2.2.2.2.2.2.2.2.2.2.1
theorem dX4_doStep_90 : decode (mB 46) 90 = .ok (.goto 21, 3) := dqo gX4_doStep_61.2.2.2.2.2.2.2.2.2.2.2.2.2.2.1
theorem dX4_doStep_93 : decode (mB 46) 93 = .ok (.aload_n 0, 1) := dqo gX4_doStep_61.2.2.2.2.2.2.2.2.2.2.2.2.2.2.2
theorem gX4_doStep_94 : dq 46 94 (.invokevirtual 37) 3 = true ∧ dq 46 97 (.istore_n 3) 1 = true ∧ dq 46 98 (.aload_n 0) 1 = true ∧ dq 46 99 (.iload_n 1) 1 = true ∧ dq 46 100 (.aload_n 0) 1 = true ∧ dq 46 101 (.invokevirtual 37) 3 = true ∧ dq 46 104 (.iload_n 3) 1 = true ∧ dq 46 105 (.invokestatic 49) 3 = true ∧ dq 46 108 (.invokevirtual 45) 3 = true ∧ dq 46 111 (.return_) 1 = true := by decide +kernel
theorem dX4_doStep_94 : decode (mB 46) 94 = .ok (.invokevirtual 37, 3) := dqo gX4_doStep_94.1
theorem dX4_doStep_97 : decode (mB 46) 97 = .ok (.istore_n 3, 1) := dqo gX4_doStep_94.2.1
theorem dX4_doStep_98 : decode (mB 46) 98 = .ok (.aload_n 0, 1) := dqo gX4_doStep_94.2.2.1
theorem dX4_doStep_99 : decode (mB 46) 99 = .ok (.iload_n 1, 1) := dqo gX4_doStep_94.2.2.2.1
theorem dX4_doStep_100 : decode (mB 46) 100 = .ok (.aload_n 0, 1) := dqo gX4_doStep_94.2.2.2.2.1
theorem dX4_doStep_101 : decode (mB 46) 101 = .ok (.invokevirtual 37, 3) := dqo gX4_doStep_94.2.2.2.2.2.1
theorem dX4_doStep_104 : decode (mB 46) 104 = .ok (.iload_n 3, 1) := dqo gX4_doStep_94.2.2.2.2.2.2.1
theorem dX4_doStep_105 : decode (mB 46) 105 = .ok (.invokestatic 49, 3) := dqo gX4_doStep_94.2.2.2.2.2.2.2.1
theorem dX4_doStep_108 : decode (mB 46) 108 = .ok (.invokevirtual 45, 3) := dqo gX4_doStep_94.2.2.2.2.2.2.2.2.1
theorem dX4_doStep_111 : decode (mB 46) 111 = .ok (.return_, 1) := dqo gX4_doStep_94.2.2.2.2.2.2.2.2.2
theorem gX4_join_0 : dq 47 0 (.iload_n 0) 1 = true ∧ dq 47 1 (.lookupswitch 188 #[(37, 176), (38, 105), (42, 160), (43, 152), (45, 156), (47, 164), (60, 119), (61, 130), (62, 141), (124, 91)]) 91 = true ∧ dq 47 92 (.iload_n 1) 1 = true ∧ dq 47 93 (.ifCond .ne 7) 3 = true ∧ dq 47 96 (.iload_n 2) 1 = true ∧ dq 47 97 (.ifCond .eq 7) 3 = true ∧ dq 47 100 (.iconst 1) 1 = true ∧ dq 47 101 (.goto 4) 3 = true ∧ dq 47 104 (.iconst 0) 1 = true ∧ dq 47 105 (.ireturn) 1 = true ∧ dq 47 106 (.iload_n 1) 1 = true ∧ dq 47 107 (.ifCond .eq 11) 3 = true ∧ dq 47 110 (.iload_n 2) 1 = true ∧ dq 47 111 (.ifCond .eq 7) 3 = true ∧ dq 47 114 (.iconst 1) 1 = true ∧ dq 47 115 (.goto 4) 3 = true := by decide +kernel
theorem dX4_join_0 : decode (mB 47) 0 = .ok (.iload_n 0, 1) := dqo gX4_join_0.1
theorem dX4_join_1 : decode (mB 47) 1 = .ok (.lookupswitch 188 #[(37, 176), (38, 105), (42, 160), (43, 152), (45, 156), (47, 164), (60, 119), (61, 130), (62, 141), (124, 91)], 91) := dqo gX4_join_0.2.1
theorem dX4_join_92 : decode (mB 47) 92 = .ok (.iload_n 1, 1) := dqo gX4_join_0.2.2.1
theorem dX4_join_93 : decode (mB 47) 93 = .ok (.ifCond .ne 7, 3) := dqo gX4_join_0.2.2.2.1
theorem dX4_join_96 : decode (mB 47) 96 = .ok (.iload_n 2, 1) := dqo gX4_join_0.2.2.2.2.1
theorem dX4_join_97 : decode (mB 47) 97 = .ok (.ifCond .eq 7, 3) := dqo gX4_join_0.2.2.2.2.2.1
theorem dX4_join_100 : decode (mB 47) 100 = .ok (.iconst 1, 1) := dqo gX4_join_0.2.2.2.2.2.2.1
theorem dX4_join_101 : decode (mB 47) 101 = .ok (.goto 4, 3) := dqo gX4_join_0.2.2.2.2.2.2.2.1
theorem dX4_join_104 : decode (mB 47) 104 = .ok (.iconst 0, 1) := dqo gX4_join_0.2.2.2.2.2.2.2.2.1
theorem dX4_join_105 : decode (mB 47) 105 = .ok (.ireturn, 1) := dqo gX4_join_0.2.2.2.2.2.2.2.2.2.1
theorem dX4_join_106 : decode (mB 47) 106 = .ok (.iload_n 1, 1) := dqo gX4_join_0.2.2.2.2.2.2.2.2.2.2.1
theorem dX4_join_107 : decode (mB 47) 107 = .ok (.ifCond .eq 11, 3) := dqo gX4_join_0.2.2.2.2.2.2.2.2.2.2.2.1
theorem dX4_join_110 : decode (mB 47) 110 = .ok (.iload_n 2, 1) := dqo gX4_join_0.2.2.2.2.2.2.2.2.2.2.2.2.1
theorem dX4_join_111 : decode (mB 47) 111 = .ok (.ifCond .eq 7, 3) := dqo gX4_join_0.2.2.2.2.2.2.2.2.2.2.2.2.2.1
theorem dX4_join_114 : decode (mB 47) 114 = .ok (.iconst 1, 1) := dqo gX4_join_0.2.2.2.2.2.2.2.2.2.2.2.2.2.2.1
theorem dX4_join_115 : decode (mB 47) 115 = .ok (.goto 4, 3) := dqo gX4_join_0.2.2.2.2.2.2.2.2.2.2.2.2.2.2.2
theorem gX4_join_118 : dq 47 118 (.iconst 0) 1 = true ∧ dq 47 119 (.ireturn) 1 = true ∧ dq 47 120 (.iload_n 1) 1 = true ∧ dq 47 121 (.iload_n 2) 1 = true ∧ dq 47 122 (.if_icmp .ge 7) 3 = true ∧ dq 47 125 (.iconst 1) 1 = true ∧ dq 47 126 (.goto 4) 3 = true ∧ dq 47 129 (.iconst 0) 1 = true ∧ dq 47 130 (.ireturn) 1 = true ∧ dq 47 131 (.iload_n 1) 1 = true ∧ dq 47 132 (.iload_n 2) 1 = true ∧ dq 47 133 (.if_icmp .ne 7) 3 = true ∧ dq 47 136 (.iconst 1) 1 = true ∧ dq 47 137 (.goto 4) 3 = true ∧ dq 47 140 (.iconst 0) 1 = true ∧ dq 47 141 (.ireturn) 1 = true := by decide +kernel
theorem dX4_join_118 : decode (mB 47) 118 = .ok (.iconst 0, 1) := dqo gX4_join_118.1
theorem dX4_join_119 : decode (mB 47) 119 = .ok (.ireturn, 1) := dqo gX4_join_118.2.1
theorem dX4_join_120 : decode (mB 47) 120 = .ok (.iload_n 1, 1) := dqo gX4_join_118.2.2.1
theorem dX4_join_121 : decode (mB 47) 121 = .ok (.iload_n 2, 1) := dqo gX4_join_118.2.2.2.1
theorem dX4_join_122 : decode (mB 47) 122 = .ok (.if_icmp .ge 7, 3) := dqo gX4_join_118.2.2.2.2.1
theorem dX4_join_125 : decode (mB 47) 125 = .ok (.iconst 1, 1) := dqo gX4_join_118.2.2.2.2.2.1
theorem dX4_join_126 : decode (mB 47) 126 = .ok (.goto 4, 3) := dqo gX4_join_118.2.2.2.2.2.2.1
theorem dX4_join_129 : decode (mB 47) 129 = .ok (.iconst 0, 1) := dqo gX4_join_118.2.2.2.2.2.2.2.1
theorem dX4_join_130 : decode (mB 47) 130 = .ok (.ireturn, 1) := dqo gX4_join_118.2.2.2.2.2.2.2.2.1
theorem dX4_join_131 : decode (mB 47) 131 = .ok (.iload_n 1, 1) := dqo gX4_join_118.2.2.2.2.2.2.2.2.2.1
theorem dX4_join_132 : decode (mB 47) 132 = .ok (.iload_n 2, 1) := dqo gX4_join_118.2.2.2.2.2.2.2.2.2.2.1
theorem dX4_join_133 : decode (mB 47) 133 = .ok (.if_icmp .ne 7, 3) := dqo gX4_join_118.2.2.2.2.2.2.2.2.2.2.2.1
theorem dX4_join_136 : decode (mB 47) 136 = .ok (.iconst 1, 1) := dqo gX4_join_118.2.2.2.2.2.2.2.2.2.2.2.2.1
theorem dX4_join_137 : decode (mB 47) 137 = .ok (.goto 4, 3) := dqo gX4_join_118.2.2.2.2.2.2.2.2.2.2.2.2.2.1
theorem dX4_join_140 : decode (mB 47) 140 = .ok (.iconst 0, 1) := dqo gX4_join_118.2.2.2.2.2.2.2.2.2.2.2.2.2.2.1
theorem dX4_join_141 : decode (mB 47) 141 = .ok (.ireturn, 1) := dqo gX4_join_118.2.2.2.2.2.2.2.2.2.2.2.2.2.2.2
theorem gX4_join_142 : dq 47 142 (.iload_n 1) 1 = true ∧ dq 47 143 (.iload_n 2) 1 = true ∧ dq 47 144 (.if_icmp .le 7) 3 = true ∧ dq 47 147 (.iconst 1) 1 = true ∧ dq 47 148 (.goto 4) 3 = true ∧ dq 47 151 (.iconst 0) 1 = true ∧ dq 47 152 (.ireturn) 1 = true ∧ dq 47 153 (.iload_n 1) 1 = true ∧ dq 47 154 (.iload_n 2) 1 = true ∧ dq 47 155 (.iadd) 1 = true ∧ dq 47 156 (.ireturn) 1 = true ∧ dq 47 157 (.iload_n 1) 1 = true ∧ dq 47 158 (.iload_n 2) 1 = true ∧ dq 47 159 (.isub) 1 = true ∧ dq 47 160 (.ireturn) 1 = true ∧ dq 47 161 (.iload_n 1) 1 = true := by decide +kernel
theorem dX4_join_142 : decode (mB 47) 142 = .ok (.iload_n 1, 1) := dqo gX4_join_142.1
theorem dX4_join_143 : decode (mB 47) 143 = .ok (.iload_n 2, 1) := dqo gX4_join_142.2.1
theorem dX4_join_144 : decode (mB 47) 144 = .ok (.if_icmp .le 7, 3) := dqo gX4_join_142.2.2.1
theorem dX4_join_147 : decode (mB 47) 147 = .ok (.iconst 1, 1) := dqo gX4_join_142.2.2.2.1
theorem dX4_join_148 : decode (mB 47) 148 = .ok (.goto 4, 3) := dqo gX4_join_142.2.2.2.2.1
theorem dX4_join_151 : decode (mB 47) 151 = .ok (.iconst 0, 1) := dqo gX4_join_142.2.2.2.2.2.1
theorem dX4_join_152 : decode (mB 47) 152 = .ok (.ireturn, 1) := dqo gX4_join_142.2.2.2.2.2.2.1
theorem dX4_join_153 : decode (mB 47) 153 = .ok (.iload_n 1, 1) := dqo gX4_join_142.2.2.2.2.2.2.2.1
theorem dX4_join_154 : decode (mB 47) 154 = .ok (.iload_n 2, 1) := dqo gX4_join_142.2.2.2.2.2.2.2.2.1
theorem dX4_join_155 : decode (mB 47) 155 = .ok (.iadd, 1) := dqo gX4_join_142.2.2.2.2.2.2.2.2.2.1
theorem dX4_join_156 : decode (mB 47) 156 = .ok (.ireturn, 1) := dqo gX4_join_142.2.2.2.2.2.2.2.2.2.2.1
theorem dX4_join_157 : decode (mB 47) 157 = .ok (.iload_n 1, 1) := dqo gX4_join_142.2.2.2.2.2.2.2.2.2.2.2.1
theorem dX4_join_158 : decode (mB 47) 158 = .ok (.iload_n 2, 1) := dqo gX4_join_142.2.2.2.2.2.2.2.2.2.2.2.2.1
theorem dX4_join_159 : decode (mB 47) 159 = .ok (.isub, 1) := dqo gX4_join_142.2.2.2.2.2.2.2.2.2.2.2.2.2.1
theorem dX4_join_160 : decode (mB 47) 160 = .ok (.ireturn, 1) := dqo gX4_join_142.2.2.2.2.2.2.2.2.2.2.2.2.2.2.1
theorem dX4_join_161 : decode (mB 47) 161 = .ok (.iload_n 1, 1) := dqo gX4_join_142.2.2.2.2.2.2.2.2.2.2.2.2.2.2.2
theorem gX4_join_162 : dq 47 162 (.iload_n 2) 1 = true ∧ dq 47 163 (.imul) 1 = true ∧ dq 47 164 (.ireturn) 1 = true ∧ dq 47 165 (.iload_n 2) 1 = true ∧ dq 47 166 (.ifCond .ne 7) 3 = true ∧ dq 47 169 (.iconst 0) 1 = true ∧ dq 47 170 (.goto 6) 3 = true ∧ dq 47 173 (.iload_n 1) 1 = true ∧ dq 47 174 (.iload_n 2) 1 = true ∧ dq 47 175 (.idiv) 1 = true ∧ dq 47 176 (.ireturn) 1 = true ∧ dq 47 177 (.iload_n 2) 1 = true ∧ dq 47 178 (.ifCond .ne 7) 3 = true ∧ dq 47 181 (.iconst 0) 1 = true ∧ dq 47 182 (.goto 6) 3 = true ∧ dq 47 185 (.iload_n 1) 1 = true := by decide +kernel
theorem dX4_join_162 : decode (mB 47) 162 = .ok (.iload_n 2, 1) := dqo gX4_join_162.1
theorem dX4_join_163 : decode (mB 47) 163 = .ok (.imul, 1) := dqo gX4_join_162.2.1
theorem dX4_join_164 : decode (mB 47) 164 = .ok (.ireturn, 1) := dqo gX4_join_162.2.2.1
theorem dX4_join_165 : decode (mB 47) 165 = .ok (.iload_n 2, 1) := dqo gX4_join_162.2.2.2.1
theorem dX4_join_166 : decode (mB 47) 166 = .ok (.ifCond .ne 7, 3) := dqo gX4_join_162.2.2.2.2.1
theorem dX4_join_169 : decode (mB 47) 169 = .ok (.iconst 0, 1) := dqo gX4_join_162.2.2.2.2.2.1
theorem dX4_join_170 : decode (mB 47) 170 = .ok (.goto 6, 3) := dqo gX4_join_162.2.2.2.2.2.2.1
theorem dX4_join_173 : decode (mB 47) 173 = .ok (.iload_n 1, 1) := dqo gX4_join_162.2.2.2.2.2.2.2.1
theorem dX4_join_174 : decode (mB 47) 174 = .ok (.iload_n 2, 1) := dqo gX4_join_162.2.2.2.2.2.2.2.2.1
theorem dX4_join_175 : decode (mB 47) 175 = .ok (.idiv, 1) := dqo gX4_join_162.2.2.2.2.2.2.2.2.2.1
theorem dX4_join_176 : decode (mB 47) 176 = .ok (.ireturn, 1) := dqo gX4_join_162.2.2.2.2.2.2.2.2.2.2.1
theorem dX4_join_177 : decode (mB 47) 177 = .ok (.iload_n 2, 1) := dqo gX4_join_162.2.2.2.2.2.2.2.2.2.2.2.1
theorem dX4_join_178 : decode (mB 47) 178 = .ok (.ifCond .ne 7, 3) := dqo gX4_join_162.2.2.2.2.2.2.2.2.2.2.2.2.1
theorem dX4_join_181 : decode (mB 47) 181 = .ok (.iconst 0, 1) := dqo gX4_join_162.2.2.2.2.2.2.2.2.2.2.2.2.2.1
theorem dX4_join_182 : decode (mB 47) 182 = .ok (.goto 6, 3) := dqo gX4_join_162.2.2.2.2.2.2.2.2.2.2.2.2.2.2.1
theorem dX4_join_185 : decode (mB 47) 185 = .ok (.iload_n 1, 1) := dqo gX4_join_162.2.2.2.2.2.2.2.2.2.2.2.2.2.2.2
theorem gX4_join_186 : dq 47 186 (.iload_n 2) 1 = true ∧ dq 47 187 (.irem) 1 = true ∧ dq 47 188 (.ireturn) 1 = true ∧ dq 47 189 (.iconst 0) 1 = true ∧ dq 47 190 (.ireturn) 1 = true := by decide +kernel
theorem dX4_join_186 : decode (mB 47) 186 = .ok (.iload_n 2, 1) := dqo gX4_join_186.1
theorem dX4_join_187 : decode (mB 47) 187 = .ok (.irem, 1) := dqo gX4_join_186.2.1
theorem dX4_join_188 : decode (mB 47) 188 = .ok (.ireturn, 1) := dqo gX4_join_186.2.2.1
theorem dX4_join_189 : decode (mB 47) 189 = .ok (.iconst 0, 1) := dqo gX4_join_186.2.2.2.1
theorem dX4_join_190 : decode (mB 47) 190 = .ok (.ireturn, 1) := dqo gX4_join_186.2.2.2.2
theorem gX4_push_0 : dq 48 0 (.aload_n 0) 1 = true ∧ dq 48 1 (.getfield 34) 3 = true ∧ dq 48 4 (.ifCond .lt 32) 3 = true ∧ dq 48 7 (.aload_n 0) 1 = true ∧ dq 48 8 (.getfield 34) 3 = true ∧ dq 48 11 (.bipush 121) 2 = true ∧ dq 48 13 (.if_icmp .ge 23) 3 = true ∧ dq 48 16 (.aload_n 0) 1 = true ∧ dq 48 17 (.getfield 18) 3 = true ∧ dq 48 20 (.aload_n 0) 1 = true ∧ dq 48 21 (.getfield 34) 3 = true ∧ dq 48 24 (.iload_n 1) 1 = true ∧ dq 48 25 (.iastore) 1 = true ∧ dq 48 26 (.aload_n 0) 1 = true ∧ dq 48 27 (.dup) 1 = true ∧ dq 48 28 (.getfield 34) 3 = true := by decide +kernel
theorem dX4_push_0 : decode (mB 48) 0 = .ok (.aload_n 0, 1) := dqo gX4_push_0.1
theorem dX4_push_1 : decode (mB 48) 1 = .ok (.getfield 34, 3) := dqo gX4_push_0.2.1
theorem dX4_push_4 : decode (mB 48) 4 = .ok (.ifCond .lt 32, 3) := dqo gX4_push_0.2.2.1
theorem dX4_push_7 : decode (mB 48) 7 = .ok (.aload_n 0, 1) := dqo gX4_push_0.2.2.2.1
theorem dX4_push_8 : decode (mB 48) 8 = .ok (.getfield 34, 3) := dqo gX4_push_0.2.2.2.2.1
theorem dX4_push_11 : decode (mB 48) 11 = .ok (.bipush 121, 2) := dqo gX4_push_0.2.2.2.2.2.1
theorem dX4_push_13 : decode (mB 48) 13 = .ok (.if_icmp .ge 23, 3) := dqo gX4_push_0.2.2.2.2.2.2.1
theorem dX4_push_16 : decode (mB 48) 16 = .ok (.aload_n 0, 1) := dqo gX4_push_0.2.2.2.2.2.2.2.1
theorem dX4_push_17 : decode (mB 48) 17 = .ok (.getfield 18, 3) := dqo gX4_push_0.2.2.2.2.2.2.2.2.1
theorem dX4_push_20 : decode (mB 48) 20 = .ok (.aload_n 0, 1) := dqo gX4_push_0.2.2.2.2.2.2.2.2.2.1
theorem dX4_push_21 : decode (mB 48) 21 = .ok (.getfield 34, 3) := dqo gX4_push_0.2.2.2.2.2.2.2.2.2.2.1
theorem dX4_push_24 : decode (mB 48) 24 = .ok (.iload_n 1, 1) := dqo gX4_push_0.2.2.2.2.2.2.2.2.2.2.2.1
theorem dX4_push_25 : decode (mB 48) 25 = .ok (.iastore, 1) := dqo gX4_push_0.2.2.2.2.2.2.2.2.2.2.2.2.1
theorem dX4_push_26 : decode (mB 48) 26 = .ok (.aload_n 0, 1) := dqo gX4_push_0.2.2.2.2.2.2.2.2.2.2.2.2.2.1
theorem dX4_push_27 : decode (mB 48) 27 = .ok (.dup, 1) := dqo gX4_push_0.2.2.2.2.2.2.2.2.2.2.2.2.2.2.1
theorem dX4_push_28 : decode (mB 48) 28 = .ok (.getfield 34, 3) := dqo gX4_push_0.2.2.2.2.2.2.2.2.2.2.2.2.2.2.2
theorem gX4_push_31 : dq 48 31 (.iconst 1) 1 = true ∧ dq 48 32 (.iadd) 1 = true ∧ dq 48 33 (.putfield 34) 3 = true ∧ dq 48 36 (.return_) 1 = true := by decide +kernel
theorem dX4_push_31 : decode (mB 48) 31 = .ok (.iconst 1, 1) := dqo gX4_push_31.1
theorem dX4_push_32 : decode (mB 48) 32 = .ok (.iadd, 1) := dqo gX4_push_31.2.1
theorem dX4_push_33 : decode (mB 48) 33 = .ok (.putfield 34, 3) := dqo gX4_push_31.2.2.1
theorem dX4_push_36 : decode (mB 48) 36 = .ok (.return_, 1) := dqo gX4_push_31.2.2.2
theorem gX4_pop_0 : dq 49 0 (.aload_n 0) 1 = true ∧ dq 49 1 (.getfield 34) 3 = true ∧ dq 49 4 (.ifCond .le 12) 3 = true ∧ dq 49 7 (.aload_n 0) 1 = true ∧ dq 49 8 (.getfield 34) 3 = true ∧ dq 49 11 (.bipush 121) 2 = true ∧ dq 49 13 (.if_icmp .le 5) 3 = true ∧ dq 49 16 (.iconst 0) 1 = true ∧ dq 49 17 (.ireturn) 1 = true ∧ dq 49 18 (.aload_n 0) 1 = true ∧ dq 49 19 (.dup) 1 = true ∧ dq 49 20 (.getfield 34) 3 = true ∧ dq 49 23 (.iconst 1) 1 = true ∧ dq 49 24 (.isub) 1 = true ∧ dq 49 25 (.putfield 34) 3 = true ∧ dq 49 28 (.aload_n 0) 1 = true := by decide +kernel
theorem dX4_pop_0 : decode (mB 49) 0 = .ok (.aload_n 0, 1) := dqo gX4_pop_0.1
theorem dX4_pop_1 : decode (mB 49) 1 = .ok (.getfield 34, 3) := dqo gX4_pop_0.2.1
theorem dX4_pop_4 : decode (mB 49) 4 = .ok (.ifCond .le 12, 3) := dqo gX4_pop_0.2.2.1
theorem dX4_pop_7 : decode (mB 49) 7 = .ok (.aload_n 0, 1) := dqo gX4_pop_0.2.2.2.1
theorem dX4_pop_8 : decode (mB 49) 8 = .ok (.getfield 34, 3) := dqo gX4_pop_0.2.2.2.2.1
theorem dX4_pop_11 : decode (mB 49) 11 = .ok (.bipush 121, 2) := dqo gX4_pop_0.2.2.2.2.2.1
theorem dX4_pop_13 : decode (mB 49) 13 = .ok (.if_icmp .le 5, 3) := dqo gX4_pop_0.2.2.2.2.2.2.1
theorem dX4_pop_16 : decode (mB 49) 16 = .ok (.iconst 0, 1) := dqo gX4_pop_0.2.2.2.2.2.2.2.1
theorem dX4_pop_17 : decode (mB 49) 17 = .ok (.ireturn, 1) := dqo gX4_pop_0.2.2.2.2.2.2.2.2.1
theorem dX4_pop_18 : decode (mB 49) 18 = .ok (.aload_n 0, 1) := dqo gX4_pop_0.2.2.2.2.2.2.2.2.2.1
theorem dX4_pop_19 : decode (mB 49) 19 = .ok (.dup, 1) := dqo gX4_pop_0.2.2.2.2.2.2.2.2.2.2.1
theorem dX4_pop_20 : decode (mB 49) 20 = .ok (.getfield 34, 3) := dqo gX4_pop_0.2.2.2.2.2.2.2.2.2.2.2.1
theorem dX4_pop_23 : decode (mB 49) 23 = .ok (.iconst 1, 1) := dqo gX4_pop_0.2.2.2.2.2.2.2.2.2.2.2.2.1
theorem dX4_pop_24 : decode (mB 49) 24 = .ok (.isub, 1) := dqo gX4_pop_0.2.2.2.2.2.2.2.2.2.2.2.2.2.1
theorem dX4_pop_25 : decode (mB 49) 25 = .ok (.putfield 34, 3) := dqo gX4_pop_0.2.2.2.2.2.2.2.2.2.2.2.2.2.2.1
theorem dX4_pop_28 : decode (mB 49) 28 = .ok (.aload_n 0, 1) := dqo gX4_pop_0.2.2.2.2.2.2.2.2.2.2.2.2.2.2.2
theorem gX4_pop_29 : dq 49 29 (.getfield 18) 3 = true ∧ dq 49 32 (.aload_n 0) 1 = true ∧ dq 49 33 (.getfield 34) 3 = true ∧ dq 49 36 (.iaload) 1 = true ∧ dq 49 37 (.ireturn) 1 = true := by decide +kernel
theorem dX4_pop_29 : decode (mB 49) 29 = .ok (.getfield 18, 3) := dqo gX4_pop_29.1
theorem dX4_pop_32 : decode (mB 49) 32 = .ok (.aload_n 0, 1) := dqo gX4_pop_29.2.1
theorem dX4_pop_33 : decode (mB 49) 33 = .ok (.getfield 34, 3) := dqo gX4_pop_29.2.2.1
theorem dX4_pop_36 : decode (mB 49) 36 = .ok (.iaload, 1) := dqo gX4_pop_29.2.2.2.1
theorem dX4_pop_37 : decode (mB 49) 37 = .ok (.ireturn, 1) := dqo gX4_pop_29.2.2.2.2
theorem gX5_init_0 : dq 50 0 (.aload_n 0) 1 = true ∧ dq 50 1 (.invokespecial 3) 3 = true ∧ dq 50 4 (.aload_n 0) 1 = true ∧ dq 50 5 (.bipush 120) 2 = true ∧ dq 50 7 (.newarray .int) 2 = true ∧ dq 50 9 (.putfield 11) 3 = true ∧ dq 50 12 (.aload_n 0) 1 = true ∧ dq 50 13 (.new 15) 3 = true ∧ dq 50 16 (.dup) 1 = true ∧ dq 50 17 (.invokespecial 17) 3 = true ∧ dq 50 20 (.putfield 18) 3 = true ∧ dq 50 23 (.return_) 1 = true := by decide +kernel
theorem dX5_init_0 : decode (mB 50) 0 = .ok (.aload_n 0, 1) := dqo gX5_init_0.1
theorem dX5_init_1 : decode (mB 50) 1 = .ok (.invokespecial 3, 3) := dqo gX5_init_0.2.1
theorem dX5_init_4 : decode (mB 50) 4 = .ok (.aload_n 0, 1) := dqo gX5_init_0.2.2.1
theorem dX5_init_5 : decode (mB 50) 5 = .ok (.bipush 120, 2) := dqo gX5_init_0.2.2.2.1
theorem dX5_init_7 : decode (mB 50) 7 = .ok (.newarray .int, 2) := dqo gX5_init_0.2.2.2.2.1
theorem dX5_init_9 : decode (mB 50) 9 = .ok (.putfield 11, 3) := dqo gX5_init_0.2.2.2.2.2.1
theorem dX5_init_12 : decode (mB 50) 12 = .ok (.aload_n 0, 1) := dqo gX5_init_0.2.2.2.2.2.2.1
theorem dX5_init_13 : decode (mB 50) 13 = .ok (.new 15, 3) := dqo gX5_init_0.2.2.2.2.2.2.2.1
theorem dX5_init_16 : decode (mB 50) 16 = .ok (.dup, 1) := dqo gX5_init_0.2.2.2.2.2.2.2.2.1
theorem dX5_init_17 : decode (mB 50) 17 = .ok (.invokespecial 17, 3) := dqo gX5_init_0.2.2.2.2.2.2.2.2.2.1
theorem dX5_init_20 : decode (mB 50) 20 = .ok (.putfield 18, 3) := dqo gX5_init_0.2.2.2.2.2.2.2.2.2.2.1
theorem dX5_init_23 : decode (mB 50) 23 = .ok (.return_, 1) := dqo gX5_init_0.2.2.2.2.2.2.2.2.2.2.2
theorem gX5_addByte_0 : dq 51 0 (.aload_n 0) 1 = true ∧ dq 51 1 (.getfield 22) 3 = true ∧ dq 51 4 (.bipush 120) 2 = true ∧ dq 51 6 (.if_icmp .lt 6) 3 = true ∧ dq 51 9 (.bipush (-3)) 2 = true ∧ dq 51 11 (.ireturn) 1 = true ∧ dq 51 12 (.aload_n 0) 1 = true ∧ dq 51 13 (.getfield 11) 3 = true ∧ dq 51 16 (.aload_n 0) 1 = true ∧ dq 51 17 (.getfield 22) 3 = true ∧ dq 51 20 (.iload_n 1) 1 = true ∧ dq 51 21 (.iastore) 1 = true ∧ dq 51 22 (.aload_n 0) 1 = true ∧ dq 51 23 (.dup) 1 = true ∧ dq 51 24 (.getfield 22) 3 = true ∧ dq 51 27 (.iconst 1) 1 = true := by decide +kernel
theorem dX5_addByte_0 : decode (mB 51) 0 = .ok (.aload_n 0, 1) := dqo gX5_addByte_0.1
theorem dX5_addByte_1 : decode (mB 51) 1 = .ok (.getfield 22, 3) := dqo gX5_addByte_0.2.1
theorem dX5_addByte_4 : decode (mB 51) 4 = .ok (.bipush 120, 2) := dqo gX5_addByte_0.2.2.1
theorem dX5_addByte_6 : decode (mB 51) 6 = .ok (.if_icmp .lt 6, 3) := dqo gX5_addByte_0.2.2.2.1
theorem dX5_addByte_9 : decode (mB 51) 9 = .ok (.bipush (-3), 2) := dqo gX5_addByte_0.2.2.2.2.1
theorem dX5_addByte_11 : decode (mB 51) 11 = .ok (.ireturn, 1) := dqo gX5_addByte_0.2.2.2.2.2.1
theorem dX5_addByte_12 : decode (mB 51) 12 = .ok (.aload_n 0, 1) := dqo gX5_addByte_0.2.2.2.2.2.2.1
theorem dX5_addByte_13 : decode (mB 51) 13 = .ok (.getfield 11, 3) := dqo gX5_addByte_0.2.2.2.2.2.2.2.1
theorem dX5_addByte_16 : decode (mB 51) 16 = .ok (.aload_n 0, 1) := dqo gX5_addByte_0.2.2.2.2.2.2.2.2.1
theorem dX5_addByte_17 : decode (mB 51) 17 = .ok (.getfield 22, 3) := dqo gX5_addByte_0.2.2.2.2.2.2.2.2.2.1
theorem dX5_addByte_20 : decode (mB 51) 20 = .ok (.iload_n 1, 1) := dqo gX5_addByte_0.2.2.2.2.2.2.2.2.2.2.1
theorem dX5_addByte_21 : decode (mB 51) 21 = .ok (.iastore, 1) := dqo gX5_addByte_0.2.2.2.2.2.2.2.2.2.2.2.1
theorem dX5_addByte_22 : decode (mB 51) 22 = .ok (.aload_n 0, 1) := dqo gX5_addByte_0.2.2.2.2.2.2.2.2.2.2.2.2.1
theorem dX5_addByte_23 : decode (mB 51) 23 = .ok (.dup, 1) := dqo gX5_addByte_0.2.2.2.2.2.2.2.2.2.2.2.2.2.1
theorem dX5_addByte_24 : decode (mB 51) 24 = .ok (.getfield 22, 3) := dqo gX5_addByte_0.2.2.2.2.2.2.2.2.2.2.2.2.2.2.1
theorem dX5_addByte_27 : decode (mB 51) 27 = .ok (.iconst 1, 1) := dqo gX5_addByte_0.2.2.2.2.2.2.2.2.2.2.2.2.2.2.2
theorem gX5_addByte_28 : dq 51 28 (.iadd) 1 = true ∧ dq 51 29 (.putfield 22) 3 = true ∧ dq 51 32 (.aload_n 0) 1 = true ∧ dq 51 33 (.getfield 22) 3 = true ∧ dq 51 36 (.ireturn) 1 = true := by decide +kernel
theorem dX5_addByte_28 : decode (mB 51) 28 = .ok (.iadd, 1) := dqo gX5_addByte_28.1
theorem dX5_addByte_29 : decode (mB 51) 29 = .ok (.putfield 22, 3) := dqo gX5_addByte_28.2.1
theorem dX5_addByte_32 : decode (mB 51) 32 = .ok (.aload_n 0, 1) := dqo gX5_addByte_28.2.2.1
theorem dX5_addByte_33 : decode (mB 51) 33 = .ok (.getfield 22, 3) := dqo gX5_addByte_28.2.2.2.1
theorem dX5_addByte_36 : decode (mB 51) 36 = .ok (.ireturn, 1) := dqo gX5_addByte_28.2.2.2.2
theorem gX5_tapeLength_0 : dq 52 0 (.aload_n 0) 1 = true ∧ dq 52 1 (.getfield 22) 3 = true ∧ dq 52 4 (.ireturn) 1 = true := by decide +kernel
theorem dX5_tapeLength_0 : decode (mB 52) 0 = .ok (.aload_n 0, 1) := dqo gX5_tapeLength_0.1
theorem dX5_tapeLength_1 : decode (mB 52) 1 = .ok (.getfield 22, 3) := dqo gX5_tapeLength_0.2.1
theorem dX5_tapeLength_4 : decode (mB 52) 4 = .ok (.ireturn, 1) := dqo gX5_tapeLength_0.2.2
theorem gX5_emptyTape_0 : dq 53 0 (.aload_n 0) 1 = true ∧ dq 53 1 (.iconst 0) 1 = true ∧ dq 53 2 (.putfield 22) 3 = true ∧ dq 53 5 (.return_) 1 = true := by decide +kernel
theorem dX5_emptyTape_0 : decode (mB 53) 0 = .ok (.aload_n 0, 1) := dqo gX5_emptyTape_0.1
theorem dX5_emptyTape_1 : decode (mB 53) 1 = .ok (.iconst 0, 1) := dqo gX5_emptyTape_0.2.1
theorem dX5_emptyTape_2 : decode (mB 53) 2 = .ok (.putfield 22, 3) := dqo gX5_emptyTape_0.2.2.1
theorem dX5_emptyTape_5 : decode (mB 53) 5 = .ok (.return_, 1) := dqo gX5_emptyTape_0.2.2.2
theorem gX5_draft_0 : dq 54 0 (.aload_n 0) 1 = true ∧ dq 54 1 (.getfield 18) 3 = true ∧ dq 54 4 (.areturn) 1 = true := by decide +kernel
theorem dX5_draft_0 : decode (mB 54) 0 = .ok (.aload_n 0, 1) := dqo gX5_draft_0.1
theorem dX5_draft_1 : decode (mB 54) 1 = .ok (.getfield 18, 3) := dqo gX5_draft_0.2.1
theorem dX5_draft_4 : decode (mB 54) 4 = .ok (.areturn, 1) := dqo gX5_draft_0.2.2
theorem gX5_readText_0 : dq 55 0 (.aload_n 0) 1 = true ∧ dq 55 1 (.iconst 0) 1 = true ∧ dq 55 2 (.putfield 26) 3 = true ∧ dq 55 5 (.aload_n 0) 1 = true ∧ dq 55 6 (.getfield 18) 3 = true ∧ dq 55 9 (.invokevirtual 29) 3 = true ∧ dq 55 12 (.aload_n 0) 1 = true ∧ dq 55 13 (.invokevirtual 32) 3 = true ∧ dq 55 16 (.istore_n 1) 1 = true ∧ dq 55 17 (.iconst 0) 1 = true ∧ dq 55 18 (.istore_n 2) 1 = true ∧ dq 55 19 (.iload_n 2) 1 = true ∧ dq 55 20 (.bipush 120) 2 = true ∧ dq 55 22 (.if_icmp .ge 37) 3 = true ∧ dq 55 25 (.iload_n 1) 1 = true ∧ dq 55 26 (.ifCond .eq 33) 3 = true := by decide +kernel
theorem dX5_readText_0 : decode (mB 55) 0 = .ok (.aload_n 0, 1) := dqo gX5_readText_0.1
theorem dX5_readText_1 : decode (mB 55) 1 = .ok (.iconst 0, 1) := dqo gX5_readText_0.2.1
theorem dX5_readText_2 : decode (mB 55) 2 = .ok (.putfield 26, 3) := dqo gX5_readText_0.2.2.1
theorem dX5_readText_5 : decode (mB 55) 5 = .ok (.aload_n 0, 1) := dqo gX5_readText_0.2.2.2.1
theorem dX5_readText_6 : decode (mB 55) 6 = .ok (.getfield 18, 3) := dqo gX5_readText_0.2.2.2.2.1
theorem dX5_readText_9 : decode (mB 55) 9 = .ok (.invokevirtual 29, 3) := dqo gX5_readText_0.2.2.2.2.2.1
theorem dX5_readText_12 : decode (mB 55) 12 = .ok (.aload_n 0, 1) := dqo gX5_readText_0.2.2.2.2.2.2.1
theorem dX5_readText_13 : decode (mB 55) 13 = .ok (.invokevirtual 32, 3) := dqo gX5_readText_0.2.2.2.2.2.2.2.1
theorem dX5_readText_16 : decode (mB 55) 16 = .ok (.istore_n 1, 1) := dqo gX5_readText_0.2.2.2.2.2.2.2.2.1
theorem dX5_readText_17 : decode (mB 55) 17 = .ok (.iconst 0, 1) := dqo gX5_readText_0.2.2.2.2.2.2.2.2.2.1
theorem dX5_readText_18 : decode (mB 55) 18 = .ok (.istore_n 2, 1) := dqo gX5_readText_0.2.2.2.2.2.2.2.2.2.2.1
theorem dX5_readText_19 : decode (mB 55) 19 = .ok (.iload_n 2, 1) := dqo gX5_readText_0.2.2.2.2.2.2.2.2.2.2.2.1
theorem dX5_readText_20 : decode (mB 55) 20 = .ok (.bipush 120, 2) := dqo gX5_readText_0.2.2.2.2.2.2.2.2.2.2.2.2.1
theorem dX5_readText_22 : decode (mB 55) 22 = .ok (.if_icmp .ge 37, 3) := dqo gX5_readText_0.2.2.2.2.2.2.2.2.2.2.2.2.2.1
theorem dX5_readText_25 : decode (mB 55) 25 = .ok (.iload_n 1, 1) := dqo gX5_readText_0.2.2.2.2.2.2.2.2.2.2.2.2.2.2.1
theorem dX5_readText_26 : decode (mB 55) 26 = .ok (.ifCond .eq 33, 3) := dqo gX5_readText_0.2.2.2.2.2.2.2.2.2.2.2.2.2.2.2
theorem gX5_readText_29 : dq 55 29 (.aload_n 0) 1 = true ∧ dq 55 30 (.invokevirtual 36) 3 = true ∧ dq 55 33 (.bipush 59) 2 = true ∧ dq 55 35 (.if_icmp .ne 24) 3 = true ∧ dq 55 38 (.aload_n 0) 1 = true ∧ dq 55 39 (.dup) 1 = true ∧ dq 55 40 (.getfield 26) 3 = true ∧ dq 55 43 (.iconst 1) 1 = true ∧ dq 55 44 (.iadd) 1 = true ∧ dq 55 45 (.putfield 26) 3 = true ∧ dq 55 48 (.aload_n 0) 1 = true ∧ dq 55 49 (.invokevirtual 32) 3 = true ∧ dq 55 52 (.istore_n 1) 1 = true ∧ dq 55 53 (.iinc 2 1) 3 = true ∧ dq 55 56 (.goto (-37)) 3 = true ∧ dq 55 59 (.iload_n 1) 1 = true := by decide +kernel
theorem dX5_readText_29 : decode (mB 55) 29 = .ok (.aload_n 0, 1) := dqo gX5_readText_29.1
theorem dX5_readText_30 : decode (mB 55) 30 = .ok (.invokevirtual 36, 3) := dqo gX5_readText_29.2.1
theorem dX5_readText_33 : decode (mB 55) 33 = .ok (.bipush 59, 2) := dqo gX5_readText_29.2.2.1
theorem dX5_readText_35 : decode (mB 55) 35 = .ok (.if_icmp .ne 24, 3) := dqo gX5_readText_29.2.2.2.1
theorem dX5_readText_38 : decode (mB 55) 38 = .ok (.aload_n 0, 1) := dqo gX5_readText_29.2.2.2.2.1
theorem dX5_readText_39 : decode (mB 55) 39 = .ok (.dup, 1) := dqo gX5_readText_29.2.2.2.2.2.1
theorem dX5_readText_40 : decode (mB 55) 40 = .ok (.getfield 26, 3) := dqo gX5_readText_29.2.2.2.2.2.2.1
theorem dX5_readText_43 : decode (mB 55) 43 = .ok (.iconst 1, 1) := dqo gX5_readText_29.2.2.2.2.2.2.2.1
theorem dX5_readText_44 : decode (mB 55) 44 = .ok (.iadd, 1) := dqo gX5_readText_29.2.2.2.2.2.2.2.2.1
theorem dX5_readText_45 : decode (mB 55) 45 = .ok (.putfield 26, 3) := dqo gX5_readText_29.2.2.2.2.2.2.2.2.2.1
theorem dX5_readText_48 : decode (mB 55) 48 = .ok (.aload_n 0, 1) := dqo gX5_readText_29.2.2.2.2.2.2.2.2.2.2.1
theorem dX5_readText_49 : decode (mB 55) 49 = .ok (.invokevirtual 32, 3) := dqo gX5_readText_29.2.2.2.2.2.2.2.2.2.2.2.1
theorem dX5_readText_52 : decode (mB 55) 52 = .ok (.istore_n 1, 1) := dqo gX5_readText_29.2.2.2.2.2.2.2.2.2.2.2.2.1
theorem dX5_readText_53 : decode (mB 55) 53 = .ok (.iinc 2 1, 3) := dqo gX5_readText_29.2.2.2.2.2.2.2.2.2.2.2.2.2.1
theorem dX5_readText_56 : decode (mB 55) 56 = .ok (.goto (-37), 3) := dqo gX5_readText_29.2.2.2.2.2.2.2.2.2.2.2.2.2.2.1
theorem dX5_readText_59 : decode (mB 55) 59 = .ok (.iload_n 1, 1) := dqo gX5_readText_29.2.2.2.2.2.2.2.2.2.2.2.2.2.2.2
theorem gX5_readText_60 : dq 55 60 (.ifCond .eq 18) 3 = true ∧ dq 55 63 (.aload_n 0) 1 = true ∧ dq 55 64 (.getfield 26) 3 = true ∧ dq 55 67 (.aload_n 0) 1 = true ∧ dq 55 68 (.getfield 22) 3 = true ∧ dq 55 71 (.if_icmp .lt 7) 3 = true ∧ dq 55 74 (.iconst (-1)) 1 = true ∧ dq 55 75 (.goto 7) 3 = true ∧ dq 55 78 (.aload_n 0) 1 = true ∧ dq 55 79 (.getfield 26) 3 = true ∧ dq 55 82 (.ireturn) 1 = true := by decide +kernel
theorem dX5_readText_60 : decode (mB 55) 60 = .ok (.ifCond .eq 18, 3) := dqo gX5_readText_60.1
theorem dX5_readText_63 : decode (mB 55) 63 = .ok (.aload_n 0, 1) := dqo gX5_readText_60.2.1
theorem dX5_readText_64 : decode (mB 55) 64 = .ok (.getfield 26, 3) := dqo gX5_readText_60.2.2.1
theorem dX5_readText_67 : decode (mB 55) 67 = .ok (.aload_n 0, 1) := dqo gX5_readText_60.2.2.2.1
theorem dX5_readText_68 : decode (mB 55) 68 = .ok (.getfield 22, 3) := dqo gX5_readText_60.2.2.2.2.1
theorem dX5_readText_71 : decode (mB 55) 71 = .ok (.if_icmp .lt 7, 3) := dqo gX5_readText_60.2.2.2.2.2.1
theorem dX5_readText_74 : decode (mB 55) 74 = .ok (.iconst (-1), 1) := dqo gX5_readText_60.2.2.2.2.2.2.1
theorem dX5_readText_75 : decode (mB 55) 75 = .ok (.goto 7, 3) := dqo gX5_readText_60.2.2.2.2.2.2.2.1
theorem dX5_readText_78 : decode (mB 55) 78 = .ok (.aload_n 0, 1) := dqo gX5_readText_60.2.2.2.2.2.2.2.2.1
theorem dX5_readText_79 : decode (mB 55) 79 = .ok (.getfield 26, 3) := dqo gX5_readText_60.2.2.2.2.2.2.2.2.2.1
theorem dX5_readText_82 : decode (mB 55) 82 = .ok (.ireturn, 1) := dqo gX5_readText_60.2.2.2.2.2.2.2.2.2.2
theorem gX5_next_0 : dq 56 0 (.aload_n 0) 1 = true ∧ dq 56 1 (.getfield 26) 3 = true ∧ dq 56 4 (.ifCond .lt 35) 3 = true ∧ dq 56 7 (.aload_n 0) 1 = true ∧ dq 56 8 (.getfield 26) 3 = true ∧ dq 56 11 (.aload_n 0) 1 = true ∧ dq 56 12 (.getfield 22) 3 = true ∧ dq 56 15 (.if_icmp .ge 24) 3 = true ∧ dq 56 18 (.aload_n 0) 1 = true ∧ dq 56 19 (.getfield 26) 3 = true ∧ dq 56 22 (.bipush 120) 2 = true ∧ dq 56 24 (.if_icmp .ge 15) 3 = true ∧ dq 56 27 (.aload_n 0) 1 = true ∧ dq 56 28 (.getfield 11) 3 = true ∧ dq 56 31 (.aload_n 0) 1 = true ∧ dq 56 32 (.getfield 26) 3 = true := by decide +kernel
theorem dX5_next_0 : decode (mB 56) 0 = .ok (.aload_n 0, 1) := dqo gX5_next_0.1
theorem dX5_next_1 : decode (mB 56) 1 = .ok (.getfield 26, 3) := dqo gX5_next_0.2.1
theorem dX5_next_4 : decode (mB 56) 4 = .ok (.ifCond .lt 35, 3) := dqo gX5_next_0.2.2.1
theorem dX5_next_7 : decode (mB 56) 7 = .ok (.aload_n 0, 1) := dqo gX5_next_0.2.2.2.1
theorem dX5_next_8 : decode (mB 56) 8 = .ok (.getfield 26, 3) := dqo gX5_next_0.2.2.2.2.1
theorem dX5_next_11 : decode (mB 56) 11 = .ok (.aload_n 0, 1) := dqo gX5_next_0.2.2.2.2.2.1
theorem dX5_next_12 : decode (mB 56) 12 = .ok (.getfield 22, 3) := dqo gX5_next_0.2.2.2.2.2.2.1
theorem dX5_next_15 : decode (mB 56) 15 = .ok (.if_icmp .ge 24, 3) := dqo gX5_next_0.2.2.2.2.2.2.2.1
theorem dX5_next_18 : decode (mB 56) 18 = .ok (.aload_n 0, 1) := dqo gX5_next_0.2.2.2.2.2.2.2.2.1
theorem dX5_next_19 : decode (mB 56) 19 = .ok (.getfield 26, 3) := dqo gX5_next_0.2.2.2.2.2.2.2.2.2.1
theorem dX5_next_22 : decode (mB 56) 22 = .ok (.bipush 120, 2) := dqo gX5_next_0.2.2.2.2.2.2.2.2.2.2.1
theorem dX5_next_24 : decode (mB 56) 24 = .ok (.if_icmp .ge 15, 3) := dqo gX5_next_0.2.2.2.2.2.2.2.2.2.2.2.1
theorem dX5_next_27 : decode (mB 56) 27 = .ok (.aload_n 0, 1) := dqo gX5_next_0.2.2.2.2.2.2.2.2.2.2.2.2.1
theorem dX5_next_28 : decode (mB 56) 28 = .ok (.getfield 11, 3) := dqo gX5_next_0.2.2.2.2.2.2.2.2.2.2.2.2.2.1
theorem dX5_next_31 : decode (mB 56) 31 = .ok (.aload_n 0, 1) := dqo gX5_next_0.2.2.2.2.2.2.2.2.2.2.2.2.2.2.1
theorem dX5_next_32 : decode (mB 56) 32 = .ok (.getfield 26, 3) := dqo gX5_next_0.2.2.2.2.2.2.2.2.2.2.2.2.2.2.2
theorem gX5_next_35 : dq 56 35 (.iaload) 1 = true ∧ dq 56 36 (.goto 4) 3 = true ∧ dq 56 39 (.iconst (-1)) 1 = true ∧ dq 56 40 (.ireturn) 1 = true := by decide +kernel
theorem dX5_next_35 : decode (mB 56) 35 = .ok (.iaload, 1) := dqo gX5_next_35.1
theorem dX5_next_36 : decode (mB 56) 36 = .ok (.goto 4, 3) := dqo gX5_next_35.2.1
theorem dX5_next_39 : decode (mB 56) 39 = .ok (.iconst (-1), 1) := dqo gX5_next_35.2.2.1
theorem dX5_next_40 : decode (mB 56) 40 = .ok (.ireturn, 1) := dqo gX5_next_35.2.2.2
theorem gX5_readLine_0 : dq 57 0 (.aload_n 0) 1 = true ∧ dq 57 1 (.iconst 1) 1 = true ∧ dq 57 2 (.iconst 0) 1 = true ∧ dq 57 3 (.invokevirtual 40) 3 = true ∧ dq 57 6 (.istore_n 1) 1 = true ∧ dq 57 7 (.iload_n 1) 1 = true ∧ dq 57 8 (.ifCond .eq 39) 3 = true ∧ dq 57 11 (.aload_n 0) 1 = true ∧ dq 57 12 (.invokevirtual 36) 3 = true ∧ dq 57 15 (.bipush 63) 2 = true ∧ dq 57 17 (.if_icmp .ne 30) 3 = true ∧ dq 57 20 (.aload_n 0) 1 = true ∧ dq 57 21 (.dup) 1 = true ∧ dq 57 22 (.getfield 26) 3 = true ∧ dq 57 25 (.iconst 1) 1 = true ∧ dq 57 26 (.iadd) 1 = true := by decide +kernel
theorem dX5_readLine_0 : decode (mB 57) 0 = .ok (.aload_n 0, 1) := dqo gX5_readLine_0.1
theorem dX5_readLine_1 : decode (mB 57) 1 = .ok (.iconst 1, 1) := dqo gX5_readLine_0.2.1
theorem dX5_readLine_2 : decode (mB 57) 2 = .ok (.iconst 0, 1) := dqo gX5_readLine_0.2.2.1
theorem dX5_readLine_3 : decode (mB 57) 3 = .ok (.invokevirtual 40, 3) := dqo gX5_readLine_0.2.2.2.1
theorem dX5_readLine_6 : decode (mB 57) 6 = .ok (.istore_n 1, 1) := dqo gX5_readLine_0.2.2.2.2.1
theorem dX5_readLine_7 : decode (mB 57) 7 = .ok (.iload_n 1, 1) := dqo gX5_readLine_0.2.2.2.2.2.1
theorem dX5_readLine_8 : decode (mB 57) 8 = .ok (.ifCond .eq 39, 3) := dqo gX5_readLine_0.2.2.2.2.2.2.1
theorem dX5_readLine_11 : decode (mB 57) 11 = .ok (.aload_n 0, 1) := dqo gX5_readLine_0.2.2.2.2.2.2.2.1
theorem dX5_readLine_12 : decode (mB 57) 12 = .ok (.invokevirtual 36, 3) := dqo gX5_readLine_0.2.2.2.2.2.2.2.2.1
theorem dX5_readLine_15 : decode (mB 57) 15 = .ok (.bipush 63, 2) := dqo gX5_readLine_0.2.2.2.2.2.2.2.2.2.1
theorem dX5_readLine_17 : decode (mB 57) 17 = .ok (.if_icmp .ne 30, 3) := dqo gX5_readLine_0.2.2.2.2.2.2.2.2.2.2.1
theorem dX5_readLine_20 : decode (mB 57) 20 = .ok (.aload_n 0, 1) := dqo gX5_readLine_0.2.2.2.2.2.2.2.2.2.2.2.1
theorem dX5_readLine_21 : decode (mB 57) 21 = .ok (.dup, 1) := dqo gX5_readLine_0.2.2.2.2.2.2.2.2.2.2.2.2.1
theorem dX5_readLine_22 : decode (mB 57) 22 = .ok (.getfield 26, 3) := dqo gX5_readLine_0.2.2.2.2.2.2.2.2.2.2.2.2.2.1
theorem dX5_readLine_25 : decode (mB 57) 25 = .ok (.iconst 1, 1) := dqo gX5_readLine_0.2.2.2.2.2.2.2.2.2.2.2.2.2.2.1
theorem dX5_readLine_26 : decode (mB 57) 26 = .ok (.iadd, 1) := dqo gX5_readLine_0.2.2.2.2.2.2.2.2.2.2.2.2.2.2.2
theorem gX5_readLine_27 : dq 57 27 (.putfield 26) 3 = true ∧ dq 57 30 (.aload_n 0) 1 = true ∧ dq 57 31 (.getfield 18) 3 = true ∧ dq 57 34 (.bipush 63) 2 = true ∧ dq 57 36 (.iconst 0) 1 = true ∧ dq 57 37 (.invokevirtual 44) 3 = true ∧ dq 57 40 (.aload_n 0) 1 = true ∧ dq 57 41 (.iconst 1) 1 = true ∧ dq 57 42 (.iconst 0) 1 = true ∧ dq 57 43 (.invokevirtual 40) 3 = true ∧ dq 57 46 (.istore_n 1) 1 = true ∧ dq 57 47 (.aload_n 0) 1 = true ∧ dq 57 48 (.getfield 18) 3 = true ∧ dq 57 51 (.bipush 59) 2 = true ∧ dq 57 53 (.iconst 0) 1 = true ∧ dq 57 54 (.invokevirtual 44) 3 = true := by decide +kernel
theorem dX5_readLine_27 : decode (mB 57) 27 = .ok (.putfield 26, 3) := dqo gX5_readLine_27.1
theorem dX5_readLine_30 : decode (mB 57) 30 = .ok (.aload_n 0, 1) := dqo gX5_readLine_27.2.1
theorem dX5_readLine_31 : decode (mB 57) 31 = .ok (.getfield 18, 3) := dqo gX5_readLine_27.2.2.1
theorem dX5_readLine_34 : decode (mB 57) 34 = .ok (.bipush 63, 2) := dqo gX5_readLine_27.2.2.2.1
theorem dX5_readLine_36 : decode (mB 57) 36 = .ok (.iconst 0, 1) := dqo gX5_readLine_27.2.2.2.2.1
theorem dX5_readLine_37 : decode (mB 57) 37 = .ok (.invokevirtual 44, 3) := dqo gX5_readLine_27.2.2.2.2.2.1
theorem dX5_readLine_40 : decode (mB 57) 40 = .ok (.aload_n 0, 1) := dqo gX5_readLine_27.2.2.2.2.2.2.1
theorem dX5_readLine_41 : decode (mB 57) 41 = .ok (.iconst 1, 1) := dqo gX5_readLine_27.2.2.2.2.2.2.2.1
theorem dX5_readLine_42 : decode (mB 57) 42 = .ok (.iconst 0, 1) := dqo gX5_readLine_27.2.2.2.2.2.2.2.2.1
theorem dX5_readLine_43 : decode (mB 57) 43 = .ok (.invokevirtual 40, 3) := dqo gX5_readLine_27.2.2.2.2.2.2.2.2.2.1
theorem dX5_readLine_46 : decode (mB 57) 46 = .ok (.istore_n 1, 1) := dqo gX5_readLine_27.2.2.2.2.2.2.2.2.2.2.1
theorem dX5_readLine_47 : decode (mB 57) 47 = .ok (.aload_n 0, 1) := dqo gX5_readLine_27.2.2.2.2.2.2.2.2.2.2.2.1
theorem dX5_readLine_48 : decode (mB 57) 48 = .ok (.getfield 18, 3) := dqo gX5_readLine_27.2.2.2.2.2.2.2.2.2.2.2.2.1
theorem dX5_readLine_51 : decode (mB 57) 51 = .ok (.bipush 59, 2) := dqo gX5_readLine_27.2.2.2.2.2.2.2.2.2.2.2.2.2.1
theorem dX5_readLine_53 : decode (mB 57) 53 = .ok (.iconst 0, 1) := dqo gX5_readLine_27.2.2.2.2.2.2.2.2.2.2.2.2.2.2.1
theorem dX5_readLine_54 : decode (mB 57) 54 = .ok (.invokevirtual 44, 3) := dqo gX5_readLine_27.2.2.2.2.2.2.2.2.2.2.2.2.2.2.2
theorem gX5_readLine_57 : dq 57 57 (.iload_n 1) 1 = true ∧ dq 57 58 (.ireturn) 1 = true := by decide +kernel
theorem dX5_readLine_57 : decode (mB 57) 57 = .ok (.iload_n 1, 1) := dqo gX5_readLine_57.1
theorem dX5_readLine_58 : decode (mB 57) 58 = .ok (.ireturn, 1) := dqo gX5_readLine_57.2
theorem gX5_readJoined_0 : dq 58 0 (.iconst 5) 1 = true ∧ dq 58 1 (.istore_n 3) 1 = true ∧ dq 58 2 (.aload_n 0) 1 = true ∧ dq 58 3 (.iload_n 2) 1 = true ∧ dq 58 4 (.invokevirtual 48) 3 = true ∧ dq 58 7 (.istore 4) 2 = true ∧ dq 58 9 (.iconst 0) 1 = true ∧ dq 58 10 (.istore 5) 2 = true ∧ dq 58 12 (.iload 5) 2 = true ∧ dq 58 14 (.bipush 120) 2 = true ∧ dq 58 16 (.if_icmp .ge 88) 3 = true ∧ dq 58 19 (.iload 4) 2 = true ∧ dq 58 21 (.ifCond .eq 83) 3 = true ∧ dq 58 24 (.aload_n 0) 1 = true ∧ dq 58 25 (.invokevirtual 36) 3 = true ∧ dq 58 28 (.istore 6) 2 = true := by decide +kernel
theorem dX5_readJoined_0 : decode (mB 58) 0 = .ok (.iconst 5, 1) := dqo gX5_readJoined_0.1
theorem dX5_readJoined_1 : decode (mB 58) 1 = .ok (.istore_n 3, 1) := dqo gX5_readJoined_0.2.1
theorem dX5_readJoined_2 : decode (mB 58) 2 = .ok (.aload_n 0, 1) := dqo gX5_readJoined_0.2.2.1
theorem dX5_readJoined_3 : decode (mB 58) 3 = .ok (.iload_n 2, 1) := dqo gX5_readJoined_0.2.2.2.1
theorem dX5_readJoined_4 : decode (mB 58) 4 = .ok (.invokevirtual 48, 3) := dqo gX5_readJoined_0.2.2.2.2.1
theorem dX5_readJoined_7 : decode (mB 58) 7 = .ok (.istore 4, 2) := dqo gX5_readJoined_0.2.2.2.2.2.1
theorem dX5_readJoined_9 : decode (mB 58) 9 = .ok (.iconst 0, 1) := dqo gX5_readJoined_0.2.2.2.2.2.2.1
theorem dX5_readJoined_10 : decode (mB 58) 10 = .ok (.istore 5, 2) := dqo gX5_readJoined_0.2.2.2.2.2.2.2.1
theorem dX5_readJoined_12 : decode (mB 58) 12 = .ok (.iload 5, 2) := dqo gX5_readJoined_0.2.2.2.2.2.2.2.2.1
theorem dX5_readJoined_14 : decode (mB 58) 14 = .ok (.bipush 120, 2) := dqo gX5_readJoined_0.2.2.2.2.2.2.2.2.2.1
theorem dX5_readJoined_16 : decode (mB 58) 16 = .ok (.if_icmp .ge 88, 3) := dqo gX5_readJoined_0.2.2.2.2.2.2.2.2.2.2.1
theorem dX5_readJoined_19 : decode (mB 58) 19 = .ok (.iload 4, 2) := dqo gX5_readJoined_0.2.2.2.2.2.2.2.2.2.2.2.1
theorem dX5_readJoined_21 : decode (mB 58) 21 = .ok (.ifCond .eq 83, 3) := dqo gX5_readJoined_0.2.2.2.2.2.2.2.2.2.2.2.2.1
theorem dX5_readJoined_24 : decode (mB 58) 24 = .ok (.aload_n 0, 1) := dqo gX5_readJoined_0.2.2.2.2.2.2.2.2.2.2.2.2.2.1
theorem dX5_readJoined_25 : decode (mB 58) 25 = .ok (.invokevirtual 36, 3) := dqo gX5_readJoined_0.2.2.2.2.2.2.2.2.2.2.2.2.2.2.1
theorem dX5_readJoined_28 : decode (mB 58) 28 = .ok (.istore 6, 2) := dqo gX5_readJoined_0.2.2.2.2.2.2.2.2.2.2.2.2.2.2.2
theorem gX5_readJoined_30 : dq 58 30 (.iload 6) 2 = true ∧ dq 58 32 (.invokestatic 52) 3 = true ∧ dq 58 35 (.istore 7) 2 = true ∧ dq 58 37 (.iload 7) 2 = true ∧ dq 58 39 (.iload_n 1) 1 = true ∧ dq 58 40 (.if_icmp .lt 9) 3 = true ∧ dq 58 43 (.iload 7) 2 = true ∧ dq 58 45 (.iload_n 3) 1 = true ∧ dq 58 46 (.if_icmp .le 5) 3 = true ∧ dq 58 49 (.iconst 1) 1 = true ∧ dq 58 50 (.ireturn) 1 = true ∧ dq 58 51 (.aload_n 0) 1 = true ∧ dq 58 52 (.dup) 1 = true ∧ dq 58 53 (.getfield 26) 3 = true ∧ dq 58 56 (.iconst 1) 1 = true ∧ dq 58 57 (.iadd) 1 = true := by decide +kernel
theorem dX5_readJoined_30 : decode (mB 58) 30 = .ok (.iload 6, 2) := dqo gX5_readJoined_30.1
theorem dX5_readJoined_32 : decode (mB 58) 32 = .ok (.invokestatic 52, 3) := dqo gX5_readJoined_30.2.1
theorem dX5_readJoined_35 : decode (mB 58) 35 = .ok (.istore 7, 2) := dqo gX5_readJoined_30.2.2.1
theorem dX5_readJoined_37 : decode (mB 58) 37 = .ok (.iload 7, 2) := dqo gX5_readJoined_30.2.2.2.1
theorem dX5_readJoined_39 : decode (mB 58) 39 = .ok (.iload_n 1, 1) := dqo gX5_readJoined_30.2.2.2.2.1
theorem dX5_readJoined_40 : decode (mB 58) 40 = .ok (.if_icmp .lt 9, 3) := dqo gX5_readJoined_30.2.2.2.2.2.1
theorem dX5_readJoined_43 : decode (mB 58) 43 = .ok (.iload 7, 2) := dqo gX5_readJoined_30.2.2.2.2.2.2.1
theorem dX5_readJoined_45 : decode (mB 58) 45 = .ok (.iload_n 3, 1) := dqo gX5_readJoined_30.2.2.2.2.2.2.2.1
theorem dX5_readJoined_46 : decode (mB 58) 46 = .ok (.if_icmp .le 5, 3) := dqo gX5_readJoined_30.2.2.2.2.2.2.2.2.1
theorem dX5_readJoined_49 : decode (mB 58) 49 = .ok (.iconst 1, 1) := dqo gX5_readJoined_30.2.2.2.2.2.2.2.2.2.1
theorem dX5_readJoined_50 : decode (mB 58) 50 = .ok (.ireturn, 1) := dqo gX5_readJoined_30.2.2.2.2.2.2.2.2.2.2.1
theorem dX5_readJoined_51 : decode (mB 58) 51 = .ok (.aload_n 0, 1) := dqo gX5_readJoined_30.2.2.2.2.2.2.2.2.2.2.2.1
theorem dX5_readJoined_52 : decode (mB 58) 52 = .ok (.dup, 1) := dqo gX5_readJoined_30.2.2.2.2.2.2.2.2.2.2.2.2.1
theorem dX5_readJoined_53 : decode (mB 58) 53 = .ok (.getfield 26, 3) := dqo gX5_readJoined_30.2.2.2.2.2.2.2.2.2.2.2.2.2.1
theorem dX5_readJoined_56 : decode (mB 58) 56 = .ok (.iconst 1, 1) := dqo gX5_readJoined_30.2.2.2.2.2.2.2.2.2.2.2.2.2.2.1
theorem dX5_readJoined_57 : decode (mB 58) 57 = .ok (.iadd, 1) := dqo gX5_readJoined_30.2.2.2.2.2.2.2.2.2.2.2.2.2.2.2
theorem gX5_readJoined_58 : dq 58 58 (.putfield 26) 3 = true ∧ dq 58 61 (.aload_n 0) 1 = true ∧ dq 58 62 (.iload 7) 2 = true ∧ dq 58 64 (.iconst 1) 1 = true ∧ dq 58 65 (.iadd) 1 = true ∧ dq 58 66 (.iload_n 2) 1 = true ∧ dq 58 67 (.invokevirtual 40) 3 = true ∧ dq 58 70 (.istore 4) 2 = true ∧ dq 58 72 (.aload_n 0) 1 = true ∧ dq 58 73 (.getfield 18) 3 = true ∧ dq 58 76 (.iload 6) 2 = true ∧ dq 58 78 (.iconst 0) 1 = true ∧ dq 58 79 (.invokevirtual 44) 3 = true ∧ dq 58 82 (.iload 7) 2 = true ∧ dq 58 84 (.iconst 3) 1 = true ∧ dq 58 85 (.if_icmp .ne 10) 3 = true := by decide +kernel
theorem dX5_readJoined_58 : decode (mB 58) 58 = .ok (.putfield 26, 3) := dqo gX5_readJoined_58.1
theorem dX5_readJoined_61 : decode (mB 58) 61 = .ok (.aload_n 0, 1) := dqo gX5_readJoined_58.2.1
theorem dX5_readJoined_62 : decode (mB 58) 62 = .ok (.iload 7, 2) := dqo gX5_readJoined_58.2.2.1
theorem dX5_readJoined_64 : decode (mB 58) 64 = .ok (.iconst 1, 1) := dqo gX5_readJoined_58.2.2.2.1
theorem dX5_readJoined_65 : decode (mB 58) 65 = .ok (.iadd, 1) := dqo gX5_readJoined_58.2.2.2.2.1
theorem dX5_readJoined_66 : decode (mB 58) 66 = .ok (.iload_n 2, 1) := dqo gX5_readJoined_58.2.2.2.2.2.1
theorem dX5_readJoined_67 : decode (mB 58) 67 = .ok (.invokevirtual 40, 3) := dqo gX5_readJoined_58.2.2.2.2.2.2.1
theorem dX5_readJoined_70 : decode (mB 58) 70 = .ok (.istore 4, 2) := dqo gX5_readJoined_58.2.2.2.2.2.2.2.1
theorem dX5_readJoined_72 : decode (mB 58) 72 = .ok (.aload_n 0, 1) := dqo gX5_readJoined_58.2.2.2.2.2.2.2.2.1
theorem dX5_readJoined_73 : decode (mB 58) 73 = .ok (.getfield 18, 3) := dqo gX5_readJoined_58.2.2.2.2.2.2.2.2.2.1
theorem dX5_readJoined_76 : decode (mB 58) 76 = .ok (.iload 6, 2) := dqo gX5_readJoined_58.2.2.2.2.2.2.2.2.2.2.1
theorem dX5_readJoined_78 : decode (mB 58) 78 = .ok (.iconst 0, 1) := dqo gX5_readJoined_58.2.2.2.2.2.2.2.2.2.2.2.1
theorem dX5_readJoined_79 : decode (mB 58) 79 = .ok (.invokevirtual 44, 3) := dqo gX5_readJoined_58.2.2.2.2.2.2.2.2.2.2.2.2.1
theorem dX5_readJoined_82 : decode (mB 58) 82 = .ok (.iload 7, 2) := dqo gX5_readJoined_58.2.2.2.2.2.2.2.2.2.2.2.2.2.1
theorem dX5_readJoined_84 : decode (mB 58) 84 = .ok (.iconst 3, 1) := dqo gX5_readJoined_58.2.2.2.2.2.2.2.2.2.2.2.2.2.2.1
theorem dX5_readJoined_85 : decode (mB 58) 85 = .ok (.if_icmp .ne 10, 3) := dqo gX5_readJoined_58.2.2.2.2.2.2.2.2.2.2.2.2.2.2.2
theorem gX5_readJoined_88 : dq 58 88 (.iload 7) 2 = true ∧ dq 58 90 (.iconst 1) 1 = true ∧ dq 58 91 (.isub) 1 = true ∧ dq 58 92 (.goto 5) 3 = true ∧ dq 58 95 (.iload 7) 2 = true ∧ dq 58 97 (.istore_n 3) 1 = true ∧ dq 58 98 (.iinc 5 1) 3 = true ∧ dq 58 101 (.goto (-89)) 3 = true ∧ dq 58 104 (.iload 4) 2 = true ∧ dq 58 106 (.ireturn) 1 = true := by decide +kernel
theorem dX5_readJoined_88 : decode (mB 58) 88 = .ok (.iload 7, 2) := dqo gX5_readJoined_88.1
theorem dX5_readJoined_90 : decode (mB 58) 90 = .ok (.iconst 1, 1) := dqo gX5_readJoined_88.2.1
theorem dX5_readJoined_91 : decode (mB 58) 91 = .ok (.isub, 1) := dqo gX5_readJoined_88.2.2.1
theorem dX5_readJoined_92 : decode (mB 58) 92 = .ok (.goto 5, 3) := dqo gX5_readJoined_88.2.2.2.1
theorem dX5_readJoined_95 : decode (mB 58) 95 = .ok (.iload 7, 2) := dqo gX5_readJoined_88.2.2.2.2.1
theorem dX5_readJoined_97 : decode (mB 58) 97 = .ok (.istore_n 3, 1) := dqo gX5_readJoined_88.2.2.2.2.2.1
theorem dX5_readJoined_98 : decode (mB 58) 98 = .ok (.iinc 5 1, 3) := dqo gX5_readJoined_88.2.2.2.2.2.2.1
theorem dX5_readJoined_101 : decode (mB 58) 101 = .ok (.goto (-89), 3) := dqo gX5_readJoined_88.2.2.2.2.2.2.2.1
theorem dX5_readJoined_104 : decode (mB 58) 104 = .ok (.iload 4, 2) := dqo gX5_readJoined_88.2.2.2.2.2.2.2.2.1
theorem dX5_readJoined_106 : decode (mB 58) 106 = .ok (.ireturn, 1) := dqo gX5_readJoined_88.2.2.2.2.2.2.2.2.2
theorem gX5_levelOf_0 : dq 59 0 (.iload_n 0) 1 = true ∧ dq 59 1 (.lookupswitch 101 #[(37, 99), (38, 93), (42, 99), (43, 97), (45, 97), (47, 99), (60, 95), (61, 95), (62, 95), (124, 91)]) 91 = true ∧ dq 59 92 (.iconst 1) 1 = true ∧ dq 59 93 (.ireturn) 1 = true ∧ dq 59 94 (.iconst 2) 1 = true ∧ dq 59 95 (.ireturn) 1 = true ∧ dq 59 96 (.iconst 3) 1 = true ∧ dq 59 97 (.ireturn) 1 = true ∧ dq 59 98 (.iconst 4) 1 = true ∧ dq 59 99 (.ireturn) 1 = true ∧ dq 59 100 (.iconst 5) 1 = true ∧ dq 59 101 (.ireturn) 1 = true ∧ dq 59 102 (.iconst 0) 1 = true ∧ dq 59 103 (.ireturn) 1 = true := by decide +kernel
theorem dX5_levelOf_0 : decode (mB 59) 0 = .ok (.iload_n 0, 1) := dqo gX5_levelOf_0.1
theorem dX5_levelOf_1 : decode (mB 59) 1 = .ok (.lookupswitch 101 #[(37, 99), (38, 93), (42, 99), (43, 97), (45, 97), (47, 99), (60, 95), (61, 95), (62, 95), (124, 91)], 91) := dqo gX5_levelOf_0.2.1
theorem dX5_levelOf_92 : decode (mB 59) 92 = .ok (.iconst 1, 1) := dqo gX5_levelOf_0.2.2.1
theorem dX5_levelOf_93 : decode (mB 59) 93 = .ok (.ireturn, 1) := dqo gX5_levelOf_0.2.2.2.1
theorem dX5_levelOf_94 : decode (mB 59) 94 = .ok (.iconst 2, 1) := dqo gX5_levelOf_0.2.2.2.2.1
theorem dX5_levelOf_95 : decode (mB 59) 95 = .ok (.ireturn, 1) := dqo gX5_levelOf_0.2.2.2.2.2.1
theorem dX5_levelOf_96 : decode (mB 59) 96 = .ok (.iconst 3, 1) := dqo gX5_levelOf_0.2.2.2.2.2.2.1
theorem dX5_levelOf_97 : decode (mB 59) 97 = .ok (.ireturn, 1) := dqo gX5_levelOf_0.2.2.2.2.2.2.2.1
theorem dX5_levelOf_98 : decode (mB 59) 98 = .ok (.iconst 4, 1) := dqo gX5_levelOf_0.2.2.2.2.2.2.2.2.1
theorem dX5_levelOf_99 : decode (mB 59) 99 = .ok (.ireturn, 1) := dqo gX5_levelOf_0.2.2.2.2.2.2.2.2.2.1
theorem dX5_levelOf_100 : decode (mB 59) 100 = .ok (.iconst 5, 1) := dqo gX5_levelOf_0.2.2.2.2.2.2.2.2.2.2.1
theorem dX5_levelOf_101 : decode (mB 59) 101 = .ok (.ireturn, 1) := dqo gX5_levelOf_0.2.2.2.2.2.2.2.2.2.2.2.1
theorem dX5_levelOf_102 : decode (mB 59) 102 = .ok (.iconst 0, 1) := dqo gX5_levelOf_0.2.2.2.2.2.2.2.2.2.2.2.2.1
theorem dX5_levelOf_103 : decode (mB 59) 103 = .ok (.ireturn, 1) := dqo gX5_levelOf_0.2.2.2.2.2.2.2.2.2.2.2.2.2
theorem gX5_readOperand_0 : dq 60 0 (.aload_n 0) 1 = true ∧ dq 60 1 (.invokevirtual 36) 3 = true ∧ dq 60 4 (.istore_n 2) 1 = true ∧ dq 60 5 (.iload_n 2) 1 = true ∧ dq 60 6 (.invokestatic 56) 3 = true ∧ dq 60 9 (.istore_n 3) 1 = true ∧ dq 60 10 (.iload_n 2) 1 = true ∧ dq 60 11 (.invokestatic 59) 3 = true ∧ dq 60 14 (.ifCond .eq 9) 3 = true ∧ dq 60 17 (.aload_n 0) 1 = true ∧ dq 60 18 (.invokevirtual 62) 3 = true ∧ dq 60 21 (.iconst 1) 1 = true ∧ dq 60 22 (.ireturn) 1 = true ∧ dq 60 23 (.iload_n 3) 1 = true ∧ dq 60 24 (.ifCond .lt 25) 3 = true ∧ dq 60 27 (.aload_n 0) 1 = true := by decide +kernel
theorem dX5_readOperand_0 : decode (mB 60) 0 = .ok (.aload_n 0, 1) := dqo gX5_readOperand_0.1
theorem dX5_readOperand_1 : decode (mB 60) 1 = .ok (.invokevirtual 36, 3) := dqo gX5_readOperand_0.2.1
theorem dX5_readOperand_4 : decode (mB 60) 4 = .ok (.istore_n 2, 1) := dqo gX5_readOperand_0.2.2.1
theorem dX5_readOperand_5 : decode (mB 60) 5 = .ok (.iload_n 2, 1) := dqo gX5_readOperand_0.2.2.2.1
theorem dX5_readOperand_6 : decode (mB 60) 6 = .ok (.invokestatic 56, 3) := dqo gX5_readOperand_0.2.2.2.2.1
theorem dX5_readOperand_9 : decode (mB 60) 9 = .ok (.istore_n 3, 1) := dqo gX5_readOperand_0.2.2.2.2.2.1
theorem dX5_readOperand_10 : decode (mB 60) 10 = .ok (.iload_n 2, 1) := dqo gX5_readOperand_0.2.2.2.2.2.2.1
theorem dX5_readOperand_11 : decode (mB 60) 11 = .ok (.invokestatic 59, 3) := dqo gX5_readOperand_0.2.2.2.2.2.2.2.1
theorem dX5_readOperand_14 : decode (mB 60) 14 = .ok (.ifCond .eq 9, 3) := dqo gX5_readOperand_0.2.2.2.2.2.2.2.2.1
theorem dX5_readOperand_17 : decode (mB 60) 17 = .ok (.aload_n 0, 1) := dqo gX5_readOperand_0.2.2.2.2.2.2.2.2.2.1
theorem dX5_readOperand_18 : decode (mB 60) 18 = .ok (.invokevirtual 62, 3) := dqo gX5_readOperand_0.2.2.2.2.2.2.2.2.2.2.1
theorem dX5_readOperand_21 : decode (mB 60) 21 = .ok (.iconst 1, 1) := dqo gX5_readOperand_0.2.2.2.2.2.2.2.2.2.2.2.1
theorem dX5_readOperand_22 : decode (mB 60) 22 = .ok (.ireturn, 1) := dqo gX5_readOperand_0.2.2.2.2.2.2.2.2.2.2.2.2.1
theorem dX5_readOperand_23 : decode (mB 60) 23 = .ok (.iload_n 3, 1) := dqo gX5_readOperand_0.2.2.2.2.2.2.2.2.2.2.2.2.2.1
theorem dX5_readOperand_24 : decode (mB 60) 24 = .ok (.ifCond .lt 25, 3) := dqo gX5_readOperand_0.2.2.2.2.2.2.2.2.2.2.2.2.2.2.1
theorem dX5_readOperand_27 : decode (mB 60) 27 = .ok (.aload_n 0, 1) := dqo gX5_readOperand_0.2.2.2.2.2.2.2.2.2.2.2.2.2.2.2
theorem gX5_readOperand_28 : dq 60 28 (.dup) 1 = true ∧ dq 60 29 (.getfield 26) 3 = true ∧ dq 60 32 (.iconst 1) 1 = true ∧ dq 60 33 (.iadd) 1 = true ∧ dq 60 34 (.putfield 26) 3 = true ∧ dq 60 37 (.aload_n 0) 1 = true ∧ dq 60 38 (.getfield 18) 3 = true ∧ dq 60 41 (.bipush 110) 2 = true ∧ dq 60 43 (.iload_n 3) 1 = true ∧ dq 60 44 (.invokevirtual 44) 3 = true ∧ dq 60 47 (.iconst 1) 1 = true ∧ dq 60 48 (.ireturn) 1 = true ∧ dq 60 49 (.iload_n 1) 1 = true ∧ dq 60 50 (.bipush 6) 2 = true ∧ dq 60 52 (.if_icmp .ge 21) 3 = true ∧ dq 60 55 (.iload_n 2) 1 = true := by decide +kernel
theorem dX5_readOperand_28 : decode (mB 60) 28 = .ok (.dup, 1) := dqo gX5_readOperand_28.1
theorem dX5_readOperand_29 : decode (mB 60) 29 = .ok (.getfield 26, 3) := dqo gX5_readOperand_28.2.1
theorem dX5_readOperand_32 : decode (mB 60) 32 = .ok (.iconst 1, 1) := dqo gX5_readOperand_28.2.2.1
theorem dX5_readOperand_33 : decode (mB 60) 33 = .ok (.iadd, 1) := dqo gX5_readOperand_28.2.2.2.1
theorem dX5_readOperand_34 : decode (mB 60) 34 = .ok (.putfield 26, 3) := dqo gX5_readOperand_28.2.2.2.2.1
theorem dX5_readOperand_37 : decode (mB 60) 37 = .ok (.aload_n 0, 1) := dqo gX5_readOperand_28.2.2.2.2.2.1
theorem dX5_readOperand_38 : decode (mB 60) 38 = .ok (.getfield 18, 3) := dqo gX5_readOperand_28.2.2.2.2.2.2.1
theorem dX5_readOperand_41 : decode (mB 60) 41 = .ok (.bipush 110, 2) := dqo gX5_readOperand_28.2.2.2.2.2.2.2.1
theorem dX5_readOperand_43 : decode (mB 60) 43 = .ok (.iload_n 3, 1) := dqo gX5_readOperand_28.2.2.2.2.2.2.2.2.1
theorem dX5_readOperand_44 : decode (mB 60) 44 = .ok (.invokevirtual 44, 3) := dqo gX5_readOperand_28.2.2.2.2.2.2.2.2.2.1
theorem dX5_readOperand_47 : decode (mB 60) 47 = .ok (.iconst 1, 1) := dqo gX5_readOperand_28.2.2.2.2.2.2.2.2.2.2.1
theorem dX5_readOperand_48 : decode (mB 60) 48 = .ok (.ireturn, 1) := dqo gX5_readOperand_28.2.2.2.2.2.2.2.2.2.2.2.1
theorem dX5_readOperand_49 : decode (mB 60) 49 = .ok (.iload_n 1, 1) := dqo gX5_readOperand_28.2.2.2.2.2.2.2.2.2.2.2.2.1
theorem dX5_readOperand_50 : decode (mB 60) 50 = .ok (.bipush 6, 2) := dqo gX5_readOperand_28.2.2.2.2.2.2.2.2.2.2.2.2.2.1
theorem dX5_readOperand_52 : decode (mB 60) 52 = .ok (.if_icmp .ge 21, 3) := dqo gX5_readOperand_28.2.2.2.2.2.2.2.2.2.2.2.2.2.2.1
theorem dX5_readOperand_55 : decode (mB 60) 55 = .ok (.iload_n 2, 1) := dqo gX5_readOperand_28.2.2.2.2.2.2.2.2.2.2.2.2.2.2.2
theorem gX5_readOperand_56 : dq 60 56 (.bipush 33) 2 = true ∧ dq 60 58 (.if_icmp .eq 17) 3 = true ∧ dq 60 61 (.iload_n 2) 1 = true ∧ dq 60 62 (.bipush 45) 2 = true ∧ dq 60 64 (.if_icmp .eq 11) 3 = true ∧ dq 60 67 (.iload_n 2) 1 = true ∧ dq 60 68 (.bipush 40) 2 = true ∧ dq 60 70 (.if_icmp .eq 5) 3 = true ∧ dq 60 73 (.iconst 0) 1 = true ∧ dq 60 74 (.ireturn) 1 = true ∧ dq 60 75 (.aload_n 0) 1 = true ∧ dq 60 76 (.dup) 1 = true ∧ dq 60 77 (.getfield 26) 3 = true ∧ dq 60 80 (.iconst 1) 1 = true ∧ dq 60 81 (.iadd) 1 = true ∧ dq 60 82 (.putfield 26) 3 = true := by decide +kernel
theorem dX5_readOperand_56 : decode (mB 60) 56 = .ok (.bipush 33, 2) := dqo gX5_readOperand_56.1
theorem dX5_readOperand_58 : decode (mB 60) 58 = .ok (.if_icmp .eq 17, 3) := dqo gX5_readOperand_56.2.1
theorem dX5_readOperand_61 : decode (mB 60) 61 = .ok (.iload_n 2, 1) := dqo gX5_readOperand_56.2.2.1
theorem dX5_readOperand_62 : decode (mB 60) 62 = .ok (.bipush 45, 2) := dqo gX5_readOperand_56.2.2.2.1
theorem dX5_readOperand_64 : decode (mB 60) 64 = .ok (.if_icmp .eq 11, 3) := dqo gX5_readOperand_56.2.2.2.2.1
theorem dX5_readOperand_67 : decode (mB 60) 67 = .ok (.iload_n 2, 1) := dqo gX5_readOperand_56.2.2.2.2.2.1
theorem dX5_readOperand_68 : decode (mB 60) 68 = .ok (.bipush 40, 2) := dqo gX5_readOperand_56.2.2.2.2.2.2.1
theorem dX5_readOperand_70 : decode (mB 60) 70 = .ok (.if_icmp .eq 5, 3) := dqo gX5_readOperand_56.2.2.2.2.2.2.2.1
theorem dX5_readOperand_73 : decode (mB 60) 73 = .ok (.iconst 0, 1) := dqo gX5_readOperand_56.2.2.2.2.2.2.2.2.1
theorem dX5_readOperand_74 : decode (mB 60) 74 = .ok (.ireturn, 1) := dqo gX5_readOperand_56.2.2.2.2.2.2.2.2.2.1
theorem dX5_readOperand_75 : decode (mB 60) 75 = .ok (.aload_n 0, 1) := dqo gX5_readOperand_56.2.2.2.2.2.2.2.2.2.2.1
theorem dX5_readOperand_76 : decode (mB 60) 76 = .ok (.dup, 1) := dqo gX5_readOperand_56.2.2.2.2.2.2.2.2.2.2.2.1
theorem dX5_readOperand_77 : decode (mB 60) 77 = .ok (.getfield 26, 3) := dqo gX5_readOperand_56.2.2.2.2.2.2.2.2.2.2.2.2.1
theorem dX5_readOperand_80 : decode (mB 60) 80 = .ok (.iconst 1, 1) := dqo gX5_readOperand_56.2.2.2.2.2.2.2.2.2.2.2.2.2.1
theorem dX5_readOperand_81 : decode (mB 60) 81 = .ok (.iadd, 1) := dqo gX5_readOperand_56.2.2.2.2.2.2.2.2.2.2.2.2.2.2.1
theorem dX5_readOperand_82 : decode (mB 60) 82 = .ok (.putfield 26, 3) := dqo gX5_readOperand_56.2.2.2.2.2.2.2.2.2.2.2.2.2.2.2
theorem gX5_readOperand_85 : dq 60 85 (.iload_n 2) 1 = true ∧ dq 60 86 (.bipush 40) 2 = true ∧ dq 60 88 (.if_icmp .ne 13) 3 = true ∧ dq 60 91 (.aload_n 0) 1 = true ∧ dq 60 92 (.iload_n 1) 1 = true ∧ dq 60 93 (.iconst 1) 1 = true ∧ dq 60 94 (.iadd) 1 = true ∧ dq 60 95 (.invokevirtual 65) 3 = true ∧ dq 60 98 (.goto 11) 3 = true ∧ dq 60 101 (.aload_n 0) 1 = true ∧ dq 60 102 (.iload_n 2) 1 = true ∧ dq 60 103 (.iload_n 1) 1 = true ∧ dq 60 104 (.iconst 1) 1 = true ∧ dq 60 105 (.iadd) 1 = true ∧ dq 60 106 (.invokevirtual 68) 3 = true ∧ dq 60 109 (.ireturn) 1 = true := by decide +kernel
theorem dX5_readOperand_85 : decode (mB 60) 85 = .ok (.iload_n 2, 1) := dqo gX5_readOperand_85.1
theorem dX5_readOperand_86 : decode (mB 60) 86 = .ok (.bipush 40, 2) := dqo gX5_readOperand_85.2.1
theorem dX5_readOperand_88 : decode (mB 60) 88 = .ok (.if_icmp .ne 13, 3) := dqo gX5_readOperand_85.2.2.1
theorem dX5_readOperand_91 : decode (mB 60) 91 = .ok (.aload_n 0, 1) := dqo gX5_readOperand_85.2.2.2.1
theorem dX5_readOperand_92 : decode (mB 60) 92 = .ok (.iload_n 1, 1) := dqo gX5_readOperand_85.2.2.2.2.1
theorem dX5_readOperand_93 : decode (mB 60) 93 = .ok (.iconst 1, 1) := dqo gX5_readOperand_85.2.2.2.2.2.1
theorem dX5_readOperand_94 : decode (mB 60) 94 = .ok (.iadd, 1) := dqo gX5_readOperand_85.2.2.2.2.2.2.1
theorem dX5_readOperand_95 : decode (mB 60) 95 = .ok (.invokevirtual 65, 3) := dqo gX5_readOperand_85.2.2.2.2.2.2.2.1
theorem dX5_readOperand_98 : decode (mB 60) 98 = .ok (.goto 11, 3) := dqo gX5_readOperand_85.2.2.2.2.2.2.2.2.1
theorem dX5_readOperand_101 : decode (mB 60) 101 = .ok (.aload_n 0, 1) := dqo gX5_readOperand_85.2.2.2.2.2.2.2.2.2.1
theorem dX5_readOperand_102 : decode (mB 60) 102 = .ok (.iload_n 2, 1) := dqo gX5_readOperand_85.2.2.2.2.2.2.2.2.2.2.1
theorem dX5_readOperand_103 : decode (mB 60) 103 = .ok (.iload_n 1, 1) := dqo gX5_readOperand_85.2.2.2.2.2.2.2.2.2.2.2.1
theorem dX5_readOperand_104 : decode (mB 60) 104 = .ok (.iconst 1, 1) := dqo gX5_readOperand_85.2.2.2.2.2.2.2.2.2.2.2.2.1
theorem dX5_readOperand_105 : decode (mB 60) 105 = .ok (.iadd, 1) := dqo gX5_readOperand_85.2.2.2.2.2.2.2.2.2.2.2.2.2.1
theorem dX5_readOperand_106 : decode (mB 60) 106 = .ok (.invokevirtual 68, 3) := dqo gX5_readOperand_85.2.2.2.2.2.2.2.2.2.2.2.2.2.2.1
theorem dX5_readOperand_109 : decode (mB 60) 109 = .ok (.ireturn, 1) := dqo gX5_readOperand_85.2.2.2.2.2.2.2.2.2.2.2.2.2.2.2
theorem gX5_readTurned_0 : dq 61 0 (.aload_n 0) 1 = true ∧ dq 61 1 (.iload_n 2) 1 = true ∧ dq 61 2 (.invokevirtual 48) 3 = true ∧ dq 61 5 (.istore_n 3) 1 = true ∧ dq 61 6 (.aload_n 0) 1 = true ∧ dq 61 7 (.getfield 18) 3 = true ∧ dq 61 10 (.iload_n 1) 1 = true ∧ dq 61 11 (.bipush 33) 2 = true ∧ dq 61 13 (.if_icmp .ne 8) 3 = true ∧ dq 61 16 (.bipush 33) 2 = true ∧ dq 61 18 (.goto 5) 3 = true ∧ dq 61 21 (.bipush 126) 2 = true ∧ dq 61 23 (.iconst 0) 1 = true ∧ dq 61 24 (.invokevirtual 44) 3 = true ∧ dq 61 27 (.iload_n 3) 1 = true ∧ dq 61 28 (.ireturn) 1 = true := by decide +kernel
theorem dX5_readTurned_0 : decode (mB 61) 0 = .ok (.aload_n 0, 1) := dqo gX5_readTurned_0.1
theorem dX5_readTurned_1 : decode (mB 61) 1 = .ok (.iload_n 2, 1) := dqo gX5_readTurned_0.2.1
theorem dX5_readTurned_2 : decode (mB 61) 2 = .ok (.invokevirtual 48, 3) := dqo gX5_readTurned_0.2.2.1
theorem dX5_readTurned_5 : decode (mB 61) 5 = .ok (.istore_n 3, 1) := dqo gX5_readTurned_0.2.2.2.1
theorem dX5_readTurned_6 : decode (mB 61) 6 = .ok (.aload_n 0, 1) := dqo gX5_readTurned_0.2.2.2.2.1
theorem dX5_readTurned_7 : decode (mB 61) 7 = .ok (.getfield 18, 3) := dqo gX5_readTurned_0.2.2.2.2.2.1
theorem dX5_readTurned_10 : decode (mB 61) 10 = .ok (.iload_n 1, 1) := dqo gX5_readTurned_0.2.2.2.2.2.2.1
theorem dX5_readTurned_11 : decode (mB 61) 11 = .ok (.bipush 33, 2) := dqo gX5_readTurned_0.2.2.2.2.2.2.2.1
theorem dX5_readTurned_13 : decode (mB 61) 13 = .ok (.if_icmp .ne 8, 3) := dqo gX5_readTurned_0.2.2.2.2.2.2.2.2.1
theorem dX5_readTurned_16 : decode (mB 61) 16 = .ok (.bipush 33, 2) := dqo gX5_readTurned_0.2.2.2.2.2.2.2.2.2.1
theorem dX5_readTurned_18 : decode (mB 61) 18 = .ok (.goto 5, 3) := dqo gX5_readTurned_0.2.2.2.2.2.2.2.2.2.2.1
theorem dX5_readTurned_21 : decode (mB 61) 21 = .ok (.bipush 126, 2) := dqo gX5_readTurned_0.2.2.2.2.2.2.2.2.2.2.2.1
theorem dX5_readTurned_23 : decode (mB 61) 23 = .ok (.iconst 0, 1) := dqo gX5_readTurned_0.2.2.2.2.2.2.2.2.2.2.2.2.1
theorem dX5_readTurned_24 : decode (mB 61) 24 = .ok (.invokevirtual 44, 3) := dqo gX5_readTurned_0.2.2.2.2.2.2.2.2.2.2.2.2.2.1
theorem dX5_readTurned_27 : decode (mB 61) 27 = .ok (.iload_n 3, 1) := dqo gX5_readTurned_0.2.2.2.2.2.2.2.2.2.2.2.2.2.2.1
theorem dX5_readTurned_28 : decode (mB 61) 28 = .ok (.ireturn, 1) := dqo gX5_readTurned_0.2.2.2.2.2.2.2.2.2.2.2.2.2.2.2
theorem gX5_readEnclosed_0 : dq 62 0 (.aload_n 0) 1 = true ∧ dq 62 1 (.iconst 1) 1 = true ∧ dq 62 2 (.iload_n 1) 1 = true ∧ dq 62 3 (.invokevirtual 40) 3 = true ∧ dq 62 6 (.ifCond .eq 12) 3 = true ∧ dq 62 9 (.aload_n 0) 1 = true ∧ dq 62 10 (.invokevirtual 36) 3 = true ∧ dq 62 13 (.bipush 41) 2 = true ∧ dq 62 15 (.if_icmp .eq 5) 3 = true ∧ dq 62 18 (.iconst 0) 1 = true ∧ dq 62 19 (.ireturn) 1 = true ∧ dq 62 20 (.aload_n 0) 1 = true ∧ dq 62 21 (.dup) 1 = true ∧ dq 62 22 (.getfield 26) 3 = true ∧ dq 62 25 (.iconst 1) 1 = true ∧ dq 62 26 (.iadd) 1 = true := by decide +kernel
theorem dX5_readEnclosed_0 : decode (mB 62) 0 = .ok (.aload_n 0, 1) := dqo gX5_readEnclosed_0.1
theorem dX5_readEnclosed_1 : decode (mB 62) 1 = .ok (.iconst 1, 1) := dqo gX5_readEnclosed_0.2.1
theorem dX5_readEnclosed_2 : decode (mB 62) 2 = .ok (.iload_n 1, 1) := dqo gX5_readEnclosed_0.2.2.1
theorem dX5_readEnclosed_3 : decode (mB 62) 3 = .ok (.invokevirtual 40, 3) := dqo gX5_readEnclosed_0.2.2.2.1
theorem dX5_readEnclosed_6 : decode (mB 62) 6 = .ok (.ifCond .eq 12, 3) := dqo gX5_readEnclosed_0.2.2.2.2.1
theorem dX5_readEnclosed_9 : decode (mB 62) 9 = .ok (.aload_n 0, 1) := dqo gX5_readEnclosed_0.2.2.2.2.2.1
theorem dX5_readEnclosed_10 : decode (mB 62) 10 = .ok (.invokevirtual 36, 3) := dqo gX5_readEnclosed_0.2.2.2.2.2.2.1
theorem dX5_readEnclosed_13 : decode (mB 62) 13 = .ok (.bipush 41, 2) := dqo gX5_readEnclosed_0.2.2.2.2.2.2.2.1
theorem dX5_readEnclosed_15 : decode (mB 62) 15 = .ok (.if_icmp .eq 5, 3) := dqo gX5_readEnclosed_0.2.2.2.2.2.2.2.2.1
theorem dX5_readEnclosed_18 : decode (mB 62) 18 = .ok (.iconst 0, 1) := dqo gX5_readEnclosed_0.2.2.2.2.2.2.2.2.2.1
theorem dX5_readEnclosed_19 : decode (mB 62) 19 = .ok (.ireturn, 1) := dqo gX5_readEnclosed_0.2.2.2.2.2.2.2.2.2.2.1
theorem dX5_readEnclosed_20 : decode (mB 62) 20 = .ok (.aload_n 0, 1) := dqo gX5_readEnclosed_0.2.2.2.2.2.2.2.2.2.2.2.1
theorem dX5_readEnclosed_21 : decode (mB 62) 21 = .ok (.dup, 1) := dqo gX5_readEnclosed_0.2.2.2.2.2.2.2.2.2.2.2.2.1
theorem dX5_readEnclosed_22 : decode (mB 62) 22 = .ok (.getfield 26, 3) := dqo gX5_readEnclosed_0.2.2.2.2.2.2.2.2.2.2.2.2.2.1
theorem dX5_readEnclosed_25 : decode (mB 62) 25 = .ok (.iconst 1, 1) := dqo gX5_readEnclosed_0.2.2.2.2.2.2.2.2.2.2.2.2.2.2.1
theorem dX5_readEnclosed_26 : decode (mB 62) 26 = .ok (.iadd, 1) := dqo gX5_readEnclosed_0.2.2.2.2.2.2.2.2.2.2.2.2.2.2.2
theorem gX5_readEnclosed_27 : dq 62 27 (.putfield 26) 3 = true ∧ dq 62 30 (.iconst 1) 1 = true ∧ dq 62 31 (.ireturn) 1 = true := by decide +kernel
theorem dX5_readEnclosed_27 : decode (mB 62) 27 = .ok (.putfield 26, 3) := dqo gX5_readEnclosed_27.1
theorem dX5_readEnclosed_30 : decode (mB 62) 30 = .ok (.iconst 1, 1) := dqo gX5_readEnclosed_27.2.1
theorem dX5_readEnclosed_31 : decode (mB 62) 31 = .ok (.ireturn, 1) := dqo gX5_readEnclosed_27.2.2
theorem gX5_readNumber_0 : dq 63 0 (.iconst 0) 1 = true ∧ dq 63 1 (.istore_n 1) 1 = true ∧ dq 63 2 (.iconst 0) 1 = true ∧ dq 63 3 (.istore_n 2) 1 = true ∧ dq 63 4 (.iload_n 2) 1 = true ∧ dq 63 5 (.iconst 4) 1 = true ∧ dq 63 6 (.if_icmp .ge 42) 3 = true ∧ dq 63 9 (.aload_n 0) 1 = true ∧ dq 63 10 (.invokevirtual 36) 3 = true ∧ dq 63 13 (.invokestatic 59) 3 = true ∧ dq 63 16 (.ifCond .eq 32) 3 = true ∧ dq 63 19 (.bipush 10) 2 = true ∧ dq 63 21 (.iload_n 1) 1 = true ∧ dq 63 22 (.imul) 1 = true ∧ dq 63 23 (.aload_n 0) 1 = true ∧ dq 63 24 (.invokevirtual 36) 3 = true := by decide +kernel
theorem dX5_readNumber_0 : decode (mB 63) 0 = .ok (.iconst 0, 1) := dqo gX5_readNumber_0.1
theorem dX5_readNumber_1 : decode (mB 63) 1 = .ok (.istore_n 1, 1) := dqo gX5_readNumber_0.2.1
theorem dX5_readNumber_2 : decode (mB 63) 2 = .ok (.iconst 0, 1) := dqo gX5_readNumber_0.2.2.1
theorem dX5_readNumber_3 : decode (mB 63) 3 = .ok (.istore_n 2, 1) := dqo gX5_readNumber_0.2.2.2.1
theorem dX5_readNumber_4 : decode (mB 63) 4 = .ok (.iload_n 2, 1) := dqo gX5_readNumber_0.2.2.2.2.1
theorem dX5_readNumber_5 : decode (mB 63) 5 = .ok (.iconst 4, 1) := dqo gX5_readNumber_0.2.2.2.2.2.1
theorem dX5_readNumber_6 : decode (mB 63) 6 = .ok (.if_icmp .ge 42, 3) := dqo gX5_readNumber_0.2.2.2.2.2.2.1
theorem dX5_readNumber_9 : decode (mB 63) 9 = .ok (.aload_n 0, 1) := dqo gX5_readNumber_0.2.2.2.2.2.2.2.1
theorem dX5_readNumber_10 : decode (mB 63) 10 = .ok (.invokevirtual 36, 3) := dqo gX5_readNumber_0.2.2.2.2.2.2.2.2.1
theorem dX5_readNumber_13 : decode (mB 63) 13 = .ok (.invokestatic 59, 3) := dqo gX5_readNumber_0.2.2.2.2.2.2.2.2.2.1
theorem dX5_readNumber_16 : decode (mB 63) 16 = .ok (.ifCond .eq 32, 3) := dqo gX5_readNumber_0.2.2.2.2.2.2.2.2.2.2.1
theorem dX5_readNumber_19 : decode (mB 63) 19 = .ok (.bipush 10, 2) := dqo gX5_readNumber_0.2.2.2.2.2.2.2.2.2.2.2.1
theorem dX5_readNumber_21 : decode (mB 63) 21 = .ok (.iload_n 1, 1) := dqo gX5_readNumber_0.2.2.2.2.2.2.2.2.2.2.2.2.1
theorem dX5_readNumber_22 : decode (mB 63) 22 = .ok (.imul, 1) := dqo gX5_readNumber_0.2.2.2.2.2.2.2.2.2.2.2.2.2.1
theorem dX5_readNumber_23 : decode (mB 63) 23 = .ok (.aload_n 0, 1) := dqo gX5_readNumber_0.2.2.2.2.2.2.2.2.2.2.2.2.2.2.1
theorem dX5_readNumber_24 : decode (mB 63) 24 = .ok (.invokevirtual 36, 3) := dqo gX5_readNumber_0.2.2.2.2.2.2.2.2.2.2.2.2.2.2.2
theorem gX5_readNumber_27 : dq 63 27 (.iadd) 1 = true ∧ dq 63 28 (.bipush 48) 2 = true ∧ dq 63 30 (.isub) 1 = true ∧ dq 63 31 (.istore_n 1) 1 = true ∧ dq 63 32 (.aload_n 0) 1 = true ∧ dq 63 33 (.dup) 1 = true ∧ dq 63 34 (.getfield 26) 3 = true ∧ dq 63 37 (.iconst 1) 1 = true ∧ dq 63 38 (.iadd) 1 = true ∧ dq 63 39 (.putfield 26) 3 = true ∧ dq 63 42 (.iinc 2 1) 3 = true ∧ dq 63 45 (.goto (-41)) 3 = true ∧ dq 63 48 (.aload_n 0) 1 = true ∧ dq 63 49 (.getfield 18) 3 = true ∧ dq 63 52 (.bipush 48) 2 = true ∧ dq 63 54 (.iload_n 1) 1 = true := by decide +kernel
theorem dX5_readNumber_27 : decode (mB 63) 27 = .ok (.iadd, 1) := dqo gX5_readNumber_27.1
theorem dX5_readNumber_28 : decode (mB 63) 28 = .ok (.bipush 48, 2) := dqo gX5_readNumber_27.2.1
theorem dX5_readNumber_30 : decode (mB 63) 30 = .ok (.isub, 1) := dqo gX5_readNumber_27.2.2.1
theorem dX5_readNumber_31 : decode (mB 63) 31 = .ok (.istore_n 1, 1) := dqo gX5_readNumber_27.2.2.2.1
theorem dX5_readNumber_32 : decode (mB 63) 32 = .ok (.aload_n 0, 1) := dqo gX5_readNumber_27.2.2.2.2.1
theorem dX5_readNumber_33 : decode (mB 63) 33 = .ok (.dup, 1) := dqo gX5_readNumber_27.2.2.2.2.2.1
theorem dX5_readNumber_34 : decode (mB 63) 34 = .ok (.getfield 26, 3) := dqo gX5_readNumber_27.2.2.2.2.2.2.1
theorem dX5_readNumber_37 : decode (mB 63) 37 = .ok (.iconst 1, 1) := dqo gX5_readNumber_27.2.2.2.2.2.2.2.1
theorem dX5_readNumber_38 : decode (mB 63) 38 = .ok (.iadd, 1) := dqo gX5_readNumber_27.2.2.2.2.2.2.2.2.1
theorem dX5_readNumber_39 : decode (mB 63) 39 = .ok (.putfield 26, 3) := dqo gX5_readNumber_27.2.2.2.2.2.2.2.2.2.1
theorem dX5_readNumber_42 : decode (mB 63) 42 = .ok (.iinc 2 1, 3) := dqo gX5_readNumber_27.2.2.2.2.2.2.2.2.2.2.1
theorem dX5_readNumber_45 : decode (mB 63) 45 = .ok (.goto (-41), 3) := dqo gX5_readNumber_27.2.2.2.2.2.2.2.2.2.2.2.1
theorem dX5_readNumber_48 : decode (mB 63) 48 = .ok (.aload_n 0, 1) := dqo gX5_readNumber_27.2.2.2.2.2.2.2.2.2.2.2.2.1
theorem dX5_readNumber_49 : decode (mB 63) 49 = .ok (.getfield 18, 3) := dqo gX5_readNumber_27.2.2.2.2.2.2.2.2.2.2.2.2.2.1
theorem dX5_readNumber_52 : decode (mB 63) 52 = .ok (.bipush 48, 2) := dqo gX5_readNumber_27.2.2.2.2.2.2.2.2.2.2.2.2.2.2.1
theorem dX5_readNumber_54 : decode (mB 63) 54 = .ok (.iload_n 1, 1) := dqo gX5_readNumber_27.2.2.2.2.2.2.2.2.2.2.2.2.2.2.2
theorem gX5_readNumber_55 : dq 63 55 (.invokevirtual 44) 3 = true ∧ dq 63 58 (.return_) 1 = true := by decide +kernel
theorem dX5_readNumber_55 : decode (mB 63) 55 = .ok (.invokevirtual 44, 3) := dqo gX5_readNumber_55.1
theorem dX5_readNumber_58 : decode (mB 63) 58 = .ok (.return_, 1) := dqo gX5_readNumber_55.2
theorem gX5_isDigit_0 : dq 64 0 (.iload_n 0) 1 = true ∧ dq 64 1 (.bipush 48) 2 = true ∧ dq 64 3 (.if_icmp .lt 13) 3 = true ∧ dq 64 6 (.iload_n 0) 1 = true ∧ dq 64 7 (.bipush 57) 2 = true ∧ dq 64 9 (.if_icmp .gt 7) 3 = true ∧ dq 64 12 (.iconst 1) 1 = true ∧ dq 64 13 (.goto 4) 3 = true ∧ dq 64 16 (.iconst 0) 1 = true ∧ dq 64 17 (.ireturn) 1 = true := by decide +kernel
theorem dX5_isDigit_0 : decode (mB 64) 0 = .ok (.iload_n 0, 1) := dqo gX5_isDigit_0.1
theorem dX5_isDigit_1 : decode (mB 64) 1 = .ok (.bipush 48, 2) := dqo gX5_isDigit_0.2.1
theorem dX5_isDigit_3 : decode (mB 64) 3 = .ok (.if_icmp .lt 13, 3) := dqo gX5_isDigit_0.2.2.1
theorem dX5_isDigit_6 : decode (mB 64) 6 = .ok (.iload_n 0, 1) := dqo gX5_isDigit_0.2.2.2.1
theorem dX5_isDigit_7 : decode (mB 64) 7 = .ok (.bipush 57, 2) := dqo gX5_isDigit_0.2.2.2.2.1
theorem dX5_isDigit_9 : decode (mB 64) 9 = .ok (.if_icmp .gt 7, 3) := dqo gX5_isDigit_0.2.2.2.2.2.1
theorem dX5_isDigit_12 : decode (mB 64) 12 = .ok (.iconst 1, 1) := dqo gX5_isDigit_0.2.2.2.2.2.2.1
theorem dX5_isDigit_13 : decode (mB 64) 13 = .ok (.goto 4, 3) := dqo gX5_isDigit_0.2.2.2.2.2.2.2.1
theorem dX5_isDigit_16 : decode (mB 64) 16 = .ok (.iconst 0, 1) := dqo gX5_isDigit_0.2.2.2.2.2.2.2.2.1
theorem dX5_isDigit_17 : decode (mB 64) 17 = .ok (.ireturn, 1) := dqo gX5_isDigit_0.2.2.2.2.2.2.2.2.2
theorem gX5_nameOf_0 : dq 65 0 (.iload_n 0) 1 = true ∧ dq 65 1 (.lookupswitch 71 #[(98, 61), (102, 65), (104, 67), (110, 63), (115, 69), (119, 59)]) 59 = true ∧ dq 65 60 (.iconst 0) 1 = true ∧ dq 65 61 (.ireturn) 1 = true ∧ dq 65 62 (.iconst 1) 1 = true ∧ dq 65 63 (.ireturn) 1 = true ∧ dq 65 64 (.iconst 2) 1 = true ∧ dq 65 65 (.ireturn) 1 = true ∧ dq 65 66 (.iconst 3) 1 = true ∧ dq 65 67 (.ireturn) 1 = true ∧ dq 65 68 (.iconst 4) 1 = true ∧ dq 65 69 (.ireturn) 1 = true ∧ dq 65 70 (.iconst 5) 1 = true ∧ dq 65 71 (.ireturn) 1 = true ∧ dq 65 72 (.iconst (-1)) 1 = true ∧ dq 65 73 (.ireturn) 1 = true := by decide +kernel
theorem dX5_nameOf_0 : decode (mB 65) 0 = .ok (.iload_n 0, 1) := dqo gX5_nameOf_0.1
theorem dX5_nameOf_1 : decode (mB 65) 1 = .ok (.lookupswitch 71 #[(98, 61), (102, 65), (104, 67), (110, 63), (115, 69), (119, 59)], 59) := dqo gX5_nameOf_0.2.1
theorem dX5_nameOf_60 : decode (mB 65) 60 = .ok (.iconst 0, 1) := dqo gX5_nameOf_0.2.2.1
theorem dX5_nameOf_61 : decode (mB 65) 61 = .ok (.ireturn, 1) := dqo gX5_nameOf_0.2.2.2.1
theorem dX5_nameOf_62 : decode (mB 65) 62 = .ok (.iconst 1, 1) := dqo gX5_nameOf_0.2.2.2.2.1
theorem dX5_nameOf_63 : decode (mB 65) 63 = .ok (.ireturn, 1) := dqo gX5_nameOf_0.2.2.2.2.2.1
theorem dX5_nameOf_64 : decode (mB 65) 64 = .ok (.iconst 2, 1) := dqo gX5_nameOf_0.2.2.2.2.2.2.1
theorem dX5_nameOf_65 : decode (mB 65) 65 = .ok (.ireturn, 1) := dqo gX5_nameOf_0.2.2.2.2.2.2.2.1
theorem dX5_nameOf_66 : decode (mB 65) 66 = .ok (.iconst 3, 1) := dqo gX5_nameOf_0.2.2.2.2.2.2.2.2.1
theorem dX5_nameOf_67 : decode (mB 65) 67 = .ok (.ireturn, 1) := dqo gX5_nameOf_0.2.2.2.2.2.2.2.2.2.1
theorem dX5_nameOf_68 : decode (mB 65) 68 = .ok (.iconst 4, 1) := dqo gX5_nameOf_0.2.2.2.2.2.2.2.2.2.2.1
theorem dX5_nameOf_69 : decode (mB 65) 69 = .ok (.ireturn, 1) := dqo gX5_nameOf_0.2.2.2.2.2.2.2.2.2.2.2.1
theorem dX5_nameOf_70 : decode (mB 65) 70 = .ok (.iconst 5, 1) := dqo gX5_nameOf_0.2.2.2.2.2.2.2.2.2.2.2.2.1
theorem dX5_nameOf_71 : decode (mB 65) 71 = .ok (.ireturn, 1) := dqo gX5_nameOf_0.2.2.2.2.2.2.2.2.2.2.2.2.2.1
theorem dX5_nameOf_72 : decode (mB 65) 72 = .ok (.iconst (-1), 1) := dqo gX5_nameOf_0.2.2.2.2.2.2.2.2.2.2.2.2.2.2.1
theorem dX5_nameOf_73 : decode (mB 65) 73 = .ok (.ireturn, 1) := dqo gX5_nameOf_0.2.2.2.2.2.2.2.2.2.2.2.2.2.2.2
theorem gX6_init_0 : dq 66 0 (.aload_n 0) 1 = true ∧ dq 66 1 (.invokespecial 3) 3 = true ∧ dq 66 4 (.aload_n 0) 1 = true ∧ dq 66 5 (.aload_n 1) 1 = true ∧ dq 66 6 (.putfield 9) 3 = true ∧ dq 66 9 (.aload_n 0) 1 = true ∧ dq 66 10 (.aload_n 2) 1 = true ∧ dq 66 11 (.putfield 15) 3 = true ∧ dq 66 14 (.aload_n 0) 1 = true ∧ dq 66 15 (.iconst 4) 1 = true ∧ dq 66 16 (.newarray .int) 2 = true ∧ dq 66 18 (.putfield 19) 3 = true ∧ dq 66 21 (.aload_n 0) 1 = true ∧ dq 66 22 (.iconst 4) 1 = true ∧ dq 66 23 (.newarray .int) 2 = true ∧ dq 66 25 (.putfield 23) 3 = true := by decide +kernel
theorem dX6_init_0 : decode (mB 66) 0 = .ok (.aload_n 0, 1) := dqo gX6_init_0.1
theorem dX6_init_1 : decode (mB 66) 1 = .ok (.invokespecial 3, 3) := dqo gX6_init_0.2.1
theorem dX6_init_4 : decode (mB 66) 4 = .ok (.aload_n 0, 1) := dqo gX6_init_0.2.2.1
theorem dX6_init_5 : decode (mB 66) 5 = .ok (.aload_n 1, 1) := dqo gX6_init_0.2.2.2.1
theorem dX6_init_6 : decode (mB 66) 6 = .ok (.putfield 9, 3) := dqo gX6_init_0.2.2.2.2.1
theorem dX6_init_9 : decode (mB 66) 9 = .ok (.aload_n 0, 1) := dqo gX6_init_0.2.2.2.2.2.1
theorem dX6_init_10 : decode (mB 66) 10 = .ok (.aload_n 2, 1) := dqo gX6_init_0.2.2.2.2.2.2.1
theorem dX6_init_11 : decode (mB 66) 11 = .ok (.putfield 15, 3) := dqo gX6_init_0.2.2.2.2.2.2.2.1
theorem dX6_init_14 : decode (mB 66) 14 = .ok (.aload_n 0, 1) := dqo gX6_init_0.2.2.2.2.2.2.2.2.1
theorem dX6_init_15 : decode (mB 66) 15 = .ok (.iconst 4, 1) := dqo gX6_init_0.2.2.2.2.2.2.2.2.2.1
theorem dX6_init_16 : decode (mB 66) 16 = .ok (.newarray .int, 2) := dqo gX6_init_0.2.2.2.2.2.2.2.2.2.2.1
theorem dX6_init_18 : decode (mB 66) 18 = .ok (.putfield 19, 3) := dqo gX6_init_0.2.2.2.2.2.2.2.2.2.2.2.1
theorem dX6_init_21 : decode (mB 66) 21 = .ok (.aload_n 0, 1) := dqo gX6_init_0.2.2.2.2.2.2.2.2.2.2.2.2.1
theorem dX6_init_22 : decode (mB 66) 22 = .ok (.iconst 4, 1) := dqo gX6_init_0.2.2.2.2.2.2.2.2.2.2.2.2.2.1
theorem dX6_init_23 : decode (mB 66) 23 = .ok (.newarray .int, 2) := dqo gX6_init_0.2.2.2.2.2.2.2.2.2.2.2.2.2.2.1
theorem dX6_init_25 : decode (mB 66) 25 = .ok (.putfield 23, 3) := dqo gX6_init_0.2.2.2.2.2.2.2.2.2.2.2.2.2.2.2
theorem gX6_init_28 : dq 66 28 (.aload_n 0) 1 = true ∧ dq 66 29 (.bipush 6) 2 = true ∧ dq 66 31 (.newarray .int) 2 = true ∧ dq 66 33 (.putfield 26) 3 = true ∧ dq 66 36 (.aload_n 0) 1 = true ∧ dq 66 37 (.sipush 216) 3 = true ∧ dq 66 40 (.newarray .int) 2 = true ∧ dq 66 42 (.putfield 29) 3 = true ∧ dq 66 45 (.return_) 1 = true := by decide +kernel
theorem dX6_init_28 : decode (mB 66) 28 = .ok (.aload_n 0, 1) := dqo gX6_init_28.1
theorem dX6_init_29 : decode (mB 66) 29 = .ok (.bipush 6, 2) := dqo gX6_init_28.2.1
theorem dX6_init_31 : decode (mB 66) 31 = .ok (.newarray .int, 2) := dqo gX6_init_28.2.2.1
theorem dX6_init_33 : decode (mB 66) 33 = .ok (.putfield 26, 3) := dqo gX6_init_28.2.2.2.1
theorem dX6_init_36 : decode (mB 66) 36 = .ok (.aload_n 0, 1) := dqo gX6_init_28.2.2.2.2.1
theorem dX6_init_37 : decode (mB 66) 37 = .ok (.sipush 216, 3) := dqo gX6_init_28.2.2.2.2.2.1
theorem dX6_init_40 : decode (mB 66) 40 = .ok (.newarray .int, 2) := dqo gX6_init_28.2.2.2.2.2.2.1
theorem dX6_init_42 : decode (mB 66) 42 = .ok (.putfield 29, 3) := dqo gX6_init_28.2.2.2.2.2.2.2.1
theorem dX6_init_45 : decode (mB 66) 45 = .ok (.return_, 1) := dqo gX6_init_28.2.2.2.2.2.2.2.2
theorem gX6_begin_0 : dq 67 0 (.aload_n 0) 1 = true ∧ dq 67 1 (.getfield 15) 3 = true ∧ dq 67 4 (.invokevirtual 32) 3 = true ∧ dq 67 7 (.aload_n 0) 1 = true ∧ dq 67 8 (.iload_n 1) 1 = true ∧ dq 67 9 (.putfield 37) 3 = true ∧ dq 67 12 (.aload_n 0) 1 = true ∧ dq 67 13 (.iload_n 2) 1 = true ∧ dq 67 14 (.putfield 41) 3 = true ∧ dq 67 17 (.aload_n 0) 1 = true ∧ dq 67 18 (.aload_n 0) 1 = true ∧ dq 67 19 (.getfield 15) 3 = true ∧ dq 67 22 (.invokevirtual 44) 3 = true ∧ dq 67 25 (.putfield 48) 3 = true ∧ dq 67 28 (.aload_n 0) 1 = true ∧ dq 67 29 (.aload_n 0) 1 = true := by decide +kernel
theorem dX6_begin_0 : decode (mB 67) 0 = .ok (.aload_n 0, 1) := dqo gX6_begin_0.1
theorem dX6_begin_1 : decode (mB 67) 1 = .ok (.getfield 15, 3) := dqo gX6_begin_0.2.1
theorem dX6_begin_4 : decode (mB 67) 4 = .ok (.invokevirtual 32, 3) := dqo gX6_begin_0.2.2.1
theorem dX6_begin_7 : decode (mB 67) 7 = .ok (.aload_n 0, 1) := dqo gX6_begin_0.2.2.2.1
theorem dX6_begin_8 : decode (mB 67) 8 = .ok (.iload_n 1, 1) := dqo gX6_begin_0.2.2.2.2.1
theorem dX6_begin_9 : decode (mB 67) 9 = .ok (.putfield 37, 3) := dqo gX6_begin_0.2.2.2.2.2.1
theorem dX6_begin_12 : decode (mB 67) 12 = .ok (.aload_n 0, 1) := dqo gX6_begin_0.2.2.2.2.2.2.1
theorem dX6_begin_13 : decode (mB 67) 13 = .ok (.iload_n 2, 1) := dqo gX6_begin_0.2.2.2.2.2.2.2.1
theorem dX6_begin_14 : decode (mB 67) 14 = .ok (.putfield 41, 3) := dqo gX6_begin_0.2.2.2.2.2.2.2.2.1
theorem dX6_begin_17 : decode (mB 67) 17 = .ok (.aload_n 0, 1) := dqo gX6_begin_0.2.2.2.2.2.2.2.2.2.1
theorem dX6_begin_18 : decode (mB 67) 18 = .ok (.aload_n 0, 1) := dqo gX6_begin_0.2.2.2.2.2.2.2.2.2.2.1
theorem dX6_begin_19 : decode (mB 67) 19 = .ok (.getfield 15, 3) := dqo gX6_begin_0.2.2.2.2.2.2.2.2.2.2.2.1
theorem dX6_begin_22 : decode (mB 67) 22 = .ok (.invokevirtual 44, 3) := dqo gX6_begin_0.2.2.2.2.2.2.2.2.2.2.2.2.1
theorem dX6_begin_25 : decode (mB 67) 25 = .ok (.putfield 48, 3) := dqo gX6_begin_0.2.2.2.2.2.2.2.2.2.2.2.2.2.1
theorem dX6_begin_28 : decode (mB 67) 28 = .ok (.aload_n 0, 1) := dqo gX6_begin_0.2.2.2.2.2.2.2.2.2.2.2.2.2.2.1
theorem dX6_begin_29 : decode (mB 67) 29 = .ok (.aload_n 0, 1) := dqo gX6_begin_0.2.2.2.2.2.2.2.2.2.2.2.2.2.2.2
theorem gX6_begin_30 : dq 67 30 (.getfield 48) 3 = true ∧ dq 67 33 (.aload_n 0) 1 = true ∧ dq 67 34 (.getfield 15) 3 = true ∧ dq 67 37 (.iload_n 1) 1 = true ∧ dq 67 38 (.invokevirtual 50) 3 = true ∧ dq 67 41 (.isub) 1 = true ∧ dq 67 42 (.putfield 54) 3 = true ∧ dq 67 45 (.iconst 0) 1 = true ∧ dq 67 46 (.istore_n 3) 1 = true ∧ dq 67 47 (.iload_n 3) 1 = true ∧ dq 67 48 (.bipush 6) 2 = true ∧ dq 67 50 (.if_icmp .ge 16) 3 = true ∧ dq 67 53 (.aload_n 0) 1 = true ∧ dq 67 54 (.getfield 26) 3 = true ∧ dq 67 57 (.iload_n 3) 1 = true ∧ dq 67 58 (.iconst 0) 1 = true := by decide +kernel
theorem dX6_begin_30 : decode (mB 67) 30 = .ok (.getfield 48, 3) := dqo gX6_begin_30.1
theorem dX6_begin_33 : decode (mB 67) 33 = .ok (.aload_n 0, 1) := dqo gX6_begin_30.2.1
theorem dX6_begin_34 : decode (mB 67) 34 = .ok (.getfield 15, 3) := dqo gX6_begin_30.2.2.1
theorem dX6_begin_37 : decode (mB 67) 37 = .ok (.iload_n 1, 1) := dqo gX6_begin_30.2.2.2.1
theorem dX6_begin_38 : decode (mB 67) 38 = .ok (.invokevirtual 50, 3) := dqo gX6_begin_30.2.2.2.2.1
theorem dX6_begin_41 : decode (mB 67) 41 = .ok (.isub, 1) := dqo gX6_begin_30.2.2.2.2.2.1
theorem dX6_begin_42 : decode (mB 67) 42 = .ok (.putfield 54, 3) := dqo gX6_begin_30.2.2.2.2.2.2.1
theorem dX6_begin_45 : decode (mB 67) 45 = .ok (.iconst 0, 1) := dqo gX6_begin_30.2.2.2.2.2.2.2.1
theorem dX6_begin_46 : decode (mB 67) 46 = .ok (.istore_n 3, 1) := dqo gX6_begin_30.2.2.2.2.2.2.2.2.1
theorem dX6_begin_47 : decode (mB 67) 47 = .ok (.iload_n 3, 1) := dqo gX6_begin_30.2.2.2.2.2.2.2.2.2.1
theorem dX6_begin_48 : decode (mB 67) 48 = .ok (.bipush 6, 2) := dqo gX6_begin_30.2.2.2.2.2.2.2.2.2.2.1
theorem dX6_begin_50 : decode (mB 67) 50 = .ok (.if_icmp .ge 16, 3) := dqo gX6_begin_30.2.2.2.2.2.2.2.2.2.2.2.1
theorem dX6_begin_53 : decode (mB 67) 53 = .ok (.aload_n 0, 1) := dqo gX6_begin_30.2.2.2.2.2.2.2.2.2.2.2.2.1
theorem dX6_begin_54 : decode (mB 67) 54 = .ok (.getfield 26, 3) := dqo gX6_begin_30.2.2.2.2.2.2.2.2.2.2.2.2.2.1
theorem dX6_begin_57 : decode (mB 67) 57 = .ok (.iload_n 3, 1) := dqo gX6_begin_30.2.2.2.2.2.2.2.2.2.2.2.2.2.2.1
theorem dX6_begin_58 : decode (mB 67) 58 = .ok (.iconst 0, 1) := dqo gX6_begin_30.2.2.2.2.2.2.2.2.2.2.2.2.2.2.2
theorem gX6_begin_59 : dq 67 59 (.iastore) 1 = true ∧ dq 67 60 (.iinc 3 1) 3 = true ∧ dq 67 63 (.goto (-16)) 3 = true ∧ dq 67 66 (.aload_n 0) 1 = true ∧ dq 67 67 (.invokevirtual 57) 3 = true ∧ dq 67 70 (.iconst 0) 1 = true ∧ dq 67 71 (.istore_n 3) 1 = true ∧ dq 67 72 (.iload_n 3) 1 = true ∧ dq 67 73 (.aload_n 0) 1 = true ∧ dq 67 74 (.getfield 41) 3 = true ∧ dq 67 77 (.if_icmp .ge 14) 3 = true ∧ dq 67 80 (.aload_n 0) 1 = true ∧ dq 67 81 (.iload_n 3) 1 = true ∧ dq 67 82 (.invokevirtual 60) 3 = true ∧ dq 67 85 (.iinc 3 1) 3 = true ∧ dq 67 88 (.goto (-16)) 3 = true := by decide +kernel
theorem dX6_begin_59 : decode (mB 67) 59 = .ok (.iastore, 1) := dqo gX6_begin_59.1
theorem dX6_begin_60 : decode (mB 67) 60 = .ok (.iinc 3 1, 3) := dqo gX6_begin_59.2.1
theorem dX6_begin_63 : decode (mB 67) 63 = .ok (.goto (-16), 3) := dqo gX6_begin_59.2.2.1
theorem dX6_begin_66 : decode (mB 67) 66 = .ok (.aload_n 0, 1) := dqo gX6_begin_59.2.2.2.1
theorem dX6_begin_67 : decode (mB 67) 67 = .ok (.invokevirtual 57, 3) := dqo gX6_begin_59.2.2.2.2.1
theorem dX6_begin_70 : decode (mB 67) 70 = .ok (.iconst 0, 1) := dqo gX6_begin_59.2.2.2.2.2.1
theorem dX6_begin_71 : decode (mB 67) 71 = .ok (.istore_n 3, 1) := dqo gX6_begin_59.2.2.2.2.2.2.1
theorem dX6_begin_72 : decode (mB 67) 72 = .ok (.iload_n 3, 1) := dqo gX6_begin_59.2.2.2.2.2.2.2.1
theorem dX6_begin_73 : decode (mB 67) 73 = .ok (.aload_n 0, 1) := dqo gX6_begin_59.2.2.2.2.2.2.2.2.1
theorem dX6_begin_74 : decode (mB 67) 74 = .ok (.getfield 41, 3) := dqo gX6_begin_59.2.2.2.2.2.2.2.2.2.1
theorem dX6_begin_77 : decode (mB 67) 77 = .ok (.if_icmp .ge 14, 3) := dqo gX6_begin_59.2.2.2.2.2.2.2.2.2.2.1
theorem dX6_begin_80 : decode (mB 67) 80 = .ok (.aload_n 0, 1) := dqo gX6_begin_59.2.2.2.2.2.2.2.2.2.2.2.1
theorem dX6_begin_81 : decode (mB 67) 81 = .ok (.iload_n 3, 1) := dqo gX6_begin_59.2.2.2.2.2.2.2.2.2.2.2.2.1
theorem dX6_begin_82 : decode (mB 67) 82 = .ok (.invokevirtual 60, 3) := dqo gX6_begin_59.2.2.2.2.2.2.2.2.2.2.2.2.2.1
theorem dX6_begin_85 : decode (mB 67) 85 = .ok (.iinc 3 1, 3) := dqo gX6_begin_59.2.2.2.2.2.2.2.2.2.2.2.2.2.2.1
theorem dX6_begin_88 : decode (mB 67) 88 = .ok (.goto (-16), 3) := dqo gX6_begin_59.2.2.2.2.2.2.2.2.2.2.2.2.2.2.2
theorem dX6_begin_91 : decode (mB 67) 91 = .ok (.return_, 1) := dqo (by decide +kernel)
theorem gX6_sortTickets_0 : dq 68 0 (.iconst 0) 1 = true ∧ dq 68 1 (.istore_n 1) 1 = true ∧ dq 68 2 (.iload_n 1) 1 = true ∧ dq 68 3 (.iconst 4) 1 = true ∧ dq 68 4 (.if_icmp .ge 24) 3 = true ∧ dq 68 7 (.aload_n 0) 1 = true ∧ dq 68 8 (.getfield 19) 3 = true ∧ dq 68 11 (.iload_n 1) 1 = true ∧ dq 68 12 (.iconst 0) 1 = true ∧ dq 68 13 (.iastore) 1 = true ∧ dq 68 14 (.aload_n 0) 1 = true ∧ dq 68 15 (.getfield 23) 3 = true ∧ dq 68 18 (.iload_n 1) 1 = true ∧ dq 68 19 (.bipush (-2)) 2 = true ∧ dq 68 21 (.iastore) 1 = true ∧ dq 68 22 (.iinc 1 1) 3 = true := by decide +kernel
theorem dX6_sortTickets_0 : decode (mB 68) 0 = .ok (.iconst 0, 1) := dqo gX6_sortTickets_0.1
theorem dX6_sortTickets_1 : decode (mB 68) 1 = .ok (.istore_n 1, 1) := dqo gX6_sortTickets_0.2.1
theorem dX6_sortTickets_2 : decode (mB 68) 2 = .ok (.iload_n 1, 1) := dqo gX6_sortTickets_0.2.2.1
theorem dX6_sortTickets_3 : decode (mB 68) 3 = .ok (.iconst 4, 1) := dqo gX6_sortTickets_0.2.2.2.1
theorem dX6_sortTickets_4 : decode (mB 68) 4 = .ok (.if_icmp .ge 24, 3) := dqo gX6_sortTickets_0.2.2.2.2.1
theorem dX6_sortTickets_7 : decode (mB 68) 7 = .ok (.aload_n 0, 1) := dqo gX6_sortTickets_0.2.2.2.2.2.1
theorem dX6_sortTickets_8 : decode (mB 68) 8 = .ok (.getfield 19, 3) := dqo gX6_sortTickets_0.2.2.2.2.2.2.1
theorem dX6_sortTickets_11 : decode (mB 68) 11 = .ok (.iload_n 1, 1) := dqo gX6_sortTickets_0.2.2.2.2.2.2.2.1
theorem dX6_sortTickets_12 : decode (mB 68) 12 = .ok (.iconst 0, 1) := dqo gX6_sortTickets_0.2.2.2.2.2.2.2.2.1
theorem dX6_sortTickets_13 : decode (mB 68) 13 = .ok (.iastore, 1) := dqo gX6_sortTickets_0.2.2.2.2.2.2.2.2.2.1
theorem dX6_sortTickets_14 : decode (mB 68) 14 = .ok (.aload_n 0, 1) := dqo gX6_sortTickets_0.2.2.2.2.2.2.2.2.2.2.1
theorem dX6_sortTickets_15 : decode (mB 68) 15 = .ok (.getfield 23, 3) := dqo gX6_sortTickets_0.2.2.2.2.2.2.2.2.2.2.2.1
theorem dX6_sortTickets_18 : decode (mB 68) 18 = .ok (.iload_n 1, 1) := dqo gX6_sortTickets_0.2.2.2.2.2.2.2.2.2.2.2.2.1
theorem dX6_sortTickets_19 : decode (mB 68) 19 = .ok (.bipush (-2), 2) := dqo gX6_sortTickets_0.2.2.2.2.2.2.2.2.2.2.2.2.2.1
theorem dX6_sortTickets_21 : decode (mB 68) 21 = .ok (.iastore, 1) := dqo gX6_sortTickets_0.2.2.2.2.2.2.2.2.2.2.2.2.2.2.1
theorem dX6_sortTickets_22 : decode (mB 68) 22 = .ok (.iinc 1 1, 3) := dqo gX6_sortTickets_0.2.2.2.2.2.2.2.2.2.2.2.2.2.2.2
theorem gX6_sortTickets_25 : dq 68 25 (.goto (-23)) 3 = true ∧ dq 68 28 (.aload_n 0) 1 = true ∧ dq 68 29 (.getfield 9) 3 = true ∧ dq 68 32 (.invokevirtual 64) 3 = true ∧ dq 68 35 (.iconst 1) 1 = true ∧ dq 68 36 (.isub) 1 = true ∧ dq 68 37 (.istore_n 1) 1 = true ∧ dq 68 38 (.iload_n 1) 1 = true ∧ dq 68 39 (.ifCond .lt 68) 3 = true ∧ dq 68 42 (.aload_n 0) 1 = true ∧ dq 68 43 (.getfield 9) 3 = true ∧ dq 68 46 (.bipush 6) 2 = true ∧ dq 68 48 (.iload_n 1) 1 = true ∧ dq 68 49 (.invokevirtual 69) 3 = true ∧ dq 68 52 (.istore_n 2) 1 = true ∧ dq 68 53 (.iload_n 2) 1 = true := by decide +kernel
theorem dX6_sortTickets_25 : decode (mB 68) 25 = .ok (.goto (-23), 3) := dqo gX6_sortTickets_25.1
theorem dX6_sortTickets_28 : decode (mB 68) 28 = .ok (.aload_n 0, 1) := dqo gX6_sortTickets_25.2.1
theorem dX6_sortTickets_29 : decode (mB 68) 29 = .ok (.getfield 9, 3) := dqo gX6_sortTickets_25.2.2.1
theorem dX6_sortTickets_32 : decode (mB 68) 32 = .ok (.invokevirtual 64, 3) := dqo gX6_sortTickets_25.2.2.2.1
theorem dX6_sortTickets_35 : decode (mB 68) 35 = .ok (.iconst 1, 1) := dqo gX6_sortTickets_25.2.2.2.2.1
theorem dX6_sortTickets_36 : decode (mB 68) 36 = .ok (.isub, 1) := dqo gX6_sortTickets_25.2.2.2.2.2.1
theorem dX6_sortTickets_37 : decode (mB 68) 37 = .ok (.istore_n 1, 1) := dqo gX6_sortTickets_25.2.2.2.2.2.2.1
theorem dX6_sortTickets_38 : decode (mB 68) 38 = .ok (.iload_n 1, 1) := dqo gX6_sortTickets_25.2.2.2.2.2.2.2.1
theorem dX6_sortTickets_39 : decode (mB 68) 39 = .ok (.ifCond .lt 68, 3) := dqo gX6_sortTickets_25.2.2.2.2.2.2.2.2.1
theorem dX6_sortTickets_42 : decode (mB 68) 42 = .ok (.aload_n 0, 1) := dqo gX6_sortTickets_25.2.2.2.2.2.2.2.2.2.1
theorem dX6_sortTickets_43 : decode (mB 68) 43 = .ok (.getfield 9, 3) := dqo gX6_sortTickets_25.2.2.2.2.2.2.2.2.2.2.1
theorem dX6_sortTickets_46 : decode (mB 68) 46 = .ok (.bipush 6, 2) := dqo gX6_sortTickets_25.2.2.2.2.2.2.2.2.2.2.2.1
theorem dX6_sortTickets_48 : decode (mB 68) 48 = .ok (.iload_n 1, 1) := dqo gX6_sortTickets_25.2.2.2.2.2.2.2.2.2.2.2.2.1
theorem dX6_sortTickets_49 : decode (mB 68) 49 = .ok (.invokevirtual 69, 3) := dqo gX6_sortTickets_25.2.2.2.2.2.2.2.2.2.2.2.2.2.1
theorem dX6_sortTickets_52 : decode (mB 68) 52 = .ok (.istore_n 2, 1) := dqo gX6_sortTickets_25.2.2.2.2.2.2.2.2.2.2.2.2.2.2.1
theorem dX6_sortTickets_53 : decode (mB 68) 53 = .ok (.iload_n 2, 1) := dqo gX6_sortTickets_25.2.2.2.2.2.2.2.2.2.2.2.2.2.2.2
theorem gX6_sortTickets_54 : dq 68 54 (.iconst 4) 1 = true ∧ dq 68 55 (.if_icmp .ge 46) 3 = true ∧ dq 68 58 (.aload_n 0) 1 = true ∧ dq 68 59 (.getfield 9) 3 = true ∧ dq 68 62 (.iload_n 1) 1 = true ∧ dq 68 63 (.invokevirtual 73) 3 = true ∧ dq 68 66 (.ifCond .eq 35) 3 = true ∧ dq 68 69 (.aload_n 0) 1 = true ∧ dq 68 70 (.getfield 15) 3 = true ∧ dq 68 73 (.iload_n 1) 1 = true ∧ dq 68 74 (.invokevirtual 77) 3 = true ∧ dq 68 77 (.aload_n 0) 1 = true ∧ dq 68 78 (.getfield 37) 3 = true ∧ dq 68 81 (.if_icmp .ne 20) 3 = true ∧ dq 68 84 (.aload_n 0) 1 = true ∧ dq 68 85 (.getfield 19) 3 = true := by decide +kernel
theorem dX6_sortTickets_54 : decode (mB 68) 54 = .ok (.iconst 4, 1) := dqo gX6_sortTickets_54.1
theorem dX6_sortTickets_55 : decode (mB 68) 55 = .ok (.if_icmp .ge 46, 3) := dqo gX6_sortTickets_54.2.1
theorem dX6_sortTickets_58 : decode (mB 68) 58 = .ok (.aload_n 0, 1) := dqo gX6_sortTickets_54.2.2.1
theorem dX6_sortTickets_59 : decode (mB 68) 59 = .ok (.getfield 9, 3) := dqo gX6_sortTickets_54.2.2.2.1
theorem dX6_sortTickets_62 : decode (mB 68) 62 = .ok (.iload_n 1, 1) := dqo gX6_sortTickets_54.2.2.2.2.1
theorem dX6_sortTickets_63 : decode (mB 68) 63 = .ok (.invokevirtual 73, 3) := dqo gX6_sortTickets_54.2.2.2.2.2.1
theorem dX6_sortTickets_66 : decode (mB 68) 66 = .ok (.ifCond .eq 35, 3) := dqo gX6_sortTickets_54.2.2.2.2.2.2.1
theorem dX6_sortTickets_69 : decode (mB 68) 69 = .ok (.aload_n 0, 1) := dqo gX6_sortTickets_54.2.2.2.2.2.2.2.1
theorem dX6_sortTickets_70 : decode (mB 68) 70 = .ok (.getfield 15, 3) := dqo gX6_sortTickets_54.2.2.2.2.2.2.2.2.1
theorem dX6_sortTickets_73 : decode (mB 68) 73 = .ok (.iload_n 1, 1) := dqo gX6_sortTickets_54.2.2.2.2.2.2.2.2.2.1
theorem dX6_sortTickets_74 : decode (mB 68) 74 = .ok (.invokevirtual 77, 3) := dqo gX6_sortTickets_54.2.2.2.2.2.2.2.2.2.2.1
theorem dX6_sortTickets_77 : decode (mB 68) 77 = .ok (.aload_n 0, 1) := dqo gX6_sortTickets_54.2.2.2.2.2.2.2.2.2.2.2.1
theorem dX6_sortTickets_78 : decode (mB 68) 78 = .ok (.getfield 37, 3) := dqo gX6_sortTickets_54.2.2.2.2.2.2.2.2.2.2.2.2.1
theorem dX6_sortTickets_81 : decode (mB 68) 81 = .ok (.if_icmp .ne 20, 3) := dqo gX6_sortTickets_54.2.2.2.2.2.2.2.2.2.2.2.2.2.1
theorem dX6_sortTickets_84 : decode (mB 68) 84 = .ok (.aload_n 0, 1) := dqo gX6_sortTickets_54.2.2.2.2.2.2.2.2.2.2.2.2.2.2.1
theorem dX6_sortTickets_85 : decode (mB 68) 85 = .ok (.getfield 19, 3) := dqo gX6_sortTickets_54.2.2.2.2.2.2.2.2.2.2.2.2.2.2.2
theorem gX6_sortTickets_88 : dq 68 88 (.iload_n 2) 1 = true ∧ dq 68 89 (.dup2) 1 = true ∧ dq 68 90 (.iaload) 1 = true ∧ dq 68 91 (.iconst 1) 1 = true ∧ dq 68 92 (.iadd) 1 = true ∧ dq 68 93 (.iastore) 1 = true ∧ dq 68 94 (.aload_n 0) 1 = true ∧ dq 68 95 (.getfield 23) 3 = true ∧ dq 68 98 (.iload_n 2) 1 = true ∧ dq 68 99 (.iload_n 1) 1 = true ∧ dq 68 100 (.iastore) 1 = true ∧ dq 68 101 (.iinc 1 (-1)) 3 = true ∧ dq 68 104 (.goto (-66)) 3 = true ∧ dq 68 107 (.return_) 1 = true := by decide +kernel
theorem dX6_sortTickets_88 : decode (mB 68) 88 = .ok (.iload_n 2, 1) := dqo gX6_sortTickets_88.1
theorem dX6_sortTickets_89 : decode (mB 68) 89 = .ok (.dup2, 1) := dqo gX6_sortTickets_88.2.1
theorem dX6_sortTickets_90 : decode (mB 68) 90 = .ok (.iaload, 1) := dqo gX6_sortTickets_88.2.2.1
theorem dX6_sortTickets_91 : decode (mB 68) 91 = .ok (.iconst 1, 1) := dqo gX6_sortTickets_88.2.2.2.1
theorem dX6_sortTickets_92 : decode (mB 68) 92 = .ok (.iadd, 1) := dqo gX6_sortTickets_88.2.2.2.2.1
theorem dX6_sortTickets_93 : decode (mB 68) 93 = .ok (.iastore, 1) := dqo gX6_sortTickets_88.2.2.2.2.2.1
theorem dX6_sortTickets_94 : decode (mB 68) 94 = .ok (.aload_n 0, 1) := dqo gX6_sortTickets_88.2.2.2.2.2.2.1
theorem dX6_sortTickets_95 : decode (mB 68) 95 = .ok (.getfield 23, 3) := dqo gX6_sortTickets_88.2.2.2.2.2.2.2.1
theorem dX6_sortTickets_98 : decode (mB 68) 98 = .ok (.iload_n 2, 1) := dqo gX6_sortTickets_88.2.2.2.2.2.2.2.2.1
theorem dX6_sortTickets_99 : decode (mB 68) 99 = .ok (.iload_n 1, 1) := dqo gX6_sortTickets_88.2.2.2.2.2.2.2.2.2.1
theorem dX6_sortTickets_100 : decode (mB 68) 100 = .ok (.iastore, 1) := dqo gX6_sortTickets_88.2.2.2.2.2.2.2.2.2.2.1
theorem dX6_sortTickets_101 : decode (mB 68) 101 = .ok (.iinc 1 (-1), 3) := dqo gX6_sortTickets_88.2.2.2.2.2.2.2.2.2.2.2.1
theorem dX6_sortTickets_104 : decode (mB 68) 104 = .ok (.goto (-66), 3) := dqo gX6_sortTickets_88.2.2.2.2.2.2.2.2.2.2.2.2.1
theorem dX6_sortTickets_107 : decode (mB 68) 107 = .ok (.return_, 1) := dqo gX6_sortTickets_88.2.2.2.2.2.2.2.2.2.2.2.2.2
theorem gX6_workOutHour_0 : dq 69 0 (.bipush 11) 2 = true ∧ dq 69 2 (.aload_n 0) 1 = true ∧ dq 69 3 (.getfield 9) 3 = true ∧ dq 69 6 (.invokevirtual 80) 3 = true ∧ dq 69 9 (.iload_n 1) 1 = true ∧ dq 69 10 (.iadd) 1 = true ∧ dq 69 11 (.invokestatic 83) 3 = true ∧ dq 69 14 (.istore_n 2) 1 = true ∧ dq 69 15 (.iconst 0) 1 = true ∧ dq 69 16 (.istore_n 3) 1 = true ∧ dq 69 17 (.iload_n 3) 1 = true ∧ dq 69 18 (.aload_n 0) 1 = true ∧ dq 69 19 (.getfield 9) 3 = true ∧ dq 69 22 (.invokevirtual 88) 3 = true ∧ dq 69 25 (.if_icmp .ge 107) 3 = true ∧ dq 69 28 (.aload_n 0) 1 = true := by decide +kernel
theorem dX6_workOutHour_0 : decode (mB 69) 0 = .ok (.bipush 11, 2) := dqo gX6_workOutHour_0.1
theorem dX6_workOutHour_2 : decode (mB 69) 2 = .ok (.aload_n 0, 1) := dqo gX6_workOutHour_0.2.1
theorem dX6_workOutHour_3 : decode (mB 69) 3 = .ok (.getfield 9, 3) := dqo gX6_workOutHour_0.2.2.1
theorem dX6_workOutHour_6 : decode (mB 69) 6 = .ok (.invokevirtual 80, 3) := dqo gX6_workOutHour_0.2.2.2.1
theorem dX6_workOutHour_9 : decode (mB 69) 9 = .ok (.iload_n 1, 1) := dqo gX6_workOutHour_0.2.2.2.2.1
theorem dX6_workOutHour_10 : decode (mB 69) 10 = .ok (.iadd, 1) := dqo gX6_workOutHour_0.2.2.2.2.2.1
theorem dX6_workOutHour_11 : decode (mB 69) 11 = .ok (.invokestatic 83, 3) := dqo gX6_workOutHour_0.2.2.2.2.2.2.1
theorem dX6_workOutHour_14 : decode (mB 69) 14 = .ok (.istore_n 2, 1) := dqo gX6_workOutHour_0.2.2.2.2.2.2.2.1
theorem dX6_workOutHour_15 : decode (mB 69) 15 = .ok (.iconst 0, 1) := dqo gX6_workOutHour_0.2.2.2.2.2.2.2.2.1
theorem dX6_workOutHour_16 : decode (mB 69) 16 = .ok (.istore_n 3, 1) := dqo gX6_workOutHour_0.2.2.2.2.2.2.2.2.2.1
theorem dX6_workOutHour_17 : decode (mB 69) 17 = .ok (.iload_n 3, 1) := dqo gX6_workOutHour_0.2.2.2.2.2.2.2.2.2.2.1
theorem dX6_workOutHour_18 : decode (mB 69) 18 = .ok (.aload_n 0, 1) := dqo gX6_workOutHour_0.2.2.2.2.2.2.2.2.2.2.2.1
theorem dX6_workOutHour_19 : decode (mB 69) 19 = .ok (.getfield 9, 3) := dqo gX6_workOutHour_0.2.2.2.2.2.2.2.2.2.2.2.2.1
theorem dX6_workOutHour_22 : decode (mB 69) 22 = .ok (.invokevirtual 88, 3) := dqo gX6_workOutHour_0.2.2.2.2.2.2.2.2.2.2.2.2.2.1
theorem dX6_workOutHour_25 : decode (mB 69) 25 = .ok (.if_icmp .ge 107, 3) := dqo gX6_workOutHour_0.2.2.2.2.2.2.2.2.2.2.2.2.2.2.1
theorem dX6_workOutHour_28 : decode (mB 69) 28 = .ok (.aload_n 0, 1) := dqo gX6_workOutHour_0.2.2.2.2.2.2.2.2.2.2.2.2.2.2.2
theorem gX6_workOutHour_29 : dq 69 29 (.getfield 15) 3 = true ∧ dq 69 32 (.iload_n 3) 1 = true ∧ dq 69 33 (.invokevirtual 91) 3 = true ∧ dq 69 36 (.istore 4) 2 = true ∧ dq 69 38 (.iconst 0) 1 = true ∧ dq 69 39 (.istore 5) 2 = true ∧ dq 69 41 (.iload 5) 2 = true ∧ dq 69 43 (.iload_n 1) 1 = true ∧ dq 69 44 (.if_icmp .gt 82) 3 = true ∧ dq 69 47 (.iconst 0) 1 = true ∧ dq 69 48 (.istore 6) 2 = true ∧ dq 69 50 (.iload 6) 2 = true ∧ dq 69 52 (.iconst 4) 1 = true ∧ dq 69 53 (.if_icmp .ge 67) 3 = true ∧ dq 69 56 (.iload_n 1) 1 = true ∧ dq 69 57 (.iload_n 3) 1 = true := by decide +kernel
theorem dX6_workOutHour_29 : decode (mB 69) 29 = .ok (.getfield 15, 3) := dqo gX6_workOutHour_29.1
theorem dX6_workOutHour_32 : decode (mB 69) 32 = .ok (.iload_n 3, 1) := dqo gX6_workOutHour_29.2.1
theorem dX6_workOutHour_33 : decode (mB 69) 33 = .ok (.invokevirtual 91, 3) := dqo gX6_workOutHour_29.2.2.1
theorem dX6_workOutHour_36 : decode (mB 69) 36 = .ok (.istore 4, 2) := dqo gX6_workOutHour_29.2.2.2.1
theorem dX6_workOutHour_38 : decode (mB 69) 38 = .ok (.iconst 0, 1) := dqo gX6_workOutHour_29.2.2.2.2.1
theorem dX6_workOutHour_39 : decode (mB 69) 39 = .ok (.istore 5, 2) := dqo gX6_workOutHour_29.2.2.2.2.2.1
theorem dX6_workOutHour_41 : decode (mB 69) 41 = .ok (.iload 5, 2) := dqo gX6_workOutHour_29.2.2.2.2.2.2.1
theorem dX6_workOutHour_43 : decode (mB 69) 43 = .ok (.iload_n 1, 1) := dqo gX6_workOutHour_29.2.2.2.2.2.2.2.1
theorem dX6_workOutHour_44 : decode (mB 69) 44 = .ok (.if_icmp .gt 82, 3) := dqo gX6_workOutHour_29.2.2.2.2.2.2.2.2.1
theorem dX6_workOutHour_47 : decode (mB 69) 47 = .ok (.iconst 0, 1) := dqo gX6_workOutHour_29.2.2.2.2.2.2.2.2.2.1
theorem dX6_workOutHour_48 : decode (mB 69) 48 = .ok (.istore 6, 2) := dqo gX6_workOutHour_29.2.2.2.2.2.2.2.2.2.2.1
theorem dX6_workOutHour_50 : decode (mB 69) 50 = .ok (.iload 6, 2) := dqo gX6_workOutHour_29.2.2.2.2.2.2.2.2.2.2.2.1
theorem dX6_workOutHour_52 : decode (mB 69) 52 = .ok (.iconst 4, 1) := dqo gX6_workOutHour_29.2.2.2.2.2.2.2.2.2.2.2.2.1
theorem dX6_workOutHour_53 : decode (mB 69) 53 = .ok (.if_icmp .ge 67, 3) := dqo gX6_workOutHour_29.2.2.2.2.2.2.2.2.2.2.2.2.2.1
theorem dX6_workOutHour_56 : decode (mB 69) 56 = .ok (.iload_n 1, 1) := dqo gX6_workOutHour_29.2.2.2.2.2.2.2.2.2.2.2.2.2.2.1
theorem dX6_workOutHour_57 : decode (mB 69) 57 = .ok (.iload_n 3, 1) := dqo gX6_workOutHour_29.2.2.2.2.2.2.2.2.2.2.2.2.2.2.2
theorem gX6_workOutHour_58 : dq 69 58 (.iload 5) 2 = true ∧ dq 69 60 (.iload 6) 2 = true ∧ dq 69 62 (.invokestatic 94) 3 = true ∧ dq 69 65 (.istore 7) 2 = true ∧ dq 69 67 (.iload 7) 2 = true ∧ dq 69 69 (.aload_n 0) 1 = true ∧ dq 69 70 (.getfield 29) 3 = true ∧ dq 69 73 (.arraylength) 1 = true ∧ dq 69 74 (.if_icmp .ge 40) 3 = true ∧ dq 69 77 (.aload_n 0) 1 = true ∧ dq 69 78 (.getfield 19) 3 = true ∧ dq 69 81 (.iload 6) 2 = true ∧ dq 69 83 (.iaload) 1 = true ∧ dq 69 84 (.ifCond .le 30) 3 = true ∧ dq 69 87 (.aload_n 0) 1 = true ∧ dq 69 88 (.getfield 29) 3 = true := by decide +kernel
theorem dX6_workOutHour_58 : decode (mB 69) 58 = .ok (.iload 5, 2) := dqo gX6_workOutHour_58.1
theorem dX6_workOutHour_60 : decode (mB 69) 60 = .ok (.iload 6, 2) := dqo gX6_workOutHour_58.2.1
theorem dX6_workOutHour_62 : decode (mB 69) 62 = .ok (.invokestatic 94, 3) := dqo gX6_workOutHour_58.2.2.1
theorem dX6_workOutHour_65 : decode (mB 69) 65 = .ok (.istore 7, 2) := dqo gX6_workOutHour_58.2.2.2.1
theorem dX6_workOutHour_67 : decode (mB 69) 67 = .ok (.iload 7, 2) := dqo gX6_workOutHour_58.2.2.2.2.1
theorem dX6_workOutHour_69 : decode (mB 69) 69 = .ok (.aload_n 0, 1) := dqo gX6_workOutHour_58.2.2.2.2.2.1
theorem dX6_workOutHour_70 : decode (mB 69) 70 = .ok (.getfield 29, 3) := dqo gX6_workOutHour_58.2.2.2.2.2.2.1
theorem dX6_workOutHour_73 : decode (mB 69) 73 = .ok (.arraylength, 1) := dqo gX6_workOutHour_58.2.2.2.2.2.2.2.1
theorem dX6_workOutHour_74 : decode (mB 69) 74 = .ok (.if_icmp .ge 40, 3) := dqo gX6_workOutHour_58.2.2.2.2.2.2.2.2.1
theorem dX6_workOutHour_77 : decode (mB 69) 77 = .ok (.aload_n 0, 1) := dqo gX6_workOutHour_58.2.2.2.2.2.2.2.2.2.1
theorem dX6_workOutHour_78 : decode (mB 69) 78 = .ok (.getfield 19, 3) := dqo gX6_workOutHour_58.2.2.2.2.2.2.2.2.2.2.1
theorem dX6_workOutHour_81 : decode (mB 69) 81 = .ok (.iload 6, 2) := dqo gX6_workOutHour_58.2.2.2.2.2.2.2.2.2.2.2.1
theorem dX6_workOutHour_83 : decode (mB 69) 83 = .ok (.iaload, 1) := dqo gX6_workOutHour_58.2.2.2.2.2.2.2.2.2.2.2.2.1
theorem dX6_workOutHour_84 : decode (mB 69) 84 = .ok (.ifCond .le 30, 3) := dqo gX6_workOutHour_58.2.2.2.2.2.2.2.2.2.2.2.2.2.1
theorem dX6_workOutHour_87 : decode (mB 69) 87 = .ok (.aload_n 0, 1) := dqo gX6_workOutHour_58.2.2.2.2.2.2.2.2.2.2.2.2.2.2.1
theorem dX6_workOutHour_88 : decode (mB 69) 88 = .ok (.getfield 29, 3) := dqo gX6_workOutHour_58.2.2.2.2.2.2.2.2.2.2.2.2.2.2.2
theorem gX6_workOutHour_91 : dq 69 91 (.iload 7) 2 = true ∧ dq 69 93 (.aload_n 0) 1 = true ∧ dq 69 94 (.getfield 15) 3 = true ∧ dq 69 97 (.aload_n 0) 1 = true ∧ dq 69 98 (.getfield 37) 3 = true ∧ dq 69 101 (.iload_n 3) 1 = true ∧ dq 69 102 (.iload 4) 2 = true ∧ dq 69 104 (.iload 5) 2 = true ∧ dq 69 106 (.iadd) 1 = true ∧ dq 69 107 (.iload 6) 2 = true ∧ dq 69 109 (.iload_n 2) 1 = true ∧ dq 69 110 (.invokevirtual 98) 3 = true ∧ dq 69 113 (.iastore) 1 = true ∧ dq 69 114 (.iinc 6 1) 3 = true ∧ dq 69 117 (.goto (-67)) 3 = true ∧ dq 69 120 (.iinc 5 1) 3 = true := by decide +kernel
theorem dX6_workOutHour_91 : decode (mB 69) 91 = .ok (.iload 7, 2) := dqo gX6_workOutHour_91.1
theorem dX6_workOutHour_93 : decode (mB 69) 93 = .ok (.aload_n 0, 1) := dqo gX6_workOutHour_91.2.1
theorem dX6_workOutHour_94 : decode (mB 69) 94 = .ok (.getfield 15, 3) := dqo gX6_workOutHour_91.2.2.1
theorem dX6_workOutHour_97 : decode (mB 69) 97 = .ok (.aload_n 0, 1) := dqo gX6_workOutHour_91.2.2.2.1
theorem dX6_workOutHour_98 : decode (mB 69) 98 = .ok (.getfield 37, 3) := dqo gX6_workOutHour_91.2.2.2.2.1
theorem dX6_workOutHour_101 : decode (mB 69) 101 = .ok (.iload_n 3, 1) := dqo gX6_workOutHour_91.2.2.2.2.2.1
theorem dX6_workOutHour_102 : decode (mB 69) 102 = .ok (.iload 4, 2) := dqo gX6_workOutHour_91.2.2.2.2.2.2.1
theorem dX6_workOutHour_104 : decode (mB 69) 104 = .ok (.iload 5, 2) := dqo gX6_workOutHour_91.2.2.2.2.2.2.2.1
theorem dX6_workOutHour_106 : decode (mB 69) 106 = .ok (.iadd, 1) := dqo gX6_workOutHour_91.2.2.2.2.2.2.2.2.1
theorem dX6_workOutHour_107 : decode (mB 69) 107 = .ok (.iload 6, 2) := dqo gX6_workOutHour_91.2.2.2.2.2.2.2.2.2.1
theorem dX6_workOutHour_109 : decode (mB 69) 109 = .ok (.iload_n 2, 1) := dqo gX6_workOutHour_91.2.2.2.2.2.2.2.2.2.2.1
theorem dX6_workOutHour_110 : decode (mB 69) 110 = .ok (.invokevirtual 98, 3) := dqo gX6_workOutHour_91.2.2.2.2.2.2.2.2.2.2.2.1
theorem dX6_workOutHour_113 : decode (mB 69) 113 = .ok (.iastore, 1) := dqo gX6_workOutHour_91.2.2.2.2.2.2.2.2.2.2.2.2.1
theorem dX6_workOutHour_114 : decode (mB 69) 114 = .ok (.iinc 6 1, 3) := dqo gX6_workOutHour_91.2.2.2.2.2.2.2.2.2.2.2.2.2.1
theorem dX6_workOutHour_117 : decode (mB 69) 117 = .ok (.goto (-67), 3) := dqo gX6_workOutHour_91.2.2.2.2.2.2.2.2.2.2.2.2.2.2.1
theorem dX6_workOutHour_120 : decode (mB 69) 120 = .ok (.iinc 5 1, 3) := dqo gX6_workOutHour_91.2.2.2.2.2.2.2.2.2.2.2.2.2.2.2
theorem gX6_workOutHour_123 : dq 69 123 (.goto (-82)) 3 = true ∧ dq 69 126 (.iinc 3 1) 3 = true ∧ dq 69 129 (.goto (-112)) 3 = true ∧ dq 69 132 (.return_) 1 = true := by decide +kernel
theorem dX6_workOutHour_123 : decode (mB 69) 123 = .ok (.goto (-82), 3) := dqo gX6_workOutHour_123.1
theorem dX6_workOutHour_126 : decode (mB 69) 126 = .ok (.iinc 3 1, 3) := dqo gX6_workOutHour_123.2.1
theorem dX6_workOutHour_129 : decode (mB 69) 129 = .ok (.goto (-112), 3) := dqo gX6_workOutHour_123.2.2.1
theorem dX6_workOutHour_132 : decode (mB 69) 132 = .ok (.return_, 1) := dqo gX6_workOutHour_123.2.2.2
theorem gX6_placeOf_0 : dq 70 0 (.iload_n 0) 1 = true ∧ dq 70 1 (.bipush 6) 2 = true ∧ dq 70 3 (.imul) 1 = true ∧ dq 70 4 (.iload_n 1) 1 = true ∧ dq 70 5 (.iadd) 1 = true ∧ dq 70 6 (.iconst 3) 1 = true ∧ dq 70 7 (.imul) 1 = true ∧ dq 70 8 (.iload_n 2) 1 = true ∧ dq 70 9 (.iadd) 1 = true ∧ dq 70 10 (.iconst 4) 1 = true ∧ dq 70 11 (.imul) 1 = true ∧ dq 70 12 (.iload_n 3) 1 = true ∧ dq 70 13 (.iadd) 1 = true ∧ dq 70 14 (.ireturn) 1 = true := by decide +kernel
theorem dX6_placeOf_0 : decode (mB 70) 0 = .ok (.iload_n 0, 1) := dqo gX6_placeOf_0.1
theorem dX6_placeOf_1 : decode (mB 70) 1 = .ok (.bipush 6, 2) := dqo gX6_placeOf_0.2.1
theorem dX6_placeOf_3 : decode (mB 70) 3 = .ok (.imul, 1) := dqo gX6_placeOf_0.2.2.1
theorem dX6_placeOf_4 : decode (mB 70) 4 = .ok (.iload_n 1, 1) := dqo gX6_placeOf_0.2.2.2.1
theorem dX6_placeOf_5 : decode (mB 70) 5 = .ok (.iadd, 1) := dqo gX6_placeOf_0.2.2.2.2.1
theorem dX6_placeOf_6 : decode (mB 70) 6 = .ok (.iconst 3, 1) := dqo gX6_placeOf_0.2.2.2.2.2.1
theorem dX6_placeOf_7 : decode (mB 70) 7 = .ok (.imul, 1) := dqo gX6_placeOf_0.2.2.2.2.2.2.1
theorem dX6_placeOf_8 : decode (mB 70) 8 = .ok (.iload_n 2, 1) := dqo gX6_placeOf_0.2.2.2.2.2.2.2.1
theorem dX6_placeOf_9 : decode (mB 70) 9 = .ok (.iadd, 1) := dqo gX6_placeOf_0.2.2.2.2.2.2.2.2.1
theorem dX6_placeOf_10 : decode (mB 70) 10 = .ok (.iconst 4, 1) := dqo gX6_placeOf_0.2.2.2.2.2.2.2.2.2.1
theorem dX6_placeOf_11 : decode (mB 70) 11 = .ok (.imul, 1) := dqo gX6_placeOf_0.2.2.2.2.2.2.2.2.2.2.1
theorem dX6_placeOf_12 : decode (mB 70) 12 = .ok (.iload_n 3, 1) := dqo gX6_placeOf_0.2.2.2.2.2.2.2.2.2.2.2.1
theorem dX6_placeOf_13 : decode (mB 70) 13 = .ok (.iadd, 1) := dqo gX6_placeOf_0.2.2.2.2.2.2.2.2.2.2.2.2.1
theorem dX6_placeOf_14 : decode (mB 70) 14 = .ok (.ireturn, 1) := dqo gX6_placeOf_0.2.2.2.2.2.2.2.2.2.2.2.2.2
theorem gX6_oddsThen_0 : dq 71 0 (.iload_n 1) 1 = true ∧ dq 71 1 (.iload_n 3) 1 = true ∧ dq 71 2 (.aload_n 0) 1 = true ∧ dq 71 3 (.getfield 26) 3 = true ∧ dq 71 6 (.iload_n 3) 1 = true ∧ dq 71 7 (.iaload) 1 = true ∧ dq 71 8 (.iload_n 2) 1 = true ∧ dq 71 9 (.invokestatic 94) 3 = true ∧ dq 71 12 (.istore 4) 2 = true ∧ dq 71 14 (.aload_n 0) 1 = true ∧ dq 71 15 (.getfield 19) 3 = true ∧ dq 71 18 (.iload_n 2) 1 = true ∧ dq 71 19 (.iaload) 1 = true ∧ dq 71 20 (.ifCond .le 28) 3 = true ∧ dq 71 23 (.iload 4) 2 = true ∧ dq 71 25 (.ifCond .lt 23) 3 = true := by decide +kernel
theorem dX6_oddsThen_0 : decode (mB 71) 0 = .ok (.iload_n 1, 1) := dqo gX6_oddsThen_0.1
theorem dX6_oddsThen_1 : decode (mB 71) 1 = .ok (.iload_n 3, 1) := dqo gX6_oddsThen_0.2.1
theorem dX6_oddsThen_2 : decode (mB 71) 2 = .ok (.aload_n 0, 1) := dqo gX6_oddsThen_0.2.2.1
theorem dX6_oddsThen_3 : decode (mB 71) 3 = .ok (.getfield 26, 3) := dqo gX6_oddsThen_0.2.2.2.1
theorem dX6_oddsThen_6 : decode (mB 71) 6 = .ok (.iload_n 3, 1) := dqo gX6_oddsThen_0.2.2.2.2.1
theorem dX6_oddsThen_7 : decode (mB 71) 7 = .ok (.iaload, 1) := dqo gX6_oddsThen_0.2.2.2.2.2.1
theorem dX6_oddsThen_8 : decode (mB 71) 8 = .ok (.iload_n 2, 1) := dqo gX6_oddsThen_0.2.2.2.2.2.2.1
theorem dX6_oddsThen_9 : decode (mB 71) 9 = .ok (.invokestatic 94, 3) := dqo gX6_oddsThen_0.2.2.2.2.2.2.2.1
theorem dX6_oddsThen_12 : decode (mB 71) 12 = .ok (.istore 4, 2) := dqo gX6_oddsThen_0.2.2.2.2.2.2.2.2.1
theorem dX6_oddsThen_14 : decode (mB 71) 14 = .ok (.aload_n 0, 1) := dqo gX6_oddsThen_0.2.2.2.2.2.2.2.2.2.1
theorem dX6_oddsThen_15 : decode (mB 71) 15 = .ok (.getfield 19, 3) := dqo gX6_oddsThen_0.2.2.2.2.2.2.2.2.2.2.1
theorem dX6_oddsThen_18 : decode (mB 71) 18 = .ok (.iload_n 2, 1) := dqo gX6_oddsThen_0.2.2.2.2.2.2.2.2.2.2.2.1
theorem dX6_oddsThen_19 : decode (mB 71) 19 = .ok (.iaload, 1) := dqo gX6_oddsThen_0.2.2.2.2.2.2.2.2.2.2.2.2.1
theorem dX6_oddsThen_20 : decode (mB 71) 20 = .ok (.ifCond .le 28, 3) := dqo gX6_oddsThen_0.2.2.2.2.2.2.2.2.2.2.2.2.2.1
theorem dX6_oddsThen_23 : decode (mB 71) 23 = .ok (.iload 4, 2) := dqo gX6_oddsThen_0.2.2.2.2.2.2.2.2.2.2.2.2.2.2.1
theorem dX6_oddsThen_25 : decode (mB 71) 25 = .ok (.ifCond .lt 23, 3) := dqo gX6_oddsThen_0.2.2.2.2.2.2.2.2.2.2.2.2.2.2.2
theorem gX6_oddsThen_28 : dq 71 28 (.iload 4) 2 = true ∧ dq 71 30 (.aload_n 0) 1 = true ∧ dq 71 31 (.getfield 29) 3 = true ∧ dq 71 34 (.arraylength) 1 = true ∧ dq 71 35 (.if_icmp .ge 13) 3 = true ∧ dq 71 38 (.aload_n 0) 1 = true ∧ dq 71 39 (.getfield 29) 3 = true ∧ dq 71 42 (.iload 4) 2 = true ∧ dq 71 44 (.iaload) 1 = true ∧ dq 71 45 (.goto 4) 3 = true ∧ dq 71 48 (.iconst 0) 1 = true ∧ dq 71 49 (.ireturn) 1 = true := by decide +kernel
theorem dX6_oddsThen_28 : decode (mB 71) 28 = .ok (.iload 4, 2) := dqo gX6_oddsThen_28.1
theorem dX6_oddsThen_30 : decode (mB 71) 30 = .ok (.aload_n 0, 1) := dqo gX6_oddsThen_28.2.1
theorem dX6_oddsThen_31 : decode (mB 71) 31 = .ok (.getfield 29, 3) := dqo gX6_oddsThen_28.2.2.1
theorem dX6_oddsThen_34 : decode (mB 71) 34 = .ok (.arraylength, 1) := dqo gX6_oddsThen_28.2.2.2.1
theorem dX6_oddsThen_35 : decode (mB 71) 35 = .ok (.if_icmp .ge 13, 3) := dqo gX6_oddsThen_28.2.2.2.2.1
theorem dX6_oddsThen_38 : decode (mB 71) 38 = .ok (.aload_n 0, 1) := dqo gX6_oddsThen_28.2.2.2.2.2.1
theorem dX6_oddsThen_39 : decode (mB 71) 39 = .ok (.getfield 29, 3) := dqo gX6_oddsThen_28.2.2.2.2.2.2.1
theorem dX6_oddsThen_42 : decode (mB 71) 42 = .ok (.iload 4, 2) := dqo gX6_oddsThen_28.2.2.2.2.2.2.2.1
theorem dX6_oddsThen_44 : decode (mB 71) 44 = .ok (.iaload, 1) := dqo gX6_oddsThen_28.2.2.2.2.2.2.2.2.1
theorem dX6_oddsThen_45 : decode (mB 71) 45 = .ok (.goto 4, 3) := dqo gX6_oddsThen_28.2.2.2.2.2.2.2.2.2.1
theorem dX6_oddsThen_48 : decode (mB 71) 48 = .ok (.iconst 0, 1) := dqo gX6_oddsThen_28.2.2.2.2.2.2.2.2.2.2.1
theorem dX6_oddsThen_49 : decode (mB 71) 49 = .ok (.ireturn, 1) := dqo gX6_oddsThen_28.2.2.2.2.2.2.2.2.2.2.2
theorem gX6_freeAtBest_0 : dq 72 0 (.aload_n 0) 1 = true ∧ dq 72 1 (.getfield 48) 3 = true ∧ dq 72 4 (.ifCond .ne 7) 3 = true ∧ dq 72 7 (.iconst 1) 1 = true ∧ dq 72 8 (.goto 9) 3 = true ∧ dq 72 11 (.aload_n 0) 1 = true ∧ dq 72 12 (.iconst 0) 1 = true ∧ dq 72 13 (.iconst 0) 1 = true ∧ dq 72 14 (.invokestatic 102) 3 = true ∧ dq 72 17 (.ireturn) 1 = true := by decide +kernel
theorem dX6_freeAtBest_0 : decode (mB 72) 0 = .ok (.aload_n 0, 1) := dqo gX6_freeAtBest_0.1
theorem dX6_freeAtBest_1 : decode (mB 72) 1 = .ok (.getfield 48, 3) := dqo gX6_freeAtBest_0.2.1
theorem dX6_freeAtBest_4 : decode (mB 72) 4 = .ok (.ifCond .ne 7, 3) := dqo gX6_freeAtBest_0.2.2.1
theorem dX6_freeAtBest_7 : decode (mB 72) 7 = .ok (.iconst 1, 1) := dqo gX6_freeAtBest_0.2.2.2.1
theorem dX6_freeAtBest_8 : decode (mB 72) 8 = .ok (.goto 9, 3) := dqo gX6_freeAtBest_0.2.2.2.2.1
theorem dX6_freeAtBest_11 : decode (mB 72) 11 = .ok (.aload_n 0, 1) := dqo gX6_freeAtBest_0.2.2.2.2.2.1
theorem dX6_freeAtBest_12 : decode (mB 72) 12 = .ok (.iconst 0, 1) := dqo gX6_freeAtBest_0.2.2.2.2.2.2.1
theorem dX6_freeAtBest_13 : decode (mB 72) 13 = .ok (.iconst 0, 1) := dqo gX6_freeAtBest_0.2.2.2.2.2.2.2.1
theorem dX6_freeAtBest_14 : decode (mB 72) 14 = .ok (.invokestatic 102, 3) := dqo gX6_freeAtBest_0.2.2.2.2.2.2.2.2.1
theorem dX6_freeAtBest_17 : decode (mB 72) 17 = .ok (.ireturn, 1) := dqo gX6_freeAtBest_0.2.2.2.2.2.2.2.2.2
theorem gX6_freeAtMost_0 : dq 73 0 (.iconst 1) 1 = true ∧ dq 73 1 (.aload_n 0) 1 = true ∧ dq 73 2 (.getfield 48) 3 = true ∧ dq 73 5 (.invokestatic 106) 3 = true ∧ dq 73 8 (.istore_n 1) 1 = true ∧ dq 73 9 (.iconst 0) 1 = true ∧ dq 73 10 (.istore_n 2) 1 = true ∧ dq 73 11 (.iload_n 2) 1 = true ∧ dq 73 12 (.aload_n 0) 1 = true ∧ dq 73 13 (.getfield 41) 3 = true ∧ dq 73 16 (.if_icmp .ge 21) 3 = true ∧ dq 73 19 (.aload_n 0) 1 = true ∧ dq 73 20 (.getfield 48) 3 = true ∧ dq 73 23 (.ifCond .le 14) 3 = true ∧ dq 73 26 (.iload_n 1) 1 = true ∧ dq 73 27 (.bipush 12) 2 = true := by decide +kernel
theorem dX6_freeAtMost_0 : decode (mB 73) 0 = .ok (.iconst 1, 1) := dqo gX6_freeAtMost_0.1
theorem dX6_freeAtMost_1 : decode (mB 73) 1 = .ok (.aload_n 0, 1) := dqo gX6_freeAtMost_0.2.1
theorem dX6_freeAtMost_2 : decode (mB 73) 2 = .ok (.getfield 48, 3) := dqo gX6_freeAtMost_0.2.2.1
theorem dX6_freeAtMost_5 : decode (mB 73) 5 = .ok (.invokestatic 106, 3) := dqo gX6_freeAtMost_0.2.2.2.1
theorem dX6_freeAtMost_8 : decode (mB 73) 8 = .ok (.istore_n 1, 1) := dqo gX6_freeAtMost_0.2.2.2.2.1
theorem dX6_freeAtMost_9 : decode (mB 73) 9 = .ok (.iconst 0, 1) := dqo gX6_freeAtMost_0.2.2.2.2.2.1
theorem dX6_freeAtMost_10 : decode (mB 73) 10 = .ok (.istore_n 2, 1) := dqo gX6_freeAtMost_0.2.2.2.2.2.2.1
theorem dX6_freeAtMost_11 : decode (mB 73) 11 = .ok (.iload_n 2, 1) := dqo gX6_freeAtMost_0.2.2.2.2.2.2.2.1
theorem dX6_freeAtMost_12 : decode (mB 73) 12 = .ok (.aload_n 0, 1) := dqo gX6_freeAtMost_0.2.2.2.2.2.2.2.2.1
theorem dX6_freeAtMost_13 : decode (mB 73) 13 = .ok (.getfield 41, 3) := dqo gX6_freeAtMost_0.2.2.2.2.2.2.2.2.2.1
theorem dX6_freeAtMost_16 : decode (mB 73) 16 = .ok (.if_icmp .ge 21, 3) := dqo gX6_freeAtMost_0.2.2.2.2.2.2.2.2.2.2.1
theorem dX6_freeAtMost_19 : decode (mB 73) 19 = .ok (.aload_n 0, 1) := dqo gX6_freeAtMost_0.2.2.2.2.2.2.2.2.2.2.2.1
theorem dX6_freeAtMost_20 : decode (mB 73) 20 = .ok (.getfield 48, 3) := dqo gX6_freeAtMost_0.2.2.2.2.2.2.2.2.2.2.2.2.1
theorem dX6_freeAtMost_23 : decode (mB 73) 23 = .ok (.ifCond .le 14, 3) := dqo gX6_freeAtMost_0.2.2.2.2.2.2.2.2.2.2.2.2.2.1
theorem dX6_freeAtMost_26 : decode (mB 73) 26 = .ok (.iload_n 1, 1) := dqo gX6_freeAtMost_0.2.2.2.2.2.2.2.2.2.2.2.2.2.2.1
theorem dX6_freeAtMost_27 : decode (mB 73) 27 = .ok (.bipush 12, 2) := dqo gX6_freeAtMost_0.2.2.2.2.2.2.2.2.2.2.2.2.2.2.2
theorem gX6_freeAtMost_29 : dq 73 29 (.imul) 1 = true ∧ dq 73 30 (.istore_n 1) 1 = true ∧ dq 73 31 (.iinc 2 1) 3 = true ∧ dq 73 34 (.goto (-23)) 3 = true ∧ dq 73 37 (.iload_n 1) 1 = true ∧ dq 73 38 (.ireturn) 1 = true := by decide +kernel
theorem dX6_freeAtMost_29 : decode (mB 73) 29 = .ok (.imul, 1) := dqo gX6_freeAtMost_29.1
theorem dX6_freeAtMost_30 : decode (mB 73) 30 = .ok (.istore_n 1, 1) := dqo gX6_freeAtMost_29.2.1
theorem dX6_freeAtMost_31 : decode (mB 73) 31 = .ok (.iinc 2 1, 3) := dqo gX6_freeAtMost_29.2.2.1
theorem dX6_freeAtMost_34 : decode (mB 73) 34 = .ok (.goto (-23), 3) := dqo gX6_freeAtMost_29.2.2.2.1
theorem dX6_freeAtMost_37 : decode (mB 73) 37 = .ok (.iload_n 1, 1) := dqo gX6_freeAtMost_29.2.2.2.2.1
theorem dX6_freeAtMost_38 : decode (mB 73) 38 = .ok (.ireturn, 1) := dqo gX6_freeAtMost_29.2.2.2.2.2
theorem gX6_best_0 : dq 74 0 (.iload_n 1) 1 = true ∧ dq 74 1 (.aload_n 0) 1 = true ∧ dq 74 2 (.getfield 41) 3 = true ∧ dq 74 5 (.if_icmp .ge 8) 3 = true ∧ dq 74 8 (.iload_n 1) 1 = true ∧ dq 74 9 (.iconst 3) 1 = true ∧ dq 74 10 (.if_icmp .lt 10) 3 = true ∧ dq 74 13 (.aload_n 0) 1 = true ∧ dq 74 14 (.getfield 54) 3 = true ∧ dq 74 17 (.iload_n 2) 1 = true ∧ dq 74 18 (.iadd) 1 = true ∧ dq 74 19 (.ireturn) 1 = true ∧ dq 74 20 (.aload_n 0) 1 = true ∧ dq 74 21 (.iload_n 1) 1 = true ∧ dq 74 22 (.iconst 1) 1 = true ∧ dq 74 23 (.iadd) 1 = true := by decide +kernel
theorem dX6_best_0 : decode (mB 74) 0 = .ok (.iload_n 1, 1) := dqo gX6_best_0.1
theorem dX6_best_1 : decode (mB 74) 1 = .ok (.aload_n 0, 1) := dqo gX6_best_0.2.1
theorem dX6_best_2 : decode (mB 74) 2 = .ok (.getfield 41, 3) := dqo gX6_best_0.2.2.1
theorem dX6_best_5 : decode (mB 74) 5 = .ok (.if_icmp .ge 8, 3) := dqo gX6_best_0.2.2.2.1
theorem dX6_best_8 : decode (mB 74) 8 = .ok (.iload_n 1, 1) := dqo gX6_best_0.2.2.2.2.1
theorem dX6_best_9 : decode (mB 74) 9 = .ok (.iconst 3, 1) := dqo gX6_best_0.2.2.2.2.2.1
theorem dX6_best_10 : decode (mB 74) 10 = .ok (.if_icmp .lt 10, 3) := dqo gX6_best_0.2.2.2.2.2.2.1
theorem dX6_best_13 : decode (mB 74) 13 = .ok (.aload_n 0, 1) := dqo gX6_best_0.2.2.2.2.2.2.2.1
theorem dX6_best_14 : decode (mB 74) 14 = .ok (.getfield 54, 3) := dqo gX6_best_0.2.2.2.2.2.2.2.2.1
theorem dX6_best_17 : decode (mB 74) 17 = .ok (.iload_n 2, 1) := dqo gX6_best_0.2.2.2.2.2.2.2.2.2.1
theorem dX6_best_18 : decode (mB 74) 18 = .ok (.iadd, 1) := dqo gX6_best_0.2.2.2.2.2.2.2.2.2.2.1
theorem dX6_best_19 : decode (mB 74) 19 = .ok (.ireturn, 1) := dqo gX6_best_0.2.2.2.2.2.2.2.2.2.2.2.1
theorem dX6_best_20 : decode (mB 74) 20 = .ok (.aload_n 0, 1) := dqo gX6_best_0.2.2.2.2.2.2.2.2.2.2.2.2.1
theorem dX6_best_21 : decode (mB 74) 21 = .ok (.iload_n 1, 1) := dqo gX6_best_0.2.2.2.2.2.2.2.2.2.2.2.2.2.1
theorem dX6_best_22 : decode (mB 74) 22 = .ok (.iconst 1, 1) := dqo gX6_best_0.2.2.2.2.2.2.2.2.2.2.2.2.2.2.1
theorem dX6_best_23 : decode (mB 74) 23 = .ok (.iadd, 1) := dqo gX6_best_0.2.2.2.2.2.2.2.2.2.2.2.2.2.2.2
theorem gX6_best_24 : dq 74 24 (.iload_n 2) 1 = true ∧ dq 74 25 (.invokestatic 102) 3 = true ∧ dq 74 28 (.istore_n 3) 1 = true ∧ dq 74 29 (.bipush 12) 2 = true ∧ dq 74 31 (.iload_n 3) 1 = true ∧ dq 74 32 (.imul) 1 = true ∧ dq 74 33 (.istore 4) 2 = true ∧ dq 74 35 (.iconst 0) 1 = true ∧ dq 74 36 (.istore 5) 2 = true ∧ dq 74 38 (.iload 5) 2 = true ∧ dq 74 40 (.iconst 4) 1 = true ∧ dq 74 41 (.if_icmp .ge 48) 3 = true ∧ dq 74 44 (.iconst 0) 1 = true ∧ dq 74 45 (.istore 6) 2 = true ∧ dq 74 47 (.iload 6) 2 = true ∧ dq 74 49 (.aload_n 0) 1 = true := by decide +kernel
theorem dX6_best_24 : decode (mB 74) 24 = .ok (.iload_n 2, 1) := dqo gX6_best_24.1
theorem dX6_best_25 : decode (mB 74) 25 = .ok (.invokestatic 102, 3) := dqo gX6_best_24.2.1
theorem dX6_best_28 : decode (mB 74) 28 = .ok (.istore_n 3, 1) := dqo gX6_best_24.2.2.1
theorem dX6_best_29 : decode (mB 74) 29 = .ok (.bipush 12, 2) := dqo gX6_best_24.2.2.2.1
theorem dX6_best_31 : decode (mB 74) 31 = .ok (.iload_n 3, 1) := dqo gX6_best_24.2.2.2.2.1
theorem dX6_best_32 : decode (mB 74) 32 = .ok (.imul, 1) := dqo gX6_best_24.2.2.2.2.2.1
theorem dX6_best_33 : decode (mB 74) 33 = .ok (.istore 4, 2) := dqo gX6_best_24.2.2.2.2.2.2.1
theorem dX6_best_35 : decode (mB 74) 35 = .ok (.iconst 0, 1) := dqo gX6_best_24.2.2.2.2.2.2.2.1
theorem dX6_best_36 : decode (mB 74) 36 = .ok (.istore 5, 2) := dqo gX6_best_24.2.2.2.2.2.2.2.2.1
theorem dX6_best_38 : decode (mB 74) 38 = .ok (.iload 5, 2) := dqo gX6_best_24.2.2.2.2.2.2.2.2.2.1
theorem dX6_best_40 : decode (mB 74) 40 = .ok (.iconst 4, 1) := dqo gX6_best_24.2.2.2.2.2.2.2.2.2.2.1
theorem dX6_best_41 : decode (mB 74) 41 = .ok (.if_icmp .ge 48, 3) := dqo gX6_best_24.2.2.2.2.2.2.2.2.2.2.2.1
theorem dX6_best_44 : decode (mB 74) 44 = .ok (.iconst 0, 1) := dqo gX6_best_24.2.2.2.2.2.2.2.2.2.2.2.2.1
theorem dX6_best_45 : decode (mB 74) 45 = .ok (.istore 6, 2) := dqo gX6_best_24.2.2.2.2.2.2.2.2.2.2.2.2.2.1
theorem dX6_best_47 : decode (mB 74) 47 = .ok (.iload 6, 2) := dqo gX6_best_24.2.2.2.2.2.2.2.2.2.2.2.2.2.2.1
theorem dX6_best_49 : decode (mB 74) 49 = .ok (.aload_n 0, 1) := dqo gX6_best_24.2.2.2.2.2.2.2.2.2.2.2.2.2.2.2
theorem gX6_best_50 : dq 74 50 (.getfield 9) 3 = true ∧ dq 74 53 (.invokevirtual 88) 3 = true ∧ dq 74 56 (.if_icmp .ge 27) 3 = true ∧ dq 74 59 (.iload 4) 2 = true ∧ dq 74 61 (.aload_n 0) 1 = true ∧ dq 74 62 (.iload_n 1) 1 = true ∧ dq 74 63 (.iload_n 2) 1 = true ∧ dq 74 64 (.iload 5) 2 = true ∧ dq 74 66 (.iload 6) 2 = true ∧ dq 74 68 (.iload_n 3) 1 = true ∧ dq 74 69 (.invokestatic 109) 3 = true ∧ dq 74 72 (.invokestatic 106) 3 = true ∧ dq 74 75 (.istore 4) 2 = true ∧ dq 74 77 (.iinc 6 1) 3 = true ∧ dq 74 80 (.goto (-33)) 3 = true ∧ dq 74 83 (.iinc 5 1) 3 = true := by decide +kernel
theorem dX6_best_50 : decode (mB 74) 50 = .ok (.getfield 9, 3) := dqo gX6_best_50.1
theorem dX6_best_53 : decode (mB 74) 53 = .ok (.invokevirtual 88, 3) := dqo gX6_best_50.2.1
theorem dX6_best_56 : decode (mB 74) 56 = .ok (.if_icmp .ge 27, 3) := dqo gX6_best_50.2.2.1
theorem dX6_best_59 : decode (mB 74) 59 = .ok (.iload 4, 2) := dqo gX6_best_50.2.2.2.1
theorem dX6_best_61 : decode (mB 74) 61 = .ok (.aload_n 0, 1) := dqo gX6_best_50.2.2.2.2.1
theorem dX6_best_62 : decode (mB 74) 62 = .ok (.iload_n 1, 1) := dqo gX6_best_50.2.2.2.2.2.1
theorem dX6_best_63 : decode (mB 74) 63 = .ok (.iload_n 2, 1) := dqo gX6_best_50.2.2.2.2.2.2.1
theorem dX6_best_64 : decode (mB 74) 64 = .ok (.iload 5, 2) := dqo gX6_best_50.2.2.2.2.2.2.2.1
theorem dX6_best_66 : decode (mB 74) 66 = .ok (.iload 6, 2) := dqo gX6_best_50.2.2.2.2.2.2.2.2.1
theorem dX6_best_68 : decode (mB 74) 68 = .ok (.iload_n 3, 1) := dqo gX6_best_50.2.2.2.2.2.2.2.2.2.1
theorem dX6_best_69 : decode (mB 74) 69 = .ok (.invokestatic 109, 3) := dqo gX6_best_50.2.2.2.2.2.2.2.2.2.2.1
theorem dX6_best_72 : decode (mB 74) 72 = .ok (.invokestatic 106, 3) := dqo gX6_best_50.2.2.2.2.2.2.2.2.2.2.2.1
theorem dX6_best_75 : decode (mB 74) 75 = .ok (.istore 4, 2) := dqo gX6_best_50.2.2.2.2.2.2.2.2.2.2.2.2.1
theorem dX6_best_77 : decode (mB 74) 77 = .ok (.iinc 6 1, 3) := dqo gX6_best_50.2.2.2.2.2.2.2.2.2.2.2.2.2.1
theorem dX6_best_80 : decode (mB 74) 80 = .ok (.goto (-33), 3) := dqo gX6_best_50.2.2.2.2.2.2.2.2.2.2.2.2.2.2.1
theorem dX6_best_83 : decode (mB 74) 83 = .ok (.iinc 5 1, 3) := dqo gX6_best_50.2.2.2.2.2.2.2.2.2.2.2.2.2.2.2
theorem gX6_best_86 : dq 74 86 (.goto (-48)) 3 = true ∧ dq 74 89 (.iload 4) 2 = true ∧ dq 74 91 (.ireturn) 1 = true := by decide +kernel
theorem dX6_best_86 : decode (mB 74) 86 = .ok (.goto (-48), 3) := dqo gX6_best_86.1
theorem dX6_best_89 : decode (mB 74) 89 = .ok (.iload 4, 2) := dqo gX6_best_86.2.1
theorem dX6_best_91 : decode (mB 74) 91 = .ok (.ireturn, 1) := dqo gX6_best_86.2.2
theorem gX6_tried_0 : dq 75 0 (.aload_n 0) 1 = true ∧ dq 75 1 (.iload_n 1) 1 = true ∧ dq 75 2 (.iload_n 3) 1 = true ∧ dq 75 3 (.iload 4) 2 = true ∧ dq 75 5 (.invokevirtual 113) 3 = true ∧ dq 75 8 (.istore 6) 2 = true ∧ dq 75 10 (.iload 6) 2 = true ∧ dq 75 12 (.ifCond .ne 9) 3 = true ∧ dq 75 15 (.bipush 12) 2 = true ∧ dq 75 17 (.iload 5) 2 = true ∧ dq 75 19 (.imul) 1 = true ∧ dq 75 20 (.ireturn) 1 = true ∧ dq 75 21 (.aload_n 0) 1 = true ∧ dq 75 22 (.getfield 19) 3 = true ∧ dq 75 25 (.iload_n 3) 1 = true ∧ dq 75 26 (.dup2) 1 = true := by decide +kernel
theorem dX6_tried_0 : decode (mB 75) 0 = .ok (.aload_n 0, 1) := dqo gX6_tried_0.1
theorem dX6_tried_1 : decode (mB 75) 1 = .ok (.iload_n 1, 1) := dqo gX6_tried_0.2.1
theorem dX6_tried_2 : decode (mB 75) 2 = .ok (.iload_n 3, 1) := dqo gX6_tried_0.2.2.1
theorem dX6_tried_3 : decode (mB 75) 3 = .ok (.iload 4, 2) := dqo gX6_tried_0.2.2.2.1
theorem dX6_tried_5 : decode (mB 75) 5 = .ok (.invokevirtual 113, 3) := dqo gX6_tried_0.2.2.2.2.1
theorem dX6_tried_8 : decode (mB 75) 8 = .ok (.istore 6, 2) := dqo gX6_tried_0.2.2.2.2.2.1
theorem dX6_tried_10 : decode (mB 75) 10 = .ok (.iload 6, 2) := dqo gX6_tried_0.2.2.2.2.2.2.1
theorem dX6_tried_12 : decode (mB 75) 12 = .ok (.ifCond .ne 9, 3) := dqo gX6_tried_0.2.2.2.2.2.2.2.1
theorem dX6_tried_15 : decode (mB 75) 15 = .ok (.bipush 12, 2) := dqo gX6_tried_0.2.2.2.2.2.2.2.2.1
theorem dX6_tried_17 : decode (mB 75) 17 = .ok (.iload 5, 2) := dqo gX6_tried_0.2.2.2.2.2.2.2.2.2.1
theorem dX6_tried_19 : decode (mB 75) 19 = .ok (.imul, 1) := dqo gX6_tried_0.2.2.2.2.2.2.2.2.2.2.1
theorem dX6_tried_20 : decode (mB 75) 20 = .ok (.ireturn, 1) := dqo gX6_tried_0.2.2.2.2.2.2.2.2.2.2.2.1
theorem dX6_tried_21 : decode (mB 75) 21 = .ok (.aload_n 0, 1) := dqo gX6_tried_0.2.2.2.2.2.2.2.2.2.2.2.2.1
theorem dX6_tried_22 : decode (mB 75) 22 = .ok (.getfield 19, 3) := dqo gX6_tried_0.2.2.2.2.2.2.2.2.2.2.2.2.2.1
theorem dX6_tried_25 : decode (mB 75) 25 = .ok (.iload_n 3, 1) := dqo gX6_tried_0.2.2.2.2.2.2.2.2.2.2.2.2.2.2.1
theorem dX6_tried_26 : decode (mB 75) 26 = .ok (.dup2, 1) := dqo gX6_tried_0.2.2.2.2.2.2.2.2.2.2.2.2.2.2.2
theorem gX6_tried_27 : dq 75 27 (.iaload) 1 = true ∧ dq 75 28 (.iconst 1) 1 = true ∧ dq 75 29 (.isub) 1 = true ∧ dq 75 30 (.iastore) 1 = true ∧ dq 75 31 (.aload_n 0) 1 = true ∧ dq 75 32 (.getfield 26) 3 = true ∧ dq 75 35 (.iload 4) 2 = true ∧ dq 75 37 (.dup2) 1 = true ∧ dq 75 38 (.iaload) 1 = true ∧ dq 75 39 (.iconst 1) 1 = true ∧ dq 75 40 (.iadd) 1 = true ∧ dq 75 41 (.iastore) 1 = true ∧ dq 75 42 (.aload_n 0) 1 = true ∧ dq 75 43 (.iload_n 1) 1 = true ∧ dq 75 44 (.iconst 1) 1 = true ∧ dq 75 45 (.iadd) 1 = true := by decide +kernel
theorem dX6_tried_27 : decode (mB 75) 27 = .ok (.iaload, 1) := dqo gX6_tried_27.1
theorem dX6_tried_28 : decode (mB 75) 28 = .ok (.iconst 1, 1) := dqo gX6_tried_27.2.1
theorem dX6_tried_29 : decode (mB 75) 29 = .ok (.isub, 1) := dqo gX6_tried_27.2.2.1
theorem dX6_tried_30 : decode (mB 75) 30 = .ok (.iastore, 1) := dqo gX6_tried_27.2.2.2.1
theorem dX6_tried_31 : decode (mB 75) 31 = .ok (.aload_n 0, 1) := dqo gX6_tried_27.2.2.2.2.1
theorem dX6_tried_32 : decode (mB 75) 32 = .ok (.getfield 26, 3) := dqo gX6_tried_27.2.2.2.2.2.1
theorem dX6_tried_35 : decode (mB 75) 35 = .ok (.iload 4, 2) := dqo gX6_tried_27.2.2.2.2.2.2.1
theorem dX6_tried_37 : decode (mB 75) 37 = .ok (.dup2, 1) := dqo gX6_tried_27.2.2.2.2.2.2.2.1
theorem dX6_tried_38 : decode (mB 75) 38 = .ok (.iaload, 1) := dqo gX6_tried_27.2.2.2.2.2.2.2.2.1
theorem dX6_tried_39 : decode (mB 75) 39 = .ok (.iconst 1, 1) := dqo gX6_tried_27.2.2.2.2.2.2.2.2.2.1
theorem dX6_tried_40 : decode (mB 75) 40 = .ok (.iadd, 1) := dqo gX6_tried_27.2.2.2.2.2.2.2.2.2.2.1
theorem dX6_tried_41 : decode (mB 75) 41 = .ok (.iastore, 1) := dqo gX6_tried_27.2.2.2.2.2.2.2.2.2.2.2.1
theorem dX6_tried_42 : decode (mB 75) 42 = .ok (.aload_n 0, 1) := dqo gX6_tried_27.2.2.2.2.2.2.2.2.2.2.2.2.1
theorem dX6_tried_43 : decode (mB 75) 43 = .ok (.iload_n 1, 1) := dqo gX6_tried_27.2.2.2.2.2.2.2.2.2.2.2.2.2.1
theorem dX6_tried_44 : decode (mB 75) 44 = .ok (.iconst 1, 1) := dqo gX6_tried_27.2.2.2.2.2.2.2.2.2.2.2.2.2.2.1
theorem dX6_tried_45 : decode (mB 75) 45 = .ok (.iadd, 1) := dqo gX6_tried_27.2.2.2.2.2.2.2.2.2.2.2.2.2.2.2
theorem gX6_tried_46 : dq 75 46 (.iload_n 2) 1 = true ∧ dq 75 47 (.iconst 1) 1 = true ∧ dq 75 48 (.iadd) 1 = true ∧ dq 75 49 (.invokestatic 102) 3 = true ∧ dq 75 52 (.istore 7) 2 = true ∧ dq 75 54 (.aload_n 0) 1 = true ∧ dq 75 55 (.getfield 19) 3 = true ∧ dq 75 58 (.iload_n 3) 1 = true ∧ dq 75 59 (.dup2) 1 = true ∧ dq 75 60 (.iaload) 1 = true ∧ dq 75 61 (.iconst 1) 1 = true ∧ dq 75 62 (.iadd) 1 = true ∧ dq 75 63 (.iastore) 1 = true ∧ dq 75 64 (.aload_n 0) 1 = true ∧ dq 75 65 (.getfield 26) 3 = true ∧ dq 75 68 (.iload 4) 2 = true := by decide +kernel
theorem dX6_tried_46 : decode (mB 75) 46 = .ok (.iload_n 2, 1) := dqo gX6_tried_46.1
theorem dX6_tried_47 : decode (mB 75) 47 = .ok (.iconst 1, 1) := dqo gX6_tried_46.2.1
theorem dX6_tried_48 : decode (mB 75) 48 = .ok (.iadd, 1) := dqo gX6_tried_46.2.2.1
theorem dX6_tried_49 : decode (mB 75) 49 = .ok (.invokestatic 102, 3) := dqo gX6_tried_46.2.2.2.1
theorem dX6_tried_52 : decode (mB 75) 52 = .ok (.istore 7, 2) := dqo gX6_tried_46.2.2.2.2.1
theorem dX6_tried_54 : decode (mB 75) 54 = .ok (.aload_n 0, 1) := dqo gX6_tried_46.2.2.2.2.2.1
theorem dX6_tried_55 : decode (mB 75) 55 = .ok (.getfield 19, 3) := dqo gX6_tried_46.2.2.2.2.2.2.1
theorem dX6_tried_58 : decode (mB 75) 58 = .ok (.iload_n 3, 1) := dqo gX6_tried_46.2.2.2.2.2.2.2.1
theorem dX6_tried_59 : decode (mB 75) 59 = .ok (.dup2, 1) := dqo gX6_tried_46.2.2.2.2.2.2.2.2.1
theorem dX6_tried_60 : decode (mB 75) 60 = .ok (.iaload, 1) := dqo gX6_tried_46.2.2.2.2.2.2.2.2.2.1
theorem dX6_tried_61 : decode (mB 75) 61 = .ok (.iconst 1, 1) := dqo gX6_tried_46.2.2.2.2.2.2.2.2.2.2.1
theorem dX6_tried_62 : decode (mB 75) 62 = .ok (.iadd, 1) := dqo gX6_tried_46.2.2.2.2.2.2.2.2.2.2.2.1
theorem dX6_tried_63 : decode (mB 75) 63 = .ok (.iastore, 1) := dqo gX6_tried_46.2.2.2.2.2.2.2.2.2.2.2.2.1
theorem dX6_tried_64 : decode (mB 75) 64 = .ok (.aload_n 0, 1) := dqo gX6_tried_46.2.2.2.2.2.2.2.2.2.2.2.2.2.1
theorem dX6_tried_65 : decode (mB 75) 65 = .ok (.getfield 26, 3) := dqo gX6_tried_46.2.2.2.2.2.2.2.2.2.2.2.2.2.2.1
theorem dX6_tried_68 : decode (mB 75) 68 = .ok (.iload 4, 2) := dqo gX6_tried_46.2.2.2.2.2.2.2.2.2.2.2.2.2.2.2
theorem gX6_tried_70 : dq 75 70 (.dup2) 1 = true ∧ dq 75 71 (.iaload) 1 = true ∧ dq 75 72 (.iconst 1) 1 = true ∧ dq 75 73 (.isub) 1 = true ∧ dq 75 74 (.iastore) 1 = true ∧ dq 75 75 (.iload 6) 2 = true ∧ dq 75 77 (.iload 7) 2 = true ∧ dq 75 79 (.imul) 1 = true ∧ dq 75 80 (.bipush 12) 2 = true ∧ dq 75 82 (.iload 6) 2 = true ∧ dq 75 84 (.isub) 1 = true ∧ dq 75 85 (.iload 5) 2 = true ∧ dq 75 87 (.imul) 1 = true ∧ dq 75 88 (.iadd) 1 = true ∧ dq 75 89 (.ireturn) 1 = true := by decide +kernel
theorem dX6_tried_70 : decode (mB 75) 70 = .ok (.dup2, 1) := dqo gX6_tried_70.1
theorem dX6_tried_71 : decode (mB 75) 71 = .ok (.iaload, 1) := dqo gX6_tried_70.2.1
theorem dX6_tried_72 : decode (mB 75) 72 = .ok (.iconst 1, 1) := dqo gX6_tried_70.2.2.1
theorem dX6_tried_73 : decode (mB 75) 73 = .ok (.isub, 1) := dqo gX6_tried_70.2.2.2.1
theorem dX6_tried_74 : decode (mB 75) 74 = .ok (.iastore, 1) := dqo gX6_tried_70.2.2.2.2.1
theorem dX6_tried_75 : decode (mB 75) 75 = .ok (.iload 6, 2) := dqo gX6_tried_70.2.2.2.2.2.1
theorem dX6_tried_77 : decode (mB 75) 77 = .ok (.iload 7, 2) := dqo gX6_tried_70.2.2.2.2.2.2.1
theorem dX6_tried_79 : decode (mB 75) 79 = .ok (.imul, 1) := dqo gX6_tried_70.2.2.2.2.2.2.2.1
theorem dX6_tried_80 : decode (mB 75) 80 = .ok (.bipush 12, 2) := dqo gX6_tried_70.2.2.2.2.2.2.2.2.1
theorem dX6_tried_82 : decode (mB 75) 82 = .ok (.iload 6, 2) := dqo gX6_tried_70.2.2.2.2.2.2.2.2.2.1
theorem dX6_tried_84 : decode (mB 75) 84 = .ok (.isub, 1) := dqo gX6_tried_70.2.2.2.2.2.2.2.2.2.2.1
theorem dX6_tried_85 : decode (mB 75) 85 = .ok (.iload 5, 2) := dqo gX6_tried_70.2.2.2.2.2.2.2.2.2.2.2.1
theorem dX6_tried_87 : decode (mB 75) 87 = .ok (.imul, 1) := dqo gX6_tried_70.2.2.2.2.2.2.2.2.2.2.2.2.1
theorem dX6_tried_88 : decode (mB 75) 88 = .ok (.iadd, 1) := dqo gX6_tried_70.2.2.2.2.2.2.2.2.2.2.2.2.2.1
theorem dX6_tried_89 : decode (mB 75) 89 = .ok (.ireturn, 1) := dqo gX6_tried_70.2.2.2.2.2.2.2.2.2.2.2.2.2.2
theorem gX6_firstSlipping_0 : dq 76 0 (.aload_n 0) 1 = true ∧ dq 76 1 (.getfield 41) 3 = true ∧ dq 76 4 (.ifCond .ne 6) 3 = true ∧ dq 76 7 (.bipush (-2)) 2 = true ∧ dq 76 9 (.ireturn) 1 = true ∧ dq 76 10 (.aload_n 0) 1 = true ∧ dq 76 11 (.iconst 1) 1 = true ∧ dq 76 12 (.iconst 0) 1 = true ∧ dq 76 13 (.invokestatic 102) 3 = true ∧ dq 76 16 (.istore_n 1) 1 = true ∧ dq 76 17 (.bipush 12) 2 = true ∧ dq 76 19 (.iload_n 1) 1 = true ∧ dq 76 20 (.imul) 1 = true ∧ dq 76 21 (.istore_n 2) 1 = true ∧ dq 76 22 (.bipush (-2)) 2 = true ∧ dq 76 24 (.istore_n 3) 1 = true := by decide +kernel
theorem dX6_firstSlipping_0 : decode (mB 76) 0 = .ok (.aload_n 0, 1) := dqo gX6_firstSlipping_0.1
theorem dX6_firstSlipping_1 : decode (mB 76) 1 = .ok (.getfield 41, 3) := dqo gX6_firstSlipping_0.2.1
theorem dX6_firstSlipping_4 : decode (mB 76) 4 = .ok (.ifCond .ne 6, 3) := dqo gX6_firstSlipping_0.2.2.1
theorem dX6_firstSlipping_7 : decode (mB 76) 7 = .ok (.bipush (-2), 2) := dqo gX6_firstSlipping_0.2.2.2.1
theorem dX6_firstSlipping_9 : decode (mB 76) 9 = .ok (.ireturn, 1) := dqo gX6_firstSlipping_0.2.2.2.2.1
theorem dX6_firstSlipping_10 : decode (mB 76) 10 = .ok (.aload_n 0, 1) := dqo gX6_firstSlipping_0.2.2.2.2.2.1
theorem dX6_firstSlipping_11 : decode (mB 76) 11 = .ok (.iconst 1, 1) := dqo gX6_firstSlipping_0.2.2.2.2.2.2.1
theorem dX6_firstSlipping_12 : decode (mB 76) 12 = .ok (.iconst 0, 1) := dqo gX6_firstSlipping_0.2.2.2.2.2.2.2.1
theorem dX6_firstSlipping_13 : decode (mB 76) 13 = .ok (.invokestatic 102, 3) := dqo gX6_firstSlipping_0.2.2.2.2.2.2.2.2.1
theorem dX6_firstSlipping_16 : decode (mB 76) 16 = .ok (.istore_n 1, 1) := dqo gX6_firstSlipping_0.2.2.2.2.2.2.2.2.2.1
theorem dX6_firstSlipping_17 : decode (mB 76) 17 = .ok (.bipush 12, 2) := dqo gX6_firstSlipping_0.2.2.2.2.2.2.2.2.2.2.1
theorem dX6_firstSlipping_19 : decode (mB 76) 19 = .ok (.iload_n 1, 1) := dqo gX6_firstSlipping_0.2.2.2.2.2.2.2.2.2.2.2.1
theorem dX6_firstSlipping_20 : decode (mB 76) 20 = .ok (.imul, 1) := dqo gX6_firstSlipping_0.2.2.2.2.2.2.2.2.2.2.2.2.1
theorem dX6_firstSlipping_21 : decode (mB 76) 21 = .ok (.istore_n 2, 1) := dqo gX6_firstSlipping_0.2.2.2.2.2.2.2.2.2.2.2.2.2.1
theorem dX6_firstSlipping_22 : decode (mB 76) 22 = .ok (.bipush (-2), 2) := dqo gX6_firstSlipping_0.2.2.2.2.2.2.2.2.2.2.2.2.2.2.1
theorem dX6_firstSlipping_24 : decode (mB 76) 24 = .ok (.istore_n 3, 1) := dqo gX6_firstSlipping_0.2.2.2.2.2.2.2.2.2.2.2.2.2.2.2
theorem gX6_firstSlipping_25 : dq 76 25 (.iconst 0) 1 = true ∧ dq 76 26 (.istore 4) 2 = true ∧ dq 76 28 (.iload 4) 2 = true ∧ dq 76 30 (.iconst 4) 1 = true ∧ dq 76 31 (.if_icmp .ge 86) 3 = true ∧ dq 76 34 (.iconst 0) 1 = true ∧ dq 76 35 (.istore 5) 2 = true ∧ dq 76 37 (.iload 5) 2 = true ∧ dq 76 39 (.aload_n 0) 1 = true ∧ dq 76 40 (.getfield 9) 3 = true ∧ dq 76 43 (.invokevirtual 88) 3 = true ∧ dq 76 46 (.if_icmp .ge 65) 3 = true ∧ dq 76 49 (.aload_n 0) 1 = true ∧ dq 76 50 (.iconst 0) 1 = true ∧ dq 76 51 (.iconst 0) 1 = true ∧ dq 76 52 (.iload 4) 2 = true := by decide +kernel
theorem dX6_firstSlipping_25 : decode (mB 76) 25 = .ok (.iconst 0, 1) := dqo gX6_firstSlipping_25.1
theorem dX6_firstSlipping_26 : decode (mB 76) 26 = .ok (.istore 4, 2) := dqo gX6_firstSlipping_25.2.1
theorem dX6_firstSlipping_28 : decode (mB 76) 28 = .ok (.iload 4, 2) := dqo gX6_firstSlipping_25.2.2.1
theorem dX6_firstSlipping_30 : decode (mB 76) 30 = .ok (.iconst 4, 1) := dqo gX6_firstSlipping_25.2.2.2.1
theorem dX6_firstSlipping_31 : decode (mB 76) 31 = .ok (.if_icmp .ge 86, 3) := dqo gX6_firstSlipping_25.2.2.2.2.1
theorem dX6_firstSlipping_34 : decode (mB 76) 34 = .ok (.iconst 0, 1) := dqo gX6_firstSlipping_25.2.2.2.2.2.1
theorem dX6_firstSlipping_35 : decode (mB 76) 35 = .ok (.istore 5, 2) := dqo gX6_firstSlipping_25.2.2.2.2.2.2.1
theorem dX6_firstSlipping_37 : decode (mB 76) 37 = .ok (.iload 5, 2) := dqo gX6_firstSlipping_25.2.2.2.2.2.2.2.1
theorem dX6_firstSlipping_39 : decode (mB 76) 39 = .ok (.aload_n 0, 1) := dqo gX6_firstSlipping_25.2.2.2.2.2.2.2.2.1
theorem dX6_firstSlipping_40 : decode (mB 76) 40 = .ok (.getfield 9, 3) := dqo gX6_firstSlipping_25.2.2.2.2.2.2.2.2.2.1
theorem dX6_firstSlipping_43 : decode (mB 76) 43 = .ok (.invokevirtual 88, 3) := dqo gX6_firstSlipping_25.2.2.2.2.2.2.2.2.2.2.1
theorem dX6_firstSlipping_46 : decode (mB 76) 46 = .ok (.if_icmp .ge 65, 3) := dqo gX6_firstSlipping_25.2.2.2.2.2.2.2.2.2.2.2.1
theorem dX6_firstSlipping_49 : decode (mB 76) 49 = .ok (.aload_n 0, 1) := dqo gX6_firstSlipping_25.2.2.2.2.2.2.2.2.2.2.2.2.1
theorem dX6_firstSlipping_50 : decode (mB 76) 50 = .ok (.iconst 0, 1) := dqo gX6_firstSlipping_25.2.2.2.2.2.2.2.2.2.2.2.2.2.1
theorem dX6_firstSlipping_51 : decode (mB 76) 51 = .ok (.iconst 0, 1) := dqo gX6_firstSlipping_25.2.2.2.2.2.2.2.2.2.2.2.2.2.2.1
theorem dX6_firstSlipping_52 : decode (mB 76) 52 = .ok (.iload 4, 2) := dqo gX6_firstSlipping_25.2.2.2.2.2.2.2.2.2.2.2.2.2.2.2
theorem gX6_firstSlipping_54 : dq 76 54 (.iload 5) 2 = true ∧ dq 76 56 (.iload_n 1) 1 = true ∧ dq 76 57 (.invokestatic 109) 3 = true ∧ dq 76 60 (.istore 6) 2 = true ∧ dq 76 62 (.bipush 8) 2 = true ∧ dq 76 64 (.aload_n 0) 1 = true ∧ dq 76 65 (.getfield 23) 3 = true ∧ dq 76 68 (.iload 4) 2 = true ∧ dq 76 70 (.iaload) 1 = true ∧ dq 76 71 (.imul) 1 = true ∧ dq 76 72 (.iload 5) 2 = true ∧ dq 76 74 (.iadd) 1 = true ∧ dq 76 75 (.istore 7) 2 = true ∧ dq 76 77 (.iload 6) 2 = true ∧ dq 76 79 (.iload_n 2) 1 = true ∧ dq 76 80 (.if_icmp .gt 19) 3 = true := by decide +kernel
theorem dX6_firstSlipping_54 : decode (mB 76) 54 = .ok (.iload 5, 2) := dqo gX6_firstSlipping_54.1
theorem dX6_firstSlipping_56 : decode (mB 76) 56 = .ok (.iload_n 1, 1) := dqo gX6_firstSlipping_54.2.1
theorem dX6_firstSlipping_57 : decode (mB 76) 57 = .ok (.invokestatic 109, 3) := dqo gX6_firstSlipping_54.2.2.1
theorem dX6_firstSlipping_60 : decode (mB 76) 60 = .ok (.istore 6, 2) := dqo gX6_firstSlipping_54.2.2.2.1
theorem dX6_firstSlipping_62 : decode (mB 76) 62 = .ok (.bipush 8, 2) := dqo gX6_firstSlipping_54.2.2.2.2.1
theorem dX6_firstSlipping_64 : decode (mB 76) 64 = .ok (.aload_n 0, 1) := dqo gX6_firstSlipping_54.2.2.2.2.2.1
theorem dX6_firstSlipping_65 : decode (mB 76) 65 = .ok (.getfield 23, 3) := dqo gX6_firstSlipping_54.2.2.2.2.2.2.1
theorem dX6_firstSlipping_68 : decode (mB 76) 68 = .ok (.iload 4, 2) := dqo gX6_firstSlipping_54.2.2.2.2.2.2.2.1
theorem dX6_firstSlipping_70 : decode (mB 76) 70 = .ok (.iaload, 1) := dqo gX6_firstSlipping_54.2.2.2.2.2.2.2.2.1
theorem dX6_firstSlipping_71 : decode (mB 76) 71 = .ok (.imul, 1) := dqo gX6_firstSlipping_54.2.2.2.2.2.2.2.2.2.1
theorem dX6_firstSlipping_72 : decode (mB 76) 72 = .ok (.iload 5, 2) := dqo gX6_firstSlipping_54.2.2.2.2.2.2.2.2.2.2.1
theorem dX6_firstSlipping_74 : decode (mB 76) 74 = .ok (.iadd, 1) := dqo gX6_firstSlipping_54.2.2.2.2.2.2.2.2.2.2.2.1
theorem dX6_firstSlipping_75 : decode (mB 76) 75 = .ok (.istore 7, 2) := dqo gX6_firstSlipping_54.2.2.2.2.2.2.2.2.2.2.2.2.1
theorem dX6_firstSlipping_77 : decode (mB 76) 77 = .ok (.iload 6, 2) := dqo gX6_firstSlipping_54.2.2.2.2.2.2.2.2.2.2.2.2.2.1
theorem dX6_firstSlipping_79 : decode (mB 76) 79 = .ok (.iload_n 2, 1) := dqo gX6_firstSlipping_54.2.2.2.2.2.2.2.2.2.2.2.2.2.2.1
theorem dX6_firstSlipping_80 : decode (mB 76) 80 = .ok (.if_icmp .gt 19, 3) := dqo gX6_firstSlipping_54.2.2.2.2.2.2.2.2.2.2.2.2.2.2.2
theorem gX6_firstSlipping_83 : dq 76 83 (.iload 6) 2 = true ∧ dq 76 85 (.iload_n 2) 1 = true ∧ dq 76 86 (.if_icmp .ne 19) 3 = true ∧ dq 76 89 (.iload_n 3) 1 = true ∧ dq 76 90 (.ifCond .lt 15) 3 = true ∧ dq 76 93 (.iload 7) 2 = true ∧ dq 76 95 (.iload_n 3) 1 = true ∧ dq 76 96 (.if_icmp .ge 9) 3 = true ∧ dq 76 99 (.iload 6) 2 = true ∧ dq 76 101 (.istore_n 2) 1 = true ∧ dq 76 102 (.iload 7) 2 = true ∧ dq 76 104 (.istore_n 3) 1 = true ∧ dq 76 105 (.iinc 5 1) 3 = true ∧ dq 76 108 (.goto (-71)) 3 = true ∧ dq 76 111 (.iinc 4 1) 3 = true ∧ dq 76 114 (.goto (-86)) 3 = true := by decide +kernel
theorem dX6_firstSlipping_83 : decode (mB 76) 83 = .ok (.iload 6, 2) := dqo gX6_firstSlipping_83.1
theorem dX6_firstSlipping_85 : decode (mB 76) 85 = .ok (.iload_n 2, 1) := dqo gX6_firstSlipping_83.2.1
theorem dX6_firstSlipping_86 : decode (mB 76) 86 = .ok (.if_icmp .ne 19, 3) := dqo gX6_firstSlipping_83.2.2.1
theorem dX6_firstSlipping_89 : decode (mB 76) 89 = .ok (.iload_n 3, 1) := dqo gX6_firstSlipping_83.2.2.2.1
theorem dX6_firstSlipping_90 : decode (mB 76) 90 = .ok (.ifCond .lt 15, 3) := dqo gX6_firstSlipping_83.2.2.2.2.1
theorem dX6_firstSlipping_93 : decode (mB 76) 93 = .ok (.iload 7, 2) := dqo gX6_firstSlipping_83.2.2.2.2.2.1
theorem dX6_firstSlipping_95 : decode (mB 76) 95 = .ok (.iload_n 3, 1) := dqo gX6_firstSlipping_83.2.2.2.2.2.2.1
theorem dX6_firstSlipping_96 : decode (mB 76) 96 = .ok (.if_icmp .ge 9, 3) := dqo gX6_firstSlipping_83.2.2.2.2.2.2.2.1
theorem dX6_firstSlipping_99 : decode (mB 76) 99 = .ok (.iload 6, 2) := dqo gX6_firstSlipping_83.2.2.2.2.2.2.2.2.1
theorem dX6_firstSlipping_101 : decode (mB 76) 101 = .ok (.istore_n 2, 1) := dqo gX6_firstSlipping_83.2.2.2.2.2.2.2.2.2.1
theorem dX6_firstSlipping_102 : decode (mB 76) 102 = .ok (.iload 7, 2) := dqo gX6_firstSlipping_83.2.2.2.2.2.2.2.2.2.2.1
theorem dX6_firstSlipping_104 : decode (mB 76) 104 = .ok (.istore_n 3, 1) := dqo gX6_firstSlipping_83.2.2.2.2.2.2.2.2.2.2.2.1
theorem dX6_firstSlipping_105 : decode (mB 76) 105 = .ok (.iinc 5 1, 3) := dqo gX6_firstSlipping_83.2.2.2.2.2.2.2.2.2.2.2.2.1
theorem dX6_firstSlipping_108 : decode (mB 76) 108 = .ok (.goto (-71), 3) := dqo gX6_firstSlipping_83.2.2.2.2.2.2.2.2.2.2.2.2.2.1
theorem dX6_firstSlipping_111 : decode (mB 76) 111 = .ok (.iinc 4 1, 3) := dqo gX6_firstSlipping_83.2.2.2.2.2.2.2.2.2.2.2.2.2.2.1
theorem dX6_firstSlipping_114 : decode (mB 76) 114 = .ok (.goto (-86), 3) := dqo gX6_firstSlipping_83.2.2.2.2.2.2.2.2.2.2.2.2.2.2.2
theorem gX6_firstSlipping_117 : dq 76 117 (.iload_n 3) 1 = true ∧ dq 76 118 (.ireturn) 1 = true := by decide +kernel
theorem dX6_firstSlipping_117 : decode (mB 76) 117 = .ok (.iload_n 3, 1) := dqo gX6_firstSlipping_117.1
theorem dX6_firstSlipping_118 : decode (mB 76) 118 = .ok (.ireturn, 1) := dqo gX6_firstSlipping_117.2
theorem gX7_init_0 : dq 77 0 (.aload_n 0) 1 = true ∧ dq 77 1 (.invokespecial 3) 3 = true ∧ dq 77 4 (.aload_n 0) 1 = true ∧ dq 77 5 (.bipush 6) 2 = true ∧ dq 77 7 (.newarray .int) 2 = true ∧ dq 77 9 (.putfield 11) 3 = true ∧ dq 77 12 (.aload_n 0) 1 = true ∧ dq 77 13 (.bipush 6) 2 = true ∧ dq 77 15 (.newarray .int) 2 = true ∧ dq 77 17 (.putfield 15) 3 = true ∧ dq 77 20 (.aload_n 0) 1 = true ∧ dq 77 21 (.bipush 6) 2 = true ∧ dq 77 23 (.newarray .int) 2 = true ∧ dq 77 25 (.putfield 18) 3 = true ∧ dq 77 28 (.aload_n 0) 1 = true ∧ dq 77 29 (.bipush 6) 2 = true := by decide +kernel
theorem dX7_init_0 : decode (mB 77) 0 = .ok (.aload_n 0, 1) := dqo gX7_init_0.1
theorem dX7_init_1 : decode (mB 77) 1 = .ok (.invokespecial 3, 3) := dqo gX7_init_0.2.1
theorem dX7_init_4 : decode (mB 77) 4 = .ok (.aload_n 0, 1) := dqo gX7_init_0.2.2.1
theorem dX7_init_5 : decode (mB 77) 5 = .ok (.bipush 6, 2) := dqo gX7_init_0.2.2.2.1
theorem dX7_init_7 : decode (mB 77) 7 = .ok (.newarray .int, 2) := dqo gX7_init_0.2.2.2.2.1
theorem dX7_init_9 : decode (mB 77) 9 = .ok (.putfield 11, 3) := dqo gX7_init_0.2.2.2.2.2.1
theorem dX7_init_12 : decode (mB 77) 12 = .ok (.aload_n 0, 1) := dqo gX7_init_0.2.2.2.2.2.2.1
theorem dX7_init_13 : decode (mB 77) 13 = .ok (.bipush 6, 2) := dqo gX7_init_0.2.2.2.2.2.2.2.1
theorem dX7_init_15 : decode (mB 77) 15 = .ok (.newarray .int, 2) := dqo gX7_init_0.2.2.2.2.2.2.2.2.1
theorem dX7_init_17 : decode (mB 77) 17 = .ok (.putfield 15, 3) := dqo gX7_init_0.2.2.2.2.2.2.2.2.2.1
theorem dX7_init_20 : decode (mB 77) 20 = .ok (.aload_n 0, 1) := dqo gX7_init_0.2.2.2.2.2.2.2.2.2.2.1
theorem dX7_init_21 : decode (mB 77) 21 = .ok (.bipush 6, 2) := dqo gX7_init_0.2.2.2.2.2.2.2.2.2.2.2.1
theorem dX7_init_23 : decode (mB 77) 23 = .ok (.newarray .int, 2) := dqo gX7_init_0.2.2.2.2.2.2.2.2.2.2.2.2.1
theorem dX7_init_25 : decode (mB 77) 25 = .ok (.putfield 18, 3) := dqo gX7_init_0.2.2.2.2.2.2.2.2.2.2.2.2.2.1
theorem dX7_init_28 : decode (mB 77) 28 = .ok (.aload_n 0, 1) := dqo gX7_init_0.2.2.2.2.2.2.2.2.2.2.2.2.2.2.1
theorem dX7_init_29 : decode (mB 77) 29 = .ok (.bipush 6, 2) := dqo gX7_init_0.2.2.2.2.2.2.2.2.2.2.2.2.2.2.2
theorem gX7_init_31 : dq 77 31 (.bipush 60) 2 = true ∧ dq 77 33 (.multianewarray 21 2) 4 = true ∧ dq 77 37 (.putfield 23) 3 = true ∧ dq 77 40 (.iconst 0) 1 = true ∧ dq 77 41 (.istore_n 1) 1 = true ∧ dq 77 42 (.iload_n 1) 1 = true ∧ dq 77 43 (.bipush 6) 2 = true ∧ dq 77 45 (.if_icmp .ge 17) 3 = true ∧ dq 77 48 (.aload_n 0) 1 = true ∧ dq 77 49 (.getfield 11) 3 = true ∧ dq 77 52 (.iload_n 1) 1 = true ∧ dq 77 53 (.bipush (-2)) 2 = true ∧ dq 77 55 (.iastore) 1 = true ∧ dq 77 56 (.iinc 1 1) 3 = true ∧ dq 77 59 (.goto (-17)) 3 = true ∧ dq 77 62 (.return_) 1 = true := by decide +kernel
theorem dX7_init_31 : decode (mB 77) 31 = .ok (.bipush 60, 2) := dqo gX7_init_31.1
theorem dX7_init_33 : decode (mB 77) 33 = .ok (.multianewarray 21 2, 4) := dqo gX7_init_31.2.1
theorem dX7_init_37 : decode (mB 77) 37 = .ok (.putfield 23, 3) := dqo gX7_init_31.2.2.1
theorem dX7_init_40 : decode (mB 77) 40 = .ok (.iconst 0, 1) := dqo gX7_init_31.2.2.2.1
theorem dX7_init_41 : decode (mB 77) 41 = .ok (.istore_n 1, 1) := dqo gX7_init_31.2.2.2.2.1
theorem dX7_init_42 : decode (mB 77) 42 = .ok (.iload_n 1, 1) := dqo gX7_init_31.2.2.2.2.2.1
theorem dX7_init_43 : decode (mB 77) 43 = .ok (.bipush 6, 2) := dqo gX7_init_31.2.2.2.2.2.2.1
theorem dX7_init_45 : decode (mB 77) 45 = .ok (.if_icmp .ge 17, 3) := dqo gX7_init_31.2.2.2.2.2.2.2.1
theorem dX7_init_48 : decode (mB 77) 48 = .ok (.aload_n 0, 1) := dqo gX7_init_31.2.2.2.2.2.2.2.2.1
theorem dX7_init_49 : decode (mB 77) 49 = .ok (.getfield 11, 3) := dqo gX7_init_31.2.2.2.2.2.2.2.2.2.1
theorem dX7_init_52 : decode (mB 77) 52 = .ok (.iload_n 1, 1) := dqo gX7_init_31.2.2.2.2.2.2.2.2.2.2.1
theorem dX7_init_53 : decode (mB 77) 53 = .ok (.bipush (-2), 2) := dqo gX7_init_31.2.2.2.2.2.2.2.2.2.2.2.1
theorem dX7_init_55 : decode (mB 77) 55 = .ok (.iastore, 1) := dqo gX7_init_31.2.2.2.2.2.2.2.2.2.2.2.2.1
theorem dX7_init_56 : decode (mB 77) 56 = .ok (.iinc 1 1, 3) := dqo gX7_init_31.2.2.2.2.2.2.2.2.2.2.2.2.2.1
theorem dX7_init_59 : decode (mB 77) 59 = .ok (.goto (-17), 3) := dqo gX7_init_31.2.2.2.2.2.2.2.2.2.2.2.2.2.2.1
theorem dX7_init_62 : decode (mB 77) 62 = .ok (.return_, 1) := dqo gX7_init_31.2.2.2.2.2.2.2.2.2.2.2.2.2.2.2
theorem gX7_isSort_0 : dq 78 0 (.iload_n 0) 1 = true ∧ dq 78 1 (.ifCond .lt 12) 3 = true ∧ dq 78 4 (.iload_n 0) 1 = true ∧ dq 78 5 (.iconst 4) 1 = true ∧ dq 78 6 (.if_icmp .gt 7) 3 = true ∧ dq 78 9 (.iconst 1) 1 = true ∧ dq 78 10 (.goto 4) 3 = true ∧ dq 78 13 (.iconst 0) 1 = true ∧ dq 78 14 (.ireturn) 1 = true := by decide +kernel
theorem dX7_isSort_0 : decode (mB 78) 0 = .ok (.iload_n 0, 1) := dqo gX7_isSort_0.1
theorem dX7_isSort_1 : decode (mB 78) 1 = .ok (.ifCond .lt 12, 3) := dqo gX7_isSort_0.2.1
theorem dX7_isSort_4 : decode (mB 78) 4 = .ok (.iload_n 0, 1) := dqo gX7_isSort_0.2.2.1
theorem dX7_isSort_5 : decode (mB 78) 5 = .ok (.iconst 4, 1) := dqo gX7_isSort_0.2.2.2.1
theorem dX7_isSort_6 : decode (mB 78) 6 = .ok (.if_icmp .gt 7, 3) := dqo gX7_isSort_0.2.2.2.2.1
theorem dX7_isSort_9 : decode (mB 78) 9 = .ok (.iconst 1, 1) := dqo gX7_isSort_0.2.2.2.2.2.1
theorem dX7_isSort_10 : decode (mB 78) 10 = .ok (.goto 4, 3) := dqo gX7_isSort_0.2.2.2.2.2.2.1
theorem dX7_isSort_13 : decode (mB 78) 13 = .ok (.iconst 0, 1) := dqo gX7_isSort_0.2.2.2.2.2.2.2.1
theorem dX7_isSort_14 : decode (mB 78) 14 = .ok (.ireturn, 1) := dqo gX7_isSort_0.2.2.2.2.2.2.2.2
theorem gX7_isShelf_0 : dq 79 0 (.iload_n 1) 1 = true ∧ dq 79 1 (.ifCond .lt 13) 3 = true ∧ dq 79 4 (.iload_n 1) 1 = true ∧ dq 79 5 (.bipush 6) 2 = true ∧ dq 79 7 (.if_icmp .ge 7) 3 = true ∧ dq 79 10 (.iconst 1) 1 = true ∧ dq 79 11 (.goto 4) 3 = true ∧ dq 79 14 (.iconst 0) 1 = true ∧ dq 79 15 (.ireturn) 1 = true := by decide +kernel
theorem dX7_isShelf_0 : decode (mB 79) 0 = .ok (.iload_n 1, 1) := dqo gX7_isShelf_0.1
theorem dX7_isShelf_1 : decode (mB 79) 1 = .ok (.ifCond .lt 13, 3) := dqo gX7_isShelf_0.2.1
theorem dX7_isShelf_4 : decode (mB 79) 4 = .ok (.iload_n 1, 1) := dqo gX7_isShelf_0.2.2.1
theorem dX7_isShelf_5 : decode (mB 79) 5 = .ok (.bipush 6, 2) := dqo gX7_isShelf_0.2.2.2.1
theorem dX7_isShelf_7 : decode (mB 79) 7 = .ok (.if_icmp .ge 7, 3) := dqo gX7_isShelf_0.2.2.2.2.1
theorem dX7_isShelf_10 : decode (mB 79) 10 = .ok (.iconst 1, 1) := dqo gX7_isShelf_0.2.2.2.2.2.1
theorem dX7_isShelf_11 : decode (mB 79) 11 = .ok (.goto 4, 3) := dqo gX7_isShelf_0.2.2.2.2.2.2.1
theorem dX7_isShelf_14 : decode (mB 79) 14 = .ok (.iconst 0, 1) := dqo gX7_isShelf_0.2.2.2.2.2.2.2.1
theorem dX7_isShelf_15 : decode (mB 79) 15 = .ok (.ireturn, 1) := dqo gX7_isShelf_0.2.2.2.2.2.2.2.2
theorem gX7_isEmpty_0 : dq 80 0 (.aload_n 0) 1 = true ∧ dq 80 1 (.iload_n 1) 1 = true ∧ dq 80 2 (.invokevirtual 26) 3 = true ∧ dq 80 5 (.ifCond .eq 18) 3 = true ∧ dq 80 8 (.aload_n 0) 1 = true ∧ dq 80 9 (.getfield 11) 3 = true ∧ dq 80 12 (.iload_n 1) 1 = true ∧ dq 80 13 (.iaload) 1 = true ∧ dq 80 14 (.bipush (-2)) 2 = true ∧ dq 80 16 (.if_icmp .ne 7) 3 = true ∧ dq 80 19 (.iconst 1) 1 = true ∧ dq 80 20 (.goto 4) 3 = true ∧ dq 80 23 (.iconst 0) 1 = true ∧ dq 80 24 (.ireturn) 1 = true := by decide +kernel
theorem dX7_isEmpty_0 : decode (mB 80) 0 = .ok (.aload_n 0, 1) := dqo gX7_isEmpty_0.1
theorem dX7_isEmpty_1 : decode (mB 80) 1 = .ok (.iload_n 1, 1) := dqo gX7_isEmpty_0.2.1
theorem dX7_isEmpty_2 : decode (mB 80) 2 = .ok (.invokevirtual 26, 3) := dqo gX7_isEmpty_0.2.2.1
theorem dX7_isEmpty_5 : decode (mB 80) 5 = .ok (.ifCond .eq 18, 3) := dqo gX7_isEmpty_0.2.2.2.1
theorem dX7_isEmpty_8 : decode (mB 80) 8 = .ok (.aload_n 0, 1) := dqo gX7_isEmpty_0.2.2.2.2.1
theorem dX7_isEmpty_9 : decode (mB 80) 9 = .ok (.getfield 11, 3) := dqo gX7_isEmpty_0.2.2.2.2.2.1
theorem dX7_isEmpty_12 : decode (mB 80) 12 = .ok (.iload_n 1, 1) := dqo gX7_isEmpty_0.2.2.2.2.2.2.1
theorem dX7_isEmpty_13 : decode (mB 80) 13 = .ok (.iaload, 1) := dqo gX7_isEmpty_0.2.2.2.2.2.2.2.1
theorem dX7_isEmpty_14 : decode (mB 80) 14 = .ok (.bipush (-2), 2) := dqo gX7_isEmpty_0.2.2.2.2.2.2.2.2.1
theorem dX7_isEmpty_16 : decode (mB 80) 16 = .ok (.if_icmp .ne 7, 3) := dqo gX7_isEmpty_0.2.2.2.2.2.2.2.2.2.1
theorem dX7_isEmpty_19 : decode (mB 80) 19 = .ok (.iconst 1, 1) := dqo gX7_isEmpty_0.2.2.2.2.2.2.2.2.2.2.1
theorem dX7_isEmpty_20 : decode (mB 80) 20 = .ok (.goto 4, 3) := dqo gX7_isEmpty_0.2.2.2.2.2.2.2.2.2.2.2.1
theorem dX7_isEmpty_23 : decode (mB 80) 23 = .ok (.iconst 0, 1) := dqo gX7_isEmpty_0.2.2.2.2.2.2.2.2.2.2.2.2.1
theorem dX7_isEmpty_24 : decode (mB 80) 24 = .ok (.ireturn, 1) := dqo gX7_isEmpty_0.2.2.2.2.2.2.2.2.2.2.2.2.2
theorem gX7_isRow_0 : dq 81 0 (.aload_n 0) 1 = true ∧ dq 81 1 (.iload_n 1) 1 = true ∧ dq 81 2 (.invokevirtual 26) 3 = true ∧ dq 81 5 (.ifCond .eq 19) 3 = true ∧ dq 81 8 (.aload_n 0) 1 = true ∧ dq 81 9 (.getfield 11) 3 = true ∧ dq 81 12 (.iload_n 1) 1 = true ∧ dq 81 13 (.iaload) 1 = true ∧ dq 81 14 (.invokestatic 30) 3 = true ∧ dq 81 17 (.ifCond .eq 7) 3 = true ∧ dq 81 20 (.iconst 1) 1 = true ∧ dq 81 21 (.goto 4) 3 = true ∧ dq 81 24 (.iconst 0) 1 = true ∧ dq 81 25 (.ireturn) 1 = true := by decide +kernel
theorem dX7_isRow_0 : decode (mB 81) 0 = .ok (.aload_n 0, 1) := dqo gX7_isRow_0.1
theorem dX7_isRow_1 : decode (mB 81) 1 = .ok (.iload_n 1, 1) := dqo gX7_isRow_0.2.1
theorem dX7_isRow_2 : decode (mB 81) 2 = .ok (.invokevirtual 26, 3) := dqo gX7_isRow_0.2.2.1
theorem dX7_isRow_5 : decode (mB 81) 5 = .ok (.ifCond .eq 19, 3) := dqo gX7_isRow_0.2.2.2.1
theorem dX7_isRow_8 : decode (mB 81) 8 = .ok (.aload_n 0, 1) := dqo gX7_isRow_0.2.2.2.2.1
theorem dX7_isRow_9 : decode (mB 81) 9 = .ok (.getfield 11, 3) := dqo gX7_isRow_0.2.2.2.2.2.1
theorem dX7_isRow_12 : decode (mB 81) 12 = .ok (.iload_n 1, 1) := dqo gX7_isRow_0.2.2.2.2.2.2.1
theorem dX7_isRow_13 : decode (mB 81) 13 = .ok (.iaload, 1) := dqo gX7_isRow_0.2.2.2.2.2.2.2.1
theorem dX7_isRow_14 : decode (mB 81) 14 = .ok (.invokestatic 30, 3) := dqo gX7_isRow_0.2.2.2.2.2.2.2.2.1
theorem dX7_isRow_17 : decode (mB 81) 17 = .ok (.ifCond .eq 7, 3) := dqo gX7_isRow_0.2.2.2.2.2.2.2.2.2.1
theorem dX7_isRow_20 : decode (mB 81) 20 = .ok (.iconst 1, 1) := dqo gX7_isRow_0.2.2.2.2.2.2.2.2.2.2.1
theorem dX7_isRow_21 : decode (mB 81) 21 = .ok (.goto 4, 3) := dqo gX7_isRow_0.2.2.2.2.2.2.2.2.2.2.2.1
theorem dX7_isRow_24 : decode (mB 81) 24 = .ok (.iconst 0, 1) := dqo gX7_isRow_0.2.2.2.2.2.2.2.2.2.2.2.2.1
theorem dX7_isRow_25 : decode (mB 81) 25 = .ok (.ireturn, 1) := dqo gX7_isRow_0.2.2.2.2.2.2.2.2.2.2.2.2.2
theorem gX7_sizeOf_0 : dq 82 0 (.aload_n 0) 1 = true ∧ dq 82 1 (.iload_n 1) 1 = true ∧ dq 82 2 (.invokevirtual 33) 3 = true ∧ dq 82 5 (.ifCond .eq 12) 3 = true ∧ dq 82 8 (.aload_n 0) 1 = true ∧ dq 82 9 (.getfield 15) 3 = true ∧ dq 82 12 (.iload_n 1) 1 = true ∧ dq 82 13 (.iaload) 1 = true ∧ dq 82 14 (.goto 4) 3 = true ∧ dq 82 17 (.iconst 0) 1 = true ∧ dq 82 18 (.ireturn) 1 = true := by decide +kernel
theorem dX7_sizeOf_0 : decode (mB 82) 0 = .ok (.aload_n 0, 1) := dqo gX7_sizeOf_0.1
theorem dX7_sizeOf_1 : decode (mB 82) 1 = .ok (.iload_n 1, 1) := dqo gX7_sizeOf_0.2.1
theorem dX7_sizeOf_2 : decode (mB 82) 2 = .ok (.invokevirtual 33, 3) := dqo gX7_sizeOf_0.2.2.1
theorem dX7_sizeOf_5 : decode (mB 82) 5 = .ok (.ifCond .eq 12, 3) := dqo gX7_sizeOf_0.2.2.2.1
theorem dX7_sizeOf_8 : decode (mB 82) 8 = .ok (.aload_n 0, 1) := dqo gX7_sizeOf_0.2.2.2.2.1
theorem dX7_sizeOf_9 : decode (mB 82) 9 = .ok (.getfield 15, 3) := dqo gX7_sizeOf_0.2.2.2.2.2.1
theorem dX7_sizeOf_12 : decode (mB 82) 12 = .ok (.iload_n 1, 1) := dqo gX7_sizeOf_0.2.2.2.2.2.2.1
theorem dX7_sizeOf_13 : decode (mB 82) 13 = .ok (.iaload, 1) := dqo gX7_sizeOf_0.2.2.2.2.2.2.2.1
theorem dX7_sizeOf_14 : decode (mB 82) 14 = .ok (.goto 4, 3) := dqo gX7_sizeOf_0.2.2.2.2.2.2.2.2.1
theorem dX7_sizeOf_17 : decode (mB 82) 17 = .ok (.iconst 0, 1) := dqo gX7_sizeOf_0.2.2.2.2.2.2.2.2.2.1
theorem dX7_sizeOf_18 : decode (mB 82) 18 = .ok (.ireturn, 1) := dqo gX7_sizeOf_0.2.2.2.2.2.2.2.2.2.2
theorem gX7_bodyOn_0 : dq 83 0 (.aload_n 0) 1 = true ∧ dq 83 1 (.iload_n 1) 1 = true ∧ dq 83 2 (.invokevirtual 26) 3 = true ∧ dq 83 5 (.ifCond .eq 22) 3 = true ∧ dq 83 8 (.aload_n 0) 1 = true ∧ dq 83 9 (.getfield 11) 3 = true ∧ dq 83 12 (.iload_n 1) 1 = true ∧ dq 83 13 (.iaload) 1 = true ∧ dq 83 14 (.iconst (-1)) 1 = true ∧ dq 83 15 (.if_icmp .ne 12) 3 = true ∧ dq 83 18 (.aload_n 0) 1 = true ∧ dq 83 19 (.getfield 18) 3 = true ∧ dq 83 22 (.iload_n 1) 1 = true ∧ dq 83 23 (.iaload) 1 = true ∧ dq 83 24 (.goto 4) 3 = true ∧ dq 83 27 (.iconst (-1)) 1 = true := by decide +kernel
theorem dX7_bodyOn_0 : decode (mB 83) 0 = .ok (.aload_n 0, 1) := dqo gX7_bodyOn_0.1
theorem dX7_bodyOn_1 : decode (mB 83) 1 = .ok (.iload_n 1, 1) := dqo gX7_bodyOn_0.2.1
theorem dX7_bodyOn_2 : decode (mB 83) 2 = .ok (.invokevirtual 26, 3) := dqo gX7_bodyOn_0.2.2.1
theorem dX7_bodyOn_5 : decode (mB 83) 5 = .ok (.ifCond .eq 22, 3) := dqo gX7_bodyOn_0.2.2.2.1
theorem dX7_bodyOn_8 : decode (mB 83) 8 = .ok (.aload_n 0, 1) := dqo gX7_bodyOn_0.2.2.2.2.1
theorem dX7_bodyOn_9 : decode (mB 83) 9 = .ok (.getfield 11, 3) := dqo gX7_bodyOn_0.2.2.2.2.2.1
theorem dX7_bodyOn_12 : decode (mB 83) 12 = .ok (.iload_n 1, 1) := dqo gX7_bodyOn_0.2.2.2.2.2.2.1
theorem dX7_bodyOn_13 : decode (mB 83) 13 = .ok (.iaload, 1) := dqo gX7_bodyOn_0.2.2.2.2.2.2.2.1
theorem dX7_bodyOn_14 : decode (mB 83) 14 = .ok (.iconst (-1), 1) := dqo gX7_bodyOn_0.2.2.2.2.2.2.2.2.1
theorem dX7_bodyOn_15 : decode (mB 83) 15 = .ok (.if_icmp .ne 12, 3) := dqo gX7_bodyOn_0.2.2.2.2.2.2.2.2.2.1
theorem dX7_bodyOn_18 : decode (mB 83) 18 = .ok (.aload_n 0, 1) := dqo gX7_bodyOn_0.2.2.2.2.2.2.2.2.2.2.1
theorem dX7_bodyOn_19 : decode (mB 83) 19 = .ok (.getfield 18, 3) := dqo gX7_bodyOn_0.2.2.2.2.2.2.2.2.2.2.2.1
theorem dX7_bodyOn_22 : decode (mB 83) 22 = .ok (.iload_n 1, 1) := dqo gX7_bodyOn_0.2.2.2.2.2.2.2.2.2.2.2.2.1
theorem dX7_bodyOn_23 : decode (mB 83) 23 = .ok (.iaload, 1) := dqo gX7_bodyOn_0.2.2.2.2.2.2.2.2.2.2.2.2.2.1
theorem dX7_bodyOn_24 : decode (mB 83) 24 = .ok (.goto 4, 3) := dqo gX7_bodyOn_0.2.2.2.2.2.2.2.2.2.2.2.2.2.2.1
theorem dX7_bodyOn_27 : decode (mB 83) 27 = .ok (.iconst (-1), 1) := dqo gX7_bodyOn_0.2.2.2.2.2.2.2.2.2.2.2.2.2.2.2
theorem dX7_bodyOn_28 : decode (mB 83) 28 = .ok (.ireturn, 1) := dqo (by decide +kernel)
theorem gX7_refusalOfRow_0 : dq 84 0 (.aload_n 0) 1 = true ∧ dq 84 1 (.iload_n 1) 1 = true ∧ dq 84 2 (.invokevirtual 26) 3 = true ∧ dq 84 5 (.ifCond .ne 5) 3 = true ∧ dq 84 8 (.iconst (-1)) 1 = true ∧ dq 84 9 (.ireturn) 1 = true ∧ dq 84 10 (.aload_n 0) 1 = true ∧ dq 84 11 (.iload_n 1) 1 = true ∧ dq 84 12 (.invokevirtual 36) 3 = true ∧ dq 84 15 (.ifCond .eq 6) 3 = true ∧ dq 84 18 (.bipush (-11)) 2 = true ∧ dq 84 20 (.ireturn) 1 = true ∧ dq 84 21 (.aload_n 0) 1 = true ∧ dq 84 22 (.iload_n 1) 1 = true ∧ dq 84 23 (.invokevirtual 33) 3 = true ∧ dq 84 26 (.ifCond .eq 7) 3 = true := by decide +kernel
theorem dX7_refusalOfRow_0 : decode (mB 84) 0 = .ok (.aload_n 0, 1) := dqo gX7_refusalOfRow_0.1
theorem dX7_refusalOfRow_1 : decode (mB 84) 1 = .ok (.iload_n 1, 1) := dqo gX7_refusalOfRow_0.2.1
theorem dX7_refusalOfRow_2 : decode (mB 84) 2 = .ok (.invokevirtual 26, 3) := dqo gX7_refusalOfRow_0.2.2.1
theorem dX7_refusalOfRow_5 : decode (mB 84) 5 = .ok (.ifCond .ne 5, 3) := dqo gX7_refusalOfRow_0.2.2.2.1
theorem dX7_refusalOfRow_8 : decode (mB 84) 8 = .ok (.iconst (-1), 1) := dqo gX7_refusalOfRow_0.2.2.2.2.1
theorem dX7_refusalOfRow_9 : decode (mB 84) 9 = .ok (.ireturn, 1) := dqo gX7_refusalOfRow_0.2.2.2.2.2.1
theorem dX7_refusalOfRow_10 : decode (mB 84) 10 = .ok (.aload_n 0, 1) := dqo gX7_refusalOfRow_0.2.2.2.2.2.2.1
theorem dX7_refusalOfRow_11 : decode (mB 84) 11 = .ok (.iload_n 1, 1) := dqo gX7_refusalOfRow_0.2.2.2.2.2.2.2.1
theorem dX7_refusalOfRow_12 : decode (mB 84) 12 = .ok (.invokevirtual 36, 3) := dqo gX7_refusalOfRow_0.2.2.2.2.2.2.2.2.1
theorem dX7_refusalOfRow_15 : decode (mB 84) 15 = .ok (.ifCond .eq 6, 3) := dqo gX7_refusalOfRow_0.2.2.2.2.2.2.2.2.2.1
theorem dX7_refusalOfRow_18 : decode (mB 84) 18 = .ok (.bipush (-11), 2) := dqo gX7_refusalOfRow_0.2.2.2.2.2.2.2.2.2.2.1
theorem dX7_refusalOfRow_20 : decode (mB 84) 20 = .ok (.ireturn, 1) := dqo gX7_refusalOfRow_0.2.2.2.2.2.2.2.2.2.2.2.1
theorem dX7_refusalOfRow_21 : decode (mB 84) 21 = .ok (.aload_n 0, 1) := dqo gX7_refusalOfRow_0.2.2.2.2.2.2.2.2.2.2.2.2.1
theorem dX7_refusalOfRow_22 : decode (mB 84) 22 = .ok (.iload_n 1, 1) := dqo gX7_refusalOfRow_0.2.2.2.2.2.2.2.2.2.2.2.2.2.1
theorem dX7_refusalOfRow_23 : decode (mB 84) 23 = .ok (.invokevirtual 33, 3) := dqo gX7_refusalOfRow_0.2.2.2.2.2.2.2.2.2.2.2.2.2.2.1
theorem dX7_refusalOfRow_26 : decode (mB 84) 26 = .ok (.ifCond .eq 7, 3) := dqo gX7_refusalOfRow_0.2.2.2.2.2.2.2.2.2.2.2.2.2.2.2
theorem gX7_refusalOfRow_29 : dq 84 29 (.iconst 0) 1 = true ∧ dq 84 30 (.goto 5) 3 = true ∧ dq 84 33 (.bipush (-12)) 2 = true ∧ dq 84 35 (.ireturn) 1 = true := by decide +kernel
theorem dX7_refusalOfRow_29 : decode (mB 84) 29 = .ok (.iconst 0, 1) := dqo gX7_refusalOfRow_29.1
theorem dX7_refusalOfRow_30 : decode (mB 84) 30 = .ok (.goto 5, 3) := dqo gX7_refusalOfRow_29.2.1
theorem dX7_refusalOfRow_33 : decode (mB 84) 33 = .ok (.bipush (-12), 2) := dqo gX7_refusalOfRow_29.2.2.1
theorem dX7_refusalOfRow_35 : decode (mB 84) 35 = .ok (.ireturn, 1) := dqo gX7_refusalOfRow_29.2.2.2
theorem gX7_refusalOfBytes_0 : dq 85 0 (.aload_n 0) 1 = true ∧ dq 85 1 (.iload_n 1) 1 = true ∧ dq 85 2 (.invokevirtual 39) 3 = true ∧ dq 85 5 (.istore_n 2) 1 = true ∧ dq 85 6 (.iload_n 2) 1 = true ∧ dq 85 7 (.ifCond .ne 17) 3 = true ∧ dq 85 10 (.aload_n 0) 1 = true ∧ dq 85 11 (.getfield 11) 3 = true ∧ dq 85 14 (.iload_n 1) 1 = true ∧ dq 85 15 (.iaload) 1 = true ∧ dq 85 16 (.ifCond .eq 8) 3 = true ∧ dq 85 19 (.bipush (-12)) 2 = true ∧ dq 85 21 (.goto 4) 3 = true ∧ dq 85 24 (.iload_n 2) 1 = true ∧ dq 85 25 (.ireturn) 1 = true := by decide +kernel
theorem dX7_refusalOfBytes_0 : decode (mB 85) 0 = .ok (.aload_n 0, 1) := dqo gX7_refusalOfBytes_0.1
theorem dX7_refusalOfBytes_1 : decode (mB 85) 1 = .ok (.iload_n 1, 1) := dqo gX7_refusalOfBytes_0.2.1
theorem dX7_refusalOfBytes_2 : decode (mB 85) 2 = .ok (.invokevirtual 39, 3) := dqo gX7_refusalOfBytes_0.2.2.1
theorem dX7_refusalOfBytes_5 : decode (mB 85) 5 = .ok (.istore_n 2, 1) := dqo gX7_refusalOfBytes_0.2.2.2.1
theorem dX7_refusalOfBytes_6 : decode (mB 85) 6 = .ok (.iload_n 2, 1) := dqo gX7_refusalOfBytes_0.2.2.2.2.1
theorem dX7_refusalOfBytes_7 : decode (mB 85) 7 = .ok (.ifCond .ne 17, 3) := dqo gX7_refusalOfBytes_0.2.2.2.2.2.1
theorem dX7_refusalOfBytes_10 : decode (mB 85) 10 = .ok (.aload_n 0, 1) := dqo gX7_refusalOfBytes_0.2.2.2.2.2.2.1
theorem dX7_refusalOfBytes_11 : decode (mB 85) 11 = .ok (.getfield 11, 3) := dqo gX7_refusalOfBytes_0.2.2.2.2.2.2.2.1
theorem dX7_refusalOfBytes_14 : decode (mB 85) 14 = .ok (.iload_n 1, 1) := dqo gX7_refusalOfBytes_0.2.2.2.2.2.2.2.2.1
theorem dX7_refusalOfBytes_15 : decode (mB 85) 15 = .ok (.iaload, 1) := dqo gX7_refusalOfBytes_0.2.2.2.2.2.2.2.2.2.1
theorem dX7_refusalOfBytes_16 : decode (mB 85) 16 = .ok (.ifCond .eq 8, 3) := dqo gX7_refusalOfBytes_0.2.2.2.2.2.2.2.2.2.2.1
theorem dX7_refusalOfBytes_19 : decode (mB 85) 19 = .ok (.bipush (-12), 2) := dqo gX7_refusalOfBytes_0.2.2.2.2.2.2.2.2.2.2.2.1
theorem dX7_refusalOfBytes_21 : decode (mB 85) 21 = .ok (.goto 4, 3) := dqo gX7_refusalOfBytes_0.2.2.2.2.2.2.2.2.2.2.2.2.1
theorem dX7_refusalOfBytes_24 : decode (mB 85) 24 = .ok (.iload_n 2, 1) := dqo gX7_refusalOfBytes_0.2.2.2.2.2.2.2.2.2.2.2.2.2.1
theorem dX7_refusalOfBytes_25 : decode (mB 85) 25 = .ok (.ireturn, 1) := dqo gX7_refusalOfBytes_0.2.2.2.2.2.2.2.2.2.2.2.2.2.2
theorem gX7_refusalOfElement_0 : dq 86 0 (.aload_n 0) 1 = true ∧ dq 86 1 (.iload_n 1) 1 = true ∧ dq 86 2 (.invokevirtual 39) 3 = true ∧ dq 86 5 (.istore_n 3) 1 = true ∧ dq 86 6 (.iload_n 3) 1 = true ∧ dq 86 7 (.ifCond .ne 18) 3 = true ∧ dq 86 10 (.aload_n 0) 1 = true ∧ dq 86 11 (.iload_n 1) 1 = true ∧ dq 86 12 (.iload_n 2) 1 = true ∧ dq 86 13 (.iconst 1) 1 = true ∧ dq 86 14 (.invokevirtual 43) 3 = true ∧ dq 86 17 (.ifCond .ne 8) 3 = true ∧ dq 86 20 (.bipush (-13)) 2 = true ∧ dq 86 22 (.goto 4) 3 = true ∧ dq 86 25 (.iload_n 3) 1 = true ∧ dq 86 26 (.ireturn) 1 = true := by decide +kernel
theorem dX7_refusalOfElement_0 : decode (mB 86) 0 = .ok (.aload_n 0, 1) := dqo gX7_refusalOfElement_0.1
theorem dX7_refusalOfElement_1 : decode (mB 86) 1 = .ok (.iload_n 1, 1) := dqo gX7_refusalOfElement_0.2.1
theorem dX7_refusalOfElement_2 : decode (mB 86) 2 = .ok (.invokevirtual 39, 3) := dqo gX7_refusalOfElement_0.2.2.1
theorem dX7_refusalOfElement_5 : decode (mB 86) 5 = .ok (.istore_n 3, 1) := dqo gX7_refusalOfElement_0.2.2.2.1
theorem dX7_refusalOfElement_6 : decode (mB 86) 6 = .ok (.iload_n 3, 1) := dqo gX7_refusalOfElement_0.2.2.2.2.1
theorem dX7_refusalOfElement_7 : decode (mB 86) 7 = .ok (.ifCond .ne 18, 3) := dqo gX7_refusalOfElement_0.2.2.2.2.2.1
theorem dX7_refusalOfElement_10 : decode (mB 86) 10 = .ok (.aload_n 0, 1) := dqo gX7_refusalOfElement_0.2.2.2.2.2.2.1
theorem dX7_refusalOfElement_11 : decode (mB 86) 11 = .ok (.iload_n 1, 1) := dqo gX7_refusalOfElement_0.2.2.2.2.2.2.2.1
theorem dX7_refusalOfElement_12 : decode (mB 86) 12 = .ok (.iload_n 2, 1) := dqo gX7_refusalOfElement_0.2.2.2.2.2.2.2.2.1
theorem dX7_refusalOfElement_13 : decode (mB 86) 13 = .ok (.iconst 1, 1) := dqo gX7_refusalOfElement_0.2.2.2.2.2.2.2.2.2.1
theorem dX7_refusalOfElement_14 : decode (mB 86) 14 = .ok (.invokevirtual 43, 3) := dqo gX7_refusalOfElement_0.2.2.2.2.2.2.2.2.2.2.1
theorem dX7_refusalOfElement_17 : decode (mB 86) 17 = .ok (.ifCond .ne 8, 3) := dqo gX7_refusalOfElement_0.2.2.2.2.2.2.2.2.2.2.2.1
theorem dX7_refusalOfElement_20 : decode (mB 86) 20 = .ok (.bipush (-13), 2) := dqo gX7_refusalOfElement_0.2.2.2.2.2.2.2.2.2.2.2.2.1
theorem dX7_refusalOfElement_22 : decode (mB 86) 22 = .ok (.goto 4, 3) := dqo gX7_refusalOfElement_0.2.2.2.2.2.2.2.2.2.2.2.2.2.1
theorem dX7_refusalOfElement_25 : decode (mB 86) 25 = .ok (.iload_n 3, 1) := dqo gX7_refusalOfElement_0.2.2.2.2.2.2.2.2.2.2.2.2.2.2.1
theorem dX7_refusalOfElement_26 : decode (mB 86) 26 = .ok (.ireturn, 1) := dqo gX7_refusalOfElement_0.2.2.2.2.2.2.2.2.2.2.2.2.2.2.2
theorem gX7_refusalOfPair_0 : dq 87 0 (.aload_n 0) 1 = true ∧ dq 87 1 (.iload_n 1) 1 = true ∧ dq 87 2 (.invokevirtual 26) 3 = true ∧ dq 87 5 (.ifCond .eq 11) 3 = true ∧ dq 87 8 (.aload_n 0) 1 = true ∧ dq 87 9 (.iload_n 2) 1 = true ∧ dq 87 10 (.invokevirtual 26) 3 = true ∧ dq 87 13 (.ifCond .ne 5) 3 = true ∧ dq 87 16 (.iconst (-1)) 1 = true ∧ dq 87 17 (.ireturn) 1 = true ∧ dq 87 18 (.aload_n 0) 1 = true ∧ dq 87 19 (.iload_n 1) 1 = true ∧ dq 87 20 (.invokevirtual 36) 3 = true ∧ dq 87 23 (.ifCond .ne 11) 3 = true ∧ dq 87 26 (.aload_n 0) 1 = true ∧ dq 87 27 (.iload_n 2) 1 = true := by decide +kernel
theorem dX7_refusalOfPair_0 : decode (mB 87) 0 = .ok (.aload_n 0, 1) := dqo gX7_refusalOfPair_0.1
theorem dX7_refusalOfPair_1 : decode (mB 87) 1 = .ok (.iload_n 1, 1) := dqo gX7_refusalOfPair_0.2.1
theorem dX7_refusalOfPair_2 : decode (mB 87) 2 = .ok (.invokevirtual 26, 3) := dqo gX7_refusalOfPair_0.2.2.1
theorem dX7_refusalOfPair_5 : decode (mB 87) 5 = .ok (.ifCond .eq 11, 3) := dqo gX7_refusalOfPair_0.2.2.2.1
theorem dX7_refusalOfPair_8 : decode (mB 87) 8 = .ok (.aload_n 0, 1) := dqo gX7_refusalOfPair_0.2.2.2.2.1
theorem dX7_refusalOfPair_9 : decode (mB 87) 9 = .ok (.iload_n 2, 1) := dqo gX7_refusalOfPair_0.2.2.2.2.2.1
theorem dX7_refusalOfPair_10 : decode (mB 87) 10 = .ok (.invokevirtual 26, 3) := dqo gX7_refusalOfPair_0.2.2.2.2.2.2.1
theorem dX7_refusalOfPair_13 : decode (mB 87) 13 = .ok (.ifCond .ne 5, 3) := dqo gX7_refusalOfPair_0.2.2.2.2.2.2.2.1
theorem dX7_refusalOfPair_16 : decode (mB 87) 16 = .ok (.iconst (-1), 1) := dqo gX7_refusalOfPair_0.2.2.2.2.2.2.2.2.1
theorem dX7_refusalOfPair_17 : decode (mB 87) 17 = .ok (.ireturn, 1) := dqo gX7_refusalOfPair_0.2.2.2.2.2.2.2.2.2.1
theorem dX7_refusalOfPair_18 : decode (mB 87) 18 = .ok (.aload_n 0, 1) := dqo gX7_refusalOfPair_0.2.2.2.2.2.2.2.2.2.2.1
theorem dX7_refusalOfPair_19 : decode (mB 87) 19 = .ok (.iload_n 1, 1) := dqo gX7_refusalOfPair_0.2.2.2.2.2.2.2.2.2.2.2.1
theorem dX7_refusalOfPair_20 : decode (mB 87) 20 = .ok (.invokevirtual 36, 3) := dqo gX7_refusalOfPair_0.2.2.2.2.2.2.2.2.2.2.2.2.1
theorem dX7_refusalOfPair_23 : decode (mB 87) 23 = .ok (.ifCond .ne 11, 3) := dqo gX7_refusalOfPair_0.2.2.2.2.2.2.2.2.2.2.2.2.2.1
theorem dX7_refusalOfPair_26 : decode (mB 87) 26 = .ok (.aload_n 0, 1) := dqo gX7_refusalOfPair_0.2.2.2.2.2.2.2.2.2.2.2.2.2.2.1
theorem dX7_refusalOfPair_27 : decode (mB 87) 27 = .ok (.iload_n 2, 1) := dqo gX7_refusalOfPair_0.2.2.2.2.2.2.2.2.2.2.2.2.2.2.2
theorem gX7_refusalOfPair_28 : dq 87 28 (.invokevirtual 36) 3 = true ∧ dq 87 31 (.ifCond .eq 6) 3 = true ∧ dq 87 34 (.bipush (-11)) 2 = true ∧ dq 87 36 (.ireturn) 1 = true ∧ dq 87 37 (.aload_n 0) 1 = true ∧ dq 87 38 (.iload_n 1) 1 = true ∧ dq 87 39 (.invokevirtual 33) 3 = true ∧ dq 87 42 (.ifCond .eq 22) 3 = true ∧ dq 87 45 (.aload_n 0) 1 = true ∧ dq 87 46 (.getfield 11) 3 = true ∧ dq 87 49 (.iload_n 1) 1 = true ∧ dq 87 50 (.iaload) 1 = true ∧ dq 87 51 (.aload_n 0) 1 = true ∧ dq 87 52 (.getfield 11) 3 = true ∧ dq 87 55 (.iload_n 2) 1 = true ∧ dq 87 56 (.iaload) 1 = true := by decide +kernel
theorem dX7_refusalOfPair_28 : decode (mB 87) 28 = .ok (.invokevirtual 36, 3) := dqo gX7_refusalOfPair_28.1
theorem dX7_refusalOfPair_31 : decode (mB 87) 31 = .ok (.ifCond .eq 6, 3) := dqo gX7_refusalOfPair_28.2.1
theorem dX7_refusalOfPair_34 : decode (mB 87) 34 = .ok (.bipush (-11), 2) := dqo gX7_refusalOfPair_28.2.2.1
theorem dX7_refusalOfPair_36 : decode (mB 87) 36 = .ok (.ireturn, 1) := dqo gX7_refusalOfPair_28.2.2.2.1
theorem dX7_refusalOfPair_37 : decode (mB 87) 37 = .ok (.aload_n 0, 1) := dqo gX7_refusalOfPair_28.2.2.2.2.1
theorem dX7_refusalOfPair_38 : decode (mB 87) 38 = .ok (.iload_n 1, 1) := dqo gX7_refusalOfPair_28.2.2.2.2.2.1
theorem dX7_refusalOfPair_39 : decode (mB 87) 39 = .ok (.invokevirtual 33, 3) := dqo gX7_refusalOfPair_28.2.2.2.2.2.2.1
theorem dX7_refusalOfPair_42 : decode (mB 87) 42 = .ok (.ifCond .eq 22, 3) := dqo gX7_refusalOfPair_28.2.2.2.2.2.2.2.1
theorem dX7_refusalOfPair_45 : decode (mB 87) 45 = .ok (.aload_n 0, 1) := dqo gX7_refusalOfPair_28.2.2.2.2.2.2.2.2.1
theorem dX7_refusalOfPair_46 : decode (mB 87) 46 = .ok (.getfield 11, 3) := dqo gX7_refusalOfPair_28.2.2.2.2.2.2.2.2.2.1
theorem dX7_refusalOfPair_49 : decode (mB 87) 49 = .ok (.iload_n 1, 1) := dqo gX7_refusalOfPair_28.2.2.2.2.2.2.2.2.2.2.1
theorem dX7_refusalOfPair_50 : decode (mB 87) 50 = .ok (.iaload, 1) := dqo gX7_refusalOfPair_28.2.2.2.2.2.2.2.2.2.2.2.1
theorem dX7_refusalOfPair_51 : decode (mB 87) 51 = .ok (.aload_n 0, 1) := dqo gX7_refusalOfPair_28.2.2.2.2.2.2.2.2.2.2.2.2.1
theorem dX7_refusalOfPair_52 : decode (mB 87) 52 = .ok (.getfield 11, 3) := dqo gX7_refusalOfPair_28.2.2.2.2.2.2.2.2.2.2.2.2.2.1
theorem dX7_refusalOfPair_55 : decode (mB 87) 55 = .ok (.iload_n 2, 1) := dqo gX7_refusalOfPair_28.2.2.2.2.2.2.2.2.2.2.2.2.2.2.1
theorem dX7_refusalOfPair_56 : decode (mB 87) 56 = .ok (.iaload, 1) := dqo gX7_refusalOfPair_28.2.2.2.2.2.2.2.2.2.2.2.2.2.2.2
theorem gX7_refusalOfPair_57 : dq 87 57 (.if_icmp .ne 7) 3 = true ∧ dq 87 60 (.iconst 0) 1 = true ∧ dq 87 61 (.goto 5) 3 = true ∧ dq 87 64 (.bipush (-12)) 2 = true ∧ dq 87 66 (.ireturn) 1 = true := by decide +kernel
theorem dX7_refusalOfPair_57 : decode (mB 87) 57 = .ok (.if_icmp .ne 7, 3) := dqo gX7_refusalOfPair_57.1
theorem dX7_refusalOfPair_60 : decode (mB 87) 60 = .ok (.iconst 0, 1) := dqo gX7_refusalOfPair_57.2.1
theorem dX7_refusalOfPair_61 : decode (mB 87) 61 = .ok (.goto 5, 3) := dqo gX7_refusalOfPair_57.2.2.1
theorem dX7_refusalOfPair_64 : decode (mB 87) 64 = .ok (.bipush (-12), 2) := dqo gX7_refusalOfPair_57.2.2.2.1
theorem dX7_refusalOfPair_66 : decode (mB 87) 66 = .ok (.ireturn, 1) := dqo gX7_refusalOfPair_57.2.2.2.2
theorem gX7_hasPlaces_0 : dq 88 0 (.iload_n 2) 1 = true ∧ dq 88 1 (.ifCond .lt 26) 3 = true ∧ dq 88 4 (.iload_n 3) 1 = true ∧ dq 88 5 (.ifCond .lt 22) 3 = true ∧ dq 88 8 (.iload_n 2) 1 = true ∧ dq 88 9 (.i2l) 1 = true ∧ dq 88 10 (.iload_n 3) 1 = true ∧ dq 88 11 (.i2l) 1 = true ∧ dq 88 12 (.ladd) 1 = true ∧ dq 88 13 (.aload_n 0) 1 = true ∧ dq 88 14 (.iload_n 1) 1 = true ∧ dq 88 15 (.invokevirtual 47) 3 = true ∧ dq 88 18 (.i2l) 1 = true ∧ dq 88 19 (.lcmp) 1 = true ∧ dq 88 20 (.ifCond .gt 7) 3 = true ∧ dq 88 23 (.iconst 1) 1 = true := by decide +kernel
theorem dX7_hasPlaces_0 : decode (mB 88) 0 = .ok (.iload_n 2, 1) := dqo gX7_hasPlaces_0.1
theorem dX7_hasPlaces_1 : decode (mB 88) 1 = .ok (.ifCond .lt 26, 3) := dqo gX7_hasPlaces_0.2.1
theorem dX7_hasPlaces_4 : decode (mB 88) 4 = .ok (.iload_n 3, 1) := dqo gX7_hasPlaces_0.2.2.1
theorem dX7_hasPlaces_5 : decode (mB 88) 5 = .ok (.ifCond .lt 22, 3) := dqo gX7_hasPlaces_0.2.2.2.1
theorem dX7_hasPlaces_8 : decode (mB 88) 8 = .ok (.iload_n 2, 1) := dqo gX7_hasPlaces_0.2.2.2.2.1
theorem dX7_hasPlaces_9 : decode (mB 88) 9 = .ok (.i2l, 1) := dqo gX7_hasPlaces_0.2.2.2.2.2.1
theorem dX7_hasPlaces_10 : decode (mB 88) 10 = .ok (.iload_n 3, 1) := dqo gX7_hasPlaces_0.2.2.2.2.2.2.1
theorem dX7_hasPlaces_11 : decode (mB 88) 11 = .ok (.i2l, 1) := dqo gX7_hasPlaces_0.2.2.2.2.2.2.2.1
theorem dX7_hasPlaces_12 : decode (mB 88) 12 = .ok (.ladd, 1) := dqo gX7_hasPlaces_0.2.2.2.2.2.2.2.2.1
theorem dX7_hasPlaces_13 : decode (mB 88) 13 = .ok (.aload_n 0, 1) := dqo gX7_hasPlaces_0.2.2.2.2.2.2.2.2.2.1
theorem dX7_hasPlaces_14 : decode (mB 88) 14 = .ok (.iload_n 1, 1) := dqo gX7_hasPlaces_0.2.2.2.2.2.2.2.2.2.2.1
theorem dX7_hasPlaces_15 : decode (mB 88) 15 = .ok (.invokevirtual 47, 3) := dqo gX7_hasPlaces_0.2.2.2.2.2.2.2.2.2.2.2.1
theorem dX7_hasPlaces_18 : decode (mB 88) 18 = .ok (.i2l, 1) := dqo gX7_hasPlaces_0.2.2.2.2.2.2.2.2.2.2.2.2.1
theorem dX7_hasPlaces_19 : decode (mB 88) 19 = .ok (.lcmp, 1) := dqo gX7_hasPlaces_0.2.2.2.2.2.2.2.2.2.2.2.2.2.1
theorem dX7_hasPlaces_20 : decode (mB 88) 20 = .ok (.ifCond .gt 7, 3) := dqo gX7_hasPlaces_0.2.2.2.2.2.2.2.2.2.2.2.2.2.2.1
theorem dX7_hasPlaces_23 : decode (mB 88) 23 = .ok (.iconst 1, 1) := dqo gX7_hasPlaces_0.2.2.2.2.2.2.2.2.2.2.2.2.2.2.2
theorem gX7_hasPlaces_24 : dq 88 24 (.goto 4) 3 = true ∧ dq 88 27 (.iconst 0) 1 = true ∧ dq 88 28 (.ireturn) 1 = true := by decide +kernel
theorem dX7_hasPlaces_24 : decode (mB 88) 24 = .ok (.goto 4, 3) := dqo gX7_hasPlaces_24.1
theorem dX7_hasPlaces_27 : decode (mB 88) 27 = .ok (.iconst 0, 1) := dqo gX7_hasPlaces_24.2.1
theorem dX7_hasPlaces_28 : decode (mB 88) 28 = .ok (.ireturn, 1) := dqo gX7_hasPlaces_24.2.2
theorem gX7_clear_0 : dq 89 0 (.aload_n 0) 1 = true ∧ dq 89 1 (.iload_n 1) 1 = true ∧ dq 89 2 (.invokevirtual 26) 3 = true ∧ dq 89 5 (.ifCond .eq 11) 3 = true ∧ dq 89 8 (.aload_n 0) 1 = true ∧ dq 89 9 (.getfield 11) 3 = true ∧ dq 89 12 (.iload_n 1) 1 = true ∧ dq 89 13 (.bipush (-2)) 2 = true ∧ dq 89 15 (.iastore) 1 = true ∧ dq 89 16 (.return_) 1 = true := by decide +kernel
theorem dX7_clear_0 : decode (mB 89) 0 = .ok (.aload_n 0, 1) := dqo gX7_clear_0.1
theorem dX7_clear_1 : decode (mB 89) 1 = .ok (.iload_n 1, 1) := dqo gX7_clear_0.2.1
theorem dX7_clear_2 : decode (mB 89) 2 = .ok (.invokevirtual 26, 3) := dqo gX7_clear_0.2.2.1
theorem dX7_clear_5 : decode (mB 89) 5 = .ok (.ifCond .eq 11, 3) := dqo gX7_clear_0.2.2.2.1
theorem dX7_clear_8 : decode (mB 89) 8 = .ok (.aload_n 0, 1) := dqo gX7_clear_0.2.2.2.2.1
theorem dX7_clear_9 : decode (mB 89) 9 = .ok (.getfield 11, 3) := dqo gX7_clear_0.2.2.2.2.2.1
theorem dX7_clear_12 : decode (mB 89) 12 = .ok (.iload_n 1, 1) := dqo gX7_clear_0.2.2.2.2.2.2.1
theorem dX7_clear_13 : decode (mB 89) 13 = .ok (.bipush (-2), 2) := dqo gX7_clear_0.2.2.2.2.2.2.2.1
theorem dX7_clear_15 : decode (mB 89) 15 = .ok (.iastore, 1) := dqo gX7_clear_0.2.2.2.2.2.2.2.2.1
theorem dX7_clear_16 : decode (mB 89) 16 = .ok (.return_, 1) := dqo gX7_clear_0.2.2.2.2.2.2.2.2.2
theorem gX7_holdBody_0 : dq 90 0 (.aload_n 0) 1 = true ∧ dq 90 1 (.iload_n 1) 1 = true ∧ dq 90 2 (.invokevirtual 26) 3 = true ∧ dq 90 5 (.ifCond .eq 17) 3 = true ∧ dq 90 8 (.aload_n 0) 1 = true ∧ dq 90 9 (.getfield 11) 3 = true ∧ dq 90 12 (.iload_n 1) 1 = true ∧ dq 90 13 (.iconst (-1)) 1 = true ∧ dq 90 14 (.iastore) 1 = true ∧ dq 90 15 (.aload_n 0) 1 = true ∧ dq 90 16 (.getfield 18) 3 = true ∧ dq 90 19 (.iload_n 1) 1 = true ∧ dq 90 20 (.iload_n 2) 1 = true ∧ dq 90 21 (.iastore) 1 = true ∧ dq 90 22 (.return_) 1 = true := by decide +kernel
theorem dX7_holdBody_0 : decode (mB 90) 0 = .ok (.aload_n 0, 1) := dqo gX7_holdBody_0.1
theorem dX7_holdBody_1 : decode (mB 90) 1 = .ok (.iload_n 1, 1) := dqo gX7_holdBody_0.2.1
theorem dX7_holdBody_2 : decode (mB 90) 2 = .ok (.invokevirtual 26, 3) := dqo gX7_holdBody_0.2.2.1
theorem dX7_holdBody_5 : decode (mB 90) 5 = .ok (.ifCond .eq 17, 3) := dqo gX7_holdBody_0.2.2.2.1
theorem dX7_holdBody_8 : decode (mB 90) 8 = .ok (.aload_n 0, 1) := dqo gX7_holdBody_0.2.2.2.2.1
theorem dX7_holdBody_9 : decode (mB 90) 9 = .ok (.getfield 11, 3) := dqo gX7_holdBody_0.2.2.2.2.2.1
theorem dX7_holdBody_12 : decode (mB 90) 12 = .ok (.iload_n 1, 1) := dqo gX7_holdBody_0.2.2.2.2.2.2.1
theorem dX7_holdBody_13 : decode (mB 90) 13 = .ok (.iconst (-1), 1) := dqo gX7_holdBody_0.2.2.2.2.2.2.2.1
theorem dX7_holdBody_14 : decode (mB 90) 14 = .ok (.iastore, 1) := dqo gX7_holdBody_0.2.2.2.2.2.2.2.2.1
theorem dX7_holdBody_15 : decode (mB 90) 15 = .ok (.aload_n 0, 1) := dqo gX7_holdBody_0.2.2.2.2.2.2.2.2.2.1
theorem dX7_holdBody_16 : decode (mB 90) 16 = .ok (.getfield 18, 3) := dqo gX7_holdBody_0.2.2.2.2.2.2.2.2.2.2.1
theorem dX7_holdBody_19 : decode (mB 90) 19 = .ok (.iload_n 1, 1) := dqo gX7_holdBody_0.2.2.2.2.2.2.2.2.2.2.2.1
theorem dX7_holdBody_20 : decode (mB 90) 20 = .ok (.iload_n 2, 1) := dqo gX7_holdBody_0.2.2.2.2.2.2.2.2.2.2.2.2.1
theorem dX7_holdBody_21 : decode (mB 90) 21 = .ok (.iastore, 1) := dqo gX7_holdBody_0.2.2.2.2.2.2.2.2.2.2.2.2.2.1
theorem dX7_holdBody_22 : decode (mB 90) 22 = .ok (.return_, 1) := dqo gX7_holdBody_0.2.2.2.2.2.2.2.2.2.2.2.2.2.2
theorem gX7_holdRow_0 : dq 91 0 (.aload_n 0) 1 = true ∧ dq 91 1 (.iload_n 1) 1 = true ∧ dq 91 2 (.invokevirtual 26) 3 = true ∧ dq 91 5 (.ifCond .eq 59) 3 = true ∧ dq 91 8 (.iload_n 2) 1 = true ∧ dq 91 9 (.invokestatic 30) 3 = true ∧ dq 91 12 (.ifCond .eq 52) 3 = true ∧ dq 91 15 (.iload_n 3) 1 = true ∧ dq 91 16 (.ifCond .lt 48) 3 = true ∧ dq 91 19 (.iload_n 3) 1 = true ∧ dq 91 20 (.bipush 60) 2 = true ∧ dq 91 22 (.if_icmp .gt 42) 3 = true ∧ dq 91 25 (.aload_n 0) 1 = true ∧ dq 91 26 (.getfield 11) 3 = true ∧ dq 91 29 (.iload_n 1) 1 = true ∧ dq 91 30 (.iload_n 2) 1 = true := by decide +kernel
theorem dX7_holdRow_0 : decode (mB 91) 0 = .ok (.aload_n 0, 1) := dqo gX7_holdRow_0.1
theorem dX7_holdRow_1 : decode (mB 91) 1 = .ok (.iload_n 1, 1) := dqo gX7_holdRow_0.2.1
theorem dX7_holdRow_2 : decode (mB 91) 2 = .ok (.invokevirtual 26, 3) := dqo gX7_holdRow_0.2.2.1
theorem dX7_holdRow_5 : decode (mB 91) 5 = .ok (.ifCond .eq 59, 3) := dqo gX7_holdRow_0.2.2.2.1
theorem dX7_holdRow_8 : decode (mB 91) 8 = .ok (.iload_n 2, 1) := dqo gX7_holdRow_0.2.2.2.2.1
theorem dX7_holdRow_9 : decode (mB 91) 9 = .ok (.invokestatic 30, 3) := dqo gX7_holdRow_0.2.2.2.2.2.1
theorem dX7_holdRow_12 : decode (mB 91) 12 = .ok (.ifCond .eq 52, 3) := dqo gX7_holdRow_0.2.2.2.2.2.2.1
theorem dX7_holdRow_15 : decode (mB 91) 15 = .ok (.iload_n 3, 1) := dqo gX7_holdRow_0.2.2.2.2.2.2.2.1
theorem dX7_holdRow_16 : decode (mB 91) 16 = .ok (.ifCond .lt 48, 3) := dqo gX7_holdRow_0.2.2.2.2.2.2.2.2.1
theorem dX7_holdRow_19 : decode (mB 91) 19 = .ok (.iload_n 3, 1) := dqo gX7_holdRow_0.2.2.2.2.2.2.2.2.2.1
theorem dX7_holdRow_20 : decode (mB 91) 20 = .ok (.bipush 60, 2) := dqo gX7_holdRow_0.2.2.2.2.2.2.2.2.2.2.1
theorem dX7_holdRow_22 : decode (mB 91) 22 = .ok (.if_icmp .gt 42, 3) := dqo gX7_holdRow_0.2.2.2.2.2.2.2.2.2.2.2.1
theorem dX7_holdRow_25 : decode (mB 91) 25 = .ok (.aload_n 0, 1) := dqo gX7_holdRow_0.2.2.2.2.2.2.2.2.2.2.2.2.1
theorem dX7_holdRow_26 : decode (mB 91) 26 = .ok (.getfield 11, 3) := dqo gX7_holdRow_0.2.2.2.2.2.2.2.2.2.2.2.2.2.1
theorem dX7_holdRow_29 : decode (mB 91) 29 = .ok (.iload_n 1, 1) := dqo gX7_holdRow_0.2.2.2.2.2.2.2.2.2.2.2.2.2.2.1
theorem dX7_holdRow_30 : decode (mB 91) 30 = .ok (.iload_n 2, 1) := dqo gX7_holdRow_0.2.2.2.2.2.2.2.2.2.2.2.2.2.2.2
theorem gX7_holdRow_31 : dq 91 31 (.iastore) 1 = true ∧ dq 91 32 (.aload_n 0) 1 = true ∧ dq 91 33 (.getfield 15) 3 = true ∧ dq 91 36 (.iload_n 1) 1 = true ∧ dq 91 37 (.iload_n 3) 1 = true ∧ dq 91 38 (.iastore) 1 = true ∧ dq 91 39 (.iconst 0) 1 = true ∧ dq 91 40 (.istore 4) 2 = true ∧ dq 91 42 (.iload 4) 2 = true ∧ dq 91 44 (.iload_n 3) 1 = true ∧ dq 91 45 (.if_icmp .ge 19) 3 = true ∧ dq 91 48 (.aload_n 0) 1 = true ∧ dq 91 49 (.getfield 23) 3 = true ∧ dq 91 52 (.iload_n 1) 1 = true ∧ dq 91 53 (.aaload) 1 = true ∧ dq 91 54 (.iload 4) 2 = true := by decide +kernel
theorem dX7_holdRow_31 : decode (mB 91) 31 = .ok (.iastore, 1) := dqo gX7_holdRow_31.1
theorem dX7_holdRow_32 : decode (mB 91) 32 = .ok (.aload_n 0, 1) := dqo gX7_holdRow_31.2.1
theorem dX7_holdRow_33 : decode (mB 91) 33 = .ok (.getfield 15, 3) := dqo gX7_holdRow_31.2.2.1
theorem dX7_holdRow_36 : decode (mB 91) 36 = .ok (.iload_n 1, 1) := dqo gX7_holdRow_31.2.2.2.1
theorem dX7_holdRow_37 : decode (mB 91) 37 = .ok (.iload_n 3, 1) := dqo gX7_holdRow_31.2.2.2.2.1
theorem dX7_holdRow_38 : decode (mB 91) 38 = .ok (.iastore, 1) := dqo gX7_holdRow_31.2.2.2.2.2.1
theorem dX7_holdRow_39 : decode (mB 91) 39 = .ok (.iconst 0, 1) := dqo gX7_holdRow_31.2.2.2.2.2.2.1
theorem dX7_holdRow_40 : decode (mB 91) 40 = .ok (.istore 4, 2) := dqo gX7_holdRow_31.2.2.2.2.2.2.2.1
theorem dX7_holdRow_42 : decode (mB 91) 42 = .ok (.iload 4, 2) := dqo gX7_holdRow_31.2.2.2.2.2.2.2.2.1
theorem dX7_holdRow_44 : decode (mB 91) 44 = .ok (.iload_n 3, 1) := dqo gX7_holdRow_31.2.2.2.2.2.2.2.2.2.1
theorem dX7_holdRow_45 : decode (mB 91) 45 = .ok (.if_icmp .ge 19, 3) := dqo gX7_holdRow_31.2.2.2.2.2.2.2.2.2.2.1
theorem dX7_holdRow_48 : decode (mB 91) 48 = .ok (.aload_n 0, 1) := dqo gX7_holdRow_31.2.2.2.2.2.2.2.2.2.2.2.1
theorem dX7_holdRow_49 : decode (mB 91) 49 = .ok (.getfield 23, 3) := dqo gX7_holdRow_31.2.2.2.2.2.2.2.2.2.2.2.2.1
theorem dX7_holdRow_52 : decode (mB 91) 52 = .ok (.iload_n 1, 1) := dqo gX7_holdRow_31.2.2.2.2.2.2.2.2.2.2.2.2.2.1
theorem dX7_holdRow_53 : decode (mB 91) 53 = .ok (.aaload, 1) := dqo gX7_holdRow_31.2.2.2.2.2.2.2.2.2.2.2.2.2.2.1
theorem dX7_holdRow_54 : decode (mB 91) 54 = .ok (.iload 4, 2) := dqo gX7_holdRow_31.2.2.2.2.2.2.2.2.2.2.2.2.2.2.2
theorem gX7_holdRow_56 : dq 91 56 (.lconst 0) 1 = true ∧ dq 91 57 (.lastore) 1 = true ∧ dq 91 58 (.iinc 4 1) 3 = true ∧ dq 91 61 (.goto (-19)) 3 = true ∧ dq 91 64 (.return_) 1 = true := by decide +kernel
theorem dX7_holdRow_56 : decode (mB 91) 56 = .ok (.lconst 0, 1) := dqo gX7_holdRow_56.1
theorem dX7_holdRow_57 : decode (mB 91) 57 = .ok (.lastore, 1) := dqo gX7_holdRow_56.2.1
theorem dX7_holdRow_58 : decode (mB 91) 58 = .ok (.iinc 4 1, 3) := dqo gX7_holdRow_56.2.2.1
theorem dX7_holdRow_61 : decode (mB 91) 61 = .ok (.goto (-19), 3) := dqo gX7_holdRow_56.2.2.2.1
theorem dX7_holdRow_64 : decode (mB 91) 64 = .ok (.return_, 1) := dqo gX7_holdRow_56.2.2.2.2
theorem gX7_get_0 : dq 92 0 (.aload_n 0) 1 = true ∧ dq 92 1 (.iload_n 1) 1 = true ∧ dq 92 2 (.invokevirtual 33) 3 = true ∧ dq 92 5 (.ifCond .eq 24) 3 = true ∧ dq 92 8 (.aload_n 0) 1 = true ∧ dq 92 9 (.iload_n 1) 1 = true ∧ dq 92 10 (.iload_n 2) 1 = true ∧ dq 92 11 (.iconst 1) 1 = true ∧ dq 92 12 (.invokevirtual 43) 3 = true ∧ dq 92 15 (.ifCond .eq 14) 3 = true ∧ dq 92 18 (.aload_n 0) 1 = true ∧ dq 92 19 (.getfield 23) 3 = true ∧ dq 92 22 (.iload_n 1) 1 = true ∧ dq 92 23 (.aaload) 1 = true ∧ dq 92 24 (.iload_n 2) 1 = true ∧ dq 92 25 (.laload) 1 = true := by decide +kernel
theorem dX7_get_0 : decode (mB 92) 0 = .ok (.aload_n 0, 1) := dqo gX7_get_0.1
theorem dX7_get_1 : decode (mB 92) 1 = .ok (.iload_n 1, 1) := dqo gX7_get_0.2.1
theorem dX7_get_2 : decode (mB 92) 2 = .ok (.invokevirtual 33, 3) := dqo gX7_get_0.2.2.1
theorem dX7_get_5 : decode (mB 92) 5 = .ok (.ifCond .eq 24, 3) := dqo gX7_get_0.2.2.2.1
theorem dX7_get_8 : decode (mB 92) 8 = .ok (.aload_n 0, 1) := dqo gX7_get_0.2.2.2.2.1
theorem dX7_get_9 : decode (mB 92) 9 = .ok (.iload_n 1, 1) := dqo gX7_get_0.2.2.2.2.2.1
theorem dX7_get_10 : decode (mB 92) 10 = .ok (.iload_n 2, 1) := dqo gX7_get_0.2.2.2.2.2.2.1
theorem dX7_get_11 : decode (mB 92) 11 = .ok (.iconst 1, 1) := dqo gX7_get_0.2.2.2.2.2.2.2.1
theorem dX7_get_12 : decode (mB 92) 12 = .ok (.invokevirtual 43, 3) := dqo gX7_get_0.2.2.2.2.2.2.2.2.1
theorem dX7_get_15 : decode (mB 92) 15 = .ok (.ifCond .eq 14, 3) := dqo gX7_get_0.2.2.2.2.2.2.2.2.2.1
theorem dX7_get_18 : decode (mB 92) 18 = .ok (.aload_n 0, 1) := dqo gX7_get_0.2.2.2.2.2.2.2.2.2.2.1
theorem dX7_get_19 : decode (mB 92) 19 = .ok (.getfield 23, 3) := dqo gX7_get_0.2.2.2.2.2.2.2.2.2.2.2.1
theorem dX7_get_22 : decode (mB 92) 22 = .ok (.iload_n 1, 1) := dqo gX7_get_0.2.2.2.2.2.2.2.2.2.2.2.2.1
theorem dX7_get_23 : decode (mB 92) 23 = .ok (.aaload, 1) := dqo gX7_get_0.2.2.2.2.2.2.2.2.2.2.2.2.2.1
theorem dX7_get_24 : decode (mB 92) 24 = .ok (.iload_n 2, 1) := dqo gX7_get_0.2.2.2.2.2.2.2.2.2.2.2.2.2.2.1
theorem dX7_get_25 : decode (mB 92) 25 = .ok (.laload, 1) := dqo gX7_get_0.2.2.2.2.2.2.2.2.2.2.2.2.2.2.2
theorem gX7_get_26 : dq 92 26 (.goto 4) 3 = true ∧ dq 92 29 (.lconst 0) 1 = true ∧ dq 92 30 (.lreturn) 1 = true := by decide +kernel
theorem dX7_get_26 : decode (mB 92) 26 = .ok (.goto 4, 3) := dqo gX7_get_26.1
theorem dX7_get_29 : decode (mB 92) 29 = .ok (.lconst 0, 1) := dqo gX7_get_26.2.1
theorem dX7_get_30 : decode (mB 92) 30 = .ok (.lreturn, 1) := dqo gX7_get_26.2.2
theorem gX7_set_0 : dq 93 0 (.aload_n 0) 1 = true ∧ dq 93 1 (.iload_n 1) 1 = true ∧ dq 93 2 (.invokevirtual 33) 3 = true ∧ dq 93 5 (.ifCond .eq 31) 3 = true ∧ dq 93 8 (.aload_n 0) 1 = true ∧ dq 93 9 (.iload_n 1) 1 = true ∧ dq 93 10 (.iload_n 2) 1 = true ∧ dq 93 11 (.iconst 1) 1 = true ∧ dq 93 12 (.invokevirtual 43) 3 = true ∧ dq 93 15 (.ifCond .eq 21) 3 = true ∧ dq 93 18 (.aload_n 0) 1 = true ∧ dq 93 19 (.getfield 23) 3 = true ∧ dq 93 22 (.iload_n 1) 1 = true ∧ dq 93 23 (.aaload) 1 = true ∧ dq 93 24 (.iload_n 2) 1 = true ∧ dq 93 25 (.aload_n 0) 1 = true := by decide +kernel
theorem dX7_set_0 : decode (mB 93) 0 = .ok (.aload_n 0, 1) := dqo gX7_set_0.1
theorem dX7_set_1 : decode (mB 93) 1 = .ok (.iload_n 1, 1) := dqo gX7_set_0.2.1
theorem dX7_set_2 : decode (mB 93) 2 = .ok (.invokevirtual 33, 3) := dqo gX7_set_0.2.2.1
theorem dX7_set_5 : decode (mB 93) 5 = .ok (.ifCond .eq 31, 3) := dqo gX7_set_0.2.2.2.1
theorem dX7_set_8 : decode (mB 93) 8 = .ok (.aload_n 0, 1) := dqo gX7_set_0.2.2.2.2.1
theorem dX7_set_9 : decode (mB 93) 9 = .ok (.iload_n 1, 1) := dqo gX7_set_0.2.2.2.2.2.1
theorem dX7_set_10 : decode (mB 93) 10 = .ok (.iload_n 2, 1) := dqo gX7_set_0.2.2.2.2.2.2.1
theorem dX7_set_11 : decode (mB 93) 11 = .ok (.iconst 1, 1) := dqo gX7_set_0.2.2.2.2.2.2.2.1
theorem dX7_set_12 : decode (mB 93) 12 = .ok (.invokevirtual 43, 3) := dqo gX7_set_0.2.2.2.2.2.2.2.2.1
theorem dX7_set_15 : decode (mB 93) 15 = .ok (.ifCond .eq 21, 3) := dqo gX7_set_0.2.2.2.2.2.2.2.2.2.1
theorem dX7_set_18 : decode (mB 93) 18 = .ok (.aload_n 0, 1) := dqo gX7_set_0.2.2.2.2.2.2.2.2.2.2.1
theorem dX7_set_19 : decode (mB 93) 19 = .ok (.getfield 23, 3) := dqo gX7_set_0.2.2.2.2.2.2.2.2.2.2.2.1
theorem dX7_set_22 : decode (mB 93) 22 = .ok (.iload_n 1, 1) := dqo gX7_set_0.2.2.2.2.2.2.2.2.2.2.2.2.1
theorem dX7_set_23 : decode (mB 93) 23 = .ok (.aaload, 1) := dqo gX7_set_0.2.2.2.2.2.2.2.2.2.2.2.2.2.1
theorem dX7_set_24 : decode (mB 93) 24 = .ok (.iload_n 2, 1) := dqo gX7_set_0.2.2.2.2.2.2.2.2.2.2.2.2.2.2.1
theorem dX7_set_25 : decode (mB 93) 25 = .ok (.aload_n 0, 1) := dqo gX7_set_0.2.2.2.2.2.2.2.2.2.2.2.2.2.2.2
theorem gX7_set_26 : dq 93 26 (.getfield 11) 3 = true ∧ dq 93 29 (.iload_n 1) 1 = true ∧ dq 93 30 (.iaload) 1 = true ∧ dq 93 31 (.lload_n 3) 1 = true ∧ dq 93 32 (.invokestatic 50) 3 = true ∧ dq 93 35 (.lastore) 1 = true ∧ dq 93 36 (.return_) 1 = true := by decide +kernel
theorem dX7_set_26 : decode (mB 93) 26 = .ok (.getfield 11, 3) := dqo gX7_set_26.1
theorem dX7_set_29 : decode (mB 93) 29 = .ok (.iload_n 1, 1) := dqo gX7_set_26.2.1
theorem dX7_set_30 : decode (mB 93) 30 = .ok (.iaload, 1) := dqo gX7_set_26.2.2.1
theorem dX7_set_31 : decode (mB 93) 31 = .ok (.lload_n 3, 1) := dqo gX7_set_26.2.2.2.1
theorem dX7_set_32 : decode (mB 93) 32 = .ok (.invokestatic 50, 3) := dqo gX7_set_26.2.2.2.2.1
theorem dX7_set_35 : decode (mB 93) 35 = .ok (.lastore, 1) := dqo gX7_set_26.2.2.2.2.2.1
theorem dX7_set_36 : decode (mB 93) 36 = .ok (.return_, 1) := dqo gX7_set_26.2.2.2.2.2.2
theorem gX7_lowestBits_0 : dq 94 0 (.iload_n 0) 1 = true ∧ dq 94 1 (.tableswitch 61 0 4 #[35, 40, 45, 61, 49]) 35 = true ∧ dq 94 36 (.lload_n 1) 1 = true ∧ dq 94 37 (.l2i) 1 = true ∧ dq 94 38 (.i2b) 1 = true ∧ dq 94 39 (.i2l) 1 = true ∧ dq 94 40 (.lreturn) 1 = true ∧ dq 94 41 (.lload_n 1) 1 = true ∧ dq 94 42 (.l2i) 1 = true ∧ dq 94 43 (.i2s) 1 = true ∧ dq 94 44 (.i2l) 1 = true ∧ dq 94 45 (.lreturn) 1 = true ∧ dq 94 46 (.lload_n 1) 1 = true ∧ dq 94 47 (.l2i) 1 = true ∧ dq 94 48 (.i2l) 1 = true ∧ dq 94 49 (.lreturn) 1 = true := by decide +kernel
theorem dX7_lowestBits_0 : decode (mB 94) 0 = .ok (.iload_n 0, 1) := dqo gX7_lowestBits_0.1
theorem dX7_lowestBits_1 : decode (mB 94) 1 = .ok (.tableswitch 61 0 4 #[35, 40, 45, 61, 49], 35) := dqo gX7_lowestBits_0.2.1
theorem dX7_lowestBits_36 : decode (mB 94) 36 = .ok (.lload_n 1, 1) := dqo gX7_lowestBits_0.2.2.1
theorem dX7_lowestBits_37 : decode (mB 94) 37 = .ok (.l2i, 1) := dqo gX7_lowestBits_0.2.2.2.1
theorem dX7_lowestBits_38 : decode (mB 94) 38 = .ok (.i2b, 1) := dqo gX7_lowestBits_0.2.2.2.2.1
theorem dX7_lowestBits_39 : decode (mB 94) 39 = .ok (.i2l, 1) := dqo gX7_lowestBits_0.2.2.2.2.2.1
theorem dX7_lowestBits_40 : decode (mB 94) 40 = .ok (.lreturn, 1) := dqo gX7_lowestBits_0.2.2.2.2.2.2.1
theorem dX7_lowestBits_41 : decode (mB 94) 41 = .ok (.lload_n 1, 1) := dqo gX7_lowestBits_0.2.2.2.2.2.2.2.1
theorem dX7_lowestBits_42 : decode (mB 94) 42 = .ok (.l2i, 1) := dqo gX7_lowestBits_0.2.2.2.2.2.2.2.2.1
theorem dX7_lowestBits_43 : decode (mB 94) 43 = .ok (.i2s, 1) := dqo gX7_lowestBits_0.2.2.2.2.2.2.2.2.2.1
theorem dX7_lowestBits_44 : decode (mB 94) 44 = .ok (.i2l, 1) := dqo gX7_lowestBits_0.2.2.2.2.2.2.2.2.2.2.1
theorem dX7_lowestBits_45 : decode (mB 94) 45 = .ok (.lreturn, 1) := dqo gX7_lowestBits_0.2.2.2.2.2.2.2.2.2.2.2.1
theorem dX7_lowestBits_46 : decode (mB 94) 46 = .ok (.lload_n 1, 1) := dqo gX7_lowestBits_0.2.2.2.2.2.2.2.2.2.2.2.2.1
theorem dX7_lowestBits_47 : decode (mB 94) 47 = .ok (.l2i, 1) := dqo gX7_lowestBits_0.2.2.2.2.2.2.2.2.2.2.2.2.2.1
theorem dX7_lowestBits_48 : decode (mB 94) 48 = .ok (.i2l, 1) := dqo gX7_lowestBits_0.2.2.2.2.2.2.2.2.2.2.2.2.2.2.1
theorem dX7_lowestBits_49 : decode (mB 94) 49 = .ok (.lreturn, 1) := dqo gX7_lowestBits_0.2.2.2.2.2.2.2.2.2.2.2.2.2.2.2
theorem gX7_lowestBits_50 : dq 94 50 (.lload_n 1) 1 = true ∧ dq 94 51 (.lconst 0) 1 = true ∧ dq 94 52 (.lcmp) 1 = true ∧ dq 94 53 (.ifCond .eq 7) 3 = true ∧ dq 94 56 (.lconst 1) 1 = true ∧ dq 94 57 (.goto 4) 3 = true ∧ dq 94 60 (.lconst 0) 1 = true ∧ dq 94 61 (.lreturn) 1 = true ∧ dq 94 62 (.lload_n 1) 1 = true ∧ dq 94 63 (.lreturn) 1 = true := by decide +kernel
theorem dX7_lowestBits_50 : decode (mB 94) 50 = .ok (.lload_n 1, 1) := dqo gX7_lowestBits_50.1
theorem dX7_lowestBits_51 : decode (mB 94) 51 = .ok (.lconst 0, 1) := dqo gX7_lowestBits_50.2.1
theorem dX7_lowestBits_52 : decode (mB 94) 52 = .ok (.lcmp, 1) := dqo gX7_lowestBits_50.2.2.1
theorem dX7_lowestBits_53 : decode (mB 94) 53 = .ok (.ifCond .eq 7, 3) := dqo gX7_lowestBits_50.2.2.2.1
theorem dX7_lowestBits_56 : decode (mB 94) 56 = .ok (.lconst 1, 1) := dqo gX7_lowestBits_50.2.2.2.2.1
theorem dX7_lowestBits_57 : decode (mB 94) 57 = .ok (.goto 4, 3) := dqo gX7_lowestBits_50.2.2.2.2.2.1
theorem dX7_lowestBits_60 : decode (mB 94) 60 = .ok (.lconst 0, 1) := dqo gX7_lowestBits_50.2.2.2.2.2.2.1
theorem dX7_lowestBits_61 : decode (mB 94) 61 = .ok (.lreturn, 1) := dqo gX7_lowestBits_50.2.2.2.2.2.2.2.1
theorem dX7_lowestBits_62 : decode (mB 94) 62 = .ok (.lload_n 1, 1) := dqo gX7_lowestBits_50.2.2.2.2.2.2.2.2.1
theorem dX7_lowestBits_63 : decode (mB 94) 63 = .ok (.lreturn, 1) := dqo gX7_lowestBits_50.2.2.2.2.2.2.2.2.2
theorem gX7_copy_0 : dq 95 0 (.aload_n 0) 1 = true ∧ dq 95 1 (.iload_n 1) 1 = true ∧ dq 95 2 (.iload_n 2) 1 = true ∧ dq 95 3 (.iload 5) 2 = true ∧ dq 95 5 (.invokevirtual 43) 3 = true ∧ dq 95 8 (.ifCond .eq 51) 3 = true ∧ dq 95 11 (.aload_n 0) 1 = true ∧ dq 95 12 (.iload_n 3) 1 = true ∧ dq 95 13 (.iload 4) 2 = true ∧ dq 95 15 (.iload 5) 2 = true ∧ dq 95 17 (.invokevirtual 43) 3 = true ∧ dq 95 20 (.ifCond .eq 39) 3 = true ∧ dq 95 23 (.aload_n 0) 1 = true ∧ dq 95 24 (.iload_n 1) 1 = true ∧ dq 95 25 (.invokevirtual 33) 3 = true ∧ dq 95 28 (.ifCond .eq 31) 3 = true := by decide +kernel
theorem dX7_copy_0 : decode (mB 95) 0 = .ok (.aload_n 0, 1) := dqo gX7_copy_0.1
theorem dX7_copy_1 : decode (mB 95) 1 = .ok (.iload_n 1, 1) := dqo gX7_copy_0.2.1
theorem dX7_copy_2 : decode (mB 95) 2 = .ok (.iload_n 2, 1) := dqo gX7_copy_0.2.2.1
theorem dX7_copy_3 : decode (mB 95) 3 = .ok (.iload 5, 2) := dqo gX7_copy_0.2.2.2.1
theorem dX7_copy_5 : decode (mB 95) 5 = .ok (.invokevirtual 43, 3) := dqo gX7_copy_0.2.2.2.2.1
theorem dX7_copy_8 : decode (mB 95) 8 = .ok (.ifCond .eq 51, 3) := dqo gX7_copy_0.2.2.2.2.2.1
theorem dX7_copy_11 : decode (mB 95) 11 = .ok (.aload_n 0, 1) := dqo gX7_copy_0.2.2.2.2.2.2.1
theorem dX7_copy_12 : decode (mB 95) 12 = .ok (.iload_n 3, 1) := dqo gX7_copy_0.2.2.2.2.2.2.2.1
theorem dX7_copy_13 : decode (mB 95) 13 = .ok (.iload 4, 2) := dqo gX7_copy_0.2.2.2.2.2.2.2.2.1
theorem dX7_copy_15 : decode (mB 95) 15 = .ok (.iload 5, 2) := dqo gX7_copy_0.2.2.2.2.2.2.2.2.2.1
theorem dX7_copy_17 : decode (mB 95) 17 = .ok (.invokevirtual 43, 3) := dqo gX7_copy_0.2.2.2.2.2.2.2.2.2.2.1
theorem dX7_copy_20 : decode (mB 95) 20 = .ok (.ifCond .eq 39, 3) := dqo gX7_copy_0.2.2.2.2.2.2.2.2.2.2.2.1
theorem dX7_copy_23 : decode (mB 95) 23 = .ok (.aload_n 0, 1) := dqo gX7_copy_0.2.2.2.2.2.2.2.2.2.2.2.2.1
theorem dX7_copy_24 : decode (mB 95) 24 = .ok (.iload_n 1, 1) := dqo gX7_copy_0.2.2.2.2.2.2.2.2.2.2.2.2.2.1
theorem dX7_copy_25 : decode (mB 95) 25 = .ok (.invokevirtual 33, 3) := dqo gX7_copy_0.2.2.2.2.2.2.2.2.2.2.2.2.2.2.1
theorem dX7_copy_28 : decode (mB 95) 28 = .ok (.ifCond .eq 31, 3) := dqo gX7_copy_0.2.2.2.2.2.2.2.2.2.2.2.2.2.2.2
theorem gX7_copy_31 : dq 95 31 (.aload_n 0) 1 = true ∧ dq 95 32 (.iload_n 3) 1 = true ∧ dq 95 33 (.invokevirtual 33) 3 = true ∧ dq 95 36 (.ifCond .eq 23) 3 = true ∧ dq 95 39 (.aload_n 0) 1 = true ∧ dq 95 40 (.getfield 23) 3 = true ∧ dq 95 43 (.iload_n 1) 1 = true ∧ dq 95 44 (.aaload) 1 = true ∧ dq 95 45 (.iload_n 2) 1 = true ∧ dq 95 46 (.aload_n 0) 1 = true ∧ dq 95 47 (.getfield 23) 3 = true ∧ dq 95 50 (.iload_n 3) 1 = true ∧ dq 95 51 (.aaload) 1 = true ∧ dq 95 52 (.iload 4) 2 = true ∧ dq 95 54 (.iload 5) 2 = true ∧ dq 95 56 (.invokestatic 54) 3 = true := by decide +kernel
theorem dX7_copy_31 : decode (mB 95) 31 = .ok (.aload_n 0, 1) := dqo gX7_copy_31.1
theorem dX7_copy_32 : decode (mB 95) 32 = .ok (.iload_n 3, 1) := dqo gX7_copy_31.2.1
theorem dX7_copy_33 : decode (mB 95) 33 = .ok (.invokevirtual 33, 3) := dqo gX7_copy_31.2.2.1
theorem dX7_copy_36 : decode (mB 95) 36 = .ok (.ifCond .eq 23, 3) := dqo gX7_copy_31.2.2.2.1
theorem dX7_copy_39 : decode (mB 95) 39 = .ok (.aload_n 0, 1) := dqo gX7_copy_31.2.2.2.2.1
theorem dX7_copy_40 : decode (mB 95) 40 = .ok (.getfield 23, 3) := dqo gX7_copy_31.2.2.2.2.2.1
theorem dX7_copy_43 : decode (mB 95) 43 = .ok (.iload_n 1, 1) := dqo gX7_copy_31.2.2.2.2.2.2.1
theorem dX7_copy_44 : decode (mB 95) 44 = .ok (.aaload, 1) := dqo gX7_copy_31.2.2.2.2.2.2.2.1
theorem dX7_copy_45 : decode (mB 95) 45 = .ok (.iload_n 2, 1) := dqo gX7_copy_31.2.2.2.2.2.2.2.2.1
theorem dX7_copy_46 : decode (mB 95) 46 = .ok (.aload_n 0, 1) := dqo gX7_copy_31.2.2.2.2.2.2.2.2.2.1
theorem dX7_copy_47 : decode (mB 95) 47 = .ok (.getfield 23, 3) := dqo gX7_copy_31.2.2.2.2.2.2.2.2.2.2.1
theorem dX7_copy_50 : decode (mB 95) 50 = .ok (.iload_n 3, 1) := dqo gX7_copy_31.2.2.2.2.2.2.2.2.2.2.2.1
theorem dX7_copy_51 : decode (mB 95) 51 = .ok (.aaload, 1) := dqo gX7_copy_31.2.2.2.2.2.2.2.2.2.2.2.2.1
theorem dX7_copy_52 : decode (mB 95) 52 = .ok (.iload 4, 2) := dqo gX7_copy_31.2.2.2.2.2.2.2.2.2.2.2.2.2.1
theorem dX7_copy_54 : decode (mB 95) 54 = .ok (.iload 5, 2) := dqo gX7_copy_31.2.2.2.2.2.2.2.2.2.2.2.2.2.2.1
theorem dX7_copy_56 : decode (mB 95) 56 = .ok (.invokestatic 54, 3) := dqo gX7_copy_31.2.2.2.2.2.2.2.2.2.2.2.2.2.2.2
theorem dX7_copy_59 : decode (mB 95) 59 = .ok (.return_, 1) := dqo (by decide +kernel)
theorem gX8_init_0 : dq 96 0 (.aload_n 0) 1 = true ∧ dq 96 1 (.invokespecial 3) 3 = true ∧ dq 96 4 (.aload_n 0) 1 = true ∧ dq 96 5 (.aload_n 1) 1 = true ∧ dq 96 6 (.putfield 9) 3 = true ∧ dq 96 9 (.aload_n 0) 1 = true ∧ dq 96 10 (.aload_n 2) 1 = true ∧ dq 96 11 (.putfield 15) 3 = true ∧ dq 96 14 (.aload_n 0) 1 = true ∧ dq 96 15 (.bipush 12) 2 = true ∧ dq 96 17 (.newarray .int) 2 = true ∧ dq 96 19 (.putfield 19) 3 = true ∧ dq 96 22 (.return_) 1 = true := by decide +kernel
theorem dX8_init_0 : decode (mB 96) 0 = .ok (.aload_n 0, 1) := dqo gX8_init_0.1
theorem dX8_init_1 : decode (mB 96) 1 = .ok (.invokespecial 3, 3) := dqo gX8_init_0.2.1
theorem dX8_init_4 : decode (mB 96) 4 = .ok (.aload_n 0, 1) := dqo gX8_init_0.2.2.1
theorem dX8_init_5 : decode (mB 96) 5 = .ok (.aload_n 1, 1) := dqo gX8_init_0.2.2.2.1
theorem dX8_init_6 : decode (mB 96) 6 = .ok (.putfield 9, 3) := dqo gX8_init_0.2.2.2.2.1
theorem dX8_init_9 : decode (mB 96) 9 = .ok (.aload_n 0, 1) := dqo gX8_init_0.2.2.2.2.2.1
theorem dX8_init_10 : decode (mB 96) 10 = .ok (.aload_n 2, 1) := dqo gX8_init_0.2.2.2.2.2.2.1
theorem dX8_init_11 : decode (mB 96) 11 = .ok (.putfield 15, 3) := dqo gX8_init_0.2.2.2.2.2.2.2.1
theorem dX8_init_14 : decode (mB 96) 14 = .ok (.aload_n 0, 1) := dqo gX8_init_0.2.2.2.2.2.2.2.2.1
theorem dX8_init_15 : decode (mB 96) 15 = .ok (.bipush 12, 2) := dqo gX8_init_0.2.2.2.2.2.2.2.2.2.1
theorem dX8_init_17 : decode (mB 96) 17 = .ok (.newarray .int, 2) := dqo gX8_init_0.2.2.2.2.2.2.2.2.2.2.1
theorem dX8_init_19 : decode (mB 96) 19 = .ok (.putfield 19, 3) := dqo gX8_init_0.2.2.2.2.2.2.2.2.2.2.2.1
theorem dX8_init_22 : decode (mB 96) 22 = .ok (.return_, 1) := dqo gX8_init_0.2.2.2.2.2.2.2.2.2.2.2.2
theorem gX8_begin_0 : dq 97 0 (.iconst 0) 1 = true ∧ dq 97 1 (.istore_n 1) 1 = true ∧ dq 97 2 (.iload_n 1) 1 = true ∧ dq 97 3 (.bipush 12) 2 = true ∧ dq 97 5 (.if_icmp .ge 24) 3 = true ∧ dq 97 8 (.aload_n 0) 1 = true ∧ dq 97 9 (.getfield 19) 3 = true ∧ dq 97 12 (.iload_n 1) 1 = true ∧ dq 97 13 (.aload_n 0) 1 = true ∧ dq 97 14 (.getfield 9) 3 = true ∧ dq 97 17 (.iconst 4) 1 = true ∧ dq 97 18 (.iload_n 1) 1 = true ∧ dq 97 19 (.invokevirtual 23) 3 = true ∧ dq 97 22 (.iastore) 1 = true ∧ dq 97 23 (.iinc 1 1) 3 = true ∧ dq 97 26 (.goto (-24)) 3 = true := by decide +kernel
theorem dX8_begin_0 : decode (mB 97) 0 = .ok (.iconst 0, 1) := dqo gX8_begin_0.1
theorem dX8_begin_1 : decode (mB 97) 1 = .ok (.istore_n 1, 1) := dqo gX8_begin_0.2.1
theorem dX8_begin_2 : decode (mB 97) 2 = .ok (.iload_n 1, 1) := dqo gX8_begin_0.2.2.1
theorem dX8_begin_3 : decode (mB 97) 3 = .ok (.bipush 12, 2) := dqo gX8_begin_0.2.2.2.1
theorem dX8_begin_5 : decode (mB 97) 5 = .ok (.if_icmp .ge 24, 3) := dqo gX8_begin_0.2.2.2.2.1
theorem dX8_begin_8 : decode (mB 97) 8 = .ok (.aload_n 0, 1) := dqo gX8_begin_0.2.2.2.2.2.1
theorem dX8_begin_9 : decode (mB 97) 9 = .ok (.getfield 19, 3) := dqo gX8_begin_0.2.2.2.2.2.2.1
theorem dX8_begin_12 : decode (mB 97) 12 = .ok (.iload_n 1, 1) := dqo gX8_begin_0.2.2.2.2.2.2.2.1
theorem dX8_begin_13 : decode (mB 97) 13 = .ok (.aload_n 0, 1) := dqo gX8_begin_0.2.2.2.2.2.2.2.2.1
theorem dX8_begin_14 : decode (mB 97) 14 = .ok (.getfield 9, 3) := dqo gX8_begin_0.2.2.2.2.2.2.2.2.2.1
theorem dX8_begin_17 : decode (mB 97) 17 = .ok (.iconst 4, 1) := dqo gX8_begin_0.2.2.2.2.2.2.2.2.2.2.1
theorem dX8_begin_18 : decode (mB 97) 18 = .ok (.iload_n 1, 1) := dqo gX8_begin_0.2.2.2.2.2.2.2.2.2.2.2.1
theorem dX8_begin_19 : decode (mB 97) 19 = .ok (.invokevirtual 23, 3) := dqo gX8_begin_0.2.2.2.2.2.2.2.2.2.2.2.2.1
theorem dX8_begin_22 : decode (mB 97) 22 = .ok (.iastore, 1) := dqo gX8_begin_0.2.2.2.2.2.2.2.2.2.2.2.2.2.1
theorem dX8_begin_23 : decode (mB 97) 23 = .ok (.iinc 1 1, 3) := dqo gX8_begin_0.2.2.2.2.2.2.2.2.2.2.2.2.2.2.1
theorem dX8_begin_26 : decode (mB 97) 26 = .ok (.goto (-24), 3) := dqo gX8_begin_0.2.2.2.2.2.2.2.2.2.2.2.2.2.2.2
theorem dX8_begin_29 : decode (mB 97) 29 = .ok (.return_, 1) := dqo (by decide +kernel)
theorem gX8_holderOf_0 : dq 98 0 (.aload_n 0) 1 = true ∧ dq 98 1 (.getfield 9) 3 = true ∧ dq 98 4 (.iload_n 1) 1 = true ∧ dq 98 5 (.invokevirtual 29) 3 = true ∧ dq 98 8 (.ifCond .eq 12) 3 = true ∧ dq 98 11 (.aload_n 0) 1 = true ∧ dq 98 12 (.getfield 19) 3 = true ∧ dq 98 15 (.iload_n 1) 1 = true ∧ dq 98 16 (.iaload) 1 = true ∧ dq 98 17 (.goto 5) 3 = true ∧ dq 98 20 (.bipush (-2)) 2 = true ∧ dq 98 22 (.ireturn) 1 = true := by decide +kernel
theorem dX8_holderOf_0 : decode (mB 98) 0 = .ok (.aload_n 0, 1) := dqo gX8_holderOf_0.1
theorem dX8_holderOf_1 : decode (mB 98) 1 = .ok (.getfield 9, 3) := dqo gX8_holderOf_0.2.1
theorem dX8_holderOf_4 : decode (mB 98) 4 = .ok (.iload_n 1, 1) := dqo gX8_holderOf_0.2.2.1
theorem dX8_holderOf_5 : decode (mB 98) 5 = .ok (.invokevirtual 29, 3) := dqo gX8_holderOf_0.2.2.2.1
theorem dX8_holderOf_8 : decode (mB 98) 8 = .ok (.ifCond .eq 12, 3) := dqo gX8_holderOf_0.2.2.2.2.1
theorem dX8_holderOf_11 : decode (mB 98) 11 = .ok (.aload_n 0, 1) := dqo gX8_holderOf_0.2.2.2.2.2.1
theorem dX8_holderOf_12 : decode (mB 98) 12 = .ok (.getfield 19, 3) := dqo gX8_holderOf_0.2.2.2.2.2.2.1
theorem dX8_holderOf_15 : decode (mB 98) 15 = .ok (.iload_n 1, 1) := dqo gX8_holderOf_0.2.2.2.2.2.2.2.1
theorem dX8_holderOf_16 : decode (mB 98) 16 = .ok (.iaload, 1) := dqo gX8_holderOf_0.2.2.2.2.2.2.2.2.1
theorem dX8_holderOf_17 : decode (mB 98) 17 = .ok (.goto 5, 3) := dqo gX8_holderOf_0.2.2.2.2.2.2.2.2.2.1
theorem dX8_holderOf_20 : decode (mB 98) 20 = .ok (.bipush (-2), 2) := dqo gX8_holderOf_0.2.2.2.2.2.2.2.2.2.2.1
theorem dX8_holderOf_22 : decode (mB 98) 22 = .ok (.ireturn, 1) := dqo gX8_holderOf_0.2.2.2.2.2.2.2.2.2.2.2
theorem gX8_give_0 : dq 99 0 (.aload_n 0) 1 = true ∧ dq 99 1 (.getfield 9) 3 = true ∧ dq 99 4 (.iload_n 1) 1 = true ∧ dq 99 5 (.invokevirtual 29) 3 = true ∧ dq 99 8 (.ifCond .eq 10) 3 = true ∧ dq 99 11 (.aload_n 0) 1 = true ∧ dq 99 12 (.getfield 19) 3 = true ∧ dq 99 15 (.iload_n 1) 1 = true ∧ dq 99 16 (.iload_n 2) 1 = true ∧ dq 99 17 (.iastore) 1 = true ∧ dq 99 18 (.return_) 1 = true := by decide +kernel
theorem dX8_give_0 : decode (mB 99) 0 = .ok (.aload_n 0, 1) := dqo gX8_give_0.1
theorem dX8_give_1 : decode (mB 99) 1 = .ok (.getfield 9, 3) := dqo gX8_give_0.2.1
theorem dX8_give_4 : decode (mB 99) 4 = .ok (.iload_n 1, 1) := dqo gX8_give_0.2.2.1
theorem dX8_give_5 : decode (mB 99) 5 = .ok (.invokevirtual 29, 3) := dqo gX8_give_0.2.2.2.1
theorem dX8_give_8 : decode (mB 99) 8 = .ok (.ifCond .eq 10, 3) := dqo gX8_give_0.2.2.2.2.1
theorem dX8_give_11 : decode (mB 99) 11 = .ok (.aload_n 0, 1) := dqo gX8_give_0.2.2.2.2.2.1
theorem dX8_give_12 : decode (mB 99) 12 = .ok (.getfield 19, 3) := dqo gX8_give_0.2.2.2.2.2.2.1
theorem dX8_give_15 : decode (mB 99) 15 = .ok (.iload_n 1, 1) := dqo gX8_give_0.2.2.2.2.2.2.2.1
theorem dX8_give_16 : decode (mB 99) 16 = .ok (.iload_n 2, 1) := dqo gX8_give_0.2.2.2.2.2.2.2.2.1
theorem dX8_give_17 : decode (mB 99) 17 = .ok (.iastore, 1) := dqo gX8_give_0.2.2.2.2.2.2.2.2.2.1
theorem dX8_give_18 : decode (mB 99) 18 = .ok (.return_, 1) := dqo gX8_give_0.2.2.2.2.2.2.2.2.2.2
theorem gX8_heldBy_0 : dq 100 0 (.iconst 0) 1 = true ∧ dq 100 1 (.istore_n 2) 1 = true ∧ dq 100 2 (.iconst 0) 1 = true ∧ dq 100 3 (.istore_n 3) 1 = true ∧ dq 100 4 (.iload_n 3) 1 = true ∧ dq 100 5 (.aload_n 0) 1 = true ∧ dq 100 6 (.getfield 9) 3 = true ∧ dq 100 9 (.invokevirtual 33) 3 = true ∧ dq 100 12 (.if_icmp .ge 26) 3 = true ∧ dq 100 15 (.iload_n 2) 1 = true ∧ dq 100 16 (.aload_n 0) 1 = true ∧ dq 100 17 (.iload_n 3) 1 = true ∧ dq 100 18 (.invokevirtual 37) 3 = true ∧ dq 100 21 (.iload_n 1) 1 = true ∧ dq 100 22 (.if_icmp .ne 7) 3 = true ∧ dq 100 25 (.iconst 1) 1 = true := by decide +kernel
theorem dX8_heldBy_0 : decode (mB 100) 0 = .ok (.iconst 0, 1) := dqo gX8_heldBy_0.1
theorem dX8_heldBy_1 : decode (mB 100) 1 = .ok (.istore_n 2, 1) := dqo gX8_heldBy_0.2.1
theorem dX8_heldBy_2 : decode (mB 100) 2 = .ok (.iconst 0, 1) := dqo gX8_heldBy_0.2.2.1
theorem dX8_heldBy_3 : decode (mB 100) 3 = .ok (.istore_n 3, 1) := dqo gX8_heldBy_0.2.2.2.1
theorem dX8_heldBy_4 : decode (mB 100) 4 = .ok (.iload_n 3, 1) := dqo gX8_heldBy_0.2.2.2.2.1
theorem dX8_heldBy_5 : decode (mB 100) 5 = .ok (.aload_n 0, 1) := dqo gX8_heldBy_0.2.2.2.2.2.1
theorem dX8_heldBy_6 : decode (mB 100) 6 = .ok (.getfield 9, 3) := dqo gX8_heldBy_0.2.2.2.2.2.2.1
theorem dX8_heldBy_9 : decode (mB 100) 9 = .ok (.invokevirtual 33, 3) := dqo gX8_heldBy_0.2.2.2.2.2.2.2.1
theorem dX8_heldBy_12 : decode (mB 100) 12 = .ok (.if_icmp .ge 26, 3) := dqo gX8_heldBy_0.2.2.2.2.2.2.2.2.1
theorem dX8_heldBy_15 : decode (mB 100) 15 = .ok (.iload_n 2, 1) := dqo gX8_heldBy_0.2.2.2.2.2.2.2.2.2.1
theorem dX8_heldBy_16 : decode (mB 100) 16 = .ok (.aload_n 0, 1) := dqo gX8_heldBy_0.2.2.2.2.2.2.2.2.2.2.1
theorem dX8_heldBy_17 : decode (mB 100) 17 = .ok (.iload_n 3, 1) := dqo gX8_heldBy_0.2.2.2.2.2.2.2.2.2.2.2.1
theorem dX8_heldBy_18 : decode (mB 100) 18 = .ok (.invokevirtual 37, 3) := dqo gX8_heldBy_0.2.2.2.2.2.2.2.2.2.2.2.2.1
theorem dX8_heldBy_21 : decode (mB 100) 21 = .ok (.iload_n 1, 1) := dqo gX8_heldBy_0.2.2.2.2.2.2.2.2.2.2.2.2.2.1
theorem dX8_heldBy_22 : decode (mB 100) 22 = .ok (.if_icmp .ne 7, 3) := dqo gX8_heldBy_0.2.2.2.2.2.2.2.2.2.2.2.2.2.2.1
theorem dX8_heldBy_25 : decode (mB 100) 25 = .ok (.iconst 1, 1) := dqo gX8_heldBy_0.2.2.2.2.2.2.2.2.2.2.2.2.2.2.2
theorem gX8_heldBy_26 : dq 100 26 (.goto 4) 3 = true ∧ dq 100 29 (.iconst 0) 1 = true ∧ dq 100 30 (.iadd) 1 = true ∧ dq 100 31 (.istore_n 2) 1 = true ∧ dq 100 32 (.iinc 3 1) 3 = true ∧ dq 100 35 (.goto (-31)) 3 = true ∧ dq 100 38 (.iload_n 2) 1 = true ∧ dq 100 39 (.ireturn) 1 = true := by decide +kernel
theorem dX8_heldBy_26 : decode (mB 100) 26 = .ok (.goto 4, 3) := dqo gX8_heldBy_26.1
theorem dX8_heldBy_29 : decode (mB 100) 29 = .ok (.iconst 0, 1) := dqo gX8_heldBy_26.2.1
theorem dX8_heldBy_30 : decode (mB 100) 30 = .ok (.iadd, 1) := dqo gX8_heldBy_26.2.2.1
theorem dX8_heldBy_31 : decode (mB 100) 31 = .ok (.istore_n 2, 1) := dqo gX8_heldBy_26.2.2.2.1
theorem dX8_heldBy_32 : decode (mB 100) 32 = .ok (.iinc 3 1, 3) := dqo gX8_heldBy_26.2.2.2.2.1
theorem dX8_heldBy_35 : decode (mB 100) 35 = .ok (.goto (-31), 3) := dqo gX8_heldBy_26.2.2.2.2.2.1
theorem dX8_heldBy_38 : decode (mB 100) 38 = .ok (.iload_n 2, 1) := dqo gX8_heldBy_26.2.2.2.2.2.2.1
theorem dX8_heldBy_39 : decode (mB 100) 39 = .ok (.ireturn, 1) := dqo gX8_heldBy_26.2.2.2.2.2.2.2
theorem gX8_realsOf_0 : dq 101 0 (.iconst 0) 1 = true ∧ dq 101 1 (.istore_n 2) 1 = true ∧ dq 101 2 (.iconst 0) 1 = true ∧ dq 101 3 (.istore_n 3) 1 = true ∧ dq 101 4 (.iload_n 3) 1 = true ∧ dq 101 5 (.aload_n 0) 1 = true ∧ dq 101 6 (.getfield 9) 3 = true ∧ dq 101 9 (.invokevirtual 33) 3 = true ∧ dq 101 12 (.if_icmp .ge 37) 3 = true ∧ dq 101 15 (.iload_n 2) 1 = true ∧ dq 101 16 (.aload_n 0) 1 = true ∧ dq 101 17 (.iload_n 3) 1 = true ∧ dq 101 18 (.invokevirtual 37) 3 = true ∧ dq 101 21 (.iload_n 1) 1 = true ∧ dq 101 22 (.if_icmp .ne 18) 3 = true ∧ dq 101 25 (.aload_n 0) 1 = true := by decide +kernel
theorem dX8_realsOf_0 : decode (mB 101) 0 = .ok (.iconst 0, 1) := dqo gX8_realsOf_0.1
theorem dX8_realsOf_1 : decode (mB 101) 1 = .ok (.istore_n 2, 1) := dqo gX8_realsOf_0.2.1
theorem dX8_realsOf_2 : decode (mB 101) 2 = .ok (.iconst 0, 1) := dqo gX8_realsOf_0.2.2.1
theorem dX8_realsOf_3 : decode (mB 101) 3 = .ok (.istore_n 3, 1) := dqo gX8_realsOf_0.2.2.2.1
theorem dX8_realsOf_4 : decode (mB 101) 4 = .ok (.iload_n 3, 1) := dqo gX8_realsOf_0.2.2.2.2.1
theorem dX8_realsOf_5 : decode (mB 101) 5 = .ok (.aload_n 0, 1) := dqo gX8_realsOf_0.2.2.2.2.2.1
theorem dX8_realsOf_6 : decode (mB 101) 6 = .ok (.getfield 9, 3) := dqo gX8_realsOf_0.2.2.2.2.2.2.1
theorem dX8_realsOf_9 : decode (mB 101) 9 = .ok (.invokevirtual 33, 3) := dqo gX8_realsOf_0.2.2.2.2.2.2.2.1
theorem dX8_realsOf_12 : decode (mB 101) 12 = .ok (.if_icmp .ge 37, 3) := dqo gX8_realsOf_0.2.2.2.2.2.2.2.2.1
theorem dX8_realsOf_15 : decode (mB 101) 15 = .ok (.iload_n 2, 1) := dqo gX8_realsOf_0.2.2.2.2.2.2.2.2.2.1
theorem dX8_realsOf_16 : decode (mB 101) 16 = .ok (.aload_n 0, 1) := dqo gX8_realsOf_0.2.2.2.2.2.2.2.2.2.2.1
theorem dX8_realsOf_17 : decode (mB 101) 17 = .ok (.iload_n 3, 1) := dqo gX8_realsOf_0.2.2.2.2.2.2.2.2.2.2.2.1
theorem dX8_realsOf_18 : decode (mB 101) 18 = .ok (.invokevirtual 37, 3) := dqo gX8_realsOf_0.2.2.2.2.2.2.2.2.2.2.2.2.1
theorem dX8_realsOf_21 : decode (mB 101) 21 = .ok (.iload_n 1, 1) := dqo gX8_realsOf_0.2.2.2.2.2.2.2.2.2.2.2.2.2.1
theorem dX8_realsOf_22 : decode (mB 101) 22 = .ok (.if_icmp .ne 18, 3) := dqo gX8_realsOf_0.2.2.2.2.2.2.2.2.2.2.2.2.2.2.1
theorem dX8_realsOf_25 : decode (mB 101) 25 = .ok (.aload_n 0, 1) := dqo gX8_realsOf_0.2.2.2.2.2.2.2.2.2.2.2.2.2.2.2
theorem gX8_realsOf_26 : dq 101 26 (.getfield 9) 3 = true ∧ dq 101 29 (.iload_n 3) 1 = true ∧ dq 101 30 (.invokevirtual 41) 3 = true ∧ dq 101 33 (.ifCond .eq 7) 3 = true ∧ dq 101 36 (.iconst 1) 1 = true ∧ dq 101 37 (.goto 4) 3 = true ∧ dq 101 40 (.iconst 0) 1 = true ∧ dq 101 41 (.iadd) 1 = true ∧ dq 101 42 (.istore_n 2) 1 = true ∧ dq 101 43 (.iinc 3 1) 3 = true ∧ dq 101 46 (.goto (-42)) 3 = true ∧ dq 101 49 (.iload_n 2) 1 = true ∧ dq 101 50 (.ireturn) 1 = true := by decide +kernel
theorem dX8_realsOf_26 : decode (mB 101) 26 = .ok (.getfield 9, 3) := dqo gX8_realsOf_26.1
theorem dX8_realsOf_29 : decode (mB 101) 29 = .ok (.iload_n 3, 1) := dqo gX8_realsOf_26.2.1
theorem dX8_realsOf_30 : decode (mB 101) 30 = .ok (.invokevirtual 41, 3) := dqo gX8_realsOf_26.2.2.1
theorem dX8_realsOf_33 : decode (mB 101) 33 = .ok (.ifCond .eq 7, 3) := dqo gX8_realsOf_26.2.2.2.1
theorem dX8_realsOf_36 : decode (mB 101) 36 = .ok (.iconst 1, 1) := dqo gX8_realsOf_26.2.2.2.2.1
theorem dX8_realsOf_37 : decode (mB 101) 37 = .ok (.goto 4, 3) := dqo gX8_realsOf_26.2.2.2.2.2.1
theorem dX8_realsOf_40 : decode (mB 101) 40 = .ok (.iconst 0, 1) := dqo gX8_realsOf_26.2.2.2.2.2.2.1
theorem dX8_realsOf_41 : decode (mB 101) 41 = .ok (.iadd, 1) := dqo gX8_realsOf_26.2.2.2.2.2.2.2.1
theorem dX8_realsOf_42 : decode (mB 101) 42 = .ok (.istore_n 2, 1) := dqo gX8_realsOf_26.2.2.2.2.2.2.2.2.1
theorem dX8_realsOf_43 : decode (mB 101) 43 = .ok (.iinc 3 1, 3) := dqo gX8_realsOf_26.2.2.2.2.2.2.2.2.2.1
theorem dX8_realsOf_46 : decode (mB 101) 46 = .ok (.goto (-42), 3) := dqo gX8_realsOf_26.2.2.2.2.2.2.2.2.2.2.1
theorem dX8_realsOf_49 : decode (mB 101) 49 = .ok (.iload_n 2, 1) := dqo gX8_realsOf_26.2.2.2.2.2.2.2.2.2.2.2.1
theorem dX8_realsOf_50 : decode (mB 101) 50 = .ok (.ireturn, 1) := dqo gX8_realsOf_26.2.2.2.2.2.2.2.2.2.2.2.2
