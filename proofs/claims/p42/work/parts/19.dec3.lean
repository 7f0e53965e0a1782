theorem gX12_friend_0 : dq 255 0 (.aload_n 0) 1 = true ∧ dq 255 1 (.iload_n 1) 1 = true ∧ dq 255 2 (.invokevirtual 125) 3 = true ∧ dq 255 5 (.ifCond .eq 13) 3 = true ∧ dq 255 8 (.iload_n 2) 1 = true ∧ dq 255 9 (.iconst 0) 1 = true ∧ dq 255 10 (.bipush 12) 2 = true ∧ dq 255 12 (.invokestatic 118) 3 = true ∧ dq 255 15 (.ifCond .ne 5) 3 = true ∧ dq 255 18 (.iconst (-1)) 1 = true ∧ dq 255 19 (.ireturn) 1 = true ∧ dq 255 20 (.aload_n 0) 1 = true ∧ dq 255 21 (.invokevirtual 168) 3 = true ∧ dq 255 24 (.aload_n 0) 1 = true ∧ dq 255 25 (.invokevirtual 292) 3 = true ∧ dq 255 28 (.istore_n 3) 1 = true := by decide +kernel
theorem dX12_friend_0 : decode (mB 255) 0 = .ok (.aload_n 0, 1) := dqo gX12_friend_0.1
theorem dX12_friend_1 : decode (mB 255) 1 = .ok (.iload_n 1, 1) := dqo gX12_friend_0.2.1
theorem dX12_friend_2 : decode (mB 255) 2 = .ok (.invokevirtual 125, 3) := dqo gX12_friend_0.2.2.1
theorem dX12_friend_5 : decode (mB 255) 5 = .ok (.ifCond .eq 13, 3) := dqo gX12_friend_0.2.2.2.1
theorem dX12_friend_8 : decode (mB 255) 8 = .ok (.iload_n 2, 1) := dqo gX12_friend_0.2.2.2.2.1
theorem dX12_friend_9 : decode (mB 255) 9 = .ok (.iconst 0, 1) := dqo gX12_friend_0.2.2.2.2.2.1
theorem dX12_friend_10 : decode (mB 255) 10 = .ok (.bipush 12, 2) := dqo gX12_friend_0.2.2.2.2.2.2.1
theorem dX12_friend_12 : decode (mB 255) 12 = .ok (.invokestatic 118, 3) := dqo gX12_friend_0.2.2.2.2.2.2.2.1
theorem dX12_friend_15 : decode (mB 255) 15 = .ok (.ifCond .ne 5, 3) := dqo gX12_friend_0.2.2.2.2.2.2.2.2.1
theorem dX12_friend_18 : decode (mB 255) 18 = .ok (.iconst (-1), 1) := dqo gX12_friend_0.2.2.2.2.2.2.2.2.2.1
theorem dX12_friend_19 : decode (mB 255) 19 = .ok (.ireturn, 1) := dqo gX12_friend_0.2.2.2.2.2.2.2.2.2.2.1
theorem dX12_friend_20 : decode (mB 255) 20 = .ok (.aload_n 0, 1) := dqo gX12_friend_0.2.2.2.2.2.2.2.2.2.2.2.1
theorem dX12_friend_21 : decode (mB 255) 21 = .ok (.invokevirtual 168, 3) := dqo gX12_friend_0.2.2.2.2.2.2.2.2.2.2.2.2.1
theorem dX12_friend_24 : decode (mB 255) 24 = .ok (.aload_n 0, 1) := dqo gX12_friend_0.2.2.2.2.2.2.2.2.2.2.2.2.2.1
theorem dX12_friend_25 : decode (mB 255) 25 = .ok (.invokevirtual 292, 3) := dqo gX12_friend_0.2.2.2.2.2.2.2.2.2.2.2.2.2.2.1
theorem dX12_friend_28 : decode (mB 255) 28 = .ok (.istore_n 3, 1) := dqo gX12_friend_0.2.2.2.2.2.2.2.2.2.2.2.2.2.2.2
theorem gX12_friend_29 : dq 255 29 (.iload_n 3) 1 = true ∧ dq 255 30 (.ifCond .ne 14) 3 = true ∧ dq 255 33 (.iload_n 2) 1 = true ∧ dq 255 34 (.ifCond .ne 7) 3 = true ∧ dq 255 37 (.iconst 0) 1 = true ∧ dq 255 38 (.goto 5) 3 = true ∧ dq 255 41 (.bipush (-2)) 2 = true ∧ dq 255 43 (.ireturn) 1 = true ∧ dq 255 44 (.iconst 0) 1 = true ∧ dq 255 45 (.istore 4) 2 = true ∧ dq 255 47 (.iconst 0) 1 = true ∧ dq 255 48 (.istore 5) 2 = true ∧ dq 255 50 (.iload 5) 2 = true ∧ dq 255 52 (.aload_n 0) 1 = true ∧ dq 255 53 (.getfield 122) 3 = true ∧ dq 255 56 (.if_icmp .ge 32) 3 = true := by decide +kernel
theorem dX12_friend_29 : decode (mB 255) 29 = .ok (.iload_n 3, 1) := dqo gX12_friend_29.1
theorem dX12_friend_30 : decode (mB 255) 30 = .ok (.ifCond .ne 14, 3) := dqo gX12_friend_29.2.1
theorem dX12_friend_33 : decode (mB 255) 33 = .ok (.iload_n 2, 1) := dqo gX12_friend_29.2.2.1
theorem dX12_friend_34 : decode (mB 255) 34 = .ok (.ifCond .ne 7, 3) := dqo gX12_friend_29.2.2.2.1
theorem dX12_friend_37 : decode (mB 255) 37 = .ok (.iconst 0, 1) := dqo gX12_friend_29.2.2.2.2.1
theorem dX12_friend_38 : decode (mB 255) 38 = .ok (.goto 5, 3) := dqo gX12_friend_29.2.2.2.2.2.1
theorem dX12_friend_41 : decode (mB 255) 41 = .ok (.bipush (-2), 2) := dqo gX12_friend_29.2.2.2.2.2.2.1
theorem dX12_friend_43 : decode (mB 255) 43 = .ok (.ireturn, 1) := dqo gX12_friend_29.2.2.2.2.2.2.2.1
theorem dX12_friend_44 : decode (mB 255) 44 = .ok (.iconst 0, 1) := dqo gX12_friend_29.2.2.2.2.2.2.2.2.1
theorem dX12_friend_45 : decode (mB 255) 45 = .ok (.istore 4, 2) := dqo gX12_friend_29.2.2.2.2.2.2.2.2.2.1
theorem dX12_friend_47 : decode (mB 255) 47 = .ok (.iconst 0, 1) := dqo gX12_friend_29.2.2.2.2.2.2.2.2.2.2.1
theorem dX12_friend_48 : decode (mB 255) 48 = .ok (.istore 5, 2) := dqo gX12_friend_29.2.2.2.2.2.2.2.2.2.2.2.1
theorem dX12_friend_50 : decode (mB 255) 50 = .ok (.iload 5, 2) := dqo gX12_friend_29.2.2.2.2.2.2.2.2.2.2.2.2.1
theorem dX12_friend_52 : decode (mB 255) 52 = .ok (.aload_n 0, 1) := dqo gX12_friend_29.2.2.2.2.2.2.2.2.2.2.2.2.2.1
theorem dX12_friend_53 : decode (mB 255) 53 = .ok (.getfield 122, 3) := dqo gX12_friend_29.2.2.2.2.2.2.2.2.2.2.2.2.2.2.1
theorem dX12_friend_56 : decode (mB 255) 56 = .ok (.if_icmp .ge 32, 3) := dqo gX12_friend_29.2.2.2.2.2.2.2.2.2.2.2.2.2.2.2
theorem gX12_friend_59 : dq 255 59 (.aload_n 0) 1 = true ∧ dq 255 60 (.getfield 27) 3 = true ∧ dq 255 63 (.iload 5) 2 = true ∧ dq 255 65 (.iaload) 1 = true ∧ dq 255 66 (.ifCond .ne 16) 3 = true ∧ dq 255 69 (.aload_n 0) 1 = true ∧ dq 255 70 (.iload 5) 2 = true ∧ dq 255 72 (.iload_n 1) 1 = true ∧ dq 255 73 (.invokevirtual 251) 3 = true ∧ dq 255 76 (.ifCond .eq 6) 3 = true ∧ dq 255 79 (.iinc 4 1) 3 = true ∧ dq 255 82 (.iinc 5 1) 3 = true ∧ dq 255 85 (.goto (-35)) 3 = true ∧ dq 255 88 (.iconst 0) 1 = true ∧ dq 255 89 (.istore 5) 2 = true ∧ dq 255 91 (.iload 5) 2 = true := by decide +kernel
theorem dX12_friend_59 : decode (mB 255) 59 = .ok (.aload_n 0, 1) := dqo gX12_friend_59.1
theorem dX12_friend_60 : decode (mB 255) 60 = .ok (.getfield 27, 3) := dqo gX12_friend_59.2.1
theorem dX12_friend_63 : decode (mB 255) 63 = .ok (.iload 5, 2) := dqo gX12_friend_59.2.2.1
theorem dX12_friend_65 : decode (mB 255) 65 = .ok (.iaload, 1) := dqo gX12_friend_59.2.2.2.1
theorem dX12_friend_66 : decode (mB 255) 66 = .ok (.ifCond .ne 16, 3) := dqo gX12_friend_59.2.2.2.2.1
theorem dX12_friend_69 : decode (mB 255) 69 = .ok (.aload_n 0, 1) := dqo gX12_friend_59.2.2.2.2.2.1
theorem dX12_friend_70 : decode (mB 255) 70 = .ok (.iload 5, 2) := dqo gX12_friend_59.2.2.2.2.2.2.1
theorem dX12_friend_72 : decode (mB 255) 72 = .ok (.iload_n 1, 1) := dqo gX12_friend_59.2.2.2.2.2.2.2.1
theorem dX12_friend_73 : decode (mB 255) 73 = .ok (.invokevirtual 251, 3) := dqo gX12_friend_59.2.2.2.2.2.2.2.2.1
theorem dX12_friend_76 : decode (mB 255) 76 = .ok (.ifCond .eq 6, 3) := dqo gX12_friend_59.2.2.2.2.2.2.2.2.2.1
theorem dX12_friend_79 : decode (mB 255) 79 = .ok (.iinc 4 1, 3) := dqo gX12_friend_59.2.2.2.2.2.2.2.2.2.2.1
theorem dX12_friend_82 : decode (mB 255) 82 = .ok (.iinc 5 1, 3) := dqo gX12_friend_59.2.2.2.2.2.2.2.2.2.2.2.1
theorem dX12_friend_85 : decode (mB 255) 85 = .ok (.goto (-35), 3) := dqo gX12_friend_59.2.2.2.2.2.2.2.2.2.2.2.2.1
theorem dX12_friend_88 : decode (mB 255) 88 = .ok (.iconst 0, 1) := dqo gX12_friend_59.2.2.2.2.2.2.2.2.2.2.2.2.2.1
theorem dX12_friend_89 : decode (mB 255) 89 = .ok (.istore 5, 2) := dqo gX12_friend_59.2.2.2.2.2.2.2.2.2.2.2.2.2.2.1
theorem dX12_friend_91 : decode (mB 255) 91 = .ok (.iload 5, 2) := dqo gX12_friend_59.2.2.2.2.2.2.2.2.2.2.2.2.2.2.2
theorem gX12_friend_93 : dq 255 93 (.iload 4) 2 = true ∧ dq 255 95 (.if_icmp .gt 29) 3 = true ∧ dq 255 98 (.bipush 12) 2 = true ∧ dq 255 100 (.aload_n 0) 1 = true ∧ dq 255 101 (.iload_n 1) 1 = true ∧ dq 255 102 (.invokevirtual 175) 3 = true ∧ dq 255 105 (.iload 5) 2 = true ∧ dq 255 107 (.iadd) 1 = true ∧ dq 255 108 (.imul) 1 = true ∧ dq 255 109 (.iload_n 2) 1 = true ∧ dq 255 110 (.iload_n 3) 1 = true ∧ dq 255 111 (.imul) 1 = true ∧ dq 255 112 (.if_icmp .lt 6) 3 = true ∧ dq 255 115 (.iload 5) 2 = true ∧ dq 255 117 (.ireturn) 1 = true ∧ dq 255 118 (.iinc 5 1) 3 = true := by decide +kernel
theorem dX12_friend_93 : decode (mB 255) 93 = .ok (.iload 4, 2) := dqo gX12_friend_93.1
theorem dX12_friend_95 : decode (mB 255) 95 = .ok (.if_icmp .gt 29, 3) := dqo gX12_friend_93.2.1
theorem dX12_friend_98 : decode (mB 255) 98 = .ok (.bipush 12, 2) := dqo gX12_friend_93.2.2.1
theorem dX12_friend_100 : decode (mB 255) 100 = .ok (.aload_n 0, 1) := dqo gX12_friend_93.2.2.2.1
theorem dX12_friend_101 : decode (mB 255) 101 = .ok (.iload_n 1, 1) := dqo gX12_friend_93.2.2.2.2.1
theorem dX12_friend_102 : decode (mB 255) 102 = .ok (.invokevirtual 175, 3) := dqo gX12_friend_93.2.2.2.2.2.1
theorem dX12_friend_105 : decode (mB 255) 105 = .ok (.iload 5, 2) := dqo gX12_friend_93.2.2.2.2.2.2.1
theorem dX12_friend_107 : decode (mB 255) 107 = .ok (.iadd, 1) := dqo gX12_friend_93.2.2.2.2.2.2.2.1
theorem dX12_friend_108 : decode (mB 255) 108 = .ok (.imul, 1) := dqo gX12_friend_93.2.2.2.2.2.2.2.2.1
theorem dX12_friend_109 : decode (mB 255) 109 = .ok (.iload_n 2, 1) := dqo gX12_friend_93.2.2.2.2.2.2.2.2.2.1
theorem dX12_friend_110 : decode (mB 255) 110 = .ok (.iload_n 3, 1) := dqo gX12_friend_93.2.2.2.2.2.2.2.2.2.2.1
theorem dX12_friend_111 : decode (mB 255) 111 = .ok (.imul, 1) := dqo gX12_friend_93.2.2.2.2.2.2.2.2.2.2.2.1
theorem dX12_friend_112 : decode (mB 255) 112 = .ok (.if_icmp .lt 6, 3) := dqo gX12_friend_93.2.2.2.2.2.2.2.2.2.2.2.2.1
theorem dX12_friend_115 : decode (mB 255) 115 = .ok (.iload 5, 2) := dqo gX12_friend_93.2.2.2.2.2.2.2.2.2.2.2.2.2.1
theorem dX12_friend_117 : decode (mB 255) 117 = .ok (.ireturn, 1) := dqo gX12_friend_93.2.2.2.2.2.2.2.2.2.2.2.2.2.2.1
theorem dX12_friend_118 : decode (mB 255) 118 = .ok (.iinc 5 1, 3) := dqo gX12_friend_93.2.2.2.2.2.2.2.2.2.2.2.2.2.2.2
theorem gX12_friend_121 : dq 255 121 (.goto (-30)) 3 = true ∧ dq 255 124 (.bipush (-2)) 2 = true ∧ dq 255 126 (.ireturn) 1 = true := by decide +kernel
theorem dX12_friend_121 : decode (mB 255) 121 = .ok (.goto (-30), 3) := dqo gX12_friend_121.1
theorem dX12_friend_124 : decode (mB 255) 124 = .ok (.bipush (-2), 2) := dqo gX12_friend_121.2.1
theorem dX12_friend_126 : decode (mB 255) 126 = .ok (.ireturn, 1) := dqo gX12_friend_121.2.2
theorem gX12_share_0 : dq 256 0 (.aload_n 0) 1 = true ∧ dq 256 1 (.iload_n 1) 1 = true ∧ dq 256 2 (.invokevirtual 125) 3 = true ∧ dq 256 5 (.ifCond .eq 14) 3 = true ∧ dq 256 8 (.iload_n 2) 1 = true ∧ dq 256 9 (.iconst 0) 1 = true ∧ dq 256 10 (.sipush 9999) 3 = true ∧ dq 256 13 (.invokestatic 118) 3 = true ∧ dq 256 16 (.ifCond .ne 5) 3 = true ∧ dq 256 19 (.iconst (-1)) 1 = true ∧ dq 256 20 (.ireturn) 1 = true ∧ dq 256 21 (.aload_n 0) 1 = true ∧ dq 256 22 (.invokevirtual 168) 3 = true ∧ dq 256 25 (.aload_n 0) 1 = true ∧ dq 256 26 (.invokevirtual 292) 3 = true ∧ dq 256 29 (.ifCond .ne 7) 3 = true := by decide +kernel
theorem dX12_share_0 : decode (mB 256) 0 = .ok (.aload_n 0, 1) := dqo gX12_share_0.1
theorem dX12_share_1 : decode (mB 256) 1 = .ok (.iload_n 1, 1) := dqo gX12_share_0.2.1
theorem dX12_share_2 : decode (mB 256) 2 = .ok (.invokevirtual 125, 3) := dqo gX12_share_0.2.2.1
theorem dX12_share_5 : decode (mB 256) 5 = .ok (.ifCond .eq 14, 3) := dqo gX12_share_0.2.2.2.1
theorem dX12_share_8 : decode (mB 256) 8 = .ok (.iload_n 2, 1) := dqo gX12_share_0.2.2.2.2.1
theorem dX12_share_9 : decode (mB 256) 9 = .ok (.iconst 0, 1) := dqo gX12_share_0.2.2.2.2.2.1
theorem dX12_share_10 : decode (mB 256) 10 = .ok (.sipush 9999, 3) := dqo gX12_share_0.2.2.2.2.2.2.1
theorem dX12_share_13 : decode (mB 256) 13 = .ok (.invokestatic 118, 3) := dqo gX12_share_0.2.2.2.2.2.2.2.1
theorem dX12_share_16 : decode (mB 256) 16 = .ok (.ifCond .ne 5, 3) := dqo gX12_share_0.2.2.2.2.2.2.2.2.1
theorem dX12_share_19 : decode (mB 256) 19 = .ok (.iconst (-1), 1) := dqo gX12_share_0.2.2.2.2.2.2.2.2.2.1
theorem dX12_share_20 : decode (mB 256) 20 = .ok (.ireturn, 1) := dqo gX12_share_0.2.2.2.2.2.2.2.2.2.2.1
theorem dX12_share_21 : decode (mB 256) 21 = .ok (.aload_n 0, 1) := dqo gX12_share_0.2.2.2.2.2.2.2.2.2.2.2.1
theorem dX12_share_22 : decode (mB 256) 22 = .ok (.invokevirtual 168, 3) := dqo gX12_share_0.2.2.2.2.2.2.2.2.2.2.2.2.1
theorem dX12_share_25 : decode (mB 256) 25 = .ok (.aload_n 0, 1) := dqo gX12_share_0.2.2.2.2.2.2.2.2.2.2.2.2.2.1
theorem dX12_share_26 : decode (mB 256) 26 = .ok (.invokevirtual 292, 3) := dqo gX12_share_0.2.2.2.2.2.2.2.2.2.2.2.2.2.2.1
theorem dX12_share_29 : decode (mB 256) 29 = .ok (.ifCond .ne 7, 3) := dqo gX12_share_0.2.2.2.2.2.2.2.2.2.2.2.2.2.2.2
theorem gX12_share_32 : dq 256 32 (.iconst 0) 1 = true ∧ dq 256 33 (.goto 15) 3 = true ∧ dq 256 36 (.iload_n 2) 1 = true ∧ dq 256 37 (.aload_n 0) 1 = true ∧ dq 256 38 (.iload_n 1) 1 = true ∧ dq 256 39 (.invokevirtual 175) 3 = true ∧ dq 256 42 (.imul) 1 = true ∧ dq 256 43 (.aload_n 0) 1 = true ∧ dq 256 44 (.invokevirtual 292) 3 = true ∧ dq 256 47 (.idiv) 1 = true ∧ dq 256 48 (.ireturn) 1 = true := by decide +kernel
theorem dX12_share_32 : decode (mB 256) 32 = .ok (.iconst 0, 1) := dqo gX12_share_32.1
theorem dX12_share_33 : decode (mB 256) 33 = .ok (.goto 15, 3) := dqo gX12_share_32.2.1
theorem dX12_share_36 : decode (mB 256) 36 = .ok (.iload_n 2, 1) := dqo gX12_share_32.2.2.1
theorem dX12_share_37 : decode (mB 256) 37 = .ok (.aload_n 0, 1) := dqo gX12_share_32.2.2.2.1
theorem dX12_share_38 : decode (mB 256) 38 = .ok (.iload_n 1, 1) := dqo gX12_share_32.2.2.2.2.1
theorem dX12_share_39 : decode (mB 256) 39 = .ok (.invokevirtual 175, 3) := dqo gX12_share_32.2.2.2.2.2.1
theorem dX12_share_42 : decode (mB 256) 42 = .ok (.imul, 1) := dqo gX12_share_32.2.2.2.2.2.2.1
theorem dX12_share_43 : decode (mB 256) 43 = .ok (.aload_n 0, 1) := dqo gX12_share_32.2.2.2.2.2.2.2.1
theorem dX12_share_44 : decode (mB 256) 44 = .ok (.invokevirtual 292, 3) := dqo gX12_share_32.2.2.2.2.2.2.2.2.1
theorem dX12_share_47 : decode (mB 256) 47 = .ok (.idiv, 1) := dqo gX12_share_32.2.2.2.2.2.2.2.2.2.1
theorem dX12_share_48 : decode (mB 256) 48 = .ok (.ireturn, 1) := dqo gX12_share_32.2.2.2.2.2.2.2.2.2.2
theorem gX12_half_0 : dq 257 0 (.aload_n 0) 1 = true ∧ dq 257 1 (.invokevirtual 168) 3 = true ∧ dq 257 4 (.aload_n 0) 1 = true ∧ dq 257 5 (.invokevirtual 292) 3 = true ∧ dq 257 8 (.istore_n 1) 1 = true ∧ dq 257 9 (.bipush (-2)) 2 = true ∧ dq 257 11 (.istore_n 2) 1 = true ∧ dq 257 12 (.iconst 0) 1 = true ∧ dq 257 13 (.istore_n 3) 1 = true ∧ dq 257 14 (.iload_n 3) 1 = true ∧ dq 257 15 (.iconst 1) 1 = true ∧ dq 257 16 (.aload_n 0) 1 = true ∧ dq 257 17 (.getfield 115) 3 = true ∧ dq 257 20 (.ishl) 1 = true ∧ dq 257 21 (.if_icmp .ge 80) 3 = true ∧ dq 257 24 (.iload_n 1) 1 = true := by decide +kernel
theorem dX12_half_0 : decode (mB 257) 0 = .ok (.aload_n 0, 1) := dqo gX12_half_0.1
theorem dX12_half_1 : decode (mB 257) 1 = .ok (.invokevirtual 168, 3) := dqo gX12_half_0.2.1
theorem dX12_half_4 : decode (mB 257) 4 = .ok (.aload_n 0, 1) := dqo gX12_half_0.2.2.1
theorem dX12_half_5 : decode (mB 257) 5 = .ok (.invokevirtual 292, 3) := dqo gX12_half_0.2.2.2.1
theorem dX12_half_8 : decode (mB 257) 8 = .ok (.istore_n 1, 1) := dqo gX12_half_0.2.2.2.2.1
theorem dX12_half_9 : decode (mB 257) 9 = .ok (.bipush (-2), 2) := dqo gX12_half_0.2.2.2.2.2.1
theorem dX12_half_11 : decode (mB 257) 11 = .ok (.istore_n 2, 1) := dqo gX12_half_0.2.2.2.2.2.2.1
theorem dX12_half_12 : decode (mB 257) 12 = .ok (.iconst 0, 1) := dqo gX12_half_0.2.2.2.2.2.2.2.1
theorem dX12_half_13 : decode (mB 257) 13 = .ok (.istore_n 3, 1) := dqo gX12_half_0.2.2.2.2.2.2.2.2.1
theorem dX12_half_14 : decode (mB 257) 14 = .ok (.iload_n 3, 1) := dqo gX12_half_0.2.2.2.2.2.2.2.2.2.1
theorem dX12_half_15 : decode (mB 257) 15 = .ok (.iconst 1, 1) := dqo gX12_half_0.2.2.2.2.2.2.2.2.2.2.1
theorem dX12_half_16 : decode (mB 257) 16 = .ok (.aload_n 0, 1) := dqo gX12_half_0.2.2.2.2.2.2.2.2.2.2.2.1
theorem dX12_half_17 : decode (mB 257) 17 = .ok (.getfield 115, 3) := dqo gX12_half_0.2.2.2.2.2.2.2.2.2.2.2.2.1
theorem dX12_half_20 : decode (mB 257) 20 = .ok (.ishl, 1) := dqo gX12_half_0.2.2.2.2.2.2.2.2.2.2.2.2.2.1
theorem dX12_half_21 : decode (mB 257) 21 = .ok (.if_icmp .ge 80, 3) := dqo gX12_half_0.2.2.2.2.2.2.2.2.2.2.2.2.2.2.1
theorem dX12_half_24 : decode (mB 257) 24 = .ok (.iload_n 1, 1) := dqo gX12_half_0.2.2.2.2.2.2.2.2.2.2.2.2.2.2.2
theorem gX12_half_25 : dq 257 25 (.ifCond .le 76) 3 = true ∧ dq 257 28 (.iconst 0) 1 = true ∧ dq 257 29 (.istore 4) 2 = true ∧ dq 257 31 (.iconst 0) 1 = true ∧ dq 257 32 (.istore 5) 2 = true ∧ dq 257 34 (.iload 5) 2 = true ∧ dq 257 36 (.aload_n 0) 1 = true ∧ dq 257 37 (.getfield 115) 3 = true ∧ dq 257 40 (.if_icmp .ge 30) 3 = true ∧ dq 257 43 (.iload_n 3) 1 = true ∧ dq 257 44 (.iload 5) 2 = true ∧ dq 257 46 (.ishr) 1 = true ∧ dq 257 47 (.iconst 1) 1 = true ∧ dq 257 48 (.iand) 1 = true ∧ dq 257 49 (.iconst 1) 1 = true ∧ dq 257 50 (.if_icmp .ne 14) 3 = true := by decide +kernel
theorem dX12_half_25 : decode (mB 257) 25 = .ok (.ifCond .le 76, 3) := dqo gX12_half_25.1
theorem dX12_half_28 : decode (mB 257) 28 = .ok (.iconst 0, 1) := dqo gX12_half_25.2.1
theorem dX12_half_29 : decode (mB 257) 29 = .ok (.istore 4, 2) := dqo gX12_half_25.2.2.1
theorem dX12_half_31 : decode (mB 257) 31 = .ok (.iconst 0, 1) := dqo gX12_half_25.2.2.2.1
theorem dX12_half_32 : decode (mB 257) 32 = .ok (.istore 5, 2) := dqo gX12_half_25.2.2.2.2.1
theorem dX12_half_34 : decode (mB 257) 34 = .ok (.iload 5, 2) := dqo gX12_half_25.2.2.2.2.2.1
theorem dX12_half_36 : decode (mB 257) 36 = .ok (.aload_n 0, 1) := dqo gX12_half_25.2.2.2.2.2.2.1
theorem dX12_half_37 : decode (mB 257) 37 = .ok (.getfield 115, 3) := dqo gX12_half_25.2.2.2.2.2.2.2.1
theorem dX12_half_40 : decode (mB 257) 40 = .ok (.if_icmp .ge 30, 3) := dqo gX12_half_25.2.2.2.2.2.2.2.2.1
theorem dX12_half_43 : decode (mB 257) 43 = .ok (.iload_n 3, 1) := dqo gX12_half_25.2.2.2.2.2.2.2.2.2.1
theorem dX12_half_44 : decode (mB 257) 44 = .ok (.iload 5, 2) := dqo gX12_half_25.2.2.2.2.2.2.2.2.2.2.1
theorem dX12_half_46 : decode (mB 257) 46 = .ok (.ishr, 1) := dqo gX12_half_25.2.2.2.2.2.2.2.2.2.2.2.1
theorem dX12_half_47 : decode (mB 257) 47 = .ok (.iconst 1, 1) := dqo gX12_half_25.2.2.2.2.2.2.2.2.2.2.2.2.1
theorem dX12_half_48 : decode (mB 257) 48 = .ok (.iand, 1) := dqo gX12_half_25.2.2.2.2.2.2.2.2.2.2.2.2.2.1
theorem dX12_half_49 : decode (mB 257) 49 = .ok (.iconst 1, 1) := dqo gX12_half_25.2.2.2.2.2.2.2.2.2.2.2.2.2.2.1
theorem dX12_half_50 : decode (mB 257) 50 = .ok (.if_icmp .ne 14, 3) := dqo gX12_half_25.2.2.2.2.2.2.2.2.2.2.2.2.2.2.2
theorem gX12_half_53 : dq 257 53 (.iload 4) 2 = true ∧ dq 257 55 (.aload_n 0) 1 = true ∧ dq 257 56 (.iload 5) 2 = true ∧ dq 257 58 (.invokevirtual 175) 3 = true ∧ dq 257 61 (.iadd) 1 = true ∧ dq 257 62 (.istore 4) 2 = true ∧ dq 257 64 (.iinc 5 1) 3 = true ∧ dq 257 67 (.goto (-33)) 3 = true ∧ dq 257 70 (.iconst 2) 1 = true ∧ dq 257 71 (.iload 4) 2 = true ∧ dq 257 73 (.imul) 1 = true ∧ dq 257 74 (.iload_n 1) 1 = true ∧ dq 257 75 (.if_icmp .lt 20) 3 = true ∧ dq 257 78 (.iload_n 2) 1 = true ∧ dq 257 79 (.ifCond .lt 14) 3 = true ∧ dq 257 82 (.iload_n 3) 1 = true := by decide +kernel
theorem dX12_half_53 : decode (mB 257) 53 = .ok (.iload 4, 2) := dqo gX12_half_53.1
theorem dX12_half_55 : decode (mB 257) 55 = .ok (.aload_n 0, 1) := dqo gX12_half_53.2.1
theorem dX12_half_56 : decode (mB 257) 56 = .ok (.iload 5, 2) := dqo gX12_half_53.2.2.1
theorem dX12_half_58 : decode (mB 257) 58 = .ok (.invokevirtual 175, 3) := dqo gX12_half_53.2.2.2.1
theorem dX12_half_61 : decode (mB 257) 61 = .ok (.iadd, 1) := dqo gX12_half_53.2.2.2.2.1
theorem dX12_half_62 : decode (mB 257) 62 = .ok (.istore 4, 2) := dqo gX12_half_53.2.2.2.2.2.1
theorem dX12_half_64 : decode (mB 257) 64 = .ok (.iinc 5 1, 3) := dqo gX12_half_53.2.2.2.2.2.2.1
theorem dX12_half_67 : decode (mB 257) 67 = .ok (.goto (-33), 3) := dqo gX12_half_53.2.2.2.2.2.2.2.1
theorem dX12_half_70 : decode (mB 257) 70 = .ok (.iconst 2, 1) := dqo gX12_half_53.2.2.2.2.2.2.2.2.1
theorem dX12_half_71 : decode (mB 257) 71 = .ok (.iload 4, 2) := dqo gX12_half_53.2.2.2.2.2.2.2.2.2.1
theorem dX12_half_73 : decode (mB 257) 73 = .ok (.imul, 1) := dqo gX12_half_53.2.2.2.2.2.2.2.2.2.2.1
theorem dX12_half_74 : decode (mB 257) 74 = .ok (.iload_n 1, 1) := dqo gX12_half_53.2.2.2.2.2.2.2.2.2.2.2.1
theorem dX12_half_75 : decode (mB 257) 75 = .ok (.if_icmp .lt 20, 3) := dqo gX12_half_53.2.2.2.2.2.2.2.2.2.2.2.2.1
theorem dX12_half_78 : decode (mB 257) 78 = .ok (.iload_n 2, 1) := dqo gX12_half_53.2.2.2.2.2.2.2.2.2.2.2.2.2.1
theorem dX12_half_79 : decode (mB 257) 79 = .ok (.ifCond .lt 14, 3) := dqo gX12_half_53.2.2.2.2.2.2.2.2.2.2.2.2.2.2.1
theorem dX12_half_82 : decode (mB 257) 82 = .ok (.iload_n 3, 1) := dqo gX12_half_53.2.2.2.2.2.2.2.2.2.2.2.2.2.2.2
theorem gX12_half_83 : dq 257 83 (.invokestatic 310) 3 = true ∧ dq 257 86 (.iload_n 2) 1 = true ∧ dq 257 87 (.invokestatic 310) 3 = true ∧ dq 257 90 (.if_icmp .ge 5) 3 = true ∧ dq 257 93 (.iload_n 3) 1 = true ∧ dq 257 94 (.istore_n 2) 1 = true ∧ dq 257 95 (.iinc 3 1) 3 = true ∧ dq 257 98 (.goto (-84)) 3 = true ∧ dq 257 101 (.iload_n 2) 1 = true ∧ dq 257 102 (.ireturn) 1 = true := by decide +kernel
theorem dX12_half_83 : decode (mB 257) 83 = .ok (.invokestatic 310, 3) := dqo gX12_half_83.1
theorem dX12_half_86 : decode (mB 257) 86 = .ok (.iload_n 2, 1) := dqo gX12_half_83.2.1
theorem dX12_half_87 : decode (mB 257) 87 = .ok (.invokestatic 310, 3) := dqo gX12_half_83.2.2.1
theorem dX12_half_90 : decode (mB 257) 90 = .ok (.if_icmp .ge 5, 3) := dqo gX12_half_83.2.2.2.1
theorem dX12_half_93 : decode (mB 257) 93 = .ok (.iload_n 3, 1) := dqo gX12_half_83.2.2.2.2.1
theorem dX12_half_94 : decode (mB 257) 94 = .ok (.istore_n 2, 1) := dqo gX12_half_83.2.2.2.2.2.1
theorem dX12_half_95 : decode (mB 257) 95 = .ok (.iinc 3 1, 3) := dqo gX12_half_83.2.2.2.2.2.2.1
theorem dX12_half_98 : decode (mB 257) 98 = .ok (.goto (-84), 3) := dqo gX12_half_83.2.2.2.2.2.2.2.1
theorem dX12_half_101 : decode (mB 257) 101 = .ok (.iload_n 2, 1) := dqo gX12_half_83.2.2.2.2.2.2.2.2.1
theorem dX12_half_102 : decode (mB 257) 102 = .ok (.ireturn, 1) := dqo gX12_half_83.2.2.2.2.2.2.2.2.2
theorem gX12_isAsTold_0 : dq 258 0 (.iconst 0) 1 = true ∧ dq 258 1 (.istore_n 1) 1 = true ∧ dq 258 2 (.iload_n 1) 1 = true ∧ dq 258 3 (.aload_n 0) 1 = true ∧ dq 258 4 (.getfield 122) 3 = true ∧ dq 258 7 (.if_icmp .ge 55) 3 = true ∧ dq 258 10 (.iload_n 1) 1 = true ∧ dq 258 11 (.aload_n 0) 1 = true ∧ dq 258 12 (.getfield 101) 3 = true ∧ dq 258 15 (.aload_n 0) 1 = true ∧ dq 258 16 (.getfield 313) 3 = true ∧ dq 258 19 (.iaload) 1 = true ∧ dq 258 20 (.if_icmp .ge 42) 3 = true ∧ dq 258 23 (.aload_n 0) 1 = true ∧ dq 258 24 (.aload_n 0) 1 = true ∧ dq 258 25 (.getfield 313) 3 = true := by decide +kernel
theorem dX12_isAsTold_0 : decode (mB 258) 0 = .ok (.iconst 0, 1) := dqo gX12_isAsTold_0.1
theorem dX12_isAsTold_1 : decode (mB 258) 1 = .ok (.istore_n 1, 1) := dqo gX12_isAsTold_0.2.1
theorem dX12_isAsTold_2 : decode (mB 258) 2 = .ok (.iload_n 1, 1) := dqo gX12_isAsTold_0.2.2.1
theorem dX12_isAsTold_3 : decode (mB 258) 3 = .ok (.aload_n 0, 1) := dqo gX12_isAsTold_0.2.2.2.1
theorem dX12_isAsTold_4 : decode (mB 258) 4 = .ok (.getfield 122, 3) := dqo gX12_isAsTold_0.2.2.2.2.1
theorem dX12_isAsTold_7 : decode (mB 258) 7 = .ok (.if_icmp .ge 55, 3) := dqo gX12_isAsTold_0.2.2.2.2.2.1
theorem dX12_isAsTold_10 : decode (mB 258) 10 = .ok (.iload_n 1, 1) := dqo gX12_isAsTold_0.2.2.2.2.2.2.1
theorem dX12_isAsTold_11 : decode (mB 258) 11 = .ok (.aload_n 0, 1) := dqo gX12_isAsTold_0.2.2.2.2.2.2.2.1
theorem dX12_isAsTold_12 : decode (mB 258) 12 = .ok (.getfield 101, 3) := dqo gX12_isAsTold_0.2.2.2.2.2.2.2.2.1
theorem dX12_isAsTold_15 : decode (mB 258) 15 = .ok (.aload_n 0, 1) := dqo gX12_isAsTold_0.2.2.2.2.2.2.2.2.2.1
theorem dX12_isAsTold_16 : decode (mB 258) 16 = .ok (.getfield 313, 3) := dqo gX12_isAsTold_0.2.2.2.2.2.2.2.2.2.2.1
theorem dX12_isAsTold_19 : decode (mB 258) 19 = .ok (.iaload, 1) := dqo gX12_isAsTold_0.2.2.2.2.2.2.2.2.2.2.2.1
theorem dX12_isAsTold_20 : decode (mB 258) 20 = .ok (.if_icmp .ge 42, 3) := dqo gX12_isAsTold_0.2.2.2.2.2.2.2.2.2.2.2.2.1
theorem dX12_isAsTold_23 : decode (mB 258) 23 = .ok (.aload_n 0, 1) := dqo gX12_isAsTold_0.2.2.2.2.2.2.2.2.2.2.2.2.2.1
theorem dX12_isAsTold_24 : decode (mB 258) 24 = .ok (.aload_n 0, 1) := dqo gX12_isAsTold_0.2.2.2.2.2.2.2.2.2.2.2.2.2.2.1
theorem dX12_isAsTold_25 : decode (mB 258) 25 = .ok (.getfield 313, 3) := dqo gX12_isAsTold_0.2.2.2.2.2.2.2.2.2.2.2.2.2.2.2
theorem gX12_isAsTold_28 : dq 258 28 (.iload_n 1) 1 = true ∧ dq 258 29 (.invokevirtual 263) 3 = true ∧ dq 258 32 (.iconst (-1)) 1 = true ∧ dq 258 33 (.if_icmp .eq 23) 3 = true ∧ dq 258 36 (.aload_n 0) 1 = true ∧ dq 258 37 (.aload_n 0) 1 = true ∧ dq 258 38 (.getfield 313) 3 = true ∧ dq 258 41 (.iload_n 1) 1 = true ∧ dq 258 42 (.invokevirtual 263) 3 = true ∧ dq 258 45 (.aload_n 0) 1 = true ∧ dq 258 46 (.getfield 74) 3 = true ∧ dq 258 49 (.iload_n 1) 1 = true ∧ dq 258 50 (.iaload) 1 = true ∧ dq 258 51 (.if_icmp .eq 5) 3 = true ∧ dq 258 54 (.iconst 0) 1 = true ∧ dq 258 55 (.ireturn) 1 = true := by decide +kernel
theorem dX12_isAsTold_28 : decode (mB 258) 28 = .ok (.iload_n 1, 1) := dqo gX12_isAsTold_28.1
theorem dX12_isAsTold_29 : decode (mB 258) 29 = .ok (.invokevirtual 263, 3) := dqo gX12_isAsTold_28.2.1
theorem dX12_isAsTold_32 : decode (mB 258) 32 = .ok (.iconst (-1), 1) := dqo gX12_isAsTold_28.2.2.1
theorem dX12_isAsTold_33 : decode (mB 258) 33 = .ok (.if_icmp .eq 23, 3) := dqo gX12_isAsTold_28.2.2.2.1
theorem dX12_isAsTold_36 : decode (mB 258) 36 = .ok (.aload_n 0, 1) := dqo gX12_isAsTold_28.2.2.2.2.1
theorem dX12_isAsTold_37 : decode (mB 258) 37 = .ok (.aload_n 0, 1) := dqo gX12_isAsTold_28.2.2.2.2.2.1
theorem dX12_isAsTold_38 : decode (mB 258) 38 = .ok (.getfield 313, 3) := dqo gX12_isAsTold_28.2.2.2.2.2.2.1
theorem dX12_isAsTold_41 : decode (mB 258) 41 = .ok (.iload_n 1, 1) := dqo gX12_isAsTold_28.2.2.2.2.2.2.2.1
theorem dX12_isAsTold_42 : decode (mB 258) 42 = .ok (.invokevirtual 263, 3) := dqo gX12_isAsTold_28.2.2.2.2.2.2.2.2.1
theorem dX12_isAsTold_45 : decode (mB 258) 45 = .ok (.aload_n 0, 1) := dqo gX12_isAsTold_28.2.2.2.2.2.2.2.2.2.1
theorem dX12_isAsTold_46 : decode (mB 258) 46 = .ok (.getfield 74, 3) := dqo gX12_isAsTold_28.2.2.2.2.2.2.2.2.2.2.1
theorem dX12_isAsTold_49 : decode (mB 258) 49 = .ok (.iload_n 1, 1) := dqo gX12_isAsTold_28.2.2.2.2.2.2.2.2.2.2.2.1
theorem dX12_isAsTold_50 : decode (mB 258) 50 = .ok (.iaload, 1) := dqo gX12_isAsTold_28.2.2.2.2.2.2.2.2.2.2.2.2.1
theorem dX12_isAsTold_51 : decode (mB 258) 51 = .ok (.if_icmp .eq 5, 3) := dqo gX12_isAsTold_28.2.2.2.2.2.2.2.2.2.2.2.2.2.1
theorem dX12_isAsTold_54 : decode (mB 258) 54 = .ok (.iconst 0, 1) := dqo gX12_isAsTold_28.2.2.2.2.2.2.2.2.2.2.2.2.2.2.1
theorem dX12_isAsTold_55 : decode (mB 258) 55 = .ok (.ireturn, 1) := dqo gX12_isAsTold_28.2.2.2.2.2.2.2.2.2.2.2.2.2.2.2
theorem gX12_isAsTold_56 : dq 258 56 (.iinc 1 1) 3 = true ∧ dq 258 59 (.goto (-57)) 3 = true ∧ dq 258 62 (.iconst 1) 1 = true ∧ dq 258 63 (.ireturn) 1 = true := by decide +kernel
theorem dX12_isAsTold_56 : decode (mB 258) 56 = .ok (.iinc 1 1, 3) := dqo gX12_isAsTold_56.1
theorem dX12_isAsTold_59 : decode (mB 258) 59 = .ok (.goto (-57), 3) := dqo gX12_isAsTold_56.2.1
theorem dX12_isAsTold_62 : decode (mB 258) 62 = .ok (.iconst 1, 1) := dqo gX12_isAsTold_56.2.2.1
theorem dX12_isAsTold_63 : decode (mB 258) 63 = .ok (.ireturn, 1) := dqo gX12_isAsTold_56.2.2.2
theorem gX12_meetWay_0 : dq 259 0 (.aload_n 0) 1 = true ∧ dq 259 1 (.dup) 1 = true ∧ dq 259 2 (.getfield 316) 3 = true ∧ dq 259 5 (.iconst 1) 1 = true ∧ dq 259 6 (.iadd) 1 = true ∧ dq 259 7 (.putfield 316) 3 = true ∧ dq 259 10 (.aload_n 0) 1 = true ∧ dq 259 11 (.dup) 1 = true ∧ dq 259 12 (.getfield 319) 3 = true ∧ dq 259 15 (.iload_n 1) 1 = true ∧ dq 259 16 (.iand) 1 = true ∧ dq 259 17 (.putfield 319) 3 = true ∧ dq 259 20 (.iload_n 1) 1 = true ∧ dq 259 21 (.invokestatic 310) 3 = true ∧ dq 259 24 (.istore 4) 2 = true ∧ dq 259 26 (.aload_n 0) 1 = true := by decide +kernel
theorem dX12_meetWay_0 : decode (mB 259) 0 = .ok (.aload_n 0, 1) := dqo gX12_meetWay_0.1
theorem dX12_meetWay_1 : decode (mB 259) 1 = .ok (.dup, 1) := dqo gX12_meetWay_0.2.1
theorem dX12_meetWay_2 : decode (mB 259) 2 = .ok (.getfield 316, 3) := dqo gX12_meetWay_0.2.2.1
theorem dX12_meetWay_5 : decode (mB 259) 5 = .ok (.iconst 1, 1) := dqo gX12_meetWay_0.2.2.2.1
theorem dX12_meetWay_6 : decode (mB 259) 6 = .ok (.iadd, 1) := dqo gX12_meetWay_0.2.2.2.2.1
theorem dX12_meetWay_7 : decode (mB 259) 7 = .ok (.putfield 316, 3) := dqo gX12_meetWay_0.2.2.2.2.2.1
theorem dX12_meetWay_10 : decode (mB 259) 10 = .ok (.aload_n 0, 1) := dqo gX12_meetWay_0.2.2.2.2.2.2.1
theorem dX12_meetWay_11 : decode (mB 259) 11 = .ok (.dup, 1) := dqo gX12_meetWay_0.2.2.2.2.2.2.2.1
theorem dX12_meetWay_12 : decode (mB 259) 12 = .ok (.getfield 319, 3) := dqo gX12_meetWay_0.2.2.2.2.2.2.2.2.1
theorem dX12_meetWay_15 : decode (mB 259) 15 = .ok (.iload_n 1, 1) := dqo gX12_meetWay_0.2.2.2.2.2.2.2.2.2.1
theorem dX12_meetWay_16 : decode (mB 259) 16 = .ok (.iand, 1) := dqo gX12_meetWay_0.2.2.2.2.2.2.2.2.2.2.1
theorem dX12_meetWay_17 : decode (mB 259) 17 = .ok (.putfield 319, 3) := dqo gX12_meetWay_0.2.2.2.2.2.2.2.2.2.2.2.1
theorem dX12_meetWay_20 : decode (mB 259) 20 = .ok (.iload_n 1, 1) := dqo gX12_meetWay_0.2.2.2.2.2.2.2.2.2.2.2.2.1
theorem dX12_meetWay_21 : decode (mB 259) 21 = .ok (.invokestatic 310, 3) := dqo gX12_meetWay_0.2.2.2.2.2.2.2.2.2.2.2.2.2.1
theorem dX12_meetWay_24 : decode (mB 259) 24 = .ok (.istore 4, 2) := dqo gX12_meetWay_0.2.2.2.2.2.2.2.2.2.2.2.2.2.2.1
theorem dX12_meetWay_26 : decode (mB 259) 26 = .ok (.aload_n 0, 1) := dqo gX12_meetWay_0.2.2.2.2.2.2.2.2.2.2.2.2.2.2.2
theorem gX12_meetWay_27 : dq 259 27 (.getfield 322) 3 = true ∧ dq 259 30 (.ifCond .lt 29) 3 = true ∧ dq 259 33 (.iload 4) 2 = true ∧ dq 259 35 (.aload_n 0) 1 = true ∧ dq 259 36 (.getfield 322) 3 = true ∧ dq 259 39 (.if_icmp .lt 20) 3 = true ∧ dq 259 42 (.iload 4) 2 = true ∧ dq 259 44 (.aload_n 0) 1 = true ∧ dq 259 45 (.getfield 322) 3 = true ∧ dq 259 48 (.if_icmp .ne 22) 3 = true ∧ dq 259 51 (.iload_n 1) 1 = true ∧ dq 259 52 (.aload_n 0) 1 = true ∧ dq 259 53 (.getfield 325) 3 = true ∧ dq 259 56 (.if_icmp .ge 14) 3 = true ∧ dq 259 59 (.aload_n 0) 1 = true ∧ dq 259 60 (.iload 4) 2 = true := by decide +kernel
theorem dX12_meetWay_27 : decode (mB 259) 27 = .ok (.getfield 322, 3) := dqo gX12_meetWay_27.1
theorem dX12_meetWay_30 : decode (mB 259) 30 = .ok (.ifCond .lt 29, 3) := dqo gX12_meetWay_27.2.1
theorem dX12_meetWay_33 : decode (mB 259) 33 = .ok (.iload 4, 2) := dqo gX12_meetWay_27.2.2.1
theorem dX12_meetWay_35 : decode (mB 259) 35 = .ok (.aload_n 0, 1) := dqo gX12_meetWay_27.2.2.2.1
theorem dX12_meetWay_36 : decode (mB 259) 36 = .ok (.getfield 322, 3) := dqo gX12_meetWay_27.2.2.2.2.1
theorem dX12_meetWay_39 : decode (mB 259) 39 = .ok (.if_icmp .lt 20, 3) := dqo gX12_meetWay_27.2.2.2.2.2.1
theorem dX12_meetWay_42 : decode (mB 259) 42 = .ok (.iload 4, 2) := dqo gX12_meetWay_27.2.2.2.2.2.2.1
theorem dX12_meetWay_44 : decode (mB 259) 44 = .ok (.aload_n 0, 1) := dqo gX12_meetWay_27.2.2.2.2.2.2.2.1
theorem dX12_meetWay_45 : decode (mB 259) 45 = .ok (.getfield 322, 3) := dqo gX12_meetWay_27.2.2.2.2.2.2.2.2.1
theorem dX12_meetWay_48 : decode (mB 259) 48 = .ok (.if_icmp .ne 22, 3) := dqo gX12_meetWay_27.2.2.2.2.2.2.2.2.2.1
theorem dX12_meetWay_51 : decode (mB 259) 51 = .ok (.iload_n 1, 1) := dqo gX12_meetWay_27.2.2.2.2.2.2.2.2.2.2.1
theorem dX12_meetWay_52 : decode (mB 259) 52 = .ok (.aload_n 0, 1) := dqo gX12_meetWay_27.2.2.2.2.2.2.2.2.2.2.2.1
theorem dX12_meetWay_53 : decode (mB 259) 53 = .ok (.getfield 325, 3) := dqo gX12_meetWay_27.2.2.2.2.2.2.2.2.2.2.2.2.1
theorem dX12_meetWay_56 : decode (mB 259) 56 = .ok (.if_icmp .ge 14, 3) := dqo gX12_meetWay_27.2.2.2.2.2.2.2.2.2.2.2.2.2.1
theorem dX12_meetWay_59 : decode (mB 259) 59 = .ok (.aload_n 0, 1) := dqo gX12_meetWay_27.2.2.2.2.2.2.2.2.2.2.2.2.2.2.1
theorem dX12_meetWay_60 : decode (mB 259) 60 = .ok (.iload 4, 2) := dqo gX12_meetWay_27.2.2.2.2.2.2.2.2.2.2.2.2.2.2.2
theorem gX12_meetWay_62 : dq 259 62 (.putfield 322) 3 = true ∧ dq 259 65 (.aload_n 0) 1 = true ∧ dq 259 66 (.iload_n 1) 1 = true ∧ dq 259 67 (.putfield 325) 3 = true ∧ dq 259 70 (.lload_n 2) 1 = true ∧ dq 259 71 (.aload_n 0) 1 = true ∧ dq 259 72 (.getfield 328) 3 = true ∧ dq 259 75 (.lcmp) 1 = true ∧ dq 259 76 (.ifCond .gt 26) 3 = true ∧ dq 259 79 (.lload_n 2) 1 = true ∧ dq 259 80 (.aload_n 0) 1 = true ∧ dq 259 81 (.getfield 328) 3 = true ∧ dq 259 84 (.lcmp) 1 = true ∧ dq 259 85 (.ifCond .ne 27) 3 = true ∧ dq 259 88 (.lload_n 2) 1 = true ∧ dq 259 89 (.lconst 0) 1 = true := by decide +kernel
theorem dX12_meetWay_62 : decode (mB 259) 62 = .ok (.putfield 322, 3) := dqo gX12_meetWay_62.1
theorem dX12_meetWay_65 : decode (mB 259) 65 = .ok (.aload_n 0, 1) := dqo gX12_meetWay_62.2.1
theorem dX12_meetWay_66 : decode (mB 259) 66 = .ok (.iload_n 1, 1) := dqo gX12_meetWay_62.2.2.1
theorem dX12_meetWay_67 : decode (mB 259) 67 = .ok (.putfield 325, 3) := dqo gX12_meetWay_62.2.2.2.1
theorem dX12_meetWay_70 : decode (mB 259) 70 = .ok (.lload_n 2, 1) := dqo gX12_meetWay_62.2.2.2.2.1
theorem dX12_meetWay_71 : decode (mB 259) 71 = .ok (.aload_n 0, 1) := dqo gX12_meetWay_62.2.2.2.2.2.1
theorem dX12_meetWay_72 : decode (mB 259) 72 = .ok (.getfield 328, 3) := dqo gX12_meetWay_62.2.2.2.2.2.2.1
theorem dX12_meetWay_75 : decode (mB 259) 75 = .ok (.lcmp, 1) := dqo gX12_meetWay_62.2.2.2.2.2.2.2.1
theorem dX12_meetWay_76 : decode (mB 259) 76 = .ok (.ifCond .gt 26, 3) := dqo gX12_meetWay_62.2.2.2.2.2.2.2.2.1
theorem dX12_meetWay_79 : decode (mB 259) 79 = .ok (.lload_n 2, 1) := dqo gX12_meetWay_62.2.2.2.2.2.2.2.2.2.1
theorem dX12_meetWay_80 : decode (mB 259) 80 = .ok (.aload_n 0, 1) := dqo gX12_meetWay_62.2.2.2.2.2.2.2.2.2.2.1
theorem dX12_meetWay_81 : decode (mB 259) 81 = .ok (.getfield 328, 3) := dqo gX12_meetWay_62.2.2.2.2.2.2.2.2.2.2.2.1
theorem dX12_meetWay_84 : decode (mB 259) 84 = .ok (.lcmp, 1) := dqo gX12_meetWay_62.2.2.2.2.2.2.2.2.2.2.2.2.1
theorem dX12_meetWay_85 : decode (mB 259) 85 = .ok (.ifCond .ne 27, 3) := dqo gX12_meetWay_62.2.2.2.2.2.2.2.2.2.2.2.2.2.1
theorem dX12_meetWay_88 : decode (mB 259) 88 = .ok (.lload_n 2, 1) := dqo gX12_meetWay_62.2.2.2.2.2.2.2.2.2.2.2.2.2.2.1
theorem dX12_meetWay_89 : decode (mB 259) 89 = .ok (.lconst 0, 1) := dqo gX12_meetWay_62.2.2.2.2.2.2.2.2.2.2.2.2.2.2.2
theorem gX12_meetWay_90 : dq 259 90 (.lcmp) 1 = true ∧ dq 259 91 (.ifCond .le 21) 3 = true ∧ dq 259 94 (.iload_n 1) 1 = true ∧ dq 259 95 (.aload_n 0) 1 = true ∧ dq 259 96 (.getfield 332) 3 = true ∧ dq 259 99 (.if_icmp .ge 13) 3 = true ∧ dq 259 102 (.aload_n 0) 1 = true ∧ dq 259 103 (.lload_n 2) 1 = true ∧ dq 259 104 (.putfield 328) 3 = true ∧ dq 259 107 (.aload_n 0) 1 = true ∧ dq 259 108 (.iload_n 1) 1 = true ∧ dq 259 109 (.putfield 332) 3 = true ∧ dq 259 112 (.return_) 1 = true := by decide +kernel
theorem dX12_meetWay_90 : decode (mB 259) 90 = .ok (.lcmp, 1) := dqo gX12_meetWay_90.1
theorem dX12_meetWay_91 : decode (mB 259) 91 = .ok (.ifCond .le 21, 3) := dqo gX12_meetWay_90.2.1
theorem dX12_meetWay_94 : decode (mB 259) 94 = .ok (.iload_n 1, 1) := dqo gX12_meetWay_90.2.2.1
theorem dX12_meetWay_95 : decode (mB 259) 95 = .ok (.aload_n 0, 1) := dqo gX12_meetWay_90.2.2.2.1
theorem dX12_meetWay_96 : decode (mB 259) 96 = .ok (.getfield 332, 3) := dqo gX12_meetWay_90.2.2.2.2.1
theorem dX12_meetWay_99 : decode (mB 259) 99 = .ok (.if_icmp .ge 13, 3) := dqo gX12_meetWay_90.2.2.2.2.2.1
theorem dX12_meetWay_102 : decode (mB 259) 102 = .ok (.aload_n 0, 1) := dqo gX12_meetWay_90.2.2.2.2.2.2.1
theorem dX12_meetWay_103 : decode (mB 259) 103 = .ok (.lload_n 2, 1) := dqo gX12_meetWay_90.2.2.2.2.2.2.2.1
theorem dX12_meetWay_104 : decode (mB 259) 104 = .ok (.putfield 328, 3) := dqo gX12_meetWay_90.2.2.2.2.2.2.2.2.1
theorem dX12_meetWay_107 : decode (mB 259) 107 = .ok (.aload_n 0, 1) := dqo gX12_meetWay_90.2.2.2.2.2.2.2.2.2.1
theorem dX12_meetWay_108 : decode (mB 259) 108 = .ok (.iload_n 1, 1) := dqo gX12_meetWay_90.2.2.2.2.2.2.2.2.2.2.1
theorem dX12_meetWay_109 : decode (mB 259) 109 = .ok (.putfield 332, 3) := dqo gX12_meetWay_90.2.2.2.2.2.2.2.2.2.2.2.1
theorem dX12_meetWay_112 : decode (mB 259) 112 = .ok (.return_, 1) := dqo gX12_meetWay_90.2.2.2.2.2.2.2.2.2.2.2.2
theorem gX12_goBehind_0 : dq 260 0 (.iload_n 1) 1 = true ∧ dq 260 1 (.aload_n 0) 1 = true ∧ dq 260 2 (.getfield 335) 3 = true ∧ dq 260 5 (.if_icmp .ne 17) 3 = true ∧ dq 260 8 (.aload_n 0) 1 = true ∧ dq 260 9 (.invokevirtual 338) 3 = true ∧ dq 260 12 (.ifCond .eq 9) 3 = true ∧ dq 260 15 (.aload_n 0) 1 = true ∧ dq 260 16 (.iload_n 2) 1 = true ∧ dq 260 17 (.lload_n 3) 1 = true ∧ dq 260 18 (.invokevirtual 341) 3 = true ∧ dq 260 21 (.return_) 1 = true ∧ dq 260 22 (.aload_n 0) 1 = true ∧ dq 260 23 (.aload_n 0) 1 = true ∧ dq 260 24 (.getfield 345) 3 = true ∧ dq 260 27 (.iload_n 1) 1 = true := by decide +kernel
theorem dX12_goBehind_0 : decode (mB 260) 0 = .ok (.iload_n 1, 1) := dqo gX12_goBehind_0.1
theorem dX12_goBehind_1 : decode (mB 260) 1 = .ok (.aload_n 0, 1) := dqo gX12_goBehind_0.2.1
theorem dX12_goBehind_2 : decode (mB 260) 2 = .ok (.getfield 335, 3) := dqo gX12_goBehind_0.2.2.1
theorem dX12_goBehind_5 : decode (mB 260) 5 = .ok (.if_icmp .ne 17, 3) := dqo gX12_goBehind_0.2.2.2.1
theorem dX12_goBehind_8 : decode (mB 260) 8 = .ok (.aload_n 0, 1) := dqo gX12_goBehind_0.2.2.2.2.1
theorem dX12_goBehind_9 : decode (mB 260) 9 = .ok (.invokevirtual 338, 3) := dqo gX12_goBehind_0.2.2.2.2.2.1
theorem dX12_goBehind_12 : decode (mB 260) 12 = .ok (.ifCond .eq 9, 3) := dqo gX12_goBehind_0.2.2.2.2.2.2.1
theorem dX12_goBehind_15 : decode (mB 260) 15 = .ok (.aload_n 0, 1) := dqo gX12_goBehind_0.2.2.2.2.2.2.2.1
theorem dX12_goBehind_16 : decode (mB 260) 16 = .ok (.iload_n 2, 1) := dqo gX12_goBehind_0.2.2.2.2.2.2.2.2.1
theorem dX12_goBehind_17 : decode (mB 260) 17 = .ok (.lload_n 3, 1) := dqo gX12_goBehind_0.2.2.2.2.2.2.2.2.2.1
theorem dX12_goBehind_18 : decode (mB 260) 18 = .ok (.invokevirtual 341, 3) := dqo gX12_goBehind_0.2.2.2.2.2.2.2.2.2.2.1
theorem dX12_goBehind_21 : decode (mB 260) 21 = .ok (.return_, 1) := dqo gX12_goBehind_0.2.2.2.2.2.2.2.2.2.2.2.1
theorem dX12_goBehind_22 : decode (mB 260) 22 = .ok (.aload_n 0, 1) := dqo gX12_goBehind_0.2.2.2.2.2.2.2.2.2.2.2.2.1
theorem dX12_goBehind_23 : decode (mB 260) 23 = .ok (.aload_n 0, 1) := dqo gX12_goBehind_0.2.2.2.2.2.2.2.2.2.2.2.2.2.1
theorem dX12_goBehind_24 : decode (mB 260) 24 = .ok (.getfield 345, 3) := dqo gX12_goBehind_0.2.2.2.2.2.2.2.2.2.2.2.2.2.2.1
theorem dX12_goBehind_27 : decode (mB 260) 27 = .ok (.iload_n 1, 1) := dqo gX12_goBehind_0.2.2.2.2.2.2.2.2.2.2.2.2.2.2.2
theorem gX12_goBehind_28 : dq 260 28 (.invokevirtual 263) 3 = true ∧ dq 260 31 (.bipush 8) 2 = true ∧ dq 260 33 (.idiv) 1 = true ∧ dq 260 34 (.istore 5) 2 = true ∧ dq 260 36 (.aload_n 0) 1 = true ∧ dq 260 37 (.aload_n 0) 1 = true ∧ dq 260 38 (.getfield 345) 3 = true ∧ dq 260 41 (.iload_n 1) 1 = true ∧ dq 260 42 (.invokevirtual 263) 3 = true ∧ dq 260 45 (.bipush 8) 2 = true ∧ dq 260 47 (.irem) 1 = true ∧ dq 260 48 (.istore 6) 2 = true ∧ dq 260 50 (.aload_n 0) 1 = true ∧ dq 260 51 (.iload 5) 2 = true ∧ dq 260 53 (.iload 6) 2 = true ∧ dq 260 55 (.invokevirtual 251) 3 = true := by decide +kernel
theorem dX12_goBehind_28 : decode (mB 260) 28 = .ok (.invokevirtual 263, 3) := dqo gX12_goBehind_28.1
theorem dX12_goBehind_31 : decode (mB 260) 31 = .ok (.bipush 8, 2) := dqo gX12_goBehind_28.2.1
theorem dX12_goBehind_33 : decode (mB 260) 33 = .ok (.idiv, 1) := dqo gX12_goBehind_28.2.2.1
theorem dX12_goBehind_34 : decode (mB 260) 34 = .ok (.istore 5, 2) := dqo gX12_goBehind_28.2.2.2.1
theorem dX12_goBehind_36 : decode (mB 260) 36 = .ok (.aload_n 0, 1) := dqo gX12_goBehind_28.2.2.2.2.1
theorem dX12_goBehind_37 : decode (mB 260) 37 = .ok (.aload_n 0, 1) := dqo gX12_goBehind_28.2.2.2.2.2.1
theorem dX12_goBehind_38 : decode (mB 260) 38 = .ok (.getfield 345, 3) := dqo gX12_goBehind_28.2.2.2.2.2.2.1
theorem dX12_goBehind_41 : decode (mB 260) 41 = .ok (.iload_n 1, 1) := dqo gX12_goBehind_28.2.2.2.2.2.2.2.1
theorem dX12_goBehind_42 : decode (mB 260) 42 = .ok (.invokevirtual 263, 3) := dqo gX12_goBehind_28.2.2.2.2.2.2.2.2.1
theorem dX12_goBehind_45 : decode (mB 260) 45 = .ok (.bipush 8, 2) := dqo gX12_goBehind_28.2.2.2.2.2.2.2.2.2.1
theorem dX12_goBehind_47 : decode (mB 260) 47 = .ok (.irem, 1) := dqo gX12_goBehind_28.2.2.2.2.2.2.2.2.2.2.1
theorem dX12_goBehind_48 : decode (mB 260) 48 = .ok (.istore 6, 2) := dqo gX12_goBehind_28.2.2.2.2.2.2.2.2.2.2.2.1
theorem dX12_goBehind_50 : decode (mB 260) 50 = .ok (.aload_n 0, 1) := dqo gX12_goBehind_28.2.2.2.2.2.2.2.2.2.2.2.2.1
theorem dX12_goBehind_51 : decode (mB 260) 51 = .ok (.iload 5, 2) := dqo gX12_goBehind_28.2.2.2.2.2.2.2.2.2.2.2.2.2.1
theorem dX12_goBehind_53 : decode (mB 260) 53 = .ok (.iload 6, 2) := dqo gX12_goBehind_28.2.2.2.2.2.2.2.2.2.2.2.2.2.2.1
theorem dX12_goBehind_55 : decode (mB 260) 55 = .ok (.invokevirtual 251, 3) := dqo gX12_goBehind_28.2.2.2.2.2.2.2.2.2.2.2.2.2.2.2
theorem gX12_goBehind_58 : dq 260 58 (.ifCond .ne 17) 3 = true ∧ dq 260 61 (.aload_n 0) 1 = true ∧ dq 260 62 (.iload_n 1) 1 = true ∧ dq 260 63 (.iconst 1) 1 = true ∧ dq 260 64 (.iadd) 1 = true ∧ dq 260 65 (.iload_n 2) 1 = true ∧ dq 260 66 (.lload_n 3) 1 = true ∧ dq 260 67 (.ldc2_w 286) 3 = true ∧ dq 260 70 (.lmul) 1 = true ∧ dq 260 71 (.invokevirtual 348) 3 = true ∧ dq 260 74 (.return_) 1 = true ∧ dq 260 75 (.aload_n 0) 1 = true ∧ dq 260 76 (.iload 5) 2 = true ∧ dq 260 78 (.iload 6) 2 = true ∧ dq 260 80 (.invokevirtual 260) 3 = true ∧ dq 260 83 (.istore 7) 2 = true := by decide +kernel
theorem dX12_goBehind_58 : decode (mB 260) 58 = .ok (.ifCond .ne 17, 3) := dqo gX12_goBehind_58.1
theorem dX12_goBehind_61 : decode (mB 260) 61 = .ok (.aload_n 0, 1) := dqo gX12_goBehind_58.2.1
theorem dX12_goBehind_62 : decode (mB 260) 62 = .ok (.iload_n 1, 1) := dqo gX12_goBehind_58.2.2.1
theorem dX12_goBehind_63 : decode (mB 260) 63 = .ok (.iconst 1, 1) := dqo gX12_goBehind_58.2.2.2.1
theorem dX12_goBehind_64 : decode (mB 260) 64 = .ok (.iadd, 1) := dqo gX12_goBehind_58.2.2.2.2.1
theorem dX12_goBehind_65 : decode (mB 260) 65 = .ok (.iload_n 2, 1) := dqo gX12_goBehind_58.2.2.2.2.2.1
theorem dX12_goBehind_66 : decode (mB 260) 66 = .ok (.lload_n 3, 1) := dqo gX12_goBehind_58.2.2.2.2.2.2.1
theorem dX12_goBehind_67 : decode (mB 260) 67 = .ok (.ldc2_w 286, 3) := dqo gX12_goBehind_58.2.2.2.2.2.2.2.1
theorem dX12_goBehind_70 : decode (mB 260) 70 = .ok (.lmul, 1) := dqo gX12_goBehind_58.2.2.2.2.2.2.2.2.1
theorem dX12_goBehind_71 : decode (mB 260) 71 = .ok (.invokevirtual 348, 3) := dqo gX12_goBehind_58.2.2.2.2.2.2.2.2.2.1
theorem dX12_goBehind_74 : decode (mB 260) 74 = .ok (.return_, 1) := dqo gX12_goBehind_58.2.2.2.2.2.2.2.2.2.2.1
theorem dX12_goBehind_75 : decode (mB 260) 75 = .ok (.aload_n 0, 1) := dqo gX12_goBehind_58.2.2.2.2.2.2.2.2.2.2.2.1
theorem dX12_goBehind_76 : decode (mB 260) 76 = .ok (.iload 5, 2) := dqo gX12_goBehind_58.2.2.2.2.2.2.2.2.2.2.2.2.1
theorem dX12_goBehind_78 : decode (mB 260) 78 = .ok (.iload 6, 2) := dqo gX12_goBehind_58.2.2.2.2.2.2.2.2.2.2.2.2.2.1
theorem dX12_goBehind_80 : decode (mB 260) 80 = .ok (.invokevirtual 260, 3) := dqo gX12_goBehind_58.2.2.2.2.2.2.2.2.2.2.2.2.2.2.1
theorem dX12_goBehind_83 : decode (mB 260) 83 = .ok (.istore 7, 2) := dqo gX12_goBehind_58.2.2.2.2.2.2.2.2.2.2.2.2.2.2.2
theorem gX12_goBehind_85 : dq 260 85 (.aload_n 0) 1 = true ∧ dq 260 86 (.getfield 74) 3 = true ∧ dq 260 89 (.iload 5) 2 = true ∧ dq 260 91 (.iaload) 1 = true ∧ dq 260 92 (.istore 8) 2 = true ∧ dq 260 94 (.aload_n 0) 1 = true ∧ dq 260 95 (.iload_n 1) 1 = true ∧ dq 260 96 (.iconst 1) 1 = true ∧ dq 260 97 (.iadd) 1 = true ∧ dq 260 98 (.iload_n 2) 1 = true ∧ dq 260 99 (.lload_n 3) 1 = true ∧ dq 260 100 (.bipush 12) 2 = true ∧ dq 260 102 (.iload 7) 2 = true ∧ dq 260 104 (.isub) 1 = true ∧ dq 260 105 (.i2l) 1 = true ∧ dq 260 106 (.lmul) 1 = true := by decide +kernel
theorem dX12_goBehind_85 : decode (mB 260) 85 = .ok (.aload_n 0, 1) := dqo gX12_goBehind_85.1
theorem dX12_goBehind_86 : decode (mB 260) 86 = .ok (.getfield 74, 3) := dqo gX12_goBehind_85.2.1
theorem dX12_goBehind_89 : decode (mB 260) 89 = .ok (.iload 5, 2) := dqo gX12_goBehind_85.2.2.1
theorem dX12_goBehind_91 : decode (mB 260) 91 = .ok (.iaload, 1) := dqo gX12_goBehind_85.2.2.2.1
theorem dX12_goBehind_92 : decode (mB 260) 92 = .ok (.istore 8, 2) := dqo gX12_goBehind_85.2.2.2.2.1
theorem dX12_goBehind_94 : decode (mB 260) 94 = .ok (.aload_n 0, 1) := dqo gX12_goBehind_85.2.2.2.2.2.1
theorem dX12_goBehind_95 : decode (mB 260) 95 = .ok (.iload_n 1, 1) := dqo gX12_goBehind_85.2.2.2.2.2.2.1
theorem dX12_goBehind_96 : decode (mB 260) 96 = .ok (.iconst 1, 1) := dqo gX12_goBehind_85.2.2.2.2.2.2.2.1
theorem dX12_goBehind_97 : decode (mB 260) 97 = .ok (.iadd, 1) := dqo gX12_goBehind_85.2.2.2.2.2.2.2.2.1
theorem dX12_goBehind_98 : decode (mB 260) 98 = .ok (.iload_n 2, 1) := dqo gX12_goBehind_85.2.2.2.2.2.2.2.2.2.1
theorem dX12_goBehind_99 : decode (mB 260) 99 = .ok (.lload_n 3, 1) := dqo gX12_goBehind_85.2.2.2.2.2.2.2.2.2.2.1
theorem dX12_goBehind_100 : decode (mB 260) 100 = .ok (.bipush 12, 2) := dqo gX12_goBehind_85.2.2.2.2.2.2.2.2.2.2.2.1
theorem dX12_goBehind_102 : decode (mB 260) 102 = .ok (.iload 7, 2) := dqo gX12_goBehind_85.2.2.2.2.2.2.2.2.2.2.2.2.1
theorem dX12_goBehind_104 : decode (mB 260) 104 = .ok (.isub, 1) := dqo gX12_goBehind_85.2.2.2.2.2.2.2.2.2.2.2.2.2.1
theorem dX12_goBehind_105 : decode (mB 260) 105 = .ok (.i2l, 1) := dqo gX12_goBehind_85.2.2.2.2.2.2.2.2.2.2.2.2.2.2.1
theorem dX12_goBehind_106 : decode (mB 260) 106 = .ok (.lmul, 1) := dqo gX12_goBehind_85.2.2.2.2.2.2.2.2.2.2.2.2.2.2.2
theorem gX12_goBehind_107 : dq 260 107 (.invokevirtual 348) 3 = true ∧ dq 260 110 (.aload_n 0) 1 = true ∧ dq 260 111 (.getfield 74) 3 = true ∧ dq 260 114 (.iload 5) 2 = true ∧ dq 260 116 (.iload 6) 2 = true ∧ dq 260 118 (.iastore) 1 = true ∧ dq 260 119 (.aload_n 0) 1 = true ∧ dq 260 120 (.iload_n 1) 1 = true ∧ dq 260 121 (.iconst 1) 1 = true ∧ dq 260 122 (.iadd) 1 = true ∧ dq 260 123 (.iload_n 2) 1 = true ∧ dq 260 124 (.iconst 1) 1 = true ∧ dq 260 125 (.iload_n 1) 1 = true ∧ dq 260 126 (.ishl) 1 = true ∧ dq 260 127 (.ior) 1 = true ∧ dq 260 128 (.lload_n 3) 1 = true := by decide +kernel
theorem dX12_goBehind_107 : decode (mB 260) 107 = .ok (.invokevirtual 348, 3) := dqo gX12_goBehind_107.1
theorem dX12_goBehind_110 : decode (mB 260) 110 = .ok (.aload_n 0, 1) := dqo gX12_goBehind_107.2.1
theorem dX12_goBehind_111 : decode (mB 260) 111 = .ok (.getfield 74, 3) := dqo gX12_goBehind_107.2.2.1
theorem dX12_goBehind_114 : decode (mB 260) 114 = .ok (.iload 5, 2) := dqo gX12_goBehind_107.2.2.2.1
theorem dX12_goBehind_116 : decode (mB 260) 116 = .ok (.iload 6, 2) := dqo gX12_goBehind_107.2.2.2.2.1
theorem dX12_goBehind_118 : decode (mB 260) 118 = .ok (.iastore, 1) := dqo gX12_goBehind_107.2.2.2.2.2.1
theorem dX12_goBehind_119 : decode (mB 260) 119 = .ok (.aload_n 0, 1) := dqo gX12_goBehind_107.2.2.2.2.2.2.1
theorem dX12_goBehind_120 : decode (mB 260) 120 = .ok (.iload_n 1, 1) := dqo gX12_goBehind_107.2.2.2.2.2.2.2.1
theorem dX12_goBehind_121 : decode (mB 260) 121 = .ok (.iconst 1, 1) := dqo gX12_goBehind_107.2.2.2.2.2.2.2.2.1
theorem dX12_goBehind_122 : decode (mB 260) 122 = .ok (.iadd, 1) := dqo gX12_goBehind_107.2.2.2.2.2.2.2.2.2.1
theorem dX12_goBehind_123 : decode (mB 260) 123 = .ok (.iload_n 2, 1) := dqo gX12_goBehind_107.2.2.2.2.2.2.2.2.2.2.1
theorem dX12_goBehind_124 : decode (mB 260) 124 = .ok (.iconst 1, 1) := dqo gX12_goBehind_107.2.2.2.2.2.2.2.2.2.2.2.1
theorem dX12_goBehind_125 : decode (mB 260) 125 = .ok (.iload_n 1, 1) := dqo gX12_goBehind_107.2.2.2.2.2.2.2.2.2.2.2.2.1
theorem dX12_goBehind_126 : decode (mB 260) 126 = .ok (.ishl, 1) := dqo gX12_goBehind_107.2.2.2.2.2.2.2.2.2.2.2.2.2.1
theorem dX12_goBehind_127 : decode (mB 260) 127 = .ok (.ior, 1) := dqo gX12_goBehind_107.2.2.2.2.2.2.2.2.2.2.2.2.2.2.1
theorem dX12_goBehind_128 : decode (mB 260) 128 = .ok (.lload_n 3, 1) := dqo gX12_goBehind_107.2.2.2.2.2.2.2.2.2.2.2.2.2.2.2
theorem gX12_goBehind_129 : dq 260 129 (.iload 7) 2 = true ∧ dq 260 131 (.i2l) 1 = true ∧ dq 260 132 (.lmul) 1 = true ∧ dq 260 133 (.invokevirtual 348) 3 = true ∧ dq 260 136 (.aload_n 0) 1 = true ∧ dq 260 137 (.getfield 74) 3 = true ∧ dq 260 140 (.iload 5) 2 = true ∧ dq 260 142 (.iload 8) 2 = true ∧ dq 260 144 (.iastore) 1 = true ∧ dq 260 145 (.return_) 1 = true := by decide +kernel
theorem dX12_goBehind_129 : decode (mB 260) 129 = .ok (.iload 7, 2) := dqo gX12_goBehind_129.1
theorem dX12_goBehind_131 : decode (mB 260) 131 = .ok (.i2l, 1) := dqo gX12_goBehind_129.2.1
theorem dX12_goBehind_132 : decode (mB 260) 132 = .ok (.lmul, 1) := dqo gX12_goBehind_129.2.2.1
theorem dX12_goBehind_133 : decode (mB 260) 133 = .ok (.invokevirtual 348, 3) := dqo gX12_goBehind_129.2.2.2.1
theorem dX12_goBehind_136 : decode (mB 260) 136 = .ok (.aload_n 0, 1) := dqo gX12_goBehind_129.2.2.2.2.1
theorem dX12_goBehind_137 : decode (mB 260) 137 = .ok (.getfield 74, 3) := dqo gX12_goBehind_129.2.2.2.2.2.1
theorem dX12_goBehind_140 : decode (mB 260) 140 = .ok (.iload 5, 2) := dqo gX12_goBehind_129.2.2.2.2.2.2.1
theorem dX12_goBehind_142 : decode (mB 260) 142 = .ok (.iload 8, 2) := dqo gX12_goBehind_129.2.2.2.2.2.2.2.1
theorem dX12_goBehind_144 : decode (mB 260) 144 = .ok (.iastore, 1) := dqo gX12_goBehind_129.2.2.2.2.2.2.2.2.1
theorem dX12_goBehind_145 : decode (mB 260) 145 = .ok (.return_, 1) := dqo gX12_goBehind_129.2.2.2.2.2.2.2.2.2
theorem gX12_behind_0 : dq 261 0 (.iload_n 1) 1 = true ∧ dq 261 1 (.invokestatic 137) 3 = true ∧ dq 261 4 (.ifCond .eq 19) 3 = true ∧ dq 261 7 (.iload_n 2) 1 = true ∧ dq 261 8 (.invokestatic 137) 3 = true ∧ dq 261 11 (.ifCond .eq 12) 3 = true ∧ dq 261 14 (.iload_n 3) 1 = true ∧ dq 261 15 (.iconst 0) 1 = true ∧ dq 261 16 (.iconst 4) 1 = true ∧ dq 261 17 (.invokestatic 118) 3 = true ∧ dq 261 20 (.ifCond .ne 5) 3 = true ∧ dq 261 23 (.iconst (-1)) 1 = true ∧ dq 261 24 (.ireturn) 1 = true ∧ dq 261 25 (.aload_n 0) 1 = true ∧ dq 261 26 (.iload_n 1) 1 = true ∧ dq 261 27 (.invokevirtual 278) 3 = true := by decide +kernel
theorem dX12_behind_0 : decode (mB 261) 0 = .ok (.iload_n 1, 1) := dqo gX12_behind_0.1
theorem dX12_behind_1 : decode (mB 261) 1 = .ok (.invokestatic 137, 3) := dqo gX12_behind_0.2.1
theorem dX12_behind_4 : decode (mB 261) 4 = .ok (.ifCond .eq 19, 3) := dqo gX12_behind_0.2.2.1
theorem dX12_behind_7 : decode (mB 261) 7 = .ok (.iload_n 2, 1) := dqo gX12_behind_0.2.2.2.1
theorem dX12_behind_8 : decode (mB 261) 8 = .ok (.invokestatic 137, 3) := dqo gX12_behind_0.2.2.2.2.1
theorem dX12_behind_11 : decode (mB 261) 11 = .ok (.ifCond .eq 12, 3) := dqo gX12_behind_0.2.2.2.2.2.1
theorem dX12_behind_14 : decode (mB 261) 14 = .ok (.iload_n 3, 1) := dqo gX12_behind_0.2.2.2.2.2.2.1
theorem dX12_behind_15 : decode (mB 261) 15 = .ok (.iconst 0, 1) := dqo gX12_behind_0.2.2.2.2.2.2.2.1
theorem dX12_behind_16 : decode (mB 261) 16 = .ok (.iconst 4, 1) := dqo gX12_behind_0.2.2.2.2.2.2.2.2.1
theorem dX12_behind_17 : decode (mB 261) 17 = .ok (.invokestatic 118, 3) := dqo gX12_behind_0.2.2.2.2.2.2.2.2.2.1
theorem dX12_behind_20 : decode (mB 261) 20 = .ok (.ifCond .ne 5, 3) := dqo gX12_behind_0.2.2.2.2.2.2.2.2.2.2.1
theorem dX12_behind_23 : decode (mB 261) 23 = .ok (.iconst (-1), 1) := dqo gX12_behind_0.2.2.2.2.2.2.2.2.2.2.2.1
theorem dX12_behind_24 : decode (mB 261) 24 = .ok (.ireturn, 1) := dqo gX12_behind_0.2.2.2.2.2.2.2.2.2.2.2.2.1
theorem dX12_behind_25 : decode (mB 261) 25 = .ok (.aload_n 0, 1) := dqo gX12_behind_0.2.2.2.2.2.2.2.2.2.2.2.2.2.1
theorem dX12_behind_26 : decode (mB 261) 26 = .ok (.iload_n 1, 1) := dqo gX12_behind_0.2.2.2.2.2.2.2.2.2.2.2.2.2.2.1
theorem dX12_behind_27 : decode (mB 261) 27 = .ok (.invokevirtual 278, 3) := dqo gX12_behind_0.2.2.2.2.2.2.2.2.2.2.2.2.2.2.2
theorem gX12_behind_30 : dq 261 30 (.ifCond .ge 9) 3 = true ∧ dq 261 33 (.aload_n 0) 1 = true ∧ dq 261 34 (.iload_n 1) 1 = true ∧ dq 261 35 (.invokevirtual 278) 3 = true ∧ dq 261 38 (.ireturn) 1 = true ∧ dq 261 39 (.aload_n 0) 1 = true ∧ dq 261 40 (.iload_n 2) 1 = true ∧ dq 261 41 (.invokevirtual 278) 3 = true ∧ dq 261 44 (.ifCond .ge 9) 3 = true ∧ dq 261 47 (.aload_n 0) 1 = true ∧ dq 261 48 (.iload_n 2) 1 = true ∧ dq 261 49 (.invokevirtual 278) 3 = true ∧ dq 261 52 (.ireturn) 1 = true ∧ dq 261 53 (.aload_n 0) 1 = true ∧ dq 261 54 (.iload_n 1) 1 = true ∧ dq 261 55 (.putfield 345) 3 = true := by decide +kernel
theorem dX12_behind_30 : decode (mB 261) 30 = .ok (.ifCond .ge 9, 3) := dqo gX12_behind_30.1
theorem dX12_behind_33 : decode (mB 261) 33 = .ok (.aload_n 0, 1) := dqo gX12_behind_30.2.1
theorem dX12_behind_34 : decode (mB 261) 34 = .ok (.iload_n 1, 1) := dqo gX12_behind_30.2.2.1
theorem dX12_behind_35 : decode (mB 261) 35 = .ok (.invokevirtual 278, 3) := dqo gX12_behind_30.2.2.2.1
theorem dX12_behind_38 : decode (mB 261) 38 = .ok (.ireturn, 1) := dqo gX12_behind_30.2.2.2.2.1
theorem dX12_behind_39 : decode (mB 261) 39 = .ok (.aload_n 0, 1) := dqo gX12_behind_30.2.2.2.2.2.1
theorem dX12_behind_40 : decode (mB 261) 40 = .ok (.iload_n 2, 1) := dqo gX12_behind_30.2.2.2.2.2.2.1
theorem dX12_behind_41 : decode (mB 261) 41 = .ok (.invokevirtual 278, 3) := dqo gX12_behind_30.2.2.2.2.2.2.2.1
theorem dX12_behind_44 : decode (mB 261) 44 = .ok (.ifCond .ge 9, 3) := dqo gX12_behind_30.2.2.2.2.2.2.2.2.1
theorem dX12_behind_47 : decode (mB 261) 47 = .ok (.aload_n 0, 1) := dqo gX12_behind_30.2.2.2.2.2.2.2.2.2.1
theorem dX12_behind_48 : decode (mB 261) 48 = .ok (.iload_n 2, 1) := dqo gX12_behind_30.2.2.2.2.2.2.2.2.2.2.1
theorem dX12_behind_49 : decode (mB 261) 49 = .ok (.invokevirtual 278, 3) := dqo gX12_behind_30.2.2.2.2.2.2.2.2.2.2.2.1
theorem dX12_behind_52 : decode (mB 261) 52 = .ok (.ireturn, 1) := dqo gX12_behind_30.2.2.2.2.2.2.2.2.2.2.2.2.1
theorem dX12_behind_53 : decode (mB 261) 53 = .ok (.aload_n 0, 1) := dqo gX12_behind_30.2.2.2.2.2.2.2.2.2.2.2.2.2.1
theorem dX12_behind_54 : decode (mB 261) 54 = .ok (.iload_n 1, 1) := dqo gX12_behind_30.2.2.2.2.2.2.2.2.2.2.2.2.2.2.1
theorem dX12_behind_55 : decode (mB 261) 55 = .ok (.putfield 345, 3) := dqo gX12_behind_30.2.2.2.2.2.2.2.2.2.2.2.2.2.2.2
theorem gX12_behind_58 : dq 261 58 (.aload_n 0) 1 = true ∧ dq 261 59 (.iload_n 2) 1 = true ∧ dq 261 60 (.putfield 313) 3 = true ∧ dq 261 63 (.aload_n 0) 1 = true ∧ dq 261 64 (.aload_n 0) 1 = true ∧ dq 261 65 (.iload_n 1) 1 = true ∧ dq 261 66 (.bipush 12) 2 = true ∧ dq 261 68 (.invokevirtual 272) 3 = true ∧ dq 261 71 (.putfield 335) 3 = true ∧ dq 261 74 (.aload_n 0) 1 = true ∧ dq 261 75 (.iconst 0) 1 = true ∧ dq 261 76 (.putfield 316) 3 = true ∧ dq 261 79 (.aload_n 0) 1 = true ∧ dq 261 80 (.bipush (-2)) 2 = true ∧ dq 261 82 (.putfield 322) 3 = true ∧ dq 261 85 (.aload_n 0) 1 = true := by decide +kernel
theorem dX12_behind_58 : decode (mB 261) 58 = .ok (.aload_n 0, 1) := dqo gX12_behind_58.1
theorem dX12_behind_59 : decode (mB 261) 59 = .ok (.iload_n 2, 1) := dqo gX12_behind_58.2.1
theorem dX12_behind_60 : decode (mB 261) 60 = .ok (.putfield 313, 3) := dqo gX12_behind_58.2.2.1
theorem dX12_behind_63 : decode (mB 261) 63 = .ok (.aload_n 0, 1) := dqo gX12_behind_58.2.2.2.1
theorem dX12_behind_64 : decode (mB 261) 64 = .ok (.aload_n 0, 1) := dqo gX12_behind_58.2.2.2.2.1
theorem dX12_behind_65 : decode (mB 261) 65 = .ok (.iload_n 1, 1) := dqo gX12_behind_58.2.2.2.2.2.1
theorem dX12_behind_66 : decode (mB 261) 66 = .ok (.bipush 12, 2) := dqo gX12_behind_58.2.2.2.2.2.2.1
theorem dX12_behind_68 : decode (mB 261) 68 = .ok (.invokevirtual 272, 3) := dqo gX12_behind_58.2.2.2.2.2.2.2.1
theorem dX12_behind_71 : decode (mB 261) 71 = .ok (.putfield 335, 3) := dqo gX12_behind_58.2.2.2.2.2.2.2.2.1
theorem dX12_behind_74 : decode (mB 261) 74 = .ok (.aload_n 0, 1) := dqo gX12_behind_58.2.2.2.2.2.2.2.2.2.1
theorem dX12_behind_75 : decode (mB 261) 75 = .ok (.iconst 0, 1) := dqo gX12_behind_58.2.2.2.2.2.2.2.2.2.2.1
theorem dX12_behind_76 : decode (mB 261) 76 = .ok (.putfield 316, 3) := dqo gX12_behind_58.2.2.2.2.2.2.2.2.2.2.2.1
theorem dX12_behind_79 : decode (mB 261) 79 = .ok (.aload_n 0, 1) := dqo gX12_behind_58.2.2.2.2.2.2.2.2.2.2.2.2.1
theorem dX12_behind_80 : decode (mB 261) 80 = .ok (.bipush (-2), 2) := dqo gX12_behind_58.2.2.2.2.2.2.2.2.2.2.2.2.2.1
theorem dX12_behind_82 : decode (mB 261) 82 = .ok (.putfield 322, 3) := dqo gX12_behind_58.2.2.2.2.2.2.2.2.2.2.2.2.2.2.1
theorem dX12_behind_85 : decode (mB 261) 85 = .ok (.aload_n 0, 1) := dqo gX12_behind_58.2.2.2.2.2.2.2.2.2.2.2.2.2.2.2
theorem gX12_behind_86 : dq 261 86 (.bipush (-2)) 2 = true ∧ dq 261 88 (.putfield 325) 3 = true ∧ dq 261 91 (.aload_n 0) 1 = true ∧ dq 261 92 (.iconst (-1)) 1 = true ∧ dq 261 93 (.putfield 319) 3 = true ∧ dq 261 96 (.aload_n 0) 1 = true ∧ dq 261 97 (.lconst 0) 1 = true ∧ dq 261 98 (.putfield 328) 3 = true ∧ dq 261 101 (.aload_n 0) 1 = true ∧ dq 261 102 (.bipush (-2)) 2 = true ∧ dq 261 104 (.putfield 332) 3 = true ∧ dq 261 107 (.aload_n 0) 1 = true ∧ dq 261 108 (.invokevirtual 168) 3 = true ∧ dq 261 111 (.aload_n 0) 1 = true ∧ dq 261 112 (.iconst 0) 1 = true ∧ dq 261 113 (.iconst 0) 1 = true := by decide +kernel
theorem dX12_behind_86 : decode (mB 261) 86 = .ok (.bipush (-2), 2) := dqo gX12_behind_86.1
theorem dX12_behind_88 : decode (mB 261) 88 = .ok (.putfield 325, 3) := dqo gX12_behind_86.2.1
theorem dX12_behind_91 : decode (mB 261) 91 = .ok (.aload_n 0, 1) := dqo gX12_behind_86.2.2.1
theorem dX12_behind_92 : decode (mB 261) 92 = .ok (.iconst (-1), 1) := dqo gX12_behind_86.2.2.2.1
theorem dX12_behind_93 : decode (mB 261) 93 = .ok (.putfield 319, 3) := dqo gX12_behind_86.2.2.2.2.1
theorem dX12_behind_96 : decode (mB 261) 96 = .ok (.aload_n 0, 1) := dqo gX12_behind_86.2.2.2.2.2.1
theorem dX12_behind_97 : decode (mB 261) 97 = .ok (.lconst 0, 1) := dqo gX12_behind_86.2.2.2.2.2.2.1
theorem dX12_behind_98 : decode (mB 261) 98 = .ok (.putfield 328, 3) := dqo gX12_behind_86.2.2.2.2.2.2.2.1
theorem dX12_behind_101 : decode (mB 261) 101 = .ok (.aload_n 0, 1) := dqo gX12_behind_86.2.2.2.2.2.2.2.2.1
theorem dX12_behind_102 : decode (mB 261) 102 = .ok (.bipush (-2), 2) := dqo gX12_behind_86.2.2.2.2.2.2.2.2.2.1
theorem dX12_behind_104 : decode (mB 261) 104 = .ok (.putfield 332, 3) := dqo gX12_behind_86.2.2.2.2.2.2.2.2.2.2.1
theorem dX12_behind_107 : decode (mB 261) 107 = .ok (.aload_n 0, 1) := dqo gX12_behind_86.2.2.2.2.2.2.2.2.2.2.2.1
theorem dX12_behind_108 : decode (mB 261) 108 = .ok (.invokevirtual 168, 3) := dqo gX12_behind_86.2.2.2.2.2.2.2.2.2.2.2.2.1
theorem dX12_behind_111 : decode (mB 261) 111 = .ok (.aload_n 0, 1) := dqo gX12_behind_86.2.2.2.2.2.2.2.2.2.2.2.2.2.1
theorem dX12_behind_112 : decode (mB 261) 112 = .ok (.iconst 0, 1) := dqo gX12_behind_86.2.2.2.2.2.2.2.2.2.2.2.2.2.2.1
theorem dX12_behind_113 : decode (mB 261) 113 = .ok (.iconst 0, 1) := dqo gX12_behind_86.2.2.2.2.2.2.2.2.2.2.2.2.2.2.2
theorem gX12_behind_114 : dq 261 114 (.lconst 1) 1 = true ∧ dq 261 115 (.invokevirtual 348) 3 = true ∧ dq 261 118 (.iload_n 3) 1 = true ∧ dq 261 119 (.tableswitch 60 0 3 #[29, 34, 39, 44]) 29 = true ∧ dq 261 148 (.aload_n 0) 1 = true ∧ dq 261 149 (.getfield 316) 3 = true ∧ dq 261 152 (.ireturn) 1 = true ∧ dq 261 153 (.aload_n 0) 1 = true ∧ dq 261 154 (.getfield 322) 3 = true ∧ dq 261 157 (.ireturn) 1 = true ∧ dq 261 158 (.aload_n 0) 1 = true ∧ dq 261 159 (.getfield 325) 3 = true ∧ dq 261 162 (.ireturn) 1 = true ∧ dq 261 163 (.aload_n 0) 1 = true ∧ dq 261 164 (.getfield 316) 3 = true ∧ dq 261 167 (.ifCond .ne 7) 3 = true := by decide +kernel
theorem dX12_behind_114 : decode (mB 261) 114 = .ok (.lconst 1, 1) := dqo gX12_behind_114.1
theorem dX12_behind_115 : decode (mB 261) 115 = .ok (.invokevirtual 348, 3) := dqo gX12_behind_114.2.1
theorem dX12_behind_118 : decode (mB 261) 118 = .ok (.iload_n 3, 1) := dqo gX12_behind_114.2.2.1
theorem dX12_behind_119 : decode (mB 261) 119 = .ok (.tableswitch 60 0 3 #[29, 34, 39, 44], 29) := dqo gX12_behind_114.2.2.2.1
theorem dX12_behind_148 : decode (mB 261) 148 = .ok (.aload_n 0, 1) := dqo gX12_behind_114.2.2.2.2.1
theorem dX12_behind_149 : decode (mB 261) 149 = .ok (.getfield 316, 3) := dqo gX12_behind_114.2.2.2.2.2.1
theorem dX12_behind_152 : decode (mB 261) 152 = .ok (.ireturn, 1) := dqo gX12_behind_114.2.2.2.2.2.2.1
theorem dX12_behind_153 : decode (mB 261) 153 = .ok (.aload_n 0, 1) := dqo gX12_behind_114.2.2.2.2.2.2.2.1
theorem dX12_behind_154 : decode (mB 261) 154 = .ok (.getfield 322, 3) := dqo gX12_behind_114.2.2.2.2.2.2.2.2.1
theorem dX12_behind_157 : decode (mB 261) 157 = .ok (.ireturn, 1) := dqo gX12_behind_114.2.2.2.2.2.2.2.2.2.1
theorem dX12_behind_158 : decode (mB 261) 158 = .ok (.aload_n 0, 1) := dqo gX12_behind_114.2.2.2.2.2.2.2.2.2.2.1
theorem dX12_behind_159 : decode (mB 261) 159 = .ok (.getfield 325, 3) := dqo gX12_behind_114.2.2.2.2.2.2.2.2.2.2.2.1
theorem dX12_behind_162 : decode (mB 261) 162 = .ok (.ireturn, 1) := dqo gX12_behind_114.2.2.2.2.2.2.2.2.2.2.2.2.1
theorem dX12_behind_163 : decode (mB 261) 163 = .ok (.aload_n 0, 1) := dqo gX12_behind_114.2.2.2.2.2.2.2.2.2.2.2.2.2.1
theorem dX12_behind_164 : decode (mB 261) 164 = .ok (.getfield 316, 3) := dqo gX12_behind_114.2.2.2.2.2.2.2.2.2.2.2.2.2.2.1
theorem dX12_behind_167 : decode (mB 261) 167 = .ok (.ifCond .ne 7, 3) := dqo gX12_behind_114.2.2.2.2.2.2.2.2.2.2.2.2.2.2.2
theorem gX12_behind_170 : dq 261 170 (.iconst 0) 1 = true ∧ dq 261 171 (.goto 7) 3 = true ∧ dq 261 174 (.aload_n 0) 1 = true ∧ dq 261 175 (.getfield 319) 3 = true ∧ dq 261 178 (.ireturn) 1 = true ∧ dq 261 179 (.aload_n 0) 1 = true ∧ dq 261 180 (.getfield 332) 3 = true ∧ dq 261 183 (.ireturn) 1 = true := by decide +kernel
theorem dX12_behind_170 : decode (mB 261) 170 = .ok (.iconst 0, 1) := dqo gX12_behind_170.1
theorem dX12_behind_171 : decode (mB 261) 171 = .ok (.goto 7, 3) := dqo gX12_behind_170.2.1
theorem dX12_behind_174 : decode (mB 261) 174 = .ok (.aload_n 0, 1) := dqo gX12_behind_170.2.2.1
theorem dX12_behind_175 : decode (mB 261) 175 = .ok (.getfield 319, 3) := dqo gX12_behind_170.2.2.2.1
theorem dX12_behind_178 : decode (mB 261) 178 = .ok (.ireturn, 1) := dqo gX12_behind_170.2.2.2.2.1
theorem dX12_behind_179 : decode (mB 261) 179 = .ok (.aload_n 0, 1) := dqo gX12_behind_170.2.2.2.2.2.1
theorem dX12_behind_180 : decode (mB 261) 180 = .ok (.getfield 332, 3) := dqo gX12_behind_170.2.2.2.2.2.2.1
theorem dX12_behind_183 : decode (mB 261) 183 = .ok (.ireturn, 1) := dqo gX12_behind_170.2.2.2.2.2.2.2
theorem gX12_realAt_0 : dq 262 0 (.iconst 0) 1 = true ∧ dq 262 1 (.istore_n 2) 1 = true ∧ dq 262 2 (.iconst 0) 1 = true ∧ dq 262 3 (.istore_n 3) 1 = true ∧ dq 262 4 (.iload_n 3) 1 = true ∧ dq 262 5 (.aload_n 0) 1 = true ∧ dq 262 6 (.getfield 122) 3 = true ∧ dq 262 9 (.if_icmp .ge 32) 3 = true ∧ dq 262 12 (.aload_n 0) 1 = true ∧ dq 262 13 (.getfield 27) 3 = true ∧ dq 262 16 (.iload_n 3) 1 = true ∧ dq 262 17 (.iaload) 1 = true ∧ dq 262 18 (.iconst 1) 1 = true ∧ dq 262 19 (.if_icmp .ne 6) 3 = true ∧ dq 262 22 (.goto 13) 3 = true ∧ dq 262 25 (.iload_n 2) 1 = true := by decide +kernel
theorem dX12_realAt_0 : decode (mB 262) 0 = .ok (.iconst 0, 1) := dqo gX12_realAt_0.1
theorem dX12_realAt_1 : decode (mB 262) 1 = .ok (.istore_n 2, 1) := dqo gX12_realAt_0.2.1
theorem dX12_realAt_2 : decode (mB 262) 2 = .ok (.iconst 0, 1) := dqo gX12_realAt_0.2.2.1
theorem dX12_realAt_3 : decode (mB 262) 3 = .ok (.istore_n 3, 1) := dqo gX12_realAt_0.2.2.2.1
theorem dX12_realAt_4 : decode (mB 262) 4 = .ok (.iload_n 3, 1) := dqo gX12_realAt_0.2.2.2.2.1
theorem dX12_realAt_5 : decode (mB 262) 5 = .ok (.aload_n 0, 1) := dqo gX12_realAt_0.2.2.2.2.2.1
theorem dX12_realAt_6 : decode (mB 262) 6 = .ok (.getfield 122, 3) := dqo gX12_realAt_0.2.2.2.2.2.2.1
theorem dX12_realAt_9 : decode (mB 262) 9 = .ok (.if_icmp .ge 32, 3) := dqo gX12_realAt_0.2.2.2.2.2.2.2.1
theorem dX12_realAt_12 : decode (mB 262) 12 = .ok (.aload_n 0, 1) := dqo gX12_realAt_0.2.2.2.2.2.2.2.2.1
theorem dX12_realAt_13 : decode (mB 262) 13 = .ok (.getfield 27, 3) := dqo gX12_realAt_0.2.2.2.2.2.2.2.2.2.1
theorem dX12_realAt_16 : decode (mB 262) 16 = .ok (.iload_n 3, 1) := dqo gX12_realAt_0.2.2.2.2.2.2.2.2.2.2.1
theorem dX12_realAt_17 : decode (mB 262) 17 = .ok (.iaload, 1) := dqo gX12_realAt_0.2.2.2.2.2.2.2.2.2.2.2.1
theorem dX12_realAt_18 : decode (mB 262) 18 = .ok (.iconst 1, 1) := dqo gX12_realAt_0.2.2.2.2.2.2.2.2.2.2.2.2.1
theorem dX12_realAt_19 : decode (mB 262) 19 = .ok (.if_icmp .ne 6, 3) := dqo gX12_realAt_0.2.2.2.2.2.2.2.2.2.2.2.2.2.1
theorem dX12_realAt_22 : decode (mB 262) 22 = .ok (.goto 13, 3) := dqo gX12_realAt_0.2.2.2.2.2.2.2.2.2.2.2.2.2.2.1
theorem dX12_realAt_25 : decode (mB 262) 25 = .ok (.iload_n 2, 1) := dqo gX12_realAt_0.2.2.2.2.2.2.2.2.2.2.2.2.2.2.2
theorem gX12_realAt_26 : dq 262 26 (.iload_n 1) 1 = true ∧ dq 262 27 (.if_icmp .ne 5) 3 = true ∧ dq 262 30 (.iload_n 3) 1 = true ∧ dq 262 31 (.ireturn) 1 = true ∧ dq 262 32 (.iinc 2 1) 3 = true ∧ dq 262 35 (.iinc 3 1) 3 = true ∧ dq 262 38 (.goto (-34)) 3 = true ∧ dq 262 41 (.bipush (-2)) 2 = true ∧ dq 262 43 (.ireturn) 1 = true := by decide +kernel
theorem dX12_realAt_26 : decode (mB 262) 26 = .ok (.iload_n 1, 1) := dqo gX12_realAt_26.1
theorem dX12_realAt_27 : decode (mB 262) 27 = .ok (.if_icmp .ne 5, 3) := dqo gX12_realAt_26.2.1
theorem dX12_realAt_30 : decode (mB 262) 30 = .ok (.iload_n 3, 1) := dqo gX12_realAt_26.2.2.1
theorem dX12_realAt_31 : decode (mB 262) 31 = .ok (.ireturn, 1) := dqo gX12_realAt_26.2.2.2.1
theorem dX12_realAt_32 : decode (mB 262) 32 = .ok (.iinc 2 1, 3) := dqo gX12_realAt_26.2.2.2.2.1
theorem dX12_realAt_35 : decode (mB 262) 35 = .ok (.iinc 3 1, 3) := dqo gX12_realAt_26.2.2.2.2.2.1
theorem dX12_realAt_38 : decode (mB 262) 38 = .ok (.goto (-34), 3) := dqo gX12_realAt_26.2.2.2.2.2.2.1
theorem dX12_realAt_41 : decode (mB 262) 41 = .ok (.bipush (-2), 2) := dqo gX12_realAt_26.2.2.2.2.2.2.2.1
theorem dX12_realAt_43 : decode (mB 262) 43 = .ok (.ireturn, 1) := dqo gX12_realAt_26.2.2.2.2.2.2.2.2
theorem gX12_drawn_0 : dq 263 0 (.iload_n 2) 1 = true ∧ dq 263 1 (.ifCond .lt 43) 3 = true ∧ dq 263 4 (.iload_n 2) 1 = true ∧ dq 263 5 (.bipush 100) 2 = true ∧ dq 263 7 (.idiv) 1 = true ∧ dq 263 8 (.iconst 1) 1 = true ∧ dq 263 9 (.bipush 30) 2 = true ∧ dq 263 11 (.invokestatic 118) 3 = true ∧ dq 263 14 (.ifCond .eq 30) 3 = true ∧ dq 263 17 (.iload_n 2) 1 = true ∧ dq 263 18 (.bipush 100) 2 = true ∧ dq 263 20 (.irem) 1 = true ∧ dq 263 21 (.iconst 1) 1 = true ∧ dq 263 22 (.bipush 30) 2 = true ∧ dq 263 24 (.invokestatic 118) 3 = true ∧ dq 263 27 (.ifCond .eq 17) 3 = true := by decide +kernel
theorem dX12_drawn_0 : decode (mB 263) 0 = .ok (.iload_n 2, 1) := dqo gX12_drawn_0.1
theorem dX12_drawn_1 : decode (mB 263) 1 = .ok (.ifCond .lt 43, 3) := dqo gX12_drawn_0.2.1
theorem dX12_drawn_4 : decode (mB 263) 4 = .ok (.iload_n 2, 1) := dqo gX12_drawn_0.2.2.1
theorem dX12_drawn_5 : decode (mB 263) 5 = .ok (.bipush 100, 2) := dqo gX12_drawn_0.2.2.2.1
theorem dX12_drawn_7 : decode (mB 263) 7 = .ok (.idiv, 1) := dqo gX12_drawn_0.2.2.2.2.1
theorem dX12_drawn_8 : decode (mB 263) 8 = .ok (.iconst 1, 1) := dqo gX12_drawn_0.2.2.2.2.2.1
theorem dX12_drawn_9 : decode (mB 263) 9 = .ok (.bipush 30, 2) := dqo gX12_drawn_0.2.2.2.2.2.2.1
theorem dX12_drawn_11 : decode (mB 263) 11 = .ok (.invokestatic 118, 3) := dqo gX12_drawn_0.2.2.2.2.2.2.2.1
theorem dX12_drawn_14 : decode (mB 263) 14 = .ok (.ifCond .eq 30, 3) := dqo gX12_drawn_0.2.2.2.2.2.2.2.2.1
theorem dX12_drawn_17 : decode (mB 263) 17 = .ok (.iload_n 2, 1) := dqo gX12_drawn_0.2.2.2.2.2.2.2.2.2.1
theorem dX12_drawn_18 : decode (mB 263) 18 = .ok (.bipush 100, 2) := dqo gX12_drawn_0.2.2.2.2.2.2.2.2.2.2.1
theorem dX12_drawn_20 : decode (mB 263) 20 = .ok (.irem, 1) := dqo gX12_drawn_0.2.2.2.2.2.2.2.2.2.2.2.1
theorem dX12_drawn_21 : decode (mB 263) 21 = .ok (.iconst 1, 1) := dqo gX12_drawn_0.2.2.2.2.2.2.2.2.2.2.2.2.1
theorem dX12_drawn_22 : decode (mB 263) 22 = .ok (.bipush 30, 2) := dqo gX12_drawn_0.2.2.2.2.2.2.2.2.2.2.2.2.2.1
theorem dX12_drawn_24 : decode (mB 263) 24 = .ok (.invokestatic 118, 3) := dqo gX12_drawn_0.2.2.2.2.2.2.2.2.2.2.2.2.2.2.1
theorem dX12_drawn_27 : decode (mB 263) 27 = .ok (.ifCond .eq 17, 3) := dqo gX12_drawn_0.2.2.2.2.2.2.2.2.2.2.2.2.2.2.2
theorem gX12_drawn_30 : dq 263 30 (.iload_n 3) 1 = true ∧ dq 263 31 (.iconst (-1)) 1 = true ∧ dq 263 32 (.aload_n 0) 1 = true ∧ dq 263 33 (.getfield 115) 3 = true ∧ dq 263 36 (.iconst 1) 1 = true ∧ dq 263 37 (.isub) 1 = true ∧ dq 263 38 (.invokestatic 118) 3 = true ∧ dq 263 41 (.ifCond .ne 5) 3 = true ∧ dq 263 44 (.iconst (-1)) 1 = true ∧ dq 263 45 (.ireturn) 1 = true ∧ dq 263 46 (.iload_n 1) 1 = true ∧ dq 263 47 (.istore 4) 2 = true ∧ dq 263 49 (.iconst 0) 1 = true ∧ dq 263 50 (.istore 5) 2 = true ∧ dq 263 52 (.iconst 0) 1 = true ∧ dq 263 53 (.istore 6) 2 = true := by decide +kernel
theorem dX12_drawn_30 : decode (mB 263) 30 = .ok (.iload_n 3, 1) := dqo gX12_drawn_30.1
theorem dX12_drawn_31 : decode (mB 263) 31 = .ok (.iconst (-1), 1) := dqo gX12_drawn_30.2.1
theorem dX12_drawn_32 : decode (mB 263) 32 = .ok (.aload_n 0, 1) := dqo gX12_drawn_30.2.2.1
theorem dX12_drawn_33 : decode (mB 263) 33 = .ok (.getfield 115, 3) := dqo gX12_drawn_30.2.2.2.1
theorem dX12_drawn_36 : decode (mB 263) 36 = .ok (.iconst 1, 1) := dqo gX12_drawn_30.2.2.2.2.1
theorem dX12_drawn_37 : decode (mB 263) 37 = .ok (.isub, 1) := dqo gX12_drawn_30.2.2.2.2.2.1
theorem dX12_drawn_38 : decode (mB 263) 38 = .ok (.invokestatic 118, 3) := dqo gX12_drawn_30.2.2.2.2.2.2.1
theorem dX12_drawn_41 : decode (mB 263) 41 = .ok (.ifCond .ne 5, 3) := dqo gX12_drawn_30.2.2.2.2.2.2.2.1
theorem dX12_drawn_44 : decode (mB 263) 44 = .ok (.iconst (-1), 1) := dqo gX12_drawn_30.2.2.2.2.2.2.2.2.1
theorem dX12_drawn_45 : decode (mB 263) 45 = .ok (.ireturn, 1) := dqo gX12_drawn_30.2.2.2.2.2.2.2.2.2.1
theorem dX12_drawn_46 : decode (mB 263) 46 = .ok (.iload_n 1, 1) := dqo gX12_drawn_30.2.2.2.2.2.2.2.2.2.2.1
theorem dX12_drawn_47 : decode (mB 263) 47 = .ok (.istore 4, 2) := dqo gX12_drawn_30.2.2.2.2.2.2.2.2.2.2.2.1
theorem dX12_drawn_49 : decode (mB 263) 49 = .ok (.iconst 0, 1) := dqo gX12_drawn_30.2.2.2.2.2.2.2.2.2.2.2.2.1
theorem dX12_drawn_50 : decode (mB 263) 50 = .ok (.istore 5, 2) := dqo gX12_drawn_30.2.2.2.2.2.2.2.2.2.2.2.2.2.1
theorem dX12_drawn_52 : decode (mB 263) 52 = .ok (.iconst 0, 1) := dqo gX12_drawn_30.2.2.2.2.2.2.2.2.2.2.2.2.2.2.1
theorem dX12_drawn_53 : decode (mB 263) 53 = .ok (.istore 6, 2) := dqo gX12_drawn_30.2.2.2.2.2.2.2.2.2.2.2.2.2.2.2
theorem gX12_drawn_55 : dq 263 55 (.iconst 0) 1 = true ∧ dq 263 56 (.istore 7) 2 = true ∧ dq 263 58 (.iload 7) 2 = true ∧ dq 263 60 (.iload_n 2) 1 = true ∧ dq 263 61 (.bipush 100) 2 = true ∧ dq 263 63 (.idiv) 1 = true ∧ dq 263 64 (.if_icmp .ge 168) 3 = true ∧ dq 263 67 (.aload_n 0) 1 = true ∧ dq 263 68 (.getfield 122) 3 = true ∧ dq 263 71 (.ifCond .le 161) 3 = true ∧ dq 263 74 (.aload_n 0) 1 = true ∧ dq 263 75 (.invokevirtual 168) 3 = true ∧ dq 263 78 (.iconst 0) 1 = true ∧ dq 263 79 (.istore 8) 2 = true ∧ dq 263 81 (.iload 8) 2 = true ∧ dq 263 83 (.iload_n 2) 1 = true := by decide +kernel
theorem dX12_drawn_55 : decode (mB 263) 55 = .ok (.iconst 0, 1) := dqo gX12_drawn_55.1
theorem dX12_drawn_56 : decode (mB 263) 56 = .ok (.istore 7, 2) := dqo gX12_drawn_55.2.1
theorem dX12_drawn_58 : decode (mB 263) 58 = .ok (.iload 7, 2) := dqo gX12_drawn_55.2.2.1
theorem dX12_drawn_60 : decode (mB 263) 60 = .ok (.iload_n 2, 1) := dqo gX12_drawn_55.2.2.2.1
theorem dX12_drawn_61 : decode (mB 263) 61 = .ok (.bipush 100, 2) := dqo gX12_drawn_55.2.2.2.2.1
theorem dX12_drawn_63 : decode (mB 263) 63 = .ok (.idiv, 1) := dqo gX12_drawn_55.2.2.2.2.2.1
theorem dX12_drawn_64 : decode (mB 263) 64 = .ok (.if_icmp .ge 168, 3) := dqo gX12_drawn_55.2.2.2.2.2.2.1
theorem dX12_drawn_67 : decode (mB 263) 67 = .ok (.aload_n 0, 1) := dqo gX12_drawn_55.2.2.2.2.2.2.2.1
theorem dX12_drawn_68 : decode (mB 263) 68 = .ok (.getfield 122, 3) := dqo gX12_drawn_55.2.2.2.2.2.2.2.2.1
theorem dX12_drawn_71 : decode (mB 263) 71 = .ok (.ifCond .le 161, 3) := dqo gX12_drawn_55.2.2.2.2.2.2.2.2.2.1
theorem dX12_drawn_74 : decode (mB 263) 74 = .ok (.aload_n 0, 1) := dqo gX12_drawn_55.2.2.2.2.2.2.2.2.2.2.1
theorem dX12_drawn_75 : decode (mB 263) 75 = .ok (.invokevirtual 168, 3) := dqo gX12_drawn_55.2.2.2.2.2.2.2.2.2.2.2.1
theorem dX12_drawn_78 : decode (mB 263) 78 = .ok (.iconst 0, 1) := dqo gX12_drawn_55.2.2.2.2.2.2.2.2.2.2.2.2.1
theorem dX12_drawn_79 : decode (mB 263) 79 = .ok (.istore 8, 2) := dqo gX12_drawn_55.2.2.2.2.2.2.2.2.2.2.2.2.2.1
theorem dX12_drawn_81 : decode (mB 263) 81 = .ok (.iload 8, 2) := dqo gX12_drawn_55.2.2.2.2.2.2.2.2.2.2.2.2.2.2.1
theorem dX12_drawn_83 : decode (mB 263) 83 = .ok (.iload_n 2, 1) := dqo gX12_drawn_55.2.2.2.2.2.2.2.2.2.2.2.2.2.2.2
theorem gX12_drawn_84 : dq 263 84 (.bipush 100) 2 = true ∧ dq 263 86 (.irem) 1 = true ∧ dq 263 87 (.if_icmp .ge 90) 3 = true ∧ dq 263 90 (.iload 4) 2 = true ∧ dq 263 92 (.ldc_w 352) 3 = true ∧ dq 263 95 (.imul) 1 = true ∧ dq 263 96 (.sipush 12345) 3 = true ∧ dq 263 99 (.iadd) 1 = true ∧ dq 263 100 (.istore 4) 2 = true ∧ dq 263 102 (.iload 4) 2 = true ∧ dq 263 104 (.bipush 8) 2 = true ∧ dq 263 106 (.iushr) 1 = true ∧ dq 263 107 (.aload_n 0) 1 = true ∧ dq 263 108 (.getfield 122) 3 = true ∧ dq 263 111 (.irem) 1 = true ∧ dq 263 112 (.istore 9) 2 = true := by decide +kernel
theorem dX12_drawn_84 : decode (mB 263) 84 = .ok (.bipush 100, 2) := dqo gX12_drawn_84.1
theorem dX12_drawn_86 : decode (mB 263) 86 = .ok (.irem, 1) := dqo gX12_drawn_84.2.1
theorem dX12_drawn_87 : decode (mB 263) 87 = .ok (.if_icmp .ge 90, 3) := dqo gX12_drawn_84.2.2.1
theorem dX12_drawn_90 : decode (mB 263) 90 = .ok (.iload 4, 2) := dqo gX12_drawn_84.2.2.2.1
theorem dX12_drawn_92 : decode (mB 263) 92 = .ok (.ldc_w 352, 3) := dqo gX12_drawn_84.2.2.2.2.1
theorem dX12_drawn_95 : decode (mB 263) 95 = .ok (.imul, 1) := dqo gX12_drawn_84.2.2.2.2.2.1
theorem dX12_drawn_96 : decode (mB 263) 96 = .ok (.sipush 12345, 3) := dqo gX12_drawn_84.2.2.2.2.2.2.1
theorem dX12_drawn_99 : decode (mB 263) 99 = .ok (.iadd, 1) := dqo gX12_drawn_84.2.2.2.2.2.2.2.1
theorem dX12_drawn_100 : decode (mB 263) 100 = .ok (.istore 4, 2) := dqo gX12_drawn_84.2.2.2.2.2.2.2.2.1
theorem dX12_drawn_102 : decode (mB 263) 102 = .ok (.iload 4, 2) := dqo gX12_drawn_84.2.2.2.2.2.2.2.2.2.1
theorem dX12_drawn_104 : decode (mB 263) 104 = .ok (.bipush 8, 2) := dqo gX12_drawn_84.2.2.2.2.2.2.2.2.2.2.1
theorem dX12_drawn_106 : decode (mB 263) 106 = .ok (.iushr, 1) := dqo gX12_drawn_84.2.2.2.2.2.2.2.2.2.2.2.1
theorem dX12_drawn_107 : decode (mB 263) 107 = .ok (.aload_n 0, 1) := dqo gX12_drawn_84.2.2.2.2.2.2.2.2.2.2.2.2.1
theorem dX12_drawn_108 : decode (mB 263) 108 = .ok (.getfield 122, 3) := dqo gX12_drawn_84.2.2.2.2.2.2.2.2.2.2.2.2.2.1
theorem dX12_drawn_111 : decode (mB 263) 111 = .ok (.irem, 1) := dqo gX12_drawn_84.2.2.2.2.2.2.2.2.2.2.2.2.2.2.1
theorem dX12_drawn_112 : decode (mB 263) 112 = .ok (.istore 9, 2) := dqo gX12_drawn_84.2.2.2.2.2.2.2.2.2.2.2.2.2.2.2
theorem gX12_drawn_114 : dq 263 114 (.iload 4) 2 = true ∧ dq 263 116 (.bipush 12) 2 = true ∧ dq 263 118 (.iushr) 1 = true ∧ dq 263 119 (.aload_n 0) 1 = true ∧ dq 263 120 (.getfield 115) 3 = true ∧ dq 263 123 (.irem) 1 = true ∧ dq 263 124 (.istore 10) 2 = true ∧ dq 263 126 (.aload_n 0) 1 = true ∧ dq 263 127 (.iload 9) 2 = true ∧ dq 263 129 (.iload 10) 2 = true ∧ dq 263 131 (.invokevirtual 251) 3 = true ∧ dq 263 134 (.ifCond .eq 37) 3 = true ∧ dq 263 137 (.iload 4) 2 = true ∧ dq 263 139 (.bipush 20) 2 = true ∧ dq 263 141 (.iushr) 1 = true ∧ dq 263 142 (.bipush 12) 2 = true := by decide +kernel
theorem dX12_drawn_114 : decode (mB 263) 114 = .ok (.iload 4, 2) := dqo gX12_drawn_114.1
theorem dX12_drawn_116 : decode (mB 263) 116 = .ok (.bipush 12, 2) := dqo gX12_drawn_114.2.1
theorem dX12_drawn_118 : decode (mB 263) 118 = .ok (.iushr, 1) := dqo gX12_drawn_114.2.2.1
theorem dX12_drawn_119 : decode (mB 263) 119 = .ok (.aload_n 0, 1) := dqo gX12_drawn_114.2.2.2.1
theorem dX12_drawn_120 : decode (mB 263) 120 = .ok (.getfield 115, 3) := dqo gX12_drawn_114.2.2.2.2.1
theorem dX12_drawn_123 : decode (mB 263) 123 = .ok (.irem, 1) := dqo gX12_drawn_114.2.2.2.2.2.1
theorem dX12_drawn_124 : decode (mB 263) 124 = .ok (.istore 10, 2) := dqo gX12_drawn_114.2.2.2.2.2.2.1
theorem dX12_drawn_126 : decode (mB 263) 126 = .ok (.aload_n 0, 1) := dqo gX12_drawn_114.2.2.2.2.2.2.2.1
theorem dX12_drawn_127 : decode (mB 263) 127 = .ok (.iload 9, 2) := dqo gX12_drawn_114.2.2.2.2.2.2.2.2.1
theorem dX12_drawn_129 : decode (mB 263) 129 = .ok (.iload 10, 2) := dqo gX12_drawn_114.2.2.2.2.2.2.2.2.2.1
theorem dX12_drawn_131 : decode (mB 263) 131 = .ok (.invokevirtual 251, 3) := dqo gX12_drawn_114.2.2.2.2.2.2.2.2.2.2.1
theorem dX12_drawn_134 : decode (mB 263) 134 = .ok (.ifCond .eq 37, 3) := dqo gX12_drawn_114.2.2.2.2.2.2.2.2.2.2.2.1
theorem dX12_drawn_137 : decode (mB 263) 137 = .ok (.iload 4, 2) := dqo gX12_drawn_114.2.2.2.2.2.2.2.2.2.2.2.2.1
theorem dX12_drawn_139 : decode (mB 263) 139 = .ok (.bipush 20, 2) := dqo gX12_drawn_114.2.2.2.2.2.2.2.2.2.2.2.2.2.1
theorem dX12_drawn_141 : decode (mB 263) 141 = .ok (.iushr, 1) := dqo gX12_drawn_114.2.2.2.2.2.2.2.2.2.2.2.2.2.2.1
theorem dX12_drawn_142 : decode (mB 263) 142 = .ok (.bipush 12, 2) := dqo gX12_drawn_114.2.2.2.2.2.2.2.2.2.2.2.2.2.2.2
theorem gX12_drawn_144 : dq 263 144 (.irem) 1 = true ∧ dq 263 145 (.aload_n 0) 1 = true ∧ dq 263 146 (.iload 9) 2 = true ∧ dq 263 148 (.iload 10) 2 = true ∧ dq 263 150 (.invokevirtual 260) 3 = true ∧ dq 263 153 (.if_icmp .lt 6) 3 = true ∧ dq 263 156 (.goto 15) 3 = true ∧ dq 263 159 (.aload_n 0) 1 = true ∧ dq 263 160 (.getfield 74) 3 = true ∧ dq 263 163 (.iload 9) 2 = true ∧ dq 263 165 (.iload 10) 2 = true ∧ dq 263 167 (.iastore) 1 = true ∧ dq 263 168 (.iinc 6 1) 3 = true ∧ dq 263 171 (.iinc 8 1) 3 = true ∧ dq 263 174 (.goto (-93)) 3 = true ∧ dq 263 177 (.iload 4) 2 = true := by decide +kernel
theorem dX12_drawn_144 : decode (mB 263) 144 = .ok (.irem, 1) := dqo gX12_drawn_144.1
theorem dX12_drawn_145 : decode (mB 263) 145 = .ok (.aload_n 0, 1) := dqo gX12_drawn_144.2.1
theorem dX12_drawn_146 : decode (mB 263) 146 = .ok (.iload 9, 2) := dqo gX12_drawn_144.2.2.1
theorem dX12_drawn_148 : decode (mB 263) 148 = .ok (.iload 10, 2) := dqo gX12_drawn_144.2.2.2.1
theorem dX12_drawn_150 : decode (mB 263) 150 = .ok (.invokevirtual 260, 3) := dqo gX12_drawn_144.2.2.2.2.1
theorem dX12_drawn_153 : decode (mB 263) 153 = .ok (.if_icmp .lt 6, 3) := dqo gX12_drawn_144.2.2.2.2.2.1
theorem dX12_drawn_156 : decode (mB 263) 156 = .ok (.goto 15, 3) := dqo gX12_drawn_144.2.2.2.2.2.2.1
theorem dX12_drawn_159 : decode (mB 263) 159 = .ok (.aload_n 0, 1) := dqo gX12_drawn_144.2.2.2.2.2.2.2.1
theorem dX12_drawn_160 : decode (mB 263) 160 = .ok (.getfield 74, 3) := dqo gX12_drawn_144.2.2.2.2.2.2.2.2.1
theorem dX12_drawn_163 : decode (mB 263) 163 = .ok (.iload 9, 2) := dqo gX12_drawn_144.2.2.2.2.2.2.2.2.2.1
theorem dX12_drawn_165 : decode (mB 263) 165 = .ok (.iload 10, 2) := dqo gX12_drawn_144.2.2.2.2.2.2.2.2.2.2.1
theorem dX12_drawn_167 : decode (mB 263) 167 = .ok (.iastore, 1) := dqo gX12_drawn_144.2.2.2.2.2.2.2.2.2.2.2.1
theorem dX12_drawn_168 : decode (mB 263) 168 = .ok (.iinc 6 1, 3) := dqo gX12_drawn_144.2.2.2.2.2.2.2.2.2.2.2.2.1
theorem dX12_drawn_171 : decode (mB 263) 171 = .ok (.iinc 8 1, 3) := dqo gX12_drawn_144.2.2.2.2.2.2.2.2.2.2.2.2.2.1
theorem dX12_drawn_174 : decode (mB 263) 174 = .ok (.goto (-93), 3) := dqo gX12_drawn_144.2.2.2.2.2.2.2.2.2.2.2.2.2.2.1
theorem dX12_drawn_177 : decode (mB 263) 177 = .ok (.iload 4, 2) := dqo gX12_drawn_144.2.2.2.2.2.2.2.2.2.2.2.2.2.2.2
theorem gX12_drawn_179 : dq 263 179 (.ldc_w 352) 3 = true ∧ dq 263 182 (.imul) 1 = true ∧ dq 263 183 (.sipush 12345) 3 = true ∧ dq 263 186 (.iadd) 1 = true ∧ dq 263 187 (.istore 4) 2 = true ∧ dq 263 189 (.iload_n 3) 1 = true ∧ dq 263 190 (.ifCond .lt 36) 3 = true ∧ dq 263 193 (.aload_n 0) 1 = true ∧ dq 263 194 (.invokevirtual 292) 3 = true ∧ dq 263 197 (.ifCond .le 29) 3 = true ∧ dq 263 200 (.aload_n 0) 1 = true ∧ dq 263 201 (.getfield 74) 3 = true ∧ dq 263 204 (.aload_n 0) 1 = true ∧ dq 263 205 (.iload 4) 2 = true ∧ dq 263 207 (.bipush 8) 2 = true ∧ dq 263 209 (.iushr) 1 = true := by decide +kernel
theorem dX12_drawn_179 : decode (mB 263) 179 = .ok (.ldc_w 352, 3) := dqo gX12_drawn_179.1
theorem dX12_drawn_182 : decode (mB 263) 182 = .ok (.imul, 1) := dqo gX12_drawn_179.2.1
theorem dX12_drawn_183 : decode (mB 263) 183 = .ok (.sipush 12345, 3) := dqo gX12_drawn_179.2.2.1
theorem dX12_drawn_186 : decode (mB 263) 186 = .ok (.iadd, 1) := dqo gX12_drawn_179.2.2.2.1
theorem dX12_drawn_187 : decode (mB 263) 187 = .ok (.istore 4, 2) := dqo gX12_drawn_179.2.2.2.2.1
theorem dX12_drawn_189 : decode (mB 263) 189 = .ok (.iload_n 3, 1) := dqo gX12_drawn_179.2.2.2.2.2.1
theorem dX12_drawn_190 : decode (mB 263) 190 = .ok (.ifCond .lt 36, 3) := dqo gX12_drawn_179.2.2.2.2.2.2.1
theorem dX12_drawn_193 : decode (mB 263) 193 = .ok (.aload_n 0, 1) := dqo gX12_drawn_179.2.2.2.2.2.2.2.1
theorem dX12_drawn_194 : decode (mB 263) 194 = .ok (.invokevirtual 292, 3) := dqo gX12_drawn_179.2.2.2.2.2.2.2.2.1
theorem dX12_drawn_197 : decode (mB 263) 197 = .ok (.ifCond .le 29, 3) := dqo gX12_drawn_179.2.2.2.2.2.2.2.2.2.1
theorem dX12_drawn_200 : decode (mB 263) 200 = .ok (.aload_n 0, 1) := dqo gX12_drawn_179.2.2.2.2.2.2.2.2.2.2.1
theorem dX12_drawn_201 : decode (mB 263) 201 = .ok (.getfield 74, 3) := dqo gX12_drawn_179.2.2.2.2.2.2.2.2.2.2.2.1
theorem dX12_drawn_204 : decode (mB 263) 204 = .ok (.aload_n 0, 1) := dqo gX12_drawn_179.2.2.2.2.2.2.2.2.2.2.2.2.1
theorem dX12_drawn_205 : decode (mB 263) 205 = .ok (.iload 4, 2) := dqo gX12_drawn_179.2.2.2.2.2.2.2.2.2.2.2.2.2.1
theorem dX12_drawn_207 : decode (mB 263) 207 = .ok (.bipush 8, 2) := dqo gX12_drawn_179.2.2.2.2.2.2.2.2.2.2.2.2.2.2.1
theorem dX12_drawn_209 : decode (mB 263) 209 = .ok (.iushr, 1) := dqo gX12_drawn_179.2.2.2.2.2.2.2.2.2.2.2.2.2.2.2
theorem gX12_drawn_210 : dq 263 210 (.aload_n 0) 1 = true ∧ dq 263 211 (.invokevirtual 292) 3 = true ∧ dq 263 214 (.irem) 1 = true ∧ dq 263 215 (.invokevirtual 353) 3 = true ∧ dq 263 218 (.iaload) 1 = true ∧ dq 263 219 (.iload_n 3) 1 = true ∧ dq 263 220 (.if_icmp .ne 6) 3 = true ∧ dq 263 223 (.iinc 5 1) 3 = true ∧ dq 263 226 (.iinc 7 1) 3 = true ∧ dq 263 229 (.goto (-171)) 3 = true ∧ dq 263 232 (.iload_n 3) 1 = true ∧ dq 263 233 (.ifCond .ge 8) 3 = true ∧ dq 263 236 (.iload 6) 2 = true ∧ dq 263 238 (.goto 5) 3 = true ∧ dq 263 241 (.iload 5) 2 = true ∧ dq 263 243 (.ireturn) 1 = true := by decide +kernel
theorem dX12_drawn_210 : decode (mB 263) 210 = .ok (.aload_n 0, 1) := dqo gX12_drawn_210.1
theorem dX12_drawn_211 : decode (mB 263) 211 = .ok (.invokevirtual 292, 3) := dqo gX12_drawn_210.2.1
theorem dX12_drawn_214 : decode (mB 263) 214 = .ok (.irem, 1) := dqo gX12_drawn_210.2.2.1
theorem dX12_drawn_215 : decode (mB 263) 215 = .ok (.invokevirtual 353, 3) := dqo gX12_drawn_210.2.2.2.1
theorem dX12_drawn_218 : decode (mB 263) 218 = .ok (.iaload, 1) := dqo gX12_drawn_210.2.2.2.2.1
theorem dX12_drawn_219 : decode (mB 263) 219 = .ok (.iload_n 3, 1) := dqo gX12_drawn_210.2.2.2.2.2.1
theorem dX12_drawn_220 : decode (mB 263) 220 = .ok (.if_icmp .ne 6, 3) := dqo gX12_drawn_210.2.2.2.2.2.2.1
theorem dX12_drawn_223 : decode (mB 263) 223 = .ok (.iinc 5 1, 3) := dqo gX12_drawn_210.2.2.2.2.2.2.2.1
theorem dX12_drawn_226 : decode (mB 263) 226 = .ok (.iinc 7 1, 3) := dqo gX12_drawn_210.2.2.2.2.2.2.2.2.1
theorem dX12_drawn_229 : decode (mB 263) 229 = .ok (.goto (-171), 3) := dqo gX12_drawn_210.2.2.2.2.2.2.2.2.2.1
theorem dX12_drawn_232 : decode (mB 263) 232 = .ok (.iload_n 3, 1) := dqo gX12_drawn_210.2.2.2.2.2.2.2.2.2.2.1
theorem dX12_drawn_233 : decode (mB 263) 233 = .ok (.ifCond .ge 8, 3) := dqo gX12_drawn_210.2.2.2.2.2.2.2.2.2.2.2.1
theorem dX12_drawn_236 : decode (mB 263) 236 = .ok (.iload 6, 2) := dqo gX12_drawn_210.2.2.2.2.2.2.2.2.2.2.2.2.1
theorem dX12_drawn_238 : decode (mB 263) 238 = .ok (.goto 5, 3) := dqo gX12_drawn_210.2.2.2.2.2.2.2.2.2.2.2.2.2.1
theorem dX12_drawn_241 : decode (mB 263) 241 = .ok (.iload 5, 2) := dqo gX12_drawn_210.2.2.2.2.2.2.2.2.2.2.2.2.2.2.1
theorem dX12_drawn_243 : decode (mB 263) 243 = .ok (.ireturn, 1) := dqo gX12_drawn_210.2.2.2.2.2.2.2.2.2.2.2.2.2.2.2
theorem gX12_slip_0 : dq 264 0 (.aload_n 0) 1 = true ∧ dq 264 1 (.iload_n 1) 1 = true ∧ dq 264 2 (.invokevirtual 257) 3 = true ∧ dq 264 5 (.ifCond .eq 12) 3 = true ∧ dq 264 8 (.iload_n 2) 1 = true ∧ dq 264 9 (.iconst 0) 1 = true ∧ dq 264 10 (.iconst 1) 1 = true ∧ dq 264 11 (.invokestatic 118) 3 = true ∧ dq 264 14 (.ifCond .ne 5) 3 = true ∧ dq 264 17 (.iconst (-1)) 1 = true ∧ dq 264 18 (.ireturn) 1 = true ∧ dq 264 19 (.aload_n 0) 1 = true ∧ dq 264 20 (.invokevirtual 168) 3 = true ∧ dq 264 23 (.aload_n 0) 1 = true ∧ dq 264 24 (.iload_n 1) 1 = true ∧ dq 264 25 (.bipush 8) 2 = true := by decide +kernel
theorem dX12_slip_0 : decode (mB 264) 0 = .ok (.aload_n 0, 1) := dqo gX12_slip_0.1
theorem dX12_slip_1 : decode (mB 264) 1 = .ok (.iload_n 1, 1) := dqo gX12_slip_0.2.1
theorem dX12_slip_2 : decode (mB 264) 2 = .ok (.invokevirtual 257, 3) := dqo gX12_slip_0.2.2.1
theorem dX12_slip_5 : decode (mB 264) 5 = .ok (.ifCond .eq 12, 3) := dqo gX12_slip_0.2.2.2.1
theorem dX12_slip_8 : decode (mB 264) 8 = .ok (.iload_n 2, 1) := dqo gX12_slip_0.2.2.2.2.1
theorem dX12_slip_9 : decode (mB 264) 9 = .ok (.iconst 0, 1) := dqo gX12_slip_0.2.2.2.2.2.1
theorem dX12_slip_10 : decode (mB 264) 10 = .ok (.iconst 1, 1) := dqo gX12_slip_0.2.2.2.2.2.2.1
theorem dX12_slip_11 : decode (mB 264) 11 = .ok (.invokestatic 118, 3) := dqo gX12_slip_0.2.2.2.2.2.2.2.1
theorem dX12_slip_14 : decode (mB 264) 14 = .ok (.ifCond .ne 5, 3) := dqo gX12_slip_0.2.2.2.2.2.2.2.2.1
theorem dX12_slip_17 : decode (mB 264) 17 = .ok (.iconst (-1), 1) := dqo gX12_slip_0.2.2.2.2.2.2.2.2.2.1
theorem dX12_slip_18 : decode (mB 264) 18 = .ok (.ireturn, 1) := dqo gX12_slip_0.2.2.2.2.2.2.2.2.2.2.1
theorem dX12_slip_19 : decode (mB 264) 19 = .ok (.aload_n 0, 1) := dqo gX12_slip_0.2.2.2.2.2.2.2.2.2.2.2.1
theorem dX12_slip_20 : decode (mB 264) 20 = .ok (.invokevirtual 168, 3) := dqo gX12_slip_0.2.2.2.2.2.2.2.2.2.2.2.2.1
theorem dX12_slip_23 : decode (mB 264) 23 = .ok (.aload_n 0, 1) := dqo gX12_slip_0.2.2.2.2.2.2.2.2.2.2.2.2.2.1
theorem dX12_slip_24 : decode (mB 264) 24 = .ok (.iload_n 1, 1) := dqo gX12_slip_0.2.2.2.2.2.2.2.2.2.2.2.2.2.2.1
theorem dX12_slip_25 : decode (mB 264) 25 = .ok (.bipush 8, 2) := dqo gX12_slip_0.2.2.2.2.2.2.2.2.2.2.2.2.2.2.2
theorem gX12_slip_27 : dq 264 27 (.idiv) 1 = true ∧ dq 264 28 (.iload_n 1) 1 = true ∧ dq 264 29 (.bipush 8) 2 = true ∧ dq 264 31 (.irem) 1 = true ∧ dq 264 32 (.invokevirtual 251) 3 = true ∧ dq 264 35 (.ifCond .ne 6) 3 = true ∧ dq 264 38 (.bipush (-5)) 2 = true ∧ dq 264 40 (.ireturn) 1 = true ∧ dq 264 41 (.iload_n 2) 1 = true ∧ dq 264 42 (.iconst 1) 1 = true ∧ dq 264 43 (.if_icmp .ne 16) 3 = true ∧ dq 264 46 (.aload_n 0) 1 = true ∧ dq 264 47 (.getfield 24) 3 = true ∧ dq 264 50 (.iload_n 1) 1 = true ∧ dq 264 51 (.bipush 8) 2 = true ∧ dq 264 53 (.idiv) 1 = true := by decide +kernel
theorem dX12_slip_27 : decode (mB 264) 27 = .ok (.idiv, 1) := dqo gX12_slip_27.1
theorem dX12_slip_28 : decode (mB 264) 28 = .ok (.iload_n 1, 1) := dqo gX12_slip_27.2.1
theorem dX12_slip_29 : decode (mB 264) 29 = .ok (.bipush 8, 2) := dqo gX12_slip_27.2.2.1
theorem dX12_slip_31 : decode (mB 264) 31 = .ok (.irem, 1) := dqo gX12_slip_27.2.2.2.1
theorem dX12_slip_32 : decode (mB 264) 32 = .ok (.invokevirtual 251, 3) := dqo gX12_slip_27.2.2.2.2.1
theorem dX12_slip_35 : decode (mB 264) 35 = .ok (.ifCond .ne 6, 3) := dqo gX12_slip_27.2.2.2.2.2.1
theorem dX12_slip_38 : decode (mB 264) 38 = .ok (.bipush (-5), 2) := dqo gX12_slip_27.2.2.2.2.2.2.1
theorem dX12_slip_40 : decode (mB 264) 40 = .ok (.ireturn, 1) := dqo gX12_slip_27.2.2.2.2.2.2.2.1
theorem dX12_slip_41 : decode (mB 264) 41 = .ok (.iload_n 2, 1) := dqo gX12_slip_27.2.2.2.2.2.2.2.2.1
theorem dX12_slip_42 : decode (mB 264) 42 = .ok (.iconst 1, 1) := dqo gX12_slip_27.2.2.2.2.2.2.2.2.2.1
theorem dX12_slip_43 : decode (mB 264) 43 = .ok (.if_icmp .ne 16, 3) := dqo gX12_slip_27.2.2.2.2.2.2.2.2.2.2.1
theorem dX12_slip_46 : decode (mB 264) 46 = .ok (.aload_n 0, 1) := dqo gX12_slip_27.2.2.2.2.2.2.2.2.2.2.2.1
theorem dX12_slip_47 : decode (mB 264) 47 = .ok (.getfield 24, 3) := dqo gX12_slip_27.2.2.2.2.2.2.2.2.2.2.2.2.1
theorem dX12_slip_50 : decode (mB 264) 50 = .ok (.iload_n 1, 1) := dqo gX12_slip_27.2.2.2.2.2.2.2.2.2.2.2.2.2.1
theorem dX12_slip_51 : decode (mB 264) 51 = .ok (.bipush 8, 2) := dqo gX12_slip_27.2.2.2.2.2.2.2.2.2.2.2.2.2.2.1
theorem dX12_slip_53 : decode (mB 264) 53 = .ok (.idiv, 1) := dqo gX12_slip_27.2.2.2.2.2.2.2.2.2.2.2.2.2.2.2
theorem gX12_slip_54 : dq 264 54 (.iload_n 1) 1 = true ∧ dq 264 55 (.bipush 8) 2 = true ∧ dq 264 57 (.irem) 1 = true ∧ dq 264 58 (.iastore) 1 = true ∧ dq 264 59 (.aload_n 0) 1 = true ∧ dq 264 60 (.getfield 80) 3 = true ∧ dq 264 63 (.iconst 0) 1 = true ∧ dq 264 64 (.dup2) 1 = true ∧ dq 264 65 (.iaload) 1 = true ∧ dq 264 66 (.iconst 1) 1 = true ∧ dq 264 67 (.iadd) 1 = true ∧ dq 264 68 (.iastore) 1 = true ∧ dq 264 69 (.aload_n 0) 1 = true ∧ dq 264 70 (.getfield 80) 3 = true ∧ dq 264 73 (.iconst 1) 1 = true ∧ dq 264 74 (.dup2) 1 = true := by decide +kernel
theorem dX12_slip_54 : decode (mB 264) 54 = .ok (.iload_n 1, 1) := dqo gX12_slip_54.1
theorem dX12_slip_55 : decode (mB 264) 55 = .ok (.bipush 8, 2) := dqo gX12_slip_54.2.1
theorem dX12_slip_57 : decode (mB 264) 57 = .ok (.irem, 1) := dqo gX12_slip_54.2.2.1
theorem dX12_slip_58 : decode (mB 264) 58 = .ok (.iastore, 1) := dqo gX12_slip_54.2.2.2.1
theorem dX12_slip_59 : decode (mB 264) 59 = .ok (.aload_n 0, 1) := dqo gX12_slip_54.2.2.2.2.1
theorem dX12_slip_60 : decode (mB 264) 60 = .ok (.getfield 80, 3) := dqo gX12_slip_54.2.2.2.2.2.1
theorem dX12_slip_63 : decode (mB 264) 63 = .ok (.iconst 0, 1) := dqo gX12_slip_54.2.2.2.2.2.2.1
theorem dX12_slip_64 : decode (mB 264) 64 = .ok (.dup2, 1) := dqo gX12_slip_54.2.2.2.2.2.2.2.1
theorem dX12_slip_65 : decode (mB 264) 65 = .ok (.iaload, 1) := dqo gX12_slip_54.2.2.2.2.2.2.2.2.1
theorem dX12_slip_66 : decode (mB 264) 66 = .ok (.iconst 1, 1) := dqo gX12_slip_54.2.2.2.2.2.2.2.2.2.1
theorem dX12_slip_67 : decode (mB 264) 67 = .ok (.iadd, 1) := dqo gX12_slip_54.2.2.2.2.2.2.2.2.2.2.1
theorem dX12_slip_68 : decode (mB 264) 68 = .ok (.iastore, 1) := dqo gX12_slip_54.2.2.2.2.2.2.2.2.2.2.2.1
theorem dX12_slip_69 : decode (mB 264) 69 = .ok (.aload_n 0, 1) := dqo gX12_slip_54.2.2.2.2.2.2.2.2.2.2.2.2.1
theorem dX12_slip_70 : decode (mB 264) 70 = .ok (.getfield 80, 3) := dqo gX12_slip_54.2.2.2.2.2.2.2.2.2.2.2.2.2.1
theorem dX12_slip_73 : decode (mB 264) 73 = .ok (.iconst 1, 1) := dqo gX12_slip_54.2.2.2.2.2.2.2.2.2.2.2.2.2.2.1
theorem dX12_slip_74 : decode (mB 264) 74 = .ok (.dup2, 1) := dqo gX12_slip_54.2.2.2.2.2.2.2.2.2.2.2.2.2.2.2
theorem gX12_slip_75 : dq 264 75 (.iaload) 1 = true ∧ dq 264 76 (.iload_n 2) 1 = true ∧ dq 264 77 (.iadd) 1 = true ∧ dq 264 78 (.iastore) 1 = true ∧ dq 264 79 (.aload_n 0) 1 = true ∧ dq 264 80 (.getfield 24) 3 = true ∧ dq 264 83 (.iload_n 1) 1 = true ∧ dq 264 84 (.bipush 8) 2 = true ∧ dq 264 86 (.idiv) 1 = true ∧ dq 264 87 (.iaload) 1 = true ∧ dq 264 88 (.ireturn) 1 = true := by decide +kernel
theorem dX12_slip_75 : decode (mB 264) 75 = .ok (.iaload, 1) := dqo gX12_slip_75.1
theorem dX12_slip_76 : decode (mB 264) 76 = .ok (.iload_n 2, 1) := dqo gX12_slip_75.2.1
theorem dX12_slip_77 : decode (mB 264) 77 = .ok (.iadd, 1) := dqo gX12_slip_75.2.2.1
theorem dX12_slip_78 : decode (mB 264) 78 = .ok (.iastore, 1) := dqo gX12_slip_75.2.2.2.1
theorem dX12_slip_79 : decode (mB 264) 79 = .ok (.aload_n 0, 1) := dqo gX12_slip_75.2.2.2.2.1
theorem dX12_slip_80 : decode (mB 264) 80 = .ok (.getfield 24, 3) := dqo gX12_slip_75.2.2.2.2.2.1
theorem dX12_slip_83 : decode (mB 264) 83 = .ok (.iload_n 1, 1) := dqo gX12_slip_75.2.2.2.2.2.2.1
theorem dX12_slip_84 : decode (mB 264) 84 = .ok (.bipush 8, 2) := dqo gX12_slip_75.2.2.2.2.2.2.2.1
theorem dX12_slip_86 : decode (mB 264) 86 = .ok (.idiv, 1) := dqo gX12_slip_75.2.2.2.2.2.2.2.2.1
theorem dX12_slip_87 : decode (mB 264) 87 = .ok (.iaload, 1) := dqo gX12_slip_75.2.2.2.2.2.2.2.2.2.1
theorem dX12_slip_88 : decode (mB 264) 88 = .ok (.ireturn, 1) := dqo gX12_slip_75.2.2.2.2.2.2.2.2.2.2
theorem gX12_fold_0 : dq 265 0 (.aload_n 0) 1 = true ∧ dq 265 1 (.iload_n 1) 1 = true ∧ dq 265 2 (.invokevirtual 156) 3 = true ∧ dq 265 5 (.ifCond .ne 5) 3 = true ∧ dq 265 8 (.iconst (-1)) 1 = true ∧ dq 265 9 (.ireturn) 1 = true ∧ dq 265 10 (.aload_n 0) 1 = true ∧ dq 265 11 (.getfield 30) 3 = true ∧ dq 265 14 (.iload_n 1) 1 = true ∧ dq 265 15 (.iaload) 1 = true ∧ dq 265 16 (.iconst 4) 1 = true ∧ dq 265 17 (.if_icmp .ne 6) 3 = true ∧ dq 265 20 (.bipush (-5)) 2 = true ∧ dq 265 22 (.ireturn) 1 = true ∧ dq 265 23 (.aload_n 0) 1 = true ∧ dq 265 24 (.getfield 30) 3 = true := by decide +kernel
theorem dX12_fold_0 : decode (mB 265) 0 = .ok (.aload_n 0, 1) := dqo gX12_fold_0.1
theorem dX12_fold_1 : decode (mB 265) 1 = .ok (.iload_n 1, 1) := dqo gX12_fold_0.2.1
theorem dX12_fold_2 : decode (mB 265) 2 = .ok (.invokevirtual 156, 3) := dqo gX12_fold_0.2.2.1
theorem dX12_fold_5 : decode (mB 265) 5 = .ok (.ifCond .ne 5, 3) := dqo gX12_fold_0.2.2.2.1
theorem dX12_fold_8 : decode (mB 265) 8 = .ok (.iconst (-1), 1) := dqo gX12_fold_0.2.2.2.2.1
theorem dX12_fold_9 : decode (mB 265) 9 = .ok (.ireturn, 1) := dqo gX12_fold_0.2.2.2.2.2.1
theorem dX12_fold_10 : decode (mB 265) 10 = .ok (.aload_n 0, 1) := dqo gX12_fold_0.2.2.2.2.2.2.1
theorem dX12_fold_11 : decode (mB 265) 11 = .ok (.getfield 30, 3) := dqo gX12_fold_0.2.2.2.2.2.2.2.1
theorem dX12_fold_14 : decode (mB 265) 14 = .ok (.iload_n 1, 1) := dqo gX12_fold_0.2.2.2.2.2.2.2.2.1
theorem dX12_fold_15 : decode (mB 265) 15 = .ok (.iaload, 1) := dqo gX12_fold_0.2.2.2.2.2.2.2.2.2.1
theorem dX12_fold_16 : decode (mB 265) 16 = .ok (.iconst 4, 1) := dqo gX12_fold_0.2.2.2.2.2.2.2.2.2.2.1
theorem dX12_fold_17 : decode (mB 265) 17 = .ok (.if_icmp .ne 6, 3) := dqo gX12_fold_0.2.2.2.2.2.2.2.2.2.2.2.1
theorem dX12_fold_20 : decode (mB 265) 20 = .ok (.bipush (-5), 2) := dqo gX12_fold_0.2.2.2.2.2.2.2.2.2.2.2.2.1
theorem dX12_fold_22 : decode (mB 265) 22 = .ok (.ireturn, 1) := dqo gX12_fold_0.2.2.2.2.2.2.2.2.2.2.2.2.2.1
theorem dX12_fold_23 : decode (mB 265) 23 = .ok (.aload_n 0, 1) := dqo gX12_fold_0.2.2.2.2.2.2.2.2.2.2.2.2.2.2.1
theorem dX12_fold_24 : decode (mB 265) 24 = .ok (.getfield 30, 3) := dqo gX12_fold_0.2.2.2.2.2.2.2.2.2.2.2.2.2.2.2
theorem gX12_fold_27 : dq 265 27 (.iload_n 1) 1 = true ∧ dq 265 28 (.dup2) 1 = true ∧ dq 265 29 (.iaload) 1 = true ∧ dq 265 30 (.iconst 1) 1 = true ∧ dq 265 31 (.iadd) 1 = true ∧ dq 265 32 (.iastore) 1 = true ∧ dq 265 33 (.aload_n 0) 1 = true ∧ dq 265 34 (.getfield 80) 3 = true ∧ dq 265 37 (.iconst 2) 1 = true ∧ dq 265 38 (.dup2) 1 = true ∧ dq 265 39 (.iaload) 1 = true ∧ dq 265 40 (.iconst 1) 1 = true ∧ dq 265 41 (.iadd) 1 = true ∧ dq 265 42 (.iastore) 1 = true ∧ dq 265 43 (.aload_n 0) 1 = true ∧ dq 265 44 (.getfield 30) 3 = true := by decide +kernel
theorem dX12_fold_27 : decode (mB 265) 27 = .ok (.iload_n 1, 1) := dqo gX12_fold_27.1
theorem dX12_fold_28 : decode (mB 265) 28 = .ok (.dup2, 1) := dqo gX12_fold_27.2.1
theorem dX12_fold_29 : decode (mB 265) 29 = .ok (.iaload, 1) := dqo gX12_fold_27.2.2.1
theorem dX12_fold_30 : decode (mB 265) 30 = .ok (.iconst 1, 1) := dqo gX12_fold_27.2.2.2.1
theorem dX12_fold_31 : decode (mB 265) 31 = .ok (.iadd, 1) := dqo gX12_fold_27.2.2.2.2.1
theorem dX12_fold_32 : decode (mB 265) 32 = .ok (.iastore, 1) := dqo gX12_fold_27.2.2.2.2.2.1
theorem dX12_fold_33 : decode (mB 265) 33 = .ok (.aload_n 0, 1) := dqo gX12_fold_27.2.2.2.2.2.2.1
theorem dX12_fold_34 : decode (mB 265) 34 = .ok (.getfield 80, 3) := dqo gX12_fold_27.2.2.2.2.2.2.2.1
theorem dX12_fold_37 : decode (mB 265) 37 = .ok (.iconst 2, 1) := dqo gX12_fold_27.2.2.2.2.2.2.2.2.1
theorem dX12_fold_38 : decode (mB 265) 38 = .ok (.dup2, 1) := dqo gX12_fold_27.2.2.2.2.2.2.2.2.2.1
theorem dX12_fold_39 : decode (mB 265) 39 = .ok (.iaload, 1) := dqo gX12_fold_27.2.2.2.2.2.2.2.2.2.2.1
theorem dX12_fold_40 : decode (mB 265) 40 = .ok (.iconst 1, 1) := dqo gX12_fold_27.2.2.2.2.2.2.2.2.2.2.2.1
theorem dX12_fold_41 : decode (mB 265) 41 = .ok (.iadd, 1) := dqo gX12_fold_27.2.2.2.2.2.2.2.2.2.2.2.2.1
theorem dX12_fold_42 : decode (mB 265) 42 = .ok (.iastore, 1) := dqo gX12_fold_27.2.2.2.2.2.2.2.2.2.2.2.2.2.1
theorem dX12_fold_43 : decode (mB 265) 43 = .ok (.aload_n 0, 1) := dqo gX12_fold_27.2.2.2.2.2.2.2.2.2.2.2.2.2.2.1
theorem dX12_fold_44 : decode (mB 265) 44 = .ok (.getfield 30, 3) := dqo gX12_fold_27.2.2.2.2.2.2.2.2.2.2.2.2.2.2.2
theorem gX12_fold_47 : dq 265 47 (.iload_n 1) 1 = true ∧ dq 265 48 (.iaload) 1 = true ∧ dq 265 49 (.ireturn) 1 = true := by decide +kernel
theorem dX12_fold_47 : decode (mB 265) 47 = .ok (.iload_n 1, 1) := dqo gX12_fold_47.1
theorem dX12_fold_48 : decode (mB 265) 48 = .ok (.iaload, 1) := dqo gX12_fold_47.2.1
theorem dX12_fold_49 : decode (mB 265) 49 = .ok (.ireturn, 1) := dqo gX12_fold_47.2.2
theorem gX12_hour_0 : dq 266 0 (.aload_n 0) 1 = true ∧ dq 266 1 (.getfield 33) 3 = true ∧ dq 266 4 (.iconst 0) 1 = true ∧ dq 266 5 (.aload_n 0) 1 = true ∧ dq 266 6 (.getfield 33) 3 = true ∧ dq 266 9 (.iconst 0) 1 = true ∧ dq 266 10 (.iaload) 1 = true ∧ dq 266 11 (.bipush 11) 2 = true ∧ dq 266 13 (.if_icmp .ne 7) 3 = true ∧ dq 266 16 (.iconst 0) 1 = true ∧ dq 266 17 (.goto 11) 3 = true ∧ dq 266 20 (.aload_n 0) 1 = true ∧ dq 266 21 (.getfield 33) 3 = true ∧ dq 266 24 (.iconst 0) 1 = true ∧ dq 266 25 (.iaload) 1 = true ∧ dq 266 26 (.iconst 1) 1 = true := by decide +kernel
theorem dX12_hour_0 : decode (mB 266) 0 = .ok (.aload_n 0, 1) := dqo gX12_hour_0.1
theorem dX12_hour_1 : decode (mB 266) 1 = .ok (.getfield 33, 3) := dqo gX12_hour_0.2.1
theorem dX12_hour_4 : decode (mB 266) 4 = .ok (.iconst 0, 1) := dqo gX12_hour_0.2.2.1
theorem dX12_hour_5 : decode (mB 266) 5 = .ok (.aload_n 0, 1) := dqo gX12_hour_0.2.2.2.1
theorem dX12_hour_6 : decode (mB 266) 6 = .ok (.getfield 33, 3) := dqo gX12_hour_0.2.2.2.2.1
theorem dX12_hour_9 : decode (mB 266) 9 = .ok (.iconst 0, 1) := dqo gX12_hour_0.2.2.2.2.2.1
theorem dX12_hour_10 : decode (mB 266) 10 = .ok (.iaload, 1) := dqo gX12_hour_0.2.2.2.2.2.2.1
theorem dX12_hour_11 : decode (mB 266) 11 = .ok (.bipush 11, 2) := dqo gX12_hour_0.2.2.2.2.2.2.2.1
theorem dX12_hour_13 : decode (mB 266) 13 = .ok (.if_icmp .ne 7, 3) := dqo gX12_hour_0.2.2.2.2.2.2.2.2.1
theorem dX12_hour_16 : decode (mB 266) 16 = .ok (.iconst 0, 1) := dqo gX12_hour_0.2.2.2.2.2.2.2.2.2.1
theorem dX12_hour_17 : decode (mB 266) 17 = .ok (.goto 11, 3) := dqo gX12_hour_0.2.2.2.2.2.2.2.2.2.2.1
theorem dX12_hour_20 : decode (mB 266) 20 = .ok (.aload_n 0, 1) := dqo gX12_hour_0.2.2.2.2.2.2.2.2.2.2.2.1
theorem dX12_hour_21 : decode (mB 266) 21 = .ok (.getfield 33, 3) := dqo gX12_hour_0.2.2.2.2.2.2.2.2.2.2.2.2.1
theorem dX12_hour_24 : decode (mB 266) 24 = .ok (.iconst 0, 1) := dqo gX12_hour_0.2.2.2.2.2.2.2.2.2.2.2.2.2.1
theorem dX12_hour_25 : decode (mB 266) 25 = .ok (.iaload, 1) := dqo gX12_hour_0.2.2.2.2.2.2.2.2.2.2.2.2.2.2.1
theorem dX12_hour_26 : decode (mB 266) 26 = .ok (.iconst 1, 1) := dqo gX12_hour_0.2.2.2.2.2.2.2.2.2.2.2.2.2.2.2
theorem gX12_hour_27 : dq 266 27 (.iadd) 1 = true ∧ dq 266 28 (.iastore) 1 = true ∧ dq 266 29 (.aload_n 0) 1 = true ∧ dq 266 30 (.getfield 80) 3 = true ∧ dq 266 33 (.iconst 3) 1 = true ∧ dq 266 34 (.dup2) 1 = true ∧ dq 266 35 (.iaload) 1 = true ∧ dq 266 36 (.iconst 1) 1 = true ∧ dq 266 37 (.iadd) 1 = true ∧ dq 266 38 (.iastore) 1 = true ∧ dq 266 39 (.aload_n 0) 1 = true ∧ dq 266 40 (.getfield 33) 3 = true ∧ dq 266 43 (.iconst 0) 1 = true ∧ dq 266 44 (.iaload) 1 = true ∧ dq 266 45 (.ireturn) 1 = true := by decide +kernel
theorem dX12_hour_27 : decode (mB 266) 27 = .ok (.iadd, 1) := dqo gX12_hour_27.1
theorem dX12_hour_28 : decode (mB 266) 28 = .ok (.iastore, 1) := dqo gX12_hour_27.2.1
theorem dX12_hour_29 : decode (mB 266) 29 = .ok (.aload_n 0, 1) := dqo gX12_hour_27.2.2.1
theorem dX12_hour_30 : decode (mB 266) 30 = .ok (.getfield 80, 3) := dqo gX12_hour_27.2.2.2.1
theorem dX12_hour_33 : decode (mB 266) 33 = .ok (.iconst 3, 1) := dqo gX12_hour_27.2.2.2.2.1
theorem dX12_hour_34 : decode (mB 266) 34 = .ok (.dup2, 1) := dqo gX12_hour_27.2.2.2.2.2.1
theorem dX12_hour_35 : decode (mB 266) 35 = .ok (.iaload, 1) := dqo gX12_hour_27.2.2.2.2.2.2.1
theorem dX12_hour_36 : decode (mB 266) 36 = .ok (.iconst 1, 1) := dqo gX12_hour_27.2.2.2.2.2.2.2.1
theorem dX12_hour_37 : decode (mB 266) 37 = .ok (.iadd, 1) := dqo gX12_hour_27.2.2.2.2.2.2.2.2.1
theorem dX12_hour_38 : decode (mB 266) 38 = .ok (.iastore, 1) := dqo gX12_hour_27.2.2.2.2.2.2.2.2.2.1
theorem dX12_hour_39 : decode (mB 266) 39 = .ok (.aload_n 0, 1) := dqo gX12_hour_27.2.2.2.2.2.2.2.2.2.2.1
theorem dX12_hour_40 : decode (mB 266) 40 = .ok (.getfield 33, 3) := dqo gX12_hour_27.2.2.2.2.2.2.2.2.2.2.2.1
theorem dX12_hour_43 : decode (mB 266) 43 = .ok (.iconst 0, 1) := dqo gX12_hour_27.2.2.2.2.2.2.2.2.2.2.2.2.1
theorem dX12_hour_44 : decode (mB 266) 44 = .ok (.iaload, 1) := dqo gX12_hour_27.2.2.2.2.2.2.2.2.2.2.2.2.2.1
theorem dX12_hour_45 : decode (mB 266) 45 = .ok (.ireturn, 1) := dqo gX12_hour_27.2.2.2.2.2.2.2.2.2.2.2.2.2.2
theorem gX12_led_0 : dq 267 0 (.iload_n 1) 1 = true ∧ dq 267 1 (.iconst 0) 1 = true ∧ dq 267 2 (.iconst 3) 1 = true ∧ dq 267 3 (.invokestatic 118) 3 = true ∧ dq 267 6 (.ifCond .eq 12) 3 = true ∧ dq 267 9 (.aload_n 0) 1 = true ∧ dq 267 10 (.getfield 80) 3 = true ∧ dq 267 13 (.iload_n 1) 1 = true ∧ dq 267 14 (.iaload) 1 = true ∧ dq 267 15 (.goto 4) 3 = true ∧ dq 267 18 (.iconst (-1)) 1 = true ∧ dq 267 19 (.ireturn) 1 = true := by decide +kernel
theorem dX12_led_0 : decode (mB 267) 0 = .ok (.iload_n 1, 1) := dqo gX12_led_0.1
theorem dX12_led_1 : decode (mB 267) 1 = .ok (.iconst 0, 1) := dqo gX12_led_0.2.1
theorem dX12_led_2 : decode (mB 267) 2 = .ok (.iconst 3, 1) := dqo gX12_led_0.2.2.1
theorem dX12_led_3 : decode (mB 267) 3 = .ok (.invokestatic 118, 3) := dqo gX12_led_0.2.2.2.1
theorem dX12_led_6 : decode (mB 267) 6 = .ok (.ifCond .eq 12, 3) := dqo gX12_led_0.2.2.2.2.1
theorem dX12_led_9 : decode (mB 267) 9 = .ok (.aload_n 0, 1) := dqo gX12_led_0.2.2.2.2.2.1
theorem dX12_led_10 : decode (mB 267) 10 = .ok (.getfield 80, 3) := dqo gX12_led_0.2.2.2.2.2.2.1
theorem dX12_led_13 : decode (mB 267) 13 = .ok (.iload_n 1, 1) := dqo gX12_led_0.2.2.2.2.2.2.2.1
theorem dX12_led_14 : decode (mB 267) 14 = .ok (.iaload, 1) := dqo gX12_led_0.2.2.2.2.2.2.2.2.1
theorem dX12_led_15 : decode (mB 267) 15 = .ok (.goto 4, 3) := dqo gX12_led_0.2.2.2.2.2.2.2.2.2.1
theorem dX12_led_18 : decode (mB 267) 18 = .ok (.iconst (-1), 1) := dqo gX12_led_0.2.2.2.2.2.2.2.2.2.2.1
theorem dX12_led_19 : decode (mB 267) 19 = .ok (.ireturn, 1) := dqo gX12_led_0.2.2.2.2.2.2.2.2.2.2.2
theorem gX12_image_0 : dq 268 0 (.aload_n 0) 1 = true ∧ dq 268 1 (.iconst 1) 1 = true ∧ dq 268 2 (.putfield 356) 3 = true ∧ dq 268 5 (.aload_n 0) 1 = true ∧ dq 268 6 (.aload_n 0) 1 = true ∧ dq 268 7 (.getfield 122) 3 = true ∧ dq 268 10 (.putfield 359) 3 = true ∧ dq 268 13 (.aload_n 0) 1 = true ∧ dq 268 14 (.aload_n 0) 1 = true ∧ dq 268 15 (.getfield 33) 3 = true ∧ dq 268 18 (.iconst 0) 1 = true ∧ dq 268 19 (.iaload) 1 = true ∧ dq 268 20 (.putfield 362) 3 = true ∧ dq 268 23 (.iconst 0) 1 = true ∧ dq 268 24 (.istore_n 1) 1 = true ∧ dq 268 25 (.iload_n 1) 1 = true := by decide +kernel
theorem dX12_image_0 : decode (mB 268) 0 = .ok (.aload_n 0, 1) := dqo gX12_image_0.1
theorem dX12_image_1 : decode (mB 268) 1 = .ok (.iconst 1, 1) := dqo gX12_image_0.2.1
theorem dX12_image_2 : decode (mB 268) 2 = .ok (.putfield 356, 3) := dqo gX12_image_0.2.2.1
theorem dX12_image_5 : decode (mB 268) 5 = .ok (.aload_n 0, 1) := dqo gX12_image_0.2.2.2.1
theorem dX12_image_6 : decode (mB 268) 6 = .ok (.aload_n 0, 1) := dqo gX12_image_0.2.2.2.2.1
theorem dX12_image_7 : decode (mB 268) 7 = .ok (.getfield 122, 3) := dqo gX12_image_0.2.2.2.2.2.1
theorem dX12_image_10 : decode (mB 268) 10 = .ok (.putfield 359, 3) := dqo gX12_image_0.2.2.2.2.2.2.1
theorem dX12_image_13 : decode (mB 268) 13 = .ok (.aload_n 0, 1) := dqo gX12_image_0.2.2.2.2.2.2.2.1
theorem dX12_image_14 : decode (mB 268) 14 = .ok (.aload_n 0, 1) := dqo gX12_image_0.2.2.2.2.2.2.2.2.1
theorem dX12_image_15 : decode (mB 268) 15 = .ok (.getfield 33, 3) := dqo gX12_image_0.2.2.2.2.2.2.2.2.2.1
theorem dX12_image_18 : decode (mB 268) 18 = .ok (.iconst 0, 1) := dqo gX12_image_0.2.2.2.2.2.2.2.2.2.2.1
theorem dX12_image_19 : decode (mB 268) 19 = .ok (.iaload, 1) := dqo gX12_image_0.2.2.2.2.2.2.2.2.2.2.2.1
theorem dX12_image_20 : decode (mB 268) 20 = .ok (.putfield 362, 3) := dqo gX12_image_0.2.2.2.2.2.2.2.2.2.2.2.2.1
theorem dX12_image_23 : decode (mB 268) 23 = .ok (.iconst 0, 1) := dqo gX12_image_0.2.2.2.2.2.2.2.2.2.2.2.2.2.1
theorem dX12_image_24 : decode (mB 268) 24 = .ok (.istore_n 1, 1) := dqo gX12_image_0.2.2.2.2.2.2.2.2.2.2.2.2.2.2.1
theorem dX12_image_25 : decode (mB 268) 25 = .ok (.iload_n 1, 1) := dqo gX12_image_0.2.2.2.2.2.2.2.2.2.2.2.2.2.2.2
theorem gX12_image_26 : dq 268 26 (.aload_n 0) 1 = true ∧ dq 268 27 (.getfield 122) 3 = true ∧ dq 268 30 (.if_icmp .ge 33) 3 = true ∧ dq 268 33 (.aload_n 0) 1 = true ∧ dq 268 34 (.getfield 83) 3 = true ∧ dq 268 37 (.iload_n 1) 1 = true ∧ dq 268 38 (.aload_n 0) 1 = true ∧ dq 268 39 (.getfield 24) 3 = true ∧ dq 268 42 (.iload_n 1) 1 = true ∧ dq 268 43 (.iaload) 1 = true ∧ dq 268 44 (.iastore) 1 = true ∧ dq 268 45 (.aload_n 0) 1 = true ∧ dq 268 46 (.getfield 86) 3 = true ∧ dq 268 49 (.iload_n 1) 1 = true ∧ dq 268 50 (.aload_n 0) 1 = true ∧ dq 268 51 (.getfield 30) 3 = true := by decide +kernel
theorem dX12_image_26 : decode (mB 268) 26 = .ok (.aload_n 0, 1) := dqo gX12_image_26.1
theorem dX12_image_27 : decode (mB 268) 27 = .ok (.getfield 122, 3) := dqo gX12_image_26.2.1
theorem dX12_image_30 : decode (mB 268) 30 = .ok (.if_icmp .ge 33, 3) := dqo gX12_image_26.2.2.1
theorem dX12_image_33 : decode (mB 268) 33 = .ok (.aload_n 0, 1) := dqo gX12_image_26.2.2.2.1
theorem dX12_image_34 : decode (mB 268) 34 = .ok (.getfield 83, 3) := dqo gX12_image_26.2.2.2.2.1
theorem dX12_image_37 : decode (mB 268) 37 = .ok (.iload_n 1, 1) := dqo gX12_image_26.2.2.2.2.2.1
theorem dX12_image_38 : decode (mB 268) 38 = .ok (.aload_n 0, 1) := dqo gX12_image_26.2.2.2.2.2.2.1
theorem dX12_image_39 : decode (mB 268) 39 = .ok (.getfield 24, 3) := dqo gX12_image_26.2.2.2.2.2.2.2.1
theorem dX12_image_42 : decode (mB 268) 42 = .ok (.iload_n 1, 1) := dqo gX12_image_26.2.2.2.2.2.2.2.2.1
theorem dX12_image_43 : decode (mB 268) 43 = .ok (.iaload, 1) := dqo gX12_image_26.2.2.2.2.2.2.2.2.2.1
theorem dX12_image_44 : decode (mB 268) 44 = .ok (.iastore, 1) := dqo gX12_image_26.2.2.2.2.2.2.2.2.2.2.1
theorem dX12_image_45 : decode (mB 268) 45 = .ok (.aload_n 0, 1) := dqo gX12_image_26.2.2.2.2.2.2.2.2.2.2.2.1
theorem dX12_image_46 : decode (mB 268) 46 = .ok (.getfield 86, 3) := dqo gX12_image_26.2.2.2.2.2.2.2.2.2.2.2.2.1
theorem dX12_image_49 : decode (mB 268) 49 = .ok (.iload_n 1, 1) := dqo gX12_image_26.2.2.2.2.2.2.2.2.2.2.2.2.2.1
theorem dX12_image_50 : decode (mB 268) 50 = .ok (.aload_n 0, 1) := dqo gX12_image_26.2.2.2.2.2.2.2.2.2.2.2.2.2.2.1
theorem dX12_image_51 : decode (mB 268) 51 = .ok (.getfield 30, 3) := dqo gX12_image_26.2.2.2.2.2.2.2.2.2.2.2.2.2.2.2
theorem gX12_image_54 : dq 268 54 (.iload_n 1) 1 = true ∧ dq 268 55 (.iaload) 1 = true ∧ dq 268 56 (.iastore) 1 = true ∧ dq 268 57 (.iinc 1 1) 3 = true ∧ dq 268 60 (.goto (-35)) 3 = true ∧ dq 268 63 (.iconst 0) 1 = true ∧ dq 268 64 (.istore_n 1) 1 = true ∧ dq 268 65 (.iload_n 1) 1 = true ∧ dq 268 66 (.iconst 4) 1 = true ∧ dq 268 67 (.if_icmp .ge 21) 3 = true ∧ dq 268 70 (.aload_n 0) 1 = true ∧ dq 268 71 (.getfield 89) 3 = true ∧ dq 268 74 (.iload_n 1) 1 = true ∧ dq 268 75 (.aload_n 0) 1 = true ∧ dq 268 76 (.getfield 80) 3 = true ∧ dq 268 79 (.iload_n 1) 1 = true := by decide +kernel
theorem dX12_image_54 : decode (mB 268) 54 = .ok (.iload_n 1, 1) := dqo gX12_image_54.1
theorem dX12_image_55 : decode (mB 268) 55 = .ok (.iaload, 1) := dqo gX12_image_54.2.1
theorem dX12_image_56 : decode (mB 268) 56 = .ok (.iastore, 1) := dqo gX12_image_54.2.2.1
theorem dX12_image_57 : decode (mB 268) 57 = .ok (.iinc 1 1, 3) := dqo gX12_image_54.2.2.2.1
theorem dX12_image_60 : decode (mB 268) 60 = .ok (.goto (-35), 3) := dqo gX12_image_54.2.2.2.2.1
theorem dX12_image_63 : decode (mB 268) 63 = .ok (.iconst 0, 1) := dqo gX12_image_54.2.2.2.2.2.1
theorem dX12_image_64 : decode (mB 268) 64 = .ok (.istore_n 1, 1) := dqo gX12_image_54.2.2.2.2.2.2.1
theorem dX12_image_65 : decode (mB 268) 65 = .ok (.iload_n 1, 1) := dqo gX12_image_54.2.2.2.2.2.2.2.1
theorem dX12_image_66 : decode (mB 268) 66 = .ok (.iconst 4, 1) := dqo gX12_image_54.2.2.2.2.2.2.2.2.1
theorem dX12_image_67 : decode (mB 268) 67 = .ok (.if_icmp .ge 21, 3) := dqo gX12_image_54.2.2.2.2.2.2.2.2.2.1
theorem dX12_image_70 : decode (mB 268) 70 = .ok (.aload_n 0, 1) := dqo gX12_image_54.2.2.2.2.2.2.2.2.2.2.1
theorem dX12_image_71 : decode (mB 268) 71 = .ok (.getfield 89, 3) := dqo gX12_image_54.2.2.2.2.2.2.2.2.2.2.2.1
theorem dX12_image_74 : decode (mB 268) 74 = .ok (.iload_n 1, 1) := dqo gX12_image_54.2.2.2.2.2.2.2.2.2.2.2.2.1
theorem dX12_image_75 : decode (mB 268) 75 = .ok (.aload_n 0, 1) := dqo gX12_image_54.2.2.2.2.2.2.2.2.2.2.2.2.2.1
theorem dX12_image_76 : decode (mB 268) 76 = .ok (.getfield 80, 3) := dqo gX12_image_54.2.2.2.2.2.2.2.2.2.2.2.2.2.2.1
theorem dX12_image_79 : decode (mB 268) 79 = .ok (.iload_n 1, 1) := dqo gX12_image_54.2.2.2.2.2.2.2.2.2.2.2.2.2.2.2
theorem gX12_image_80 : dq 268 80 (.iaload) 1 = true ∧ dq 268 81 (.iastore) 1 = true ∧ dq 268 82 (.iinc 1 1) 3 = true ∧ dq 268 85 (.goto (-20)) 3 = true ∧ dq 268 88 (.aload_n 0) 1 = true ∧ dq 268 89 (.getfield 80) 3 = true ∧ dq 268 92 (.iconst 0) 1 = true ∧ dq 268 93 (.iaload) 1 = true ∧ dq 268 94 (.ireturn) 1 = true := by decide +kernel
theorem dX12_image_80 : decode (mB 268) 80 = .ok (.iaload, 1) := dqo gX12_image_80.1
theorem dX12_image_81 : decode (mB 268) 81 = .ok (.iastore, 1) := dqo gX12_image_80.2.1
theorem dX12_image_82 : decode (mB 268) 82 = .ok (.iinc 1 1, 3) := dqo gX12_image_80.2.2.1
theorem dX12_image_85 : decode (mB 268) 85 = .ok (.goto (-20), 3) := dqo gX12_image_80.2.2.2.1
theorem dX12_image_88 : decode (mB 268) 88 = .ok (.aload_n 0, 1) := dqo gX12_image_80.2.2.2.2.1
theorem dX12_image_89 : decode (mB 268) 89 = .ok (.getfield 80, 3) := dqo gX12_image_80.2.2.2.2.2.1
theorem dX12_image_92 : decode (mB 268) 92 = .ok (.iconst 0, 1) := dqo gX12_image_80.2.2.2.2.2.2.1
theorem dX12_image_93 : decode (mB 268) 93 = .ok (.iaload, 1) := dqo gX12_image_80.2.2.2.2.2.2.2.1
theorem dX12_image_94 : decode (mB 268) 94 = .ok (.ireturn, 1) := dqo gX12_image_80.2.2.2.2.2.2.2.2
theorem gX12_back_0 : dq 269 0 (.aload_n 0) 1 = true ∧ dq 269 1 (.getfield 356) 3 = true ∧ dq 269 4 (.ifCond .ne 6) 3 = true ∧ dq 269 7 (.bipush (-5)) 2 = true ∧ dq 269 9 (.ireturn) 1 = true ∧ dq 269 10 (.aload_n 0) 1 = true ∧ dq 269 11 (.getfield 33) 3 = true ∧ dq 269 14 (.iconst 0) 1 = true ∧ dq 269 15 (.aload_n 0) 1 = true ∧ dq 269 16 (.getfield 362) 3 = true ∧ dq 269 19 (.iastore) 1 = true ∧ dq 269 20 (.iconst 0) 1 = true ∧ dq 269 21 (.istore_n 1) 1 = true ∧ dq 269 22 (.iload_n 1) 1 = true ∧ dq 269 23 (.aload_n 0) 1 = true ∧ dq 269 24 (.getfield 359) 3 = true := by decide +kernel
theorem dX12_back_0 : decode (mB 269) 0 = .ok (.aload_n 0, 1) := dqo gX12_back_0.1
theorem dX12_back_1 : decode (mB 269) 1 = .ok (.getfield 356, 3) := dqo gX12_back_0.2.1
theorem dX12_back_4 : decode (mB 269) 4 = .ok (.ifCond .ne 6, 3) := dqo gX12_back_0.2.2.1
theorem dX12_back_7 : decode (mB 269) 7 = .ok (.bipush (-5), 2) := dqo gX12_back_0.2.2.2.1
theorem dX12_back_9 : decode (mB 269) 9 = .ok (.ireturn, 1) := dqo gX12_back_0.2.2.2.2.1
theorem dX12_back_10 : decode (mB 269) 10 = .ok (.aload_n 0, 1) := dqo gX12_back_0.2.2.2.2.2.1
theorem dX12_back_11 : decode (mB 269) 11 = .ok (.getfield 33, 3) := dqo gX12_back_0.2.2.2.2.2.2.1
theorem dX12_back_14 : decode (mB 269) 14 = .ok (.iconst 0, 1) := dqo gX12_back_0.2.2.2.2.2.2.2.1
theorem dX12_back_15 : decode (mB 269) 15 = .ok (.aload_n 0, 1) := dqo gX12_back_0.2.2.2.2.2.2.2.2.1
theorem dX12_back_16 : decode (mB 269) 16 = .ok (.getfield 362, 3) := dqo gX12_back_0.2.2.2.2.2.2.2.2.2.1
theorem dX12_back_19 : decode (mB 269) 19 = .ok (.iastore, 1) := dqo gX12_back_0.2.2.2.2.2.2.2.2.2.2.1
theorem dX12_back_20 : decode (mB 269) 20 = .ok (.iconst 0, 1) := dqo gX12_back_0.2.2.2.2.2.2.2.2.2.2.2.1
theorem dX12_back_21 : decode (mB 269) 21 = .ok (.istore_n 1, 1) := dqo gX12_back_0.2.2.2.2.2.2.2.2.2.2.2.2.1
theorem dX12_back_22 : decode (mB 269) 22 = .ok (.iload_n 1, 1) := dqo gX12_back_0.2.2.2.2.2.2.2.2.2.2.2.2.2.1
theorem dX12_back_23 : decode (mB 269) 23 = .ok (.aload_n 0, 1) := dqo gX12_back_0.2.2.2.2.2.2.2.2.2.2.2.2.2.2.1
theorem dX12_back_24 : decode (mB 269) 24 = .ok (.getfield 359, 3) := dqo gX12_back_0.2.2.2.2.2.2.2.2.2.2.2.2.2.2.2
theorem gX12_back_27 : dq 269 27 (.if_icmp .ge 33) 3 = true ∧ dq 269 30 (.aload_n 0) 1 = true ∧ dq 269 31 (.getfield 24) 3 = true ∧ dq 269 34 (.iload_n 1) 1 = true ∧ dq 269 35 (.aload_n 0) 1 = true ∧ dq 269 36 (.getfield 83) 3 = true ∧ dq 269 39 (.iload_n 1) 1 = true ∧ dq 269 40 (.iaload) 1 = true ∧ dq 269 41 (.iastore) 1 = true ∧ dq 269 42 (.aload_n 0) 1 = true ∧ dq 269 43 (.getfield 30) 3 = true ∧ dq 269 46 (.iload_n 1) 1 = true ∧ dq 269 47 (.aload_n 0) 1 = true ∧ dq 269 48 (.getfield 86) 3 = true ∧ dq 269 51 (.iload_n 1) 1 = true ∧ dq 269 52 (.iaload) 1 = true := by decide +kernel
theorem dX12_back_27 : decode (mB 269) 27 = .ok (.if_icmp .ge 33, 3) := dqo gX12_back_27.1
theorem dX12_back_30 : decode (mB 269) 30 = .ok (.aload_n 0, 1) := dqo gX12_back_27.2.1
theorem dX12_back_31 : decode (mB 269) 31 = .ok (.getfield 24, 3) := dqo gX12_back_27.2.2.1
theorem dX12_back_34 : decode (mB 269) 34 = .ok (.iload_n 1, 1) := dqo gX12_back_27.2.2.2.1
theorem dX12_back_35 : decode (mB 269) 35 = .ok (.aload_n 0, 1) := dqo gX12_back_27.2.2.2.2.1
theorem dX12_back_36 : decode (mB 269) 36 = .ok (.getfield 83, 3) := dqo gX12_back_27.2.2.2.2.2.1
theorem dX12_back_39 : decode (mB 269) 39 = .ok (.iload_n 1, 1) := dqo gX12_back_27.2.2.2.2.2.2.1
theorem dX12_back_40 : decode (mB 269) 40 = .ok (.iaload, 1) := dqo gX12_back_27.2.2.2.2.2.2.2.1
theorem dX12_back_41 : decode (mB 269) 41 = .ok (.iastore, 1) := dqo gX12_back_27.2.2.2.2.2.2.2.2.1
theorem dX12_back_42 : decode (mB 269) 42 = .ok (.aload_n 0, 1) := dqo gX12_back_27.2.2.2.2.2.2.2.2.2.1
theorem dX12_back_43 : decode (mB 269) 43 = .ok (.getfield 30, 3) := dqo gX12_back_27.2.2.2.2.2.2.2.2.2.2.1
theorem dX12_back_46 : decode (mB 269) 46 = .ok (.iload_n 1, 1) := dqo gX12_back_27.2.2.2.2.2.2.2.2.2.2.2.1
theorem dX12_back_47 : decode (mB 269) 47 = .ok (.aload_n 0, 1) := dqo gX12_back_27.2.2.2.2.2.2.2.2.2.2.2.2.1
theorem dX12_back_48 : decode (mB 269) 48 = .ok (.getfield 86, 3) := dqo gX12_back_27.2.2.2.2.2.2.2.2.2.2.2.2.2.1
theorem dX12_back_51 : decode (mB 269) 51 = .ok (.iload_n 1, 1) := dqo gX12_back_27.2.2.2.2.2.2.2.2.2.2.2.2.2.2.1
theorem dX12_back_52 : decode (mB 269) 52 = .ok (.iaload, 1) := dqo gX12_back_27.2.2.2.2.2.2.2.2.2.2.2.2.2.2.2
theorem gX12_back_53 : dq 269 53 (.iastore) 1 = true ∧ dq 269 54 (.iinc 1 1) 3 = true ∧ dq 269 57 (.goto (-35)) 3 = true ∧ dq 269 60 (.iconst 0) 1 = true ∧ dq 269 61 (.istore_n 1) 1 = true ∧ dq 269 62 (.iload_n 1) 1 = true ∧ dq 269 63 (.iconst 4) 1 = true ∧ dq 269 64 (.if_icmp .ge 21) 3 = true ∧ dq 269 67 (.aload_n 0) 1 = true ∧ dq 269 68 (.getfield 80) 3 = true ∧ dq 269 71 (.iload_n 1) 1 = true ∧ dq 269 72 (.aload_n 0) 1 = true ∧ dq 269 73 (.getfield 89) 3 = true ∧ dq 269 76 (.iload_n 1) 1 = true ∧ dq 269 77 (.iaload) 1 = true ∧ dq 269 78 (.iastore) 1 = true := by decide +kernel
theorem dX12_back_53 : decode (mB 269) 53 = .ok (.iastore, 1) := dqo gX12_back_53.1
theorem dX12_back_54 : decode (mB 269) 54 = .ok (.iinc 1 1, 3) := dqo gX12_back_53.2.1
theorem dX12_back_57 : decode (mB 269) 57 = .ok (.goto (-35), 3) := dqo gX12_back_53.2.2.1
theorem dX12_back_60 : decode (mB 269) 60 = .ok (.iconst 0, 1) := dqo gX12_back_53.2.2.2.1
theorem dX12_back_61 : decode (mB 269) 61 = .ok (.istore_n 1, 1) := dqo gX12_back_53.2.2.2.2.1
theorem dX12_back_62 : decode (mB 269) 62 = .ok (.iload_n 1, 1) := dqo gX12_back_53.2.2.2.2.2.1
theorem dX12_back_63 : decode (mB 269) 63 = .ok (.iconst 4, 1) := dqo gX12_back_53.2.2.2.2.2.2.1
theorem dX12_back_64 : decode (mB 269) 64 = .ok (.if_icmp .ge 21, 3) := dqo gX12_back_53.2.2.2.2.2.2.2.1
theorem dX12_back_67 : decode (mB 269) 67 = .ok (.aload_n 0, 1) := dqo gX12_back_53.2.2.2.2.2.2.2.2.1
theorem dX12_back_68 : decode (mB 269) 68 = .ok (.getfield 80, 3) := dqo gX12_back_53.2.2.2.2.2.2.2.2.2.1
theorem dX12_back_71 : decode (mB 269) 71 = .ok (.iload_n 1, 1) := dqo gX12_back_53.2.2.2.2.2.2.2.2.2.2.1
theorem dX12_back_72 : decode (mB 269) 72 = .ok (.aload_n 0, 1) := dqo gX12_back_53.2.2.2.2.2.2.2.2.2.2.2.1
theorem dX12_back_73 : decode (mB 269) 73 = .ok (.getfield 89, 3) := dqo gX12_back_53.2.2.2.2.2.2.2.2.2.2.2.2.1
theorem dX12_back_76 : decode (mB 269) 76 = .ok (.iload_n 1, 1) := dqo gX12_back_53.2.2.2.2.2.2.2.2.2.2.2.2.2.1
theorem dX12_back_77 : decode (mB 269) 77 = .ok (.iaload, 1) := dqo gX12_back_53.2.2.2.2.2.2.2.2.2.2.2.2.2.2.1
theorem dX12_back_78 : decode (mB 269) 78 = .ok (.iastore, 1) := dqo gX12_back_53.2.2.2.2.2.2.2.2.2.2.2.2.2.2.2
theorem gX12_back_79 : dq 269 79 (.iinc 1 1) 3 = true ∧ dq 269 82 (.goto (-20)) 3 = true ∧ dq 269 85 (.aload_n 0) 1 = true ∧ dq 269 86 (.getfield 80) 3 = true ∧ dq 269 89 (.iconst 0) 1 = true ∧ dq 269 90 (.iaload) 1 = true ∧ dq 269 91 (.ireturn) 1 = true := by decide +kernel
theorem dX12_back_79 : decode (mB 269) 79 = .ok (.iinc 1 1, 3) := dqo gX12_back_79.1
theorem dX12_back_82 : decode (mB 269) 82 = .ok (.goto (-20), 3) := dqo gX12_back_79.2.1
theorem dX12_back_85 : decode (mB 269) 85 = .ok (.aload_n 0, 1) := dqo gX12_back_79.2.2.1
theorem dX12_back_86 : decode (mB 269) 86 = .ok (.getfield 80, 3) := dqo gX12_back_79.2.2.2.1
theorem dX12_back_89 : decode (mB 269) 89 = .ok (.iconst 0, 1) := dqo gX12_back_79.2.2.2.2.1
theorem dX12_back_90 : decode (mB 269) 90 = .ok (.iaload, 1) := dqo gX12_back_79.2.2.2.2.2.1
theorem dX12_back_91 : decode (mB 269) 91 = .ok (.ireturn, 1) := dqo gX12_back_79.2.2.2.2.2.2
theorem gX12_isBody_0 : dq 270 0 (.iload_n 1) 1 = true ∧ dq 270 1 (.iconst 0) 1 = true ∧ dq 270 2 (.aload_n 0) 1 = true ∧ dq 270 3 (.getfield 365) 3 = true ∧ dq 270 6 (.iconst 1) 1 = true ∧ dq 270 7 (.isub) 1 = true ∧ dq 270 8 (.invokestatic 118) 3 = true ∧ dq 270 11 (.ireturn) 1 = true := by decide +kernel
theorem dX12_isBody_0 : decode (mB 270) 0 = .ok (.iload_n 1, 1) := dqo gX12_isBody_0.1
theorem dX12_isBody_1 : decode (mB 270) 1 = .ok (.iconst 0, 1) := dqo gX12_isBody_0.2.1
theorem dX12_isBody_2 : decode (mB 270) 2 = .ok (.aload_n 0, 1) := dqo gX12_isBody_0.2.2.1
theorem dX12_isBody_3 : decode (mB 270) 3 = .ok (.getfield 365, 3) := dqo gX12_isBody_0.2.2.2.1
theorem dX12_isBody_6 : decode (mB 270) 6 = .ok (.iconst 1, 1) := dqo gX12_isBody_0.2.2.2.2.1
theorem dX12_isBody_7 : decode (mB 270) 7 = .ok (.isub, 1) := dqo gX12_isBody_0.2.2.2.2.2.1
theorem dX12_isBody_8 : decode (mB 270) 8 = .ok (.invokestatic 118, 3) := dqo gX12_isBody_0.2.2.2.2.2.2.1
theorem dX12_isBody_11 : decode (mB 270) 11 = .ok (.ireturn, 1) := dqo gX12_isBody_0.2.2.2.2.2.2.2
theorem gX12_ran_0 : dq 271 0 (.aload_n 0) 1 = true ∧ dq 271 1 (.getfield 368) 3 = true ∧ dq 271 4 (.bipush 24) 2 = true ∧ dq 271 6 (.if_icmp .ge 13) 3 = true ∧ dq 271 9 (.aload_n 0) 1 = true ∧ dq 271 10 (.getfield 95) 3 = true ∧ dq 271 13 (.aload_n 0) 1 = true ∧ dq 271 14 (.getfield 368) 3 = true ∧ dq 271 17 (.iload_n 1) 1 = true ∧ dq 271 18 (.iastore) 1 = true ∧ dq 271 19 (.aload_n 0) 1 = true ∧ dq 271 20 (.dup) 1 = true ∧ dq 271 21 (.getfield 368) 3 = true ∧ dq 271 24 (.iconst 1) 1 = true ∧ dq 271 25 (.iadd) 1 = true ∧ dq 271 26 (.putfield 368) 3 = true := by decide +kernel
theorem dX12_ran_0 : decode (mB 271) 0 = .ok (.aload_n 0, 1) := dqo gX12_ran_0.1
theorem dX12_ran_1 : decode (mB 271) 1 = .ok (.getfield 368, 3) := dqo gX12_ran_0.2.1
theorem dX12_ran_4 : decode (mB 271) 4 = .ok (.bipush 24, 2) := dqo gX12_ran_0.2.2.1
theorem dX12_ran_6 : decode (mB 271) 6 = .ok (.if_icmp .ge 13, 3) := dqo gX12_ran_0.2.2.2.1
theorem dX12_ran_9 : decode (mB 271) 9 = .ok (.aload_n 0, 1) := dqo gX12_ran_0.2.2.2.2.1
theorem dX12_ran_10 : decode (mB 271) 10 = .ok (.getfield 95, 3) := dqo gX12_ran_0.2.2.2.2.2.1
theorem dX12_ran_13 : decode (mB 271) 13 = .ok (.aload_n 0, 1) := dqo gX12_ran_0.2.2.2.2.2.2.1
theorem dX12_ran_14 : decode (mB 271) 14 = .ok (.getfield 368, 3) := dqo gX12_ran_0.2.2.2.2.2.2.2.1
theorem dX12_ran_17 : decode (mB 271) 17 = .ok (.iload_n 1, 1) := dqo gX12_ran_0.2.2.2.2.2.2.2.2.1
theorem dX12_ran_18 : decode (mB 271) 18 = .ok (.iastore, 1) := dqo gX12_ran_0.2.2.2.2.2.2.2.2.2.1
theorem dX12_ran_19 : decode (mB 271) 19 = .ok (.aload_n 0, 1) := dqo gX12_ran_0.2.2.2.2.2.2.2.2.2.2.1
theorem dX12_ran_20 : decode (mB 271) 20 = .ok (.dup, 1) := dqo gX12_ran_0.2.2.2.2.2.2.2.2.2.2.2.1
theorem dX12_ran_21 : decode (mB 271) 21 = .ok (.getfield 368, 3) := dqo gX12_ran_0.2.2.2.2.2.2.2.2.2.2.2.2.1
theorem dX12_ran_24 : decode (mB 271) 24 = .ok (.iconst 1, 1) := dqo gX12_ran_0.2.2.2.2.2.2.2.2.2.2.2.2.2.1
theorem dX12_ran_25 : decode (mB 271) 25 = .ok (.iadd, 1) := dqo gX12_ran_0.2.2.2.2.2.2.2.2.2.2.2.2.2.2.1
theorem dX12_ran_26 : decode (mB 271) 26 = .ok (.putfield 368, 3) := dqo gX12_ran_0.2.2.2.2.2.2.2.2.2.2.2.2.2.2.2
theorem dX12_ran_29 : decode (mB 271) 29 = .ok (.return_, 1) := dqo (by decide +kernel)
theorem gX12_trace_0 : dq 272 0 (.iload_n 1) 1 = true ∧ dq 272 1 (.ifCond .lt 26) 3 = true ∧ dq 272 4 (.iload_n 1) 1 = true ∧ dq 272 5 (.aload_n 0) 1 = true ∧ dq 272 6 (.getfield 368) 3 = true ∧ dq 272 9 (.if_icmp .ge 18) 3 = true ∧ dq 272 12 (.iload_n 1) 1 = true ∧ dq 272 13 (.bipush 24) 2 = true ∧ dq 272 15 (.if_icmp .ge 12) 3 = true ∧ dq 272 18 (.aload_n 0) 1 = true ∧ dq 272 19 (.getfield 95) 3 = true ∧ dq 272 22 (.iload_n 1) 1 = true ∧ dq 272 23 (.iaload) 1 = true ∧ dq 272 24 (.goto 4) 3 = true ∧ dq 272 27 (.iconst (-1)) 1 = true ∧ dq 272 28 (.ireturn) 1 = true := by decide +kernel
theorem dX12_trace_0 : decode (mB 272) 0 = .ok (.iload_n 1, 1) := dqo gX12_trace_0.1
theorem dX12_trace_1 : decode (mB 272) 1 = .ok (.ifCond .lt 26, 3) := dqo gX12_trace_0.2.1
theorem dX12_trace_4 : decode (mB 272) 4 = .ok (.iload_n 1, 1) := dqo gX12_trace_0.2.2.1
theorem dX12_trace_5 : decode (mB 272) 5 = .ok (.aload_n 0, 1) := dqo gX12_trace_0.2.2.2.1
theorem dX12_trace_6 : decode (mB 272) 6 = .ok (.getfield 368, 3) := dqo gX12_trace_0.2.2.2.2.1
theorem dX12_trace_9 : decode (mB 272) 9 = .ok (.if_icmp .ge 18, 3) := dqo gX12_trace_0.2.2.2.2.2.1
theorem dX12_trace_12 : decode (mB 272) 12 = .ok (.iload_n 1, 1) := dqo gX12_trace_0.2.2.2.2.2.2.1
theorem dX12_trace_13 : decode (mB 272) 13 = .ok (.bipush 24, 2) := dqo gX12_trace_0.2.2.2.2.2.2.2.1
theorem dX12_trace_15 : decode (mB 272) 15 = .ok (.if_icmp .ge 12, 3) := dqo gX12_trace_0.2.2.2.2.2.2.2.2.1
theorem dX12_trace_18 : decode (mB 272) 18 = .ok (.aload_n 0, 1) := dqo gX12_trace_0.2.2.2.2.2.2.2.2.2.1
theorem dX12_trace_19 : decode (mB 272) 19 = .ok (.getfield 95, 3) := dqo gX12_trace_0.2.2.2.2.2.2.2.2.2.2.1
theorem dX12_trace_22 : decode (mB 272) 22 = .ok (.iload_n 1, 1) := dqo gX12_trace_0.2.2.2.2.2.2.2.2.2.2.2.1
theorem dX12_trace_23 : decode (mB 272) 23 = .ok (.iaload, 1) := dqo gX12_trace_0.2.2.2.2.2.2.2.2.2.2.2.2.1
theorem dX12_trace_24 : decode (mB 272) 24 = .ok (.goto 4, 3) := dqo gX12_trace_0.2.2.2.2.2.2.2.2.2.2.2.2.2.1
theorem dX12_trace_27 : decode (mB 272) 27 = .ok (.iconst (-1), 1) := dqo gX12_trace_0.2.2.2.2.2.2.2.2.2.2.2.2.2.2.1
theorem dX12_trace_28 : decode (mB 272) 28 = .ok (.ireturn, 1) := dqo gX12_trace_0.2.2.2.2.2.2.2.2.2.2.2.2.2.2.2
theorem gX12_body_0 : dq 273 0 (.iload_n 1) 1 = true ∧ dq 273 1 (.iconst 0) 1 = true ∧ dq 273 2 (.bipush 7) 2 = true ∧ dq 273 4 (.invokestatic 118) 3 = true ∧ dq 273 7 (.ifCond .ne 5) 3 = true ∧ dq 273 10 (.iconst (-1)) 1 = true ∧ dq 273 11 (.ireturn) 1 = true ∧ dq 273 12 (.aload_n 0) 1 = true ∧ dq 273 13 (.getfield 365) 3 = true ∧ dq 273 16 (.bipush 50) 2 = true ∧ dq 273 18 (.if_icmp .ne 6) 3 = true ∧ dq 273 21 (.bipush (-3)) 2 = true ∧ dq 273 23 (.ireturn) 1 = true ∧ dq 273 24 (.aload_n 0) 1 = true ∧ dq 273 25 (.getfield 92) 3 = true ∧ dq 273 28 (.aload_n 0) 1 = true := by decide +kernel
theorem dX12_body_0 : decode (mB 273) 0 = .ok (.iload_n 1, 1) := dqo gX12_body_0.1
theorem dX12_body_1 : decode (mB 273) 1 = .ok (.iconst 0, 1) := dqo gX12_body_0.2.1
theorem dX12_body_2 : decode (mB 273) 2 = .ok (.bipush 7, 2) := dqo gX12_body_0.2.2.1
theorem dX12_body_4 : decode (mB 273) 4 = .ok (.invokestatic 118, 3) := dqo gX12_body_0.2.2.2.1
theorem dX12_body_7 : decode (mB 273) 7 = .ok (.ifCond .ne 5, 3) := dqo gX12_body_0.2.2.2.2.1
theorem dX12_body_10 : decode (mB 273) 10 = .ok (.iconst (-1), 1) := dqo gX12_body_0.2.2.2.2.2.1
theorem dX12_body_11 : decode (mB 273) 11 = .ok (.ireturn, 1) := dqo gX12_body_0.2.2.2.2.2.2.1
theorem dX12_body_12 : decode (mB 273) 12 = .ok (.aload_n 0, 1) := dqo gX12_body_0.2.2.2.2.2.2.2.1
theorem dX12_body_13 : decode (mB 273) 13 = .ok (.getfield 365, 3) := dqo gX12_body_0.2.2.2.2.2.2.2.2.1
theorem dX12_body_16 : decode (mB 273) 16 = .ok (.bipush 50, 2) := dqo gX12_body_0.2.2.2.2.2.2.2.2.2.1
theorem dX12_body_18 : decode (mB 273) 18 = .ok (.if_icmp .ne 6, 3) := dqo gX12_body_0.2.2.2.2.2.2.2.2.2.2.1
theorem dX12_body_21 : decode (mB 273) 21 = .ok (.bipush (-3), 2) := dqo gX12_body_0.2.2.2.2.2.2.2.2.2.2.2.1
theorem dX12_body_23 : decode (mB 273) 23 = .ok (.ireturn, 1) := dqo gX12_body_0.2.2.2.2.2.2.2.2.2.2.2.2.1
theorem dX12_body_24 : decode (mB 273) 24 = .ok (.aload_n 0, 1) := dqo gX12_body_0.2.2.2.2.2.2.2.2.2.2.2.2.2.1
theorem dX12_body_25 : decode (mB 273) 25 = .ok (.getfield 92, 3) := dqo gX12_body_0.2.2.2.2.2.2.2.2.2.2.2.2.2.2.1
theorem dX12_body_28 : decode (mB 273) 28 = .ok (.aload_n 0, 1) := dqo gX12_body_0.2.2.2.2.2.2.2.2.2.2.2.2.2.2.2
theorem gX12_body_29 : dq 273 29 (.getfield 365) 3 = true ∧ dq 273 32 (.iload_n 1) 1 = true ∧ dq 273 33 (.iastore) 1 = true ∧ dq 273 34 (.aload_n 0) 1 = true ∧ dq 273 35 (.dup) 1 = true ∧ dq 273 36 (.getfield 365) 3 = true ∧ dq 273 39 (.iconst 1) 1 = true ∧ dq 273 40 (.iadd) 1 = true ∧ dq 273 41 (.putfield 365) 3 = true ∧ dq 273 44 (.aload_n 0) 1 = true ∧ dq 273 45 (.getfield 365) 3 = true ∧ dq 273 48 (.iconst 1) 1 = true ∧ dq 273 49 (.isub) 1 = true ∧ dq 273 50 (.ireturn) 1 = true := by decide +kernel
theorem dX12_body_29 : decode (mB 273) 29 = .ok (.getfield 365, 3) := dqo gX12_body_29.1
theorem dX12_body_32 : decode (mB 273) 32 = .ok (.iload_n 1, 1) := dqo gX12_body_29.2.1
theorem dX12_body_33 : decode (mB 273) 33 = .ok (.iastore, 1) := dqo gX12_body_29.2.2.1
theorem dX12_body_34 : decode (mB 273) 34 = .ok (.aload_n 0, 1) := dqo gX12_body_29.2.2.2.1
theorem dX12_body_35 : decode (mB 273) 35 = .ok (.dup, 1) := dqo gX12_body_29.2.2.2.2.1
theorem dX12_body_36 : decode (mB 273) 36 = .ok (.getfield 365, 3) := dqo gX12_body_29.2.2.2.2.2.1
theorem dX12_body_39 : decode (mB 273) 39 = .ok (.iconst 1, 1) := dqo gX12_body_29.2.2.2.2.2.2.1
theorem dX12_body_40 : decode (mB 273) 40 = .ok (.iadd, 1) := dqo gX12_body_29.2.2.2.2.2.2.2.1
theorem dX12_body_41 : decode (mB 273) 41 = .ok (.putfield 365, 3) := dqo gX12_body_29.2.2.2.2.2.2.2.2.1
theorem dX12_body_44 : decode (mB 273) 44 = .ok (.aload_n 0, 1) := dqo gX12_body_29.2.2.2.2.2.2.2.2.2.1
theorem dX12_body_45 : decode (mB 273) 45 = .ok (.getfield 365, 3) := dqo gX12_body_29.2.2.2.2.2.2.2.2.2.2.1
theorem dX12_body_48 : decode (mB 273) 48 = .ok (.iconst 1, 1) := dqo gX12_body_29.2.2.2.2.2.2.2.2.2.2.2.1
theorem dX12_body_49 : decode (mB 273) 49 = .ok (.isub, 1) := dqo gX12_body_29.2.2.2.2.2.2.2.2.2.2.2.2.1
theorem dX12_body_50 : decode (mB 273) 50 = .ok (.ireturn, 1) := dqo gX12_body_29.2.2.2.2.2.2.2.2.2.2.2.2.2
theorem gX12_isUnder_0 : dq 274 0 (.iload_n 1) 1 = true ∧ dq 274 1 (.ifCond .eq 55) 3 = true ∧ dq 274 4 (.iload_n 0) 1 = true ∧ dq 274 5 (.iload_n 1) 1 = true ∧ dq 274 6 (.if_icmp .eq 50) 3 = true ∧ dq 274 9 (.iload_n 1) 1 = true ∧ dq 274 10 (.iconst 1) 1 = true ∧ dq 274 11 (.if_icmp .ne 8) 3 = true ∧ dq 274 14 (.iload_n 0) 1 = true ∧ dq 274 15 (.iconst 4) 1 = true ∧ dq 274 16 (.if_icmp .eq 40) 3 = true ∧ dq 274 19 (.iload_n 1) 1 = true ∧ dq 274 20 (.iconst 2) 1 = true ∧ dq 274 21 (.if_icmp .ne 13) 3 = true ∧ dq 274 24 (.iload_n 0) 1 = true ∧ dq 274 25 (.iconst 3) 1 = true := by decide +kernel
theorem dX12_isUnder_0 : decode (mB 274) 0 = .ok (.iload_n 1, 1) := dqo gX12_isUnder_0.1
theorem dX12_isUnder_1 : decode (mB 274) 1 = .ok (.ifCond .eq 55, 3) := dqo gX12_isUnder_0.2.1
theorem dX12_isUnder_4 : decode (mB 274) 4 = .ok (.iload_n 0, 1) := dqo gX12_isUnder_0.2.2.1
theorem dX12_isUnder_5 : decode (mB 274) 5 = .ok (.iload_n 1, 1) := dqo gX12_isUnder_0.2.2.2.1
theorem dX12_isUnder_6 : decode (mB 274) 6 = .ok (.if_icmp .eq 50, 3) := dqo gX12_isUnder_0.2.2.2.2.1
theorem dX12_isUnder_9 : decode (mB 274) 9 = .ok (.iload_n 1, 1) := dqo gX12_isUnder_0.2.2.2.2.2.1
theorem dX12_isUnder_10 : decode (mB 274) 10 = .ok (.iconst 1, 1) := dqo gX12_isUnder_0.2.2.2.2.2.2.1
theorem dX12_isUnder_11 : decode (mB 274) 11 = .ok (.if_icmp .ne 8, 3) := dqo gX12_isUnder_0.2.2.2.2.2.2.2.1
theorem dX12_isUnder_14 : decode (mB 274) 14 = .ok (.iload_n 0, 1) := dqo gX12_isUnder_0.2.2.2.2.2.2.2.2.1
theorem dX12_isUnder_15 : decode (mB 274) 15 = .ok (.iconst 4, 1) := dqo gX12_isUnder_0.2.2.2.2.2.2.2.2.2.1
theorem dX12_isUnder_16 : decode (mB 274) 16 = .ok (.if_icmp .eq 40, 3) := dqo gX12_isUnder_0.2.2.2.2.2.2.2.2.2.2.1
theorem dX12_isUnder_19 : decode (mB 274) 19 = .ok (.iload_n 1, 1) := dqo gX12_isUnder_0.2.2.2.2.2.2.2.2.2.2.2.1
theorem dX12_isUnder_20 : decode (mB 274) 20 = .ok (.iconst 2, 1) := dqo gX12_isUnder_0.2.2.2.2.2.2.2.2.2.2.2.2.1
theorem dX12_isUnder_21 : decode (mB 274) 21 = .ok (.if_icmp .ne 13, 3) := dqo gX12_isUnder_0.2.2.2.2.2.2.2.2.2.2.2.2.2.1
theorem dX12_isUnder_24 : decode (mB 274) 24 = .ok (.iload_n 0, 1) := dqo gX12_isUnder_0.2.2.2.2.2.2.2.2.2.2.2.2.2.2.1
theorem dX12_isUnder_25 : decode (mB 274) 25 = .ok (.iconst 3, 1) := dqo gX12_isUnder_0.2.2.2.2.2.2.2.2.2.2.2.2.2.2.2
theorem gX12_isUnder_26 : dq 274 26 (.if_icmp .eq 30) 3 = true ∧ dq 274 29 (.iload_n 0) 1 = true ∧ dq 274 30 (.iconst 5) 1 = true ∧ dq 274 31 (.if_icmp .eq 25) 3 = true ∧ dq 274 34 (.iload_n 1) 1 = true ∧ dq 274 35 (.iconst 3) 1 = true ∧ dq 274 36 (.if_icmp .ne 8) 3 = true ∧ dq 274 39 (.iload_n 0) 1 = true ∧ dq 274 40 (.iconst 5) 1 = true ∧ dq 274 41 (.if_icmp .eq 15) 3 = true ∧ dq 274 44 (.iload_n 1) 1 = true ∧ dq 274 45 (.bipush 6) 2 = true ∧ dq 274 47 (.if_icmp .ne 13) 3 = true ∧ dq 274 50 (.iload_n 0) 1 = true ∧ dq 274 51 (.bipush 7) 2 = true ∧ dq 274 53 (.if_icmp .ne 7) 3 = true := by decide +kernel
theorem dX12_isUnder_26 : decode (mB 274) 26 = .ok (.if_icmp .eq 30, 3) := dqo gX12_isUnder_26.1
theorem dX12_isUnder_29 : decode (mB 274) 29 = .ok (.iload_n 0, 1) := dqo gX12_isUnder_26.2.1
theorem dX12_isUnder_30 : decode (mB 274) 30 = .ok (.iconst 5, 1) := dqo gX12_isUnder_26.2.2.1
theorem dX12_isUnder_31 : decode (mB 274) 31 = .ok (.if_icmp .eq 25, 3) := dqo gX12_isUnder_26.2.2.2.1
theorem dX12_isUnder_34 : decode (mB 274) 34 = .ok (.iload_n 1, 1) := dqo gX12_isUnder_26.2.2.2.2.1
theorem dX12_isUnder_35 : decode (mB 274) 35 = .ok (.iconst 3, 1) := dqo gX12_isUnder_26.2.2.2.2.2.1
theorem dX12_isUnder_36 : decode (mB 274) 36 = .ok (.if_icmp .ne 8, 3) := dqo gX12_isUnder_26.2.2.2.2.2.2.1
theorem dX12_isUnder_39 : decode (mB 274) 39 = .ok (.iload_n 0, 1) := dqo gX12_isUnder_26.2.2.2.2.2.2.2.1
theorem dX12_isUnder_40 : decode (mB 274) 40 = .ok (.iconst 5, 1) := dqo gX12_isUnder_26.2.2.2.2.2.2.2.2.1
theorem dX12_isUnder_41 : decode (mB 274) 41 = .ok (.if_icmp .eq 15, 3) := dqo gX12_isUnder_26.2.2.2.2.2.2.2.2.2.1
theorem dX12_isUnder_44 : decode (mB 274) 44 = .ok (.iload_n 1, 1) := dqo gX12_isUnder_26.2.2.2.2.2.2.2.2.2.2.1
theorem dX12_isUnder_45 : decode (mB 274) 45 = .ok (.bipush 6, 2) := dqo gX12_isUnder_26.2.2.2.2.2.2.2.2.2.2.2.1
theorem dX12_isUnder_47 : decode (mB 274) 47 = .ok (.if_icmp .ne 13, 3) := dqo gX12_isUnder_26.2.2.2.2.2.2.2.2.2.2.2.2.1
theorem dX12_isUnder_50 : decode (mB 274) 50 = .ok (.iload_n 0, 1) := dqo gX12_isUnder_26.2.2.2.2.2.2.2.2.2.2.2.2.2.1
theorem dX12_isUnder_51 : decode (mB 274) 51 = .ok (.bipush 7, 2) := dqo gX12_isUnder_26.2.2.2.2.2.2.2.2.2.2.2.2.2.2.1
theorem dX12_isUnder_53 : decode (mB 274) 53 = .ok (.if_icmp .ne 7, 3) := dqo gX12_isUnder_26.2.2.2.2.2.2.2.2.2.2.2.2.2.2.2
theorem gX12_isUnder_56 : dq 274 56 (.iconst 1) 1 = true ∧ dq 274 57 (.goto 4) 3 = true ∧ dq 274 60 (.iconst 0) 1 = true ∧ dq 274 61 (.ireturn) 1 = true := by decide +kernel
theorem dX12_isUnder_56 : decode (mB 274) 56 = .ok (.iconst 1, 1) := dqo gX12_isUnder_56.1
theorem dX12_isUnder_57 : decode (mB 274) 57 = .ok (.goto 4, 3) := dqo gX12_isUnder_56.2.1
theorem dX12_isUnder_60 : decode (mB 274) 60 = .ok (.iconst 0, 1) := dqo gX12_isUnder_56.2.2.1
theorem dX12_isUnder_61 : decode (mB 274) 61 = .ok (.ireturn, 1) := dqo gX12_isUnder_56.2.2.2
theorem gX12_plainSlips_0 : dq 275 0 (.aload_n 0) 1 = true ∧ dq 275 1 (.iconst 1) 1 = true ∧ dq 275 2 (.invokevirtual 371) 3 = true ∧ dq 275 5 (.iload_n 2) 1 = true ∧ dq 275 6 (.iload_n 1) 1 = true ∧ dq 275 7 (.iadd) 1 = true ∧ dq 275 8 (.ireturn) 1 = true := by decide +kernel
theorem dX12_plainSlips_0 : decode (mB 275) 0 = .ok (.aload_n 0, 1) := dqo gX12_plainSlips_0.1
theorem dX12_plainSlips_1 : decode (mB 275) 1 = .ok (.iconst 1, 1) := dqo gX12_plainSlips_0.2.1
theorem dX12_plainSlips_2 : decode (mB 275) 2 = .ok (.invokevirtual 371, 3) := dqo gX12_plainSlips_0.2.2.1
theorem dX12_plainSlips_5 : decode (mB 275) 5 = .ok (.iload_n 2, 1) := dqo gX12_plainSlips_0.2.2.2.1
theorem dX12_plainSlips_6 : decode (mB 275) 6 = .ok (.iload_n 1, 1) := dqo gX12_plainSlips_0.2.2.2.2.1
theorem dX12_plainSlips_7 : decode (mB 275) 7 = .ok (.iadd, 1) := dqo gX12_plainSlips_0.2.2.2.2.2.1
theorem dX12_plainSlips_8 : decode (mB 275) 8 = .ok (.ireturn, 1) := dqo gX12_plainSlips_0.2.2.2.2.2.2
theorem gX12_wiseSlips_0 : dq 276 0 (.aload_n 0) 1 = true ∧ dq 276 1 (.bipush 70) 2 = true ∧ dq 276 3 (.invokevirtual 371) 3 = true ∧ dq 276 6 (.aload_n 0) 1 = true ∧ dq 276 7 (.iload_n 1) 1 = true ∧ dq 276 8 (.iload_n 2) 1 = true ∧ dq 276 9 (.invokevirtual 375) 3 = true ∧ dq 276 12 (.iconst 2) 1 = true ∧ dq 276 13 (.imul) 1 = true ∧ dq 276 14 (.ireturn) 1 = true := by decide +kernel
theorem dX12_wiseSlips_0 : decode (mB 276) 0 = .ok (.aload_n 0, 1) := dqo gX12_wiseSlips_0.1
theorem dX12_wiseSlips_1 : decode (mB 276) 1 = .ok (.bipush 70, 2) := dqo gX12_wiseSlips_0.2.1
theorem dX12_wiseSlips_3 : decode (mB 276) 3 = .ok (.invokevirtual 371, 3) := dqo gX12_wiseSlips_0.2.2.1
theorem dX12_wiseSlips_6 : decode (mB 276) 6 = .ok (.aload_n 0, 1) := dqo gX12_wiseSlips_0.2.2.2.1
theorem dX12_wiseSlips_7 : decode (mB 276) 7 = .ok (.iload_n 1, 1) := dqo gX12_wiseSlips_0.2.2.2.2.1
theorem dX12_wiseSlips_8 : decode (mB 276) 8 = .ok (.iload_n 2, 1) := dqo gX12_wiseSlips_0.2.2.2.2.2.1
theorem dX12_wiseSlips_9 : decode (mB 276) 9 = .ok (.invokevirtual 375, 3) := dqo gX12_wiseSlips_0.2.2.2.2.2.2.1
theorem dX12_wiseSlips_12 : decode (mB 276) 12 = .ok (.iconst 2, 1) := dqo gX12_wiseSlips_0.2.2.2.2.2.2.2.1
theorem dX12_wiseSlips_13 : decode (mB 276) 13 = .ok (.imul, 1) := dqo gX12_wiseSlips_0.2.2.2.2.2.2.2.2.1
theorem dX12_wiseSlips_14 : decode (mB 276) 14 = .ok (.ireturn, 1) := dqo gX12_wiseSlips_0.2.2.2.2.2.2.2.2.2
theorem gX12_slipping_0 : dq 277 0 (.aload_n 0) 1 = true ∧ dq 277 1 (.getfield 92) 3 = true ∧ dq 277 4 (.iload_n 1) 1 = true ∧ dq 277 5 (.iaload) 1 = true ∧ dq 277 6 (.iconst 1) 1 = true ∧ dq 277 7 (.invokestatic 378) 3 = true ∧ dq 277 10 (.ifCond .eq 18) 3 = true ∧ dq 277 13 (.aload_n 0) 1 = true ∧ dq 277 14 (.bipush 20) 2 = true ∧ dq 277 16 (.invokevirtual 371) 3 = true ∧ dq 277 19 (.aload_n 0) 1 = true ∧ dq 277 20 (.iload_n 1) 1 = true ∧ dq 277 21 (.iload_n 2) 1 = true ∧ dq 277 22 (.invokevirtual 375) 3 = true ∧ dq 277 25 (.iconst 3) 1 = true ∧ dq 277 26 (.iadd) 1 = true := by decide +kernel
theorem dX12_slipping_0 : decode (mB 277) 0 = .ok (.aload_n 0, 1) := dqo gX12_slipping_0.1
theorem dX12_slipping_1 : decode (mB 277) 1 = .ok (.getfield 92, 3) := dqo gX12_slipping_0.2.1
theorem dX12_slipping_4 : decode (mB 277) 4 = .ok (.iload_n 1, 1) := dqo gX12_slipping_0.2.2.1
theorem dX12_slipping_5 : decode (mB 277) 5 = .ok (.iaload, 1) := dqo gX12_slipping_0.2.2.2.1
theorem dX12_slipping_6 : decode (mB 277) 6 = .ok (.iconst 1, 1) := dqo gX12_slipping_0.2.2.2.2.1
theorem dX12_slipping_7 : decode (mB 277) 7 = .ok (.invokestatic 378, 3) := dqo gX12_slipping_0.2.2.2.2.2.1
theorem dX12_slipping_10 : decode (mB 277) 10 = .ok (.ifCond .eq 18, 3) := dqo gX12_slipping_0.2.2.2.2.2.2.1
theorem dX12_slipping_13 : decode (mB 277) 13 = .ok (.aload_n 0, 1) := dqo gX12_slipping_0.2.2.2.2.2.2.2.1
theorem dX12_slipping_14 : decode (mB 277) 14 = .ok (.bipush 20, 2) := dqo gX12_slipping_0.2.2.2.2.2.2.2.2.1
theorem dX12_slipping_16 : decode (mB 277) 16 = .ok (.invokevirtual 371, 3) := dqo gX12_slipping_0.2.2.2.2.2.2.2.2.2.1
theorem dX12_slipping_19 : decode (mB 277) 19 = .ok (.aload_n 0, 1) := dqo gX12_slipping_0.2.2.2.2.2.2.2.2.2.2.1
theorem dX12_slipping_20 : decode (mB 277) 20 = .ok (.iload_n 1, 1) := dqo gX12_slipping_0.2.2.2.2.2.2.2.2.2.2.2.1
theorem dX12_slipping_21 : decode (mB 277) 21 = .ok (.iload_n 2, 1) := dqo gX12_slipping_0.2.2.2.2.2.2.2.2.2.2.2.2.1
theorem dX12_slipping_22 : decode (mB 277) 22 = .ok (.invokevirtual 375, 3) := dqo gX12_slipping_0.2.2.2.2.2.2.2.2.2.2.2.2.2.1
theorem dX12_slipping_25 : decode (mB 277) 25 = .ok (.iconst 3, 1) := dqo gX12_slipping_0.2.2.2.2.2.2.2.2.2.2.2.2.2.2.1
theorem dX12_slipping_26 : decode (mB 277) 26 = .ok (.iadd, 1) := dqo gX12_slipping_0.2.2.2.2.2.2.2.2.2.2.2.2.2.2.2
theorem gX12_slipping_27 : dq 277 27 (.ireturn) 1 = true ∧ dq 277 28 (.aload_n 0) 1 = true ∧ dq 277 29 (.getfield 92) 3 = true ∧ dq 277 32 (.iload_n 1) 1 = true ∧ dq 277 33 (.iaload) 1 = true ∧ dq 277 34 (.bipush 7) 2 = true ∧ dq 277 36 (.if_icmp .ne 18) 3 = true ∧ dq 277 39 (.aload_n 0) 1 = true ∧ dq 277 40 (.bipush 81) 2 = true ∧ dq 277 42 (.invokevirtual 371) 3 = true ∧ dq 277 45 (.aload_n 0) 1 = true ∧ dq 277 46 (.iload_n 1) 1 = true ∧ dq 277 47 (.iload_n 2) 1 = true ∧ dq 277 48 (.invokevirtual 381) 3 = true ∧ dq 277 51 (.iconst 1) 1 = true ∧ dq 277 52 (.isub) 1 = true := by decide +kernel
theorem dX12_slipping_27 : decode (mB 277) 27 = .ok (.ireturn, 1) := dqo gX12_slipping_27.1
theorem dX12_slipping_28 : decode (mB 277) 28 = .ok (.aload_n 0, 1) := dqo gX12_slipping_27.2.1
theorem dX12_slipping_29 : decode (mB 277) 29 = .ok (.getfield 92, 3) := dqo gX12_slipping_27.2.2.1
theorem dX12_slipping_32 : decode (mB 277) 32 = .ok (.iload_n 1, 1) := dqo gX12_slipping_27.2.2.2.1
theorem dX12_slipping_33 : decode (mB 277) 33 = .ok (.iaload, 1) := dqo gX12_slipping_27.2.2.2.2.1
theorem dX12_slipping_34 : decode (mB 277) 34 = .ok (.bipush 7, 2) := dqo gX12_slipping_27.2.2.2.2.2.1
theorem dX12_slipping_36 : decode (mB 277) 36 = .ok (.if_icmp .ne 18, 3) := dqo gX12_slipping_27.2.2.2.2.2.2.1
theorem dX12_slipping_39 : decode (mB 277) 39 = .ok (.aload_n 0, 1) := dqo gX12_slipping_27.2.2.2.2.2.2.2.1
theorem dX12_slipping_40 : decode (mB 277) 40 = .ok (.bipush 81, 2) := dqo gX12_slipping_27.2.2.2.2.2.2.2.2.1
theorem dX12_slipping_42 : decode (mB 277) 42 = .ok (.invokevirtual 371, 3) := dqo gX12_slipping_27.2.2.2.2.2.2.2.2.2.1
theorem dX12_slipping_45 : decode (mB 277) 45 = .ok (.aload_n 0, 1) := dqo gX12_slipping_27.2.2.2.2.2.2.2.2.2.2.1
theorem dX12_slipping_46 : decode (mB 277) 46 = .ok (.iload_n 1, 1) := dqo gX12_slipping_27.2.2.2.2.2.2.2.2.2.2.2.1
theorem dX12_slipping_47 : decode (mB 277) 47 = .ok (.iload_n 2, 1) := dqo gX12_slipping_27.2.2.2.2.2.2.2.2.2.2.2.2.1
theorem dX12_slipping_48 : decode (mB 277) 48 = .ok (.invokevirtual 381, 3) := dqo gX12_slipping_27.2.2.2.2.2.2.2.2.2.2.2.2.2.1
theorem dX12_slipping_51 : decode (mB 277) 51 = .ok (.iconst 1, 1) := dqo gX12_slipping_27.2.2.2.2.2.2.2.2.2.2.2.2.2.2.1
theorem dX12_slipping_52 : decode (mB 277) 52 = .ok (.isub, 1) := dqo gX12_slipping_27.2.2.2.2.2.2.2.2.2.2.2.2.2.2.2
theorem gX12_slipping_53 : dq 277 53 (.ireturn) 1 = true ∧ dq 277 54 (.aload_n 0) 1 = true ∧ dq 277 55 (.getfield 92) 3 = true ∧ dq 277 58 (.iload_n 1) 1 = true ∧ dq 277 59 (.iaload) 1 = true ∧ dq 277 60 (.bipush 6) 2 = true ∧ dq 277 62 (.if_icmp .ne 12) 3 = true ∧ dq 277 65 (.aload_n 0) 1 = true ∧ dq 277 66 (.iload_n 1) 1 = true ∧ dq 277 67 (.iload_n 2) 1 = true ∧ dq 277 68 (.invokevirtual 381) 3 = true ∧ dq 277 71 (.goto 9) 3 = true ∧ dq 277 74 (.aload_n 0) 1 = true ∧ dq 277 75 (.iload_n 1) 1 = true ∧ dq 277 76 (.iload_n 2) 1 = true ∧ dq 277 77 (.invokevirtual 375) 3 = true := by decide +kernel
theorem dX12_slipping_53 : decode (mB 277) 53 = .ok (.ireturn, 1) := dqo gX12_slipping_53.1
theorem dX12_slipping_54 : decode (mB 277) 54 = .ok (.aload_n 0, 1) := dqo gX12_slipping_53.2.1
theorem dX12_slipping_55 : decode (mB 277) 55 = .ok (.getfield 92, 3) := dqo gX12_slipping_53.2.2.1
theorem dX12_slipping_58 : decode (mB 277) 58 = .ok (.iload_n 1, 1) := dqo gX12_slipping_53.2.2.2.1
theorem dX12_slipping_59 : decode (mB 277) 59 = .ok (.iaload, 1) := dqo gX12_slipping_53.2.2.2.2.1
theorem dX12_slipping_60 : decode (mB 277) 60 = .ok (.bipush 6, 2) := dqo gX12_slipping_53.2.2.2.2.2.1
theorem dX12_slipping_62 : decode (mB 277) 62 = .ok (.if_icmp .ne 12, 3) := dqo gX12_slipping_53.2.2.2.2.2.2.1
theorem dX12_slipping_65 : decode (mB 277) 65 = .ok (.aload_n 0, 1) := dqo gX12_slipping_53.2.2.2.2.2.2.2.1
theorem dX12_slipping_66 : decode (mB 277) 66 = .ok (.iload_n 1, 1) := dqo gX12_slipping_53.2.2.2.2.2.2.2.2.1
theorem dX12_slipping_67 : decode (mB 277) 67 = .ok (.iload_n 2, 1) := dqo gX12_slipping_53.2.2.2.2.2.2.2.2.2.1
theorem dX12_slipping_68 : decode (mB 277) 68 = .ok (.invokevirtual 381, 3) := dqo gX12_slipping_53.2.2.2.2.2.2.2.2.2.2.1
theorem dX12_slipping_71 : decode (mB 277) 71 = .ok (.goto 9, 3) := dqo gX12_slipping_53.2.2.2.2.2.2.2.2.2.2.2.1
theorem dX12_slipping_74 : decode (mB 277) 74 = .ok (.aload_n 0, 1) := dqo gX12_slipping_53.2.2.2.2.2.2.2.2.2.2.2.2.1
theorem dX12_slipping_75 : decode (mB 277) 75 = .ok (.iload_n 1, 1) := dqo gX12_slipping_53.2.2.2.2.2.2.2.2.2.2.2.2.2.1
theorem dX12_slipping_76 : decode (mB 277) 76 = .ok (.iload_n 2, 1) := dqo gX12_slipping_53.2.2.2.2.2.2.2.2.2.2.2.2.2.2.1
theorem dX12_slipping_77 : decode (mB 277) 77 = .ok (.invokevirtual 375, 3) := dqo gX12_slipping_53.2.2.2.2.2.2.2.2.2.2.2.2.2.2.2
theorem dX12_slipping_80 : decode (mB 277) 80 = .ok (.ireturn, 1) := dqo (by decide +kernel)
theorem gX12_plainFolds_0 : dq 278 0 (.aload_n 0) 1 = true ∧ dq 278 1 (.bipush 10) 2 = true ∧ dq 278 3 (.invokevirtual 371) 3 = true ∧ dq 278 6 (.aload_n 0) 1 = true ∧ dq 278 7 (.iload_n 1) 1 = true ∧ dq 278 8 (.iload_n 2) 1 = true ∧ dq 278 9 (.invokevirtual 384) 3 = true ∧ dq 278 12 (.iconst 2) 1 = true ∧ dq 278 13 (.imul) 1 = true ∧ dq 278 14 (.ireturn) 1 = true := by decide +kernel
theorem dX12_plainFolds_0 : decode (mB 278) 0 = .ok (.aload_n 0, 1) := dqo gX12_plainFolds_0.1
theorem dX12_plainFolds_1 : decode (mB 278) 1 = .ok (.bipush 10, 2) := dqo gX12_plainFolds_0.2.1
theorem dX12_plainFolds_3 : decode (mB 278) 3 = .ok (.invokevirtual 371, 3) := dqo gX12_plainFolds_0.2.2.1
theorem dX12_plainFolds_6 : decode (mB 278) 6 = .ok (.aload_n 0, 1) := dqo gX12_plainFolds_0.2.2.2.1
theorem dX12_plainFolds_7 : decode (mB 278) 7 = .ok (.iload_n 1, 1) := dqo gX12_plainFolds_0.2.2.2.2.1
theorem dX12_plainFolds_8 : decode (mB 278) 8 = .ok (.iload_n 2, 1) := dqo gX12_plainFolds_0.2.2.2.2.2.1
theorem dX12_plainFolds_9 : decode (mB 278) 9 = .ok (.invokevirtual 384, 3) := dqo gX12_plainFolds_0.2.2.2.2.2.2.1
theorem dX12_plainFolds_12 : decode (mB 278) 12 = .ok (.iconst 2, 1) := dqo gX12_plainFolds_0.2.2.2.2.2.2.2.1
theorem dX12_plainFolds_13 : decode (mB 278) 13 = .ok (.imul, 1) := dqo gX12_plainFolds_0.2.2.2.2.2.2.2.2.1
theorem dX12_plainFolds_14 : decode (mB 278) 14 = .ok (.ireturn, 1) := dqo gX12_plainFolds_0.2.2.2.2.2.2.2.2.2
theorem gX12_brideFolds_0 : dq 279 0 (.aload_n 0) 1 = true ∧ dq 279 1 (.bipush 30) 2 = true ∧ dq 279 3 (.invokevirtual 371) 3 = true ∧ dq 279 6 (.aload_n 0) 1 = true ∧ dq 279 7 (.iload_n 1) 1 = true ∧ dq 279 8 (.iload_n 2) 1 = true ∧ dq 279 9 (.invokevirtual 387) 3 = true ∧ dq 279 12 (.ineg) 1 = true ∧ dq 279 13 (.ireturn) 1 = true := by decide +kernel
theorem dX12_brideFolds_0 : decode (mB 279) 0 = .ok (.aload_n 0, 1) := dqo gX12_brideFolds_0.1
theorem dX12_brideFolds_1 : decode (mB 279) 1 = .ok (.bipush 30, 2) := dqo gX12_brideFolds_0.2.1
theorem dX12_brideFolds_3 : decode (mB 279) 3 = .ok (.invokevirtual 371, 3) := dqo gX12_brideFolds_0.2.2.1
theorem dX12_brideFolds_6 : decode (mB 279) 6 = .ok (.aload_n 0, 1) := dqo gX12_brideFolds_0.2.2.2.1
theorem dX12_brideFolds_7 : decode (mB 279) 7 = .ok (.iload_n 1, 1) := dqo gX12_brideFolds_0.2.2.2.2.1
theorem dX12_brideFolds_8 : decode (mB 279) 8 = .ok (.iload_n 2, 1) := dqo gX12_brideFolds_0.2.2.2.2.2.1
theorem dX12_brideFolds_9 : decode (mB 279) 9 = .ok (.invokevirtual 387, 3) := dqo gX12_brideFolds_0.2.2.2.2.2.2.1
theorem dX12_brideFolds_12 : decode (mB 279) 12 = .ok (.ineg, 1) := dqo gX12_brideFolds_0.2.2.2.2.2.2.2.1
theorem dX12_brideFolds_13 : decode (mB 279) 13 = .ok (.ireturn, 1) := dqo gX12_brideFolds_0.2.2.2.2.2.2.2.2
theorem gX12_folding_0 : dq 280 0 (.aload_n 0) 1 = true ∧ dq 280 1 (.getfield 92) 3 = true ∧ dq 280 4 (.iload_n 1) 1 = true ∧ dq 280 5 (.iaload) 1 = true ∧ dq 280 6 (.iconst 3) 1 = true ∧ dq 280 7 (.invokestatic 378) 3 = true ∧ dq 280 10 (.ifCond .eq 18) 3 = true ∧ dq 280 13 (.aload_n 0) 1 = true ∧ dq 280 14 (.bipush 41) 2 = true ∧ dq 280 16 (.invokevirtual 371) 3 = true ∧ dq 280 19 (.aload_n 0) 1 = true ∧ dq 280 20 (.iload_n 1) 1 = true ∧ dq 280 21 (.iload_n 2) 1 = true ∧ dq 280 22 (.iconst 1) 1 = true ∧ dq 280 23 (.iadd) 1 = true ∧ dq 280 24 (.invokevirtual 390) 3 = true := by decide +kernel
theorem dX12_folding_0 : decode (mB 280) 0 = .ok (.aload_n 0, 1) := dqo gX12_folding_0.1
theorem dX12_folding_1 : decode (mB 280) 1 = .ok (.getfield 92, 3) := dqo gX12_folding_0.2.1
theorem dX12_folding_4 : decode (mB 280) 4 = .ok (.iload_n 1, 1) := dqo gX12_folding_0.2.2.1
theorem dX12_folding_5 : decode (mB 280) 5 = .ok (.iaload, 1) := dqo gX12_folding_0.2.2.2.1
theorem dX12_folding_6 : decode (mB 280) 6 = .ok (.iconst 3, 1) := dqo gX12_folding_0.2.2.2.2.1
theorem dX12_folding_7 : decode (mB 280) 7 = .ok (.invokestatic 378, 3) := dqo gX12_folding_0.2.2.2.2.2.1
theorem dX12_folding_10 : decode (mB 280) 10 = .ok (.ifCond .eq 18, 3) := dqo gX12_folding_0.2.2.2.2.2.2.1
theorem dX12_folding_13 : decode (mB 280) 13 = .ok (.aload_n 0, 1) := dqo gX12_folding_0.2.2.2.2.2.2.2.1
theorem dX12_folding_14 : decode (mB 280) 14 = .ok (.bipush 41, 2) := dqo gX12_folding_0.2.2.2.2.2.2.2.2.1
theorem dX12_folding_16 : decode (mB 280) 16 = .ok (.invokevirtual 371, 3) := dqo gX12_folding_0.2.2.2.2.2.2.2.2.2.1
theorem dX12_folding_19 : decode (mB 280) 19 = .ok (.aload_n 0, 1) := dqo gX12_folding_0.2.2.2.2.2.2.2.2.2.2.1
theorem dX12_folding_20 : decode (mB 280) 20 = .ok (.iload_n 1, 1) := dqo gX12_folding_0.2.2.2.2.2.2.2.2.2.2.2.1
theorem dX12_folding_21 : decode (mB 280) 21 = .ok (.iload_n 2, 1) := dqo gX12_folding_0.2.2.2.2.2.2.2.2.2.2.2.2.1
theorem dX12_folding_22 : decode (mB 280) 22 = .ok (.iconst 1, 1) := dqo gX12_folding_0.2.2.2.2.2.2.2.2.2.2.2.2.2.1
theorem dX12_folding_23 : decode (mB 280) 23 = .ok (.iadd, 1) := dqo gX12_folding_0.2.2.2.2.2.2.2.2.2.2.2.2.2.2.1
theorem dX12_folding_24 : decode (mB 280) 24 = .ok (.invokevirtual 390, 3) := dqo gX12_folding_0.2.2.2.2.2.2.2.2.2.2.2.2.2.2.2
theorem gX12_folding_27 : dq 280 27 (.ireturn) 1 = true ∧ dq 280 28 (.aload_n 0) 1 = true ∧ dq 280 29 (.getfield 92) 3 = true ∧ dq 280 32 (.iload_n 1) 1 = true ∧ dq 280 33 (.iaload) 1 = true ∧ dq 280 34 (.bipush 7) 2 = true ∧ dq 280 36 (.if_icmp .ne 25) 3 = true ∧ dq 280 39 (.aload_n 0) 1 = true ∧ dq 280 40 (.bipush 80) 2 = true ∧ dq 280 42 (.invokevirtual 371) 3 = true ∧ dq 280 45 (.aload_n 0) 1 = true ∧ dq 280 46 (.iload_n 1) 1 = true ∧ dq 280 47 (.iload_n 2) 1 = true ∧ dq 280 48 (.invokevirtual 387) 3 = true ∧ dq 280 51 (.istore_n 3) 1 = true ∧ dq 280 52 (.iload_n 3) 1 = true := by decide +kernel
theorem dX12_folding_27 : decode (mB 280) 27 = .ok (.ireturn, 1) := dqo gX12_folding_27.1
theorem dX12_folding_28 : decode (mB 280) 28 = .ok (.aload_n 0, 1) := dqo gX12_folding_27.2.1
theorem dX12_folding_29 : decode (mB 280) 29 = .ok (.getfield 92, 3) := dqo gX12_folding_27.2.2.1
theorem dX12_folding_32 : decode (mB 280) 32 = .ok (.iload_n 1, 1) := dqo gX12_folding_27.2.2.2.1
theorem dX12_folding_33 : decode (mB 280) 33 = .ok (.iaload, 1) := dqo gX12_folding_27.2.2.2.2.1
theorem dX12_folding_34 : decode (mB 280) 34 = .ok (.bipush 7, 2) := dqo gX12_folding_27.2.2.2.2.2.1
theorem dX12_folding_36 : decode (mB 280) 36 = .ok (.if_icmp .ne 25, 3) := dqo gX12_folding_27.2.2.2.2.2.2.1
theorem dX12_folding_39 : decode (mB 280) 39 = .ok (.aload_n 0, 1) := dqo gX12_folding_27.2.2.2.2.2.2.2.1
theorem dX12_folding_40 : decode (mB 280) 40 = .ok (.bipush 80, 2) := dqo gX12_folding_27.2.2.2.2.2.2.2.2.1
theorem dX12_folding_42 : decode (mB 280) 42 = .ok (.invokevirtual 371, 3) := dqo gX12_folding_27.2.2.2.2.2.2.2.2.2.1
theorem dX12_folding_45 : decode (mB 280) 45 = .ok (.aload_n 0, 1) := dqo gX12_folding_27.2.2.2.2.2.2.2.2.2.2.1
theorem dX12_folding_46 : decode (mB 280) 46 = .ok (.iload_n 1, 1) := dqo gX12_folding_27.2.2.2.2.2.2.2.2.2.2.2.1
theorem dX12_folding_47 : decode (mB 280) 47 = .ok (.iload_n 2, 1) := dqo gX12_folding_27.2.2.2.2.2.2.2.2.2.2.2.2.1
theorem dX12_folding_48 : decode (mB 280) 48 = .ok (.invokevirtual 387, 3) := dqo gX12_folding_27.2.2.2.2.2.2.2.2.2.2.2.2.2.1
theorem dX12_folding_51 : decode (mB 280) 51 = .ok (.istore_n 3, 1) := dqo gX12_folding_27.2.2.2.2.2.2.2.2.2.2.2.2.2.2.1
theorem dX12_folding_52 : decode (mB 280) 52 = .ok (.iload_n 3, 1) := dqo gX12_folding_27.2.2.2.2.2.2.2.2.2.2.2.2.2.2.2
theorem gX12_folding_53 : dq 280 53 (.aload_n 0) 1 = true ∧ dq 280 54 (.iload_n 1) 1 = true ∧ dq 280 55 (.iconst 2) 1 = true ∧ dq 280 56 (.invokevirtual 393) 3 = true ∧ dq 280 59 (.iadd) 1 = true ∧ dq 280 60 (.ireturn) 1 = true ∧ dq 280 61 (.aload_n 0) 1 = true ∧ dq 280 62 (.getfield 92) 3 = true ∧ dq 280 65 (.iload_n 1) 1 = true ∧ dq 280 66 (.iaload) 1 = true ∧ dq 280 67 (.iconst 2) 1 = true ∧ dq 280 68 (.if_icmp .ne 12) 3 = true ∧ dq 280 71 (.aload_n 0) 1 = true ∧ dq 280 72 (.iload_n 1) 1 = true ∧ dq 280 73 (.iload_n 2) 1 = true ∧ dq 280 74 (.invokevirtual 390) 3 = true := by decide +kernel
theorem dX12_folding_53 : decode (mB 280) 53 = .ok (.aload_n 0, 1) := dqo gX12_folding_53.1
theorem dX12_folding_54 : decode (mB 280) 54 = .ok (.iload_n 1, 1) := dqo gX12_folding_53.2.1
theorem dX12_folding_55 : decode (mB 280) 55 = .ok (.iconst 2, 1) := dqo gX12_folding_53.2.2.1
theorem dX12_folding_56 : decode (mB 280) 56 = .ok (.invokevirtual 393, 3) := dqo gX12_folding_53.2.2.2.1
theorem dX12_folding_59 : decode (mB 280) 59 = .ok (.iadd, 1) := dqo gX12_folding_53.2.2.2.2.1
theorem dX12_folding_60 : decode (mB 280) 60 = .ok (.ireturn, 1) := dqo gX12_folding_53.2.2.2.2.2.1
theorem dX12_folding_61 : decode (mB 280) 61 = .ok (.aload_n 0, 1) := dqo gX12_folding_53.2.2.2.2.2.2.1
theorem dX12_folding_62 : decode (mB 280) 62 = .ok (.getfield 92, 3) := dqo gX12_folding_53.2.2.2.2.2.2.2.1
theorem dX12_folding_65 : decode (mB 280) 65 = .ok (.iload_n 1, 1) := dqo gX12_folding_53.2.2.2.2.2.2.2.2.1
theorem dX12_folding_66 : decode (mB 280) 66 = .ok (.iaload, 1) := dqo gX12_folding_53.2.2.2.2.2.2.2.2.2.1
theorem dX12_folding_67 : decode (mB 280) 67 = .ok (.iconst 2, 1) := dqo gX12_folding_53.2.2.2.2.2.2.2.2.2.2.1
theorem dX12_folding_68 : decode (mB 280) 68 = .ok (.if_icmp .ne 12, 3) := dqo gX12_folding_53.2.2.2.2.2.2.2.2.2.2.2.1
theorem dX12_folding_71 : decode (mB 280) 71 = .ok (.aload_n 0, 1) := dqo gX12_folding_53.2.2.2.2.2.2.2.2.2.2.2.2.1
theorem dX12_folding_72 : decode (mB 280) 72 = .ok (.iload_n 1, 1) := dqo gX12_folding_53.2.2.2.2.2.2.2.2.2.2.2.2.2.1
theorem dX12_folding_73 : decode (mB 280) 73 = .ok (.iload_n 2, 1) := dqo gX12_folding_53.2.2.2.2.2.2.2.2.2.2.2.2.2.2.1
theorem dX12_folding_74 : decode (mB 280) 74 = .ok (.invokevirtual 390, 3) := dqo gX12_folding_53.2.2.2.2.2.2.2.2.2.2.2.2.2.2.2
theorem gX12_folding_77 : dq 280 77 (.goto 9) 3 = true ∧ dq 280 80 (.aload_n 0) 1 = true ∧ dq 280 81 (.iload_n 1) 1 = true ∧ dq 280 82 (.iload_n 2) 1 = true ∧ dq 280 83 (.invokevirtual 387) 3 = true ∧ dq 280 86 (.ireturn) 1 = true := by decide +kernel
theorem dX12_folding_77 : decode (mB 280) 77 = .ok (.goto 9, 3) := dqo gX12_folding_77.1
theorem dX12_folding_80 : decode (mB 280) 80 = .ok (.aload_n 0, 1) := dqo gX12_folding_77.2.1
theorem dX12_folding_81 : decode (mB 280) 81 = .ok (.iload_n 1, 1) := dqo gX12_folding_77.2.2.1
theorem dX12_folding_82 : decode (mB 280) 82 = .ok (.iload_n 2, 1) := dqo gX12_folding_77.2.2.2.1
theorem dX12_folding_83 : decode (mB 280) 83 = .ok (.invokevirtual 387, 3) := dqo gX12_folding_77.2.2.2.2.1
theorem dX12_folding_86 : decode (mB 280) 86 = .ok (.ireturn, 1) := dqo gX12_folding_77.2.2.2.2.2
theorem gX12_plainProves_0 : dq 281 0 (.aload_n 0) 1 = true ∧ dq 281 1 (.bipush 11) 2 = true ∧ dq 281 3 (.invokevirtual 371) 3 = true ∧ dq 281 6 (.iload_n 2) 1 = true ∧ dq 281 7 (.iload_n 1) 1 = true ∧ dq 281 8 (.ixor) 1 = true ∧ dq 281 9 (.ireturn) 1 = true := by decide +kernel
theorem dX12_plainProves_0 : decode (mB 281) 0 = .ok (.aload_n 0, 1) := dqo gX12_plainProves_0.1
theorem dX12_plainProves_1 : decode (mB 281) 1 = .ok (.bipush 11, 2) := dqo gX12_plainProves_0.2.1
theorem dX12_plainProves_3 : decode (mB 281) 3 = .ok (.invokevirtual 371, 3) := dqo gX12_plainProves_0.2.2.1
theorem dX12_plainProves_6 : decode (mB 281) 6 = .ok (.iload_n 2, 1) := dqo gX12_plainProves_0.2.2.2.1
theorem dX12_plainProves_7 : decode (mB 281) 7 = .ok (.iload_n 1, 1) := dqo gX12_plainProves_0.2.2.2.2.1
theorem dX12_plainProves_8 : decode (mB 281) 8 = .ok (.ixor, 1) := dqo gX12_plainProves_0.2.2.2.2.2.1
theorem dX12_plainProves_9 : decode (mB 281) 9 = .ok (.ireturn, 1) := dqo gX12_plainProves_0.2.2.2.2.2.2
theorem gX12_childProves_0 : dq 282 0 (.aload_n 0) 1 = true ∧ dq 282 1 (.bipush 40) 2 = true ∧ dq 282 3 (.invokevirtual 371) 3 = true ∧ dq 282 6 (.aload_n 0) 1 = true ∧ dq 282 7 (.iload_n 1) 1 = true ∧ dq 282 8 (.iload_n 2) 1 = true ∧ dq 282 9 (.invokevirtual 396) 3 = true ∧ dq 282 12 (.iconst 3) 1 = true ∧ dq 282 13 (.imul) 1 = true ∧ dq 282 14 (.ireturn) 1 = true := by decide +kernel
theorem dX12_childProves_0 : decode (mB 282) 0 = .ok (.aload_n 0, 1) := dqo gX12_childProves_0.1
theorem dX12_childProves_1 : decode (mB 282) 1 = .ok (.bipush 40, 2) := dqo gX12_childProves_0.2.1
theorem dX12_childProves_3 : decode (mB 282) 3 = .ok (.invokevirtual 371, 3) := dqo gX12_childProves_0.2.2.1
theorem dX12_childProves_6 : decode (mB 282) 6 = .ok (.aload_n 0, 1) := dqo gX12_childProves_0.2.2.2.1
theorem dX12_childProves_7 : decode (mB 282) 7 = .ok (.iload_n 1, 1) := dqo gX12_childProves_0.2.2.2.2.1
theorem dX12_childProves_8 : decode (mB 282) 8 = .ok (.iload_n 2, 1) := dqo gX12_childProves_0.2.2.2.2.2.1
theorem dX12_childProves_9 : decode (mB 282) 9 = .ok (.invokevirtual 396, 3) := dqo gX12_childProves_0.2.2.2.2.2.2.1
theorem dX12_childProves_12 : decode (mB 282) 12 = .ok (.iconst 3, 1) := dqo gX12_childProves_0.2.2.2.2.2.2.2.1
theorem dX12_childProves_13 : decode (mB 282) 13 = .ok (.imul, 1) := dqo gX12_childProves_0.2.2.2.2.2.2.2.2.1
theorem dX12_childProves_14 : decode (mB 282) 14 = .ok (.ireturn, 1) := dqo gX12_childProves_0.2.2.2.2.2.2.2.2.2
theorem gX12_proving_0 : dq 283 0 (.aload_n 0) 1 = true ∧ dq 283 1 (.getfield 92) 3 = true ∧ dq 283 4 (.iload_n 1) 1 = true ∧ dq 283 5 (.iaload) 1 = true ∧ dq 283 6 (.iconst 5) 1 = true ∧ dq 283 7 (.if_icmp .ne 25) 3 = true ∧ dq 283 10 (.aload_n 0) 1 = true ∧ dq 283 11 (.bipush 60) 2 = true ∧ dq 283 13 (.invokevirtual 371) 3 = true ∧ dq 283 16 (.aload_n 0) 1 = true ∧ dq 283 17 (.iload_n 1) 1 = true ∧ dq 283 18 (.iload_n 2) 1 = true ∧ dq 283 19 (.invokevirtual 399) 3 = true ∧ dq 283 22 (.istore_n 3) 1 = true ∧ dq 283 23 (.iload_n 3) 1 = true ∧ dq 283 24 (.aload_n 0) 1 = true := by decide +kernel
theorem dX12_proving_0 : decode (mB 283) 0 = .ok (.aload_n 0, 1) := dqo gX12_proving_0.1
theorem dX12_proving_1 : decode (mB 283) 1 = .ok (.getfield 92, 3) := dqo gX12_proving_0.2.1
theorem dX12_proving_4 : decode (mB 283) 4 = .ok (.iload_n 1, 1) := dqo gX12_proving_0.2.2.1
theorem dX12_proving_5 : decode (mB 283) 5 = .ok (.iaload, 1) := dqo gX12_proving_0.2.2.2.1
theorem dX12_proving_6 : decode (mB 283) 6 = .ok (.iconst 5, 1) := dqo gX12_proving_0.2.2.2.2.1
theorem dX12_proving_7 : decode (mB 283) 7 = .ok (.if_icmp .ne 25, 3) := dqo gX12_proving_0.2.2.2.2.2.1
theorem dX12_proving_10 : decode (mB 283) 10 = .ok (.aload_n 0, 1) := dqo gX12_proving_0.2.2.2.2.2.2.1
theorem dX12_proving_11 : decode (mB 283) 11 = .ok (.bipush 60, 2) := dqo gX12_proving_0.2.2.2.2.2.2.2.1
theorem dX12_proving_13 : decode (mB 283) 13 = .ok (.invokevirtual 371, 3) := dqo gX12_proving_0.2.2.2.2.2.2.2.2.1
theorem dX12_proving_16 : decode (mB 283) 16 = .ok (.aload_n 0, 1) := dqo gX12_proving_0.2.2.2.2.2.2.2.2.2.1
theorem dX12_proving_17 : decode (mB 283) 17 = .ok (.iload_n 1, 1) := dqo gX12_proving_0.2.2.2.2.2.2.2.2.2.2.1
theorem dX12_proving_18 : decode (mB 283) 18 = .ok (.iload_n 2, 1) := dqo gX12_proving_0.2.2.2.2.2.2.2.2.2.2.2.1
theorem dX12_proving_19 : decode (mB 283) 19 = .ok (.invokevirtual 399, 3) := dqo gX12_proving_0.2.2.2.2.2.2.2.2.2.2.2.2.1
theorem dX12_proving_22 : decode (mB 283) 22 = .ok (.istore_n 3, 1) := dqo gX12_proving_0.2.2.2.2.2.2.2.2.2.2.2.2.2.1
theorem dX12_proving_23 : decode (mB 283) 23 = .ok (.iload_n 3, 1) := dqo gX12_proving_0.2.2.2.2.2.2.2.2.2.2.2.2.2.2.1
theorem dX12_proving_24 : decode (mB 283) 24 = .ok (.aload_n 0, 1) := dqo gX12_proving_0.2.2.2.2.2.2.2.2.2.2.2.2.2.2.2
theorem gX12_proving_25 : dq 283 25 (.iload_n 1) 1 = true ∧ dq 283 26 (.iconst 2) 1 = true ∧ dq 283 27 (.invokevirtual 384) 3 = true ∧ dq 283 30 (.isub) 1 = true ∧ dq 283 31 (.ireturn) 1 = true ∧ dq 283 32 (.aload_n 0) 1 = true ∧ dq 283 33 (.getfield 92) 3 = true ∧ dq 283 36 (.iload_n 1) 1 = true ∧ dq 283 37 (.iaload) 1 = true ∧ dq 283 38 (.iconst 3) 1 = true ∧ dq 283 39 (.if_icmp .ne 12) 3 = true ∧ dq 283 42 (.aload_n 0) 1 = true ∧ dq 283 43 (.iload_n 1) 1 = true ∧ dq 283 44 (.iload_n 2) 1 = true ∧ dq 283 45 (.invokevirtual 399) 3 = true ∧ dq 283 48 (.goto 9) 3 = true := by decide +kernel
theorem dX12_proving_25 : decode (mB 283) 25 = .ok (.iload_n 1, 1) := dqo gX12_proving_25.1
theorem dX12_proving_26 : decode (mB 283) 26 = .ok (.iconst 2, 1) := dqo gX12_proving_25.2.1
theorem dX12_proving_27 : decode (mB 283) 27 = .ok (.invokevirtual 384, 3) := dqo gX12_proving_25.2.2.1
theorem dX12_proving_30 : decode (mB 283) 30 = .ok (.isub, 1) := dqo gX12_proving_25.2.2.2.1
theorem dX12_proving_31 : decode (mB 283) 31 = .ok (.ireturn, 1) := dqo gX12_proving_25.2.2.2.2.1
theorem dX12_proving_32 : decode (mB 283) 32 = .ok (.aload_n 0, 1) := dqo gX12_proving_25.2.2.2.2.2.1
theorem dX12_proving_33 : decode (mB 283) 33 = .ok (.getfield 92, 3) := dqo gX12_proving_25.2.2.2.2.2.2.1
theorem dX12_proving_36 : decode (mB 283) 36 = .ok (.iload_n 1, 1) := dqo gX12_proving_25.2.2.2.2.2.2.2.1
theorem dX12_proving_37 : decode (mB 283) 37 = .ok (.iaload, 1) := dqo gX12_proving_25.2.2.2.2.2.2.2.2.1
theorem dX12_proving_38 : decode (mB 283) 38 = .ok (.iconst 3, 1) := dqo gX12_proving_25.2.2.2.2.2.2.2.2.2.1
theorem dX12_proving_39 : decode (mB 283) 39 = .ok (.if_icmp .ne 12, 3) := dqo gX12_proving_25.2.2.2.2.2.2.2.2.2.2.1
theorem dX12_proving_42 : decode (mB 283) 42 = .ok (.aload_n 0, 1) := dqo gX12_proving_25.2.2.2.2.2.2.2.2.2.2.2.1
theorem dX12_proving_43 : decode (mB 283) 43 = .ok (.iload_n 1, 1) := dqo gX12_proving_25.2.2.2.2.2.2.2.2.2.2.2.2.1
theorem dX12_proving_44 : decode (mB 283) 44 = .ok (.iload_n 2, 1) := dqo gX12_proving_25.2.2.2.2.2.2.2.2.2.2.2.2.2.1
theorem dX12_proving_45 : decode (mB 283) 45 = .ok (.invokevirtual 399, 3) := dqo gX12_proving_25.2.2.2.2.2.2.2.2.2.2.2.2.2.2.1
theorem dX12_proving_48 : decode (mB 283) 48 = .ok (.goto 9, 3) := dqo gX12_proving_25.2.2.2.2.2.2.2.2.2.2.2.2.2.2.2
theorem gX12_proving_51 : dq 283 51 (.aload_n 0) 1 = true ∧ dq 283 52 (.iload_n 1) 1 = true ∧ dq 283 53 (.iload_n 2) 1 = true ∧ dq 283 54 (.invokevirtual 396) 3 = true ∧ dq 283 57 (.ireturn) 1 = true := by decide +kernel
theorem dX12_proving_51 : decode (mB 283) 51 = .ok (.aload_n 0, 1) := dqo gX12_proving_51.1
theorem dX12_proving_52 : decode (mB 283) 52 = .ok (.iload_n 1, 1) := dqo gX12_proving_51.2.1
theorem dX12_proving_53 : decode (mB 283) 53 = .ok (.iload_n 2, 1) := dqo gX12_proving_51.2.2.1
theorem dX12_proving_54 : decode (mB 283) 54 = .ok (.invokevirtual 396, 3) := dqo gX12_proving_51.2.2.2.1
theorem dX12_proving_57 : decode (mB 283) 57 = .ok (.ireturn, 1) := dqo gX12_proving_51.2.2.2.2
theorem gX12_plainTells_0 : dq 284 0 (.aload_n 0) 1 = true ∧ dq 284 1 (.iconst 2) 1 = true ∧ dq 284 2 (.invokevirtual 371) 3 = true ∧ dq 284 5 (.aload_n 0) 1 = true ∧ dq 284 6 (.iload_n 1) 1 = true ∧ dq 284 7 (.iload_n 2) 1 = true ∧ dq 284 8 (.invokevirtual 402) 3 = true ∧ dq 284 11 (.istore_n 3) 1 = true ∧ dq 284 12 (.iload_n 3) 1 = true ∧ dq 284 13 (.aload_n 0) 1 = true ∧ dq 284 14 (.iload_n 1) 1 = true ∧ dq 284 15 (.iconst 1) 1 = true ∧ dq 284 16 (.invokevirtual 393) 3 = true ∧ dq 284 19 (.isub) 1 = true ∧ dq 284 20 (.ireturn) 1 = true := by decide +kernel
theorem dX12_plainTells_0 : decode (mB 284) 0 = .ok (.aload_n 0, 1) := dqo gX12_plainTells_0.1
theorem dX12_plainTells_1 : decode (mB 284) 1 = .ok (.iconst 2, 1) := dqo gX12_plainTells_0.2.1
theorem dX12_plainTells_2 : decode (mB 284) 2 = .ok (.invokevirtual 371, 3) := dqo gX12_plainTells_0.2.2.1
theorem dX12_plainTells_5 : decode (mB 284) 5 = .ok (.aload_n 0, 1) := dqo gX12_plainTells_0.2.2.2.1
theorem dX12_plainTells_6 : decode (mB 284) 6 = .ok (.iload_n 1, 1) := dqo gX12_plainTells_0.2.2.2.2.1
theorem dX12_plainTells_7 : decode (mB 284) 7 = .ok (.iload_n 2, 1) := dqo gX12_plainTells_0.2.2.2.2.2.1
theorem dX12_plainTells_8 : decode (mB 284) 8 = .ok (.invokevirtual 402, 3) := dqo gX12_plainTells_0.2.2.2.2.2.2.1
theorem dX12_plainTells_11 : decode (mB 284) 11 = .ok (.istore_n 3, 1) := dqo gX12_plainTells_0.2.2.2.2.2.2.2.1
theorem dX12_plainTells_12 : decode (mB 284) 12 = .ok (.iload_n 3, 1) := dqo gX12_plainTells_0.2.2.2.2.2.2.2.2.1
theorem dX12_plainTells_13 : decode (mB 284) 13 = .ok (.aload_n 0, 1) := dqo gX12_plainTells_0.2.2.2.2.2.2.2.2.2.1
theorem dX12_plainTells_14 : decode (mB 284) 14 = .ok (.iload_n 1, 1) := dqo gX12_plainTells_0.2.2.2.2.2.2.2.2.2.2.1
theorem dX12_plainTells_15 : decode (mB 284) 15 = .ok (.iconst 1, 1) := dqo gX12_plainTells_0.2.2.2.2.2.2.2.2.2.2.2.1
theorem dX12_plainTells_16 : decode (mB 284) 16 = .ok (.invokevirtual 393, 3) := dqo gX12_plainTells_0.2.2.2.2.2.2.2.2.2.2.2.2.1
theorem dX12_plainTells_19 : decode (mB 284) 19 = .ok (.isub, 1) := dqo gX12_plainTells_0.2.2.2.2.2.2.2.2.2.2.2.2.2.1
theorem dX12_plainTells_20 : decode (mB 284) 20 = .ok (.ireturn, 1) := dqo gX12_plainTells_0.2.2.2.2.2.2.2.2.2.2.2.2.2.2
theorem gX12_telling_0 : dq 285 0 (.aload_n 0) 1 = true ∧ dq 285 1 (.getfield 92) 3 = true ∧ dq 285 4 (.iload_n 1) 1 = true ∧ dq 285 5 (.iaload) 1 = true ∧ dq 285 6 (.iconst 4) 1 = true ∧ dq 285 7 (.if_icmp .ne 18) 3 = true ∧ dq 285 10 (.aload_n 0) 1 = true ∧ dq 285 11 (.bipush 50) 2 = true ∧ dq 285 13 (.invokevirtual 371) 3 = true ∧ dq 285 16 (.aload_n 0) 1 = true ∧ dq 285 17 (.iload_n 1) 1 = true ∧ dq 285 18 (.iload_n 2) 1 = true ∧ dq 285 19 (.invokevirtual 405) 3 = true ∧ dq 285 22 (.iconst 5) 1 = true ∧ dq 285 23 (.ixor) 1 = true ∧ dq 285 24 (.ireturn) 1 = true := by decide +kernel
theorem dX12_telling_0 : decode (mB 285) 0 = .ok (.aload_n 0, 1) := dqo gX12_telling_0.1
theorem dX12_telling_1 : decode (mB 285) 1 = .ok (.getfield 92, 3) := dqo gX12_telling_0.2.1
theorem dX12_telling_4 : decode (mB 285) 4 = .ok (.iload_n 1, 1) := dqo gX12_telling_0.2.2.1
theorem dX12_telling_5 : decode (mB 285) 5 = .ok (.iaload, 1) := dqo gX12_telling_0.2.2.2.1
theorem dX12_telling_6 : decode (mB 285) 6 = .ok (.iconst 4, 1) := dqo gX12_telling_0.2.2.2.2.1
theorem dX12_telling_7 : decode (mB 285) 7 = .ok (.if_icmp .ne 18, 3) := dqo gX12_telling_0.2.2.2.2.2.1
theorem dX12_telling_10 : decode (mB 285) 10 = .ok (.aload_n 0, 1) := dqo gX12_telling_0.2.2.2.2.2.2.1
theorem dX12_telling_11 : decode (mB 285) 11 = .ok (.bipush 50, 2) := dqo gX12_telling_0.2.2.2.2.2.2.2.1
theorem dX12_telling_13 : decode (mB 285) 13 = .ok (.invokevirtual 371, 3) := dqo gX12_telling_0.2.2.2.2.2.2.2.2.1
theorem dX12_telling_16 : decode (mB 285) 16 = .ok (.aload_n 0, 1) := dqo gX12_telling_0.2.2.2.2.2.2.2.2.2.1
theorem dX12_telling_17 : decode (mB 285) 17 = .ok (.iload_n 1, 1) := dqo gX12_telling_0.2.2.2.2.2.2.2.2.2.2.1
theorem dX12_telling_18 : decode (mB 285) 18 = .ok (.iload_n 2, 1) := dqo gX12_telling_0.2.2.2.2.2.2.2.2.2.2.2.1
theorem dX12_telling_19 : decode (mB 285) 19 = .ok (.invokevirtual 405, 3) := dqo gX12_telling_0.2.2.2.2.2.2.2.2.2.2.2.2.1
theorem dX12_telling_22 : decode (mB 285) 22 = .ok (.iconst 5, 1) := dqo gX12_telling_0.2.2.2.2.2.2.2.2.2.2.2.2.2.1
theorem dX12_telling_23 : decode (mB 285) 23 = .ok (.ixor, 1) := dqo gX12_telling_0.2.2.2.2.2.2.2.2.2.2.2.2.2.2.1
theorem dX12_telling_24 : decode (mB 285) 24 = .ok (.ireturn, 1) := dqo gX12_telling_0.2.2.2.2.2.2.2.2.2.2.2.2.2.2.2
theorem gX12_telling_25 : dq 285 25 (.aload_n 0) 1 = true ∧ dq 285 26 (.getfield 92) 3 = true ∧ dq 285 29 (.iload_n 1) 1 = true ∧ dq 285 30 (.iaload) 1 = true ∧ dq 285 31 (.iconst 5) 1 = true ∧ dq 285 32 (.if_icmp .ne 18) 3 = true ∧ dq 285 35 (.aload_n 0) 1 = true ∧ dq 285 36 (.bipush 61) 2 = true ∧ dq 285 38 (.invokevirtual 371) 3 = true ∧ dq 285 41 (.aload_n 0) 1 = true ∧ dq 285 42 (.iload_n 1) 1 = true ∧ dq 285 43 (.iload_n 2) 1 = true ∧ dq 285 44 (.invokevirtual 405) 3 = true ∧ dq 285 47 (.iconst 1) 1 = true ∧ dq 285 48 (.iadd) 1 = true ∧ dq 285 49 (.ireturn) 1 = true := by decide +kernel
theorem dX12_telling_25 : decode (mB 285) 25 = .ok (.aload_n 0, 1) := dqo gX12_telling_25.1
theorem dX12_telling_26 : decode (mB 285) 26 = .ok (.getfield 92, 3) := dqo gX12_telling_25.2.1
theorem dX12_telling_29 : decode (mB 285) 29 = .ok (.iload_n 1, 1) := dqo gX12_telling_25.2.2.1
theorem dX12_telling_30 : decode (mB 285) 30 = .ok (.iaload, 1) := dqo gX12_telling_25.2.2.2.1
theorem dX12_telling_31 : decode (mB 285) 31 = .ok (.iconst 5, 1) := dqo gX12_telling_25.2.2.2.2.1
theorem dX12_telling_32 : decode (mB 285) 32 = .ok (.if_icmp .ne 18, 3) := dqo gX12_telling_25.2.2.2.2.2.1
theorem dX12_telling_35 : decode (mB 285) 35 = .ok (.aload_n 0, 1) := dqo gX12_telling_25.2.2.2.2.2.2.1
theorem dX12_telling_36 : decode (mB 285) 36 = .ok (.bipush 61, 2) := dqo gX12_telling_25.2.2.2.2.2.2.2.1
theorem dX12_telling_38 : decode (mB 285) 38 = .ok (.invokevirtual 371, 3) := dqo gX12_telling_25.2.2.2.2.2.2.2.2.1
theorem dX12_telling_41 : decode (mB 285) 41 = .ok (.aload_n 0, 1) := dqo gX12_telling_25.2.2.2.2.2.2.2.2.2.1
theorem dX12_telling_42 : decode (mB 285) 42 = .ok (.iload_n 1, 1) := dqo gX12_telling_25.2.2.2.2.2.2.2.2.2.2.1
theorem dX12_telling_43 : decode (mB 285) 43 = .ok (.iload_n 2, 1) := dqo gX12_telling_25.2.2.2.2.2.2.2.2.2.2.2.1
theorem dX12_telling_44 : decode (mB 285) 44 = .ok (.invokevirtual 405, 3) := dqo gX12_telling_25.2.2.2.2.2.2.2.2.2.2.2.2.1
theorem dX12_telling_47 : decode (mB 285) 47 = .ok (.iconst 1, 1) := dqo gX12_telling_25.2.2.2.2.2.2.2.2.2.2.2.2.2.1
theorem dX12_telling_48 : decode (mB 285) 48 = .ok (.iadd, 1) := dqo gX12_telling_25.2.2.2.2.2.2.2.2.2.2.2.2.2.2.1
theorem dX12_telling_49 : decode (mB 285) 49 = .ok (.ireturn, 1) := dqo gX12_telling_25.2.2.2.2.2.2.2.2.2.2.2.2.2.2.2
theorem gX12_telling_50 : dq 285 50 (.aload_n 0) 1 = true ∧ dq 285 51 (.iload_n 1) 1 = true ∧ dq 285 52 (.iload_n 2) 1 = true ∧ dq 285 53 (.invokevirtual 405) 3 = true ∧ dq 285 56 (.ireturn) 1 = true := by decide +kernel
theorem dX12_telling_50 : decode (mB 285) 50 = .ok (.aload_n 0, 1) := dqo gX12_telling_50.1
theorem dX12_telling_51 : decode (mB 285) 51 = .ok (.iload_n 1, 1) := dqo gX12_telling_50.2.1
theorem dX12_telling_52 : decode (mB 285) 52 = .ok (.iload_n 2, 1) := dqo gX12_telling_50.2.2.1
theorem dX12_telling_53 : decode (mB 285) 53 = .ok (.invokevirtual 405, 3) := dqo gX12_telling_50.2.2.2.1
theorem dX12_telling_56 : decode (mB 285) 56 = .ok (.ireturn, 1) := dqo gX12_telling_50.2.2.2.2
theorem gX12_act_0 : dq 286 0 (.aload_n 0) 1 = true ∧ dq 286 1 (.iconst 0) 1 = true ∧ dq 286 2 (.putfield 368) 3 = true ∧ dq 286 5 (.aload_n 0) 1 = true ∧ dq 286 6 (.iload_n 1) 1 = true ∧ dq 286 7 (.invokevirtual 408) 3 = true ∧ dq 286 10 (.ifCond .eq 12) 3 = true ∧ dq 286 13 (.iload_n 2) 1 = true ∧ dq 286 14 (.iconst 0) 1 = true ∧ dq 286 15 (.iconst 3) 1 = true ∧ dq 286 16 (.invokestatic 118) 3 = true ∧ dq 286 19 (.ifCond .ne 5) 3 = true ∧ dq 286 22 (.iconst 0) 1 = true ∧ dq 286 23 (.ireturn) 1 = true ∧ dq 286 24 (.iload_n 2) 1 = true ∧ dq 286 25 (.ifCond .ne 12) 3 = true := by decide +kernel
theorem dX12_act_0 : decode (mB 286) 0 = .ok (.aload_n 0, 1) := dqo gX12_act_0.1
theorem dX12_act_1 : decode (mB 286) 1 = .ok (.iconst 0, 1) := dqo gX12_act_0.2.1
theorem dX12_act_2 : decode (mB 286) 2 = .ok (.putfield 368, 3) := dqo gX12_act_0.2.2.1
theorem dX12_act_5 : decode (mB 286) 5 = .ok (.aload_n 0, 1) := dqo gX12_act_0.2.2.2.1
theorem dX12_act_6 : decode (mB 286) 6 = .ok (.iload_n 1, 1) := dqo gX12_act_0.2.2.2.2.1
theorem dX12_act_7 : decode (mB 286) 7 = .ok (.invokevirtual 408, 3) := dqo gX12_act_0.2.2.2.2.2.1
theorem dX12_act_10 : decode (mB 286) 10 = .ok (.ifCond .eq 12, 3) := dqo gX12_act_0.2.2.2.2.2.2.1
theorem dX12_act_13 : decode (mB 286) 13 = .ok (.iload_n 2, 1) := dqo gX12_act_0.2.2.2.2.2.2.2.1
theorem dX12_act_14 : decode (mB 286) 14 = .ok (.iconst 0, 1) := dqo gX12_act_0.2.2.2.2.2.2.2.2.1
theorem dX12_act_15 : decode (mB 286) 15 = .ok (.iconst 3, 1) := dqo gX12_act_0.2.2.2.2.2.2.2.2.2.1
theorem dX12_act_16 : decode (mB 286) 16 = .ok (.invokestatic 118, 3) := dqo gX12_act_0.2.2.2.2.2.2.2.2.2.2.1
theorem dX12_act_19 : decode (mB 286) 19 = .ok (.ifCond .ne 5, 3) := dqo gX12_act_0.2.2.2.2.2.2.2.2.2.2.2.1
theorem dX12_act_22 : decode (mB 286) 22 = .ok (.iconst 0, 1) := dqo gX12_act_0.2.2.2.2.2.2.2.2.2.2.2.2.1
theorem dX12_act_23 : decode (mB 286) 23 = .ok (.ireturn, 1) := dqo gX12_act_0.2.2.2.2.2.2.2.2.2.2.2.2.2.1
theorem dX12_act_24 : decode (mB 286) 24 = .ok (.iload_n 2, 1) := dqo gX12_act_0.2.2.2.2.2.2.2.2.2.2.2.2.2.2.1
theorem dX12_act_25 : decode (mB 286) 25 = .ok (.ifCond .ne 12, 3) := dqo gX12_act_0.2.2.2.2.2.2.2.2.2.2.2.2.2.2.2
theorem gX12_act_28 : dq 286 28 (.aload_n 0) 1 = true ∧ dq 286 29 (.iload_n 1) 1 = true ∧ dq 286 30 (.iload_n 3) 1 = true ∧ dq 286 31 (.invokevirtual 384) 3 = true ∧ dq 286 34 (.goto 37) 3 = true ∧ dq 286 37 (.iload_n 2) 1 = true ∧ dq 286 38 (.iconst 1) 1 = true ∧ dq 286 39 (.if_icmp .ne 12) 3 = true ∧ dq 286 42 (.aload_n 0) 1 = true ∧ dq 286 43 (.iload_n 1) 1 = true ∧ dq 286 44 (.iload_n 3) 1 = true ∧ dq 286 45 (.invokevirtual 402) 3 = true ∧ dq 286 48 (.goto 23) 3 = true ∧ dq 286 51 (.iload_n 2) 1 = true ∧ dq 286 52 (.iconst 2) 1 = true ∧ dq 286 53 (.if_icmp .ne 12) 3 = true := by decide +kernel
theorem dX12_act_28 : decode (mB 286) 28 = .ok (.aload_n 0, 1) := dqo gX12_act_28.1
theorem dX12_act_29 : decode (mB 286) 29 = .ok (.iload_n 1, 1) := dqo gX12_act_28.2.1
theorem dX12_act_30 : decode (mB 286) 30 = .ok (.iload_n 3, 1) := dqo gX12_act_28.2.2.1
theorem dX12_act_31 : decode (mB 286) 31 = .ok (.invokevirtual 384, 3) := dqo gX12_act_28.2.2.2.1
theorem dX12_act_34 : decode (mB 286) 34 = .ok (.goto 37, 3) := dqo gX12_act_28.2.2.2.2.1
theorem dX12_act_37 : decode (mB 286) 37 = .ok (.iload_n 2, 1) := dqo gX12_act_28.2.2.2.2.2.1
theorem dX12_act_38 : decode (mB 286) 38 = .ok (.iconst 1, 1) := dqo gX12_act_28.2.2.2.2.2.2.1
theorem dX12_act_39 : decode (mB 286) 39 = .ok (.if_icmp .ne 12, 3) := dqo gX12_act_28.2.2.2.2.2.2.2.1
theorem dX12_act_42 : decode (mB 286) 42 = .ok (.aload_n 0, 1) := dqo gX12_act_28.2.2.2.2.2.2.2.2.1
theorem dX12_act_43 : decode (mB 286) 43 = .ok (.iload_n 1, 1) := dqo gX12_act_28.2.2.2.2.2.2.2.2.2.1
theorem dX12_act_44 : decode (mB 286) 44 = .ok (.iload_n 3, 1) := dqo gX12_act_28.2.2.2.2.2.2.2.2.2.2.1
theorem dX12_act_45 : decode (mB 286) 45 = .ok (.invokevirtual 402, 3) := dqo gX12_act_28.2.2.2.2.2.2.2.2.2.2.2.1
theorem dX12_act_48 : decode (mB 286) 48 = .ok (.goto 23, 3) := dqo gX12_act_28.2.2.2.2.2.2.2.2.2.2.2.2.1
theorem dX12_act_51 : decode (mB 286) 51 = .ok (.iload_n 2, 1) := dqo gX12_act_28.2.2.2.2.2.2.2.2.2.2.2.2.2.1
theorem dX12_act_52 : decode (mB 286) 52 = .ok (.iconst 2, 1) := dqo gX12_act_28.2.2.2.2.2.2.2.2.2.2.2.2.2.2.1
theorem dX12_act_53 : decode (mB 286) 53 = .ok (.if_icmp .ne 12, 3) := dqo gX12_act_28.2.2.2.2.2.2.2.2.2.2.2.2.2.2.2
theorem gX12_act_56 : dq 286 56 (.aload_n 0) 1 = true ∧ dq 286 57 (.iload_n 1) 1 = true ∧ dq 286 58 (.iload_n 3) 1 = true ∧ dq 286 59 (.invokevirtual 393) 3 = true ∧ dq 286 62 (.goto 9) 3 = true ∧ dq 286 65 (.aload_n 0) 1 = true ∧ dq 286 66 (.iload_n 1) 1 = true ∧ dq 286 67 (.iload_n 3) 1 = true ∧ dq 286 68 (.invokevirtual 411) 3 = true ∧ dq 286 71 (.ireturn) 1 = true := by decide +kernel
theorem dX12_act_56 : decode (mB 286) 56 = .ok (.aload_n 0, 1) := dqo gX12_act_56.1
theorem dX12_act_57 : decode (mB 286) 57 = .ok (.iload_n 1, 1) := dqo gX12_act_56.2.1
theorem dX12_act_58 : decode (mB 286) 58 = .ok (.iload_n 3, 1) := dqo gX12_act_56.2.2.1
theorem dX12_act_59 : decode (mB 286) 59 = .ok (.invokevirtual 393, 3) := dqo gX12_act_56.2.2.2.1
theorem dX12_act_62 : decode (mB 286) 62 = .ok (.goto 9, 3) := dqo gX12_act_56.2.2.2.2.1
theorem dX12_act_65 : decode (mB 286) 65 = .ok (.aload_n 0, 1) := dqo gX12_act_56.2.2.2.2.2.1
theorem dX12_act_66 : decode (mB 286) 66 = .ok (.iload_n 1, 1) := dqo gX12_act_56.2.2.2.2.2.2.1
theorem dX12_act_67 : decode (mB 286) 67 = .ok (.iload_n 3, 1) := dqo gX12_act_56.2.2.2.2.2.2.2.1
theorem dX12_act_68 : decode (mB 286) 68 = .ok (.invokevirtual 411, 3) := dqo gX12_act_56.2.2.2.2.2.2.2.2.1
theorem dX12_act_71 : decode (mB 286) 71 = .ok (.ireturn, 1) := dqo gX12_act_56.2.2.2.2.2.2.2.2.2
theorem gX12_count_0 : dq 287 0 (.iload_n 1) 1 = true ∧ dq 287 1 (.tableswitch 69 0 5 #[39, 44, 49, 54, 59, 64]) 39 = true ∧ dq 287 40 (.aload_n 0) 1 = true ∧ dq 287 41 (.getfield 115) 3 = true ∧ dq 287 44 (.ireturn) 1 = true ∧ dq 287 45 (.aload_n 0) 1 = true ∧ dq 287 46 (.getfield 122) 3 = true ∧ dq 287 49 (.ireturn) 1 = true ∧ dq 287 50 (.aload_n 0) 1 = true ∧ dq 287 51 (.getfield 178) 3 = true ∧ dq 287 54 (.ireturn) 1 = true ∧ dq 287 55 (.aload_n 0) 1 = true ∧ dq 287 56 (.getfield 149) 3 = true ∧ dq 287 59 (.ireturn) 1 = true ∧ dq 287 60 (.aload_n 0) 1 = true ∧ dq 287 61 (.getfield 365) 3 = true := by decide +kernel
theorem dX12_count_0 : decode (mB 287) 0 = .ok (.iload_n 1, 1) := dqo gX12_count_0.1
theorem dX12_count_1 : decode (mB 287) 1 = .ok (.tableswitch 69 0 5 #[39, 44, 49, 54, 59, 64], 39) := dqo gX12_count_0.2.1
theorem dX12_count_40 : decode (mB 287) 40 = .ok (.aload_n 0, 1) := dqo gX12_count_0.2.2.1
theorem dX12_count_41 : decode (mB 287) 41 = .ok (.getfield 115, 3) := dqo gX12_count_0.2.2.2.1
theorem dX12_count_44 : decode (mB 287) 44 = .ok (.ireturn, 1) := dqo gX12_count_0.2.2.2.2.1
theorem dX12_count_45 : decode (mB 287) 45 = .ok (.aload_n 0, 1) := dqo gX12_count_0.2.2.2.2.2.1
theorem dX12_count_46 : decode (mB 287) 46 = .ok (.getfield 122, 3) := dqo gX12_count_0.2.2.2.2.2.2.1
theorem dX12_count_49 : decode (mB 287) 49 = .ok (.ireturn, 1) := dqo gX12_count_0.2.2.2.2.2.2.2.1
theorem dX12_count_50 : decode (mB 287) 50 = .ok (.aload_n 0, 1) := dqo gX12_count_0.2.2.2.2.2.2.2.2.1
theorem dX12_count_51 : decode (mB 287) 51 = .ok (.getfield 178, 3) := dqo gX12_count_0.2.2.2.2.2.2.2.2.2.1
theorem dX12_count_54 : decode (mB 287) 54 = .ok (.ireturn, 1) := dqo gX12_count_0.2.2.2.2.2.2.2.2.2.2.1
theorem dX12_count_55 : decode (mB 287) 55 = .ok (.aload_n 0, 1) := dqo gX12_count_0.2.2.2.2.2.2.2.2.2.2.2.1
theorem dX12_count_56 : decode (mB 287) 56 = .ok (.getfield 149, 3) := dqo gX12_count_0.2.2.2.2.2.2.2.2.2.2.2.2.1
theorem dX12_count_59 : decode (mB 287) 59 = .ok (.ireturn, 1) := dqo gX12_count_0.2.2.2.2.2.2.2.2.2.2.2.2.2.1
theorem dX12_count_60 : decode (mB 287) 60 = .ok (.aload_n 0, 1) := dqo gX12_count_0.2.2.2.2.2.2.2.2.2.2.2.2.2.2.1
theorem dX12_count_61 : decode (mB 287) 61 = .ok (.getfield 365, 3) := dqo gX12_count_0.2.2.2.2.2.2.2.2.2.2.2.2.2.2.2
theorem gX12_count_64 : dq 287 64 (.ireturn) 1 = true ∧ dq 287 65 (.aload_n 0) 1 = true ∧ dq 287 66 (.getfield 368) 3 = true ∧ dq 287 69 (.ireturn) 1 = true ∧ dq 287 70 (.iconst (-1)) 1 = true ∧ dq 287 71 (.ireturn) 1 = true := by decide +kernel
theorem dX12_count_64 : decode (mB 287) 64 = .ok (.ireturn, 1) := dqo gX12_count_64.1
theorem dX12_count_65 : decode (mB 287) 65 = .ok (.aload_n 0, 1) := dqo gX12_count_64.2.1
theorem dX12_count_66 : decode (mB 287) 66 = .ok (.getfield 368, 3) := dqo gX12_count_64.2.2.1
theorem dX12_count_69 : decode (mB 287) 69 = .ok (.ireturn, 1) := dqo gX12_count_64.2.2.2.1
theorem dX12_count_70 : decode (mB 287) 70 = .ok (.iconst (-1), 1) := dqo gX12_count_64.2.2.2.2.1
theorem dX12_count_71 : decode (mB 287) 71 = .ok (.ireturn, 1) := dqo gX12_count_64.2.2.2.2.2
theorem gX12_isShelf_0 : dq 288 0 (.iload_n 0) 1 = true ∧ dq 288 1 (.iconst 0) 1 = true ∧ dq 288 2 (.iconst 5) 1 = true ∧ dq 288 3 (.invokestatic 118) 3 = true ∧ dq 288 6 (.ireturn) 1 = true := by decide +kernel
theorem dX12_isShelf_0 : decode (mB 288) 0 = .ok (.iload_n 0, 1) := dqo gX12_isShelf_0.1
theorem dX12_isShelf_1 : decode (mB 288) 1 = .ok (.iconst 0, 1) := dqo gX12_isShelf_0.2.1
theorem dX12_isShelf_2 : decode (mB 288) 2 = .ok (.iconst 5, 1) := dqo gX12_isShelf_0.2.2.1
theorem dX12_isShelf_3 : decode (mB 288) 3 = .ok (.invokestatic 118, 3) := dqo gX12_isShelf_0.2.2.2.1
theorem dX12_isShelf_6 : decode (mB 288) 6 = .ok (.ireturn, 1) := dqo gX12_isShelf_0.2.2.2.2
theorem gX12_keep_0 : dq 289 0 (.iload_n 1) 1 = true ∧ dq 289 1 (.invokestatic 137) 3 = true ∧ dq 289 4 (.ifCond .eq 16) 3 = true ∧ dq 289 7 (.iload_n 2) 1 = true ∧ dq 289 8 (.iconst (-1)) 1 = true ∧ dq 289 9 (.if_icmp .eq 13) 3 = true ∧ dq 289 12 (.aload_n 0) 1 = true ∧ dq 289 13 (.iload_n 2) 1 = true ∧ dq 289 14 (.invokevirtual 408) 3 = true ∧ dq 289 17 (.ifCond .ne 5) 3 = true ∧ dq 289 20 (.iconst (-1)) 1 = true ∧ dq 289 21 (.ireturn) 1 = true ∧ dq 289 22 (.aload_n 0) 1 = true ∧ dq 289 23 (.getfield 98) 3 = true ∧ dq 289 26 (.iload_n 1) 1 = true ∧ dq 289 27 (.iload_n 2) 1 = true := by decide +kernel
theorem dX12_keep_0 : decode (mB 289) 0 = .ok (.iload_n 1, 1) := dqo gX12_keep_0.1
theorem dX12_keep_1 : decode (mB 289) 1 = .ok (.invokestatic 137, 3) := dqo gX12_keep_0.2.1
theorem dX12_keep_4 : decode (mB 289) 4 = .ok (.ifCond .eq 16, 3) := dqo gX12_keep_0.2.2.1
theorem dX12_keep_7 : decode (mB 289) 7 = .ok (.iload_n 2, 1) := dqo gX12_keep_0.2.2.2.1
theorem dX12_keep_8 : decode (mB 289) 8 = .ok (.iconst (-1), 1) := dqo gX12_keep_0.2.2.2.2.1
theorem dX12_keep_9 : decode (mB 289) 9 = .ok (.if_icmp .eq 13, 3) := dqo gX12_keep_0.2.2.2.2.2.1
theorem dX12_keep_12 : decode (mB 289) 12 = .ok (.aload_n 0, 1) := dqo gX12_keep_0.2.2.2.2.2.2.1
theorem dX12_keep_13 : decode (mB 289) 13 = .ok (.iload_n 2, 1) := dqo gX12_keep_0.2.2.2.2.2.2.2.1
theorem dX12_keep_14 : decode (mB 289) 14 = .ok (.invokevirtual 408, 3) := dqo gX12_keep_0.2.2.2.2.2.2.2.2.1
theorem dX12_keep_17 : decode (mB 289) 17 = .ok (.ifCond .ne 5, 3) := dqo gX12_keep_0.2.2.2.2.2.2.2.2.2.1
theorem dX12_keep_20 : decode (mB 289) 20 = .ok (.iconst (-1), 1) := dqo gX12_keep_0.2.2.2.2.2.2.2.2.2.2.1
theorem dX12_keep_21 : decode (mB 289) 21 = .ok (.ireturn, 1) := dqo gX12_keep_0.2.2.2.2.2.2.2.2.2.2.2.1
theorem dX12_keep_22 : decode (mB 289) 22 = .ok (.aload_n 0, 1) := dqo gX12_keep_0.2.2.2.2.2.2.2.2.2.2.2.2.1
theorem dX12_keep_23 : decode (mB 289) 23 = .ok (.getfield 98, 3) := dqo gX12_keep_0.2.2.2.2.2.2.2.2.2.2.2.2.2.1
theorem dX12_keep_26 : decode (mB 289) 26 = .ok (.iload_n 1, 1) := dqo gX12_keep_0.2.2.2.2.2.2.2.2.2.2.2.2.2.2.1
theorem dX12_keep_27 : decode (mB 289) 27 = .ok (.iload_n 2, 1) := dqo gX12_keep_0.2.2.2.2.2.2.2.2.2.2.2.2.2.2.2
theorem gX12_keep_28 : dq 289 28 (.iastore) 1 = true ∧ dq 289 29 (.iconst 1) 1 = true ∧ dq 289 30 (.ireturn) 1 = true := by decide +kernel
theorem dX12_keep_28 : decode (mB 289) 28 = .ok (.iastore, 1) := dqo gX12_keep_28.1
theorem dX12_keep_29 : decode (mB 289) 29 = .ok (.iconst 1, 1) := dqo gX12_keep_28.2.1
theorem dX12_keep_30 : decode (mB 289) 30 = .ok (.ireturn, 1) := dqo gX12_keep_28.2.2
theorem gX12_row_0 : dq 290 0 (.iload_n 1) 1 = true ∧ dq 290 1 (.invokestatic 137) 3 = true ∧ dq 290 4 (.ifCond .eq 18) 3 = true ∧ dq 290 7 (.iload_n 2) 1 = true ∧ dq 290 8 (.iconst 0) 1 = true ∧ dq 290 9 (.iconst 4) 1 = true ∧ dq 290 10 (.invokestatic 118) 3 = true ∧ dq 290 13 (.ifCond .eq 9) 3 = true ∧ dq 290 16 (.iload_n 3) 1 = true ∧ dq 290 17 (.bipush 60) 2 = true ∧ dq 290 19 (.if_icmp .le 5) 3 = true ∧ dq 290 22 (.iconst (-1)) 1 = true ∧ dq 290 23 (.ireturn) 1 = true ∧ dq 290 24 (.iload_n 3) 1 = true ∧ dq 290 25 (.ifCond .ge 6) 3 = true ∧ dq 290 28 (.bipush (-14)) 2 = true := by decide +kernel
theorem dX12_row_0 : decode (mB 290) 0 = .ok (.iload_n 1, 1) := dqo gX12_row_0.1
theorem dX12_row_1 : decode (mB 290) 1 = .ok (.invokestatic 137, 3) := dqo gX12_row_0.2.1
theorem dX12_row_4 : decode (mB 290) 4 = .ok (.ifCond .eq 18, 3) := dqo gX12_row_0.2.2.1
theorem dX12_row_7 : decode (mB 290) 7 = .ok (.iload_n 2, 1) := dqo gX12_row_0.2.2.2.1
theorem dX12_row_8 : decode (mB 290) 8 = .ok (.iconst 0, 1) := dqo gX12_row_0.2.2.2.2.1
theorem dX12_row_9 : decode (mB 290) 9 = .ok (.iconst 4, 1) := dqo gX12_row_0.2.2.2.2.2.1
theorem dX12_row_10 : decode (mB 290) 10 = .ok (.invokestatic 118, 3) := dqo gX12_row_0.2.2.2.2.2.2.1
theorem dX12_row_13 : decode (mB 290) 13 = .ok (.ifCond .eq 9, 3) := dqo gX12_row_0.2.2.2.2.2.2.2.1
theorem dX12_row_16 : decode (mB 290) 16 = .ok (.iload_n 3, 1) := dqo gX12_row_0.2.2.2.2.2.2.2.2.1
theorem dX12_row_17 : decode (mB 290) 17 = .ok (.bipush 60, 2) := dqo gX12_row_0.2.2.2.2.2.2.2.2.2.1
theorem dX12_row_19 : decode (mB 290) 19 = .ok (.if_icmp .le 5, 3) := dqo gX12_row_0.2.2.2.2.2.2.2.2.2.2.1
theorem dX12_row_22 : decode (mB 290) 22 = .ok (.iconst (-1), 1) := dqo gX12_row_0.2.2.2.2.2.2.2.2.2.2.2.1
theorem dX12_row_23 : decode (mB 290) 23 = .ok (.ireturn, 1) := dqo gX12_row_0.2.2.2.2.2.2.2.2.2.2.2.2.1
theorem dX12_row_24 : decode (mB 290) 24 = .ok (.iload_n 3, 1) := dqo gX12_row_0.2.2.2.2.2.2.2.2.2.2.2.2.2.1
theorem dX12_row_25 : decode (mB 290) 25 = .ok (.ifCond .ge 6, 3) := dqo gX12_row_0.2.2.2.2.2.2.2.2.2.2.2.2.2.2.1
theorem dX12_row_28 : decode (mB 290) 28 = .ok (.bipush (-14), 2) := dqo gX12_row_0.2.2.2.2.2.2.2.2.2.2.2.2.2.2.2
theorem gX12_row_30 : dq 290 30 (.ireturn) 1 = true ∧ dq 290 31 (.aload_n 0) 1 = true ∧ dq 290 32 (.getfield 98) 3 = true ∧ dq 290 35 (.iload_n 1) 1 = true ∧ dq 290 36 (.bipush (-2)) 2 = true ∧ dq 290 38 (.iload_n 2) 1 = true ∧ dq 290 39 (.isub) 1 = true ∧ dq 290 40 (.iastore) 1 = true ∧ dq 290 41 (.aload_n 0) 1 = true ∧ dq 290 42 (.getfield 101) 3 = true ∧ dq 290 45 (.iload_n 1) 1 = true ∧ dq 290 46 (.iload_n 3) 1 = true ∧ dq 290 47 (.iastore) 1 = true ∧ dq 290 48 (.bipush 60) 2 = true ∧ dq 290 50 (.iload_n 1) 1 = true ∧ dq 290 51 (.imul) 1 = true := by decide +kernel
theorem dX12_row_30 : decode (mB 290) 30 = .ok (.ireturn, 1) := dqo gX12_row_30.1
theorem dX12_row_31 : decode (mB 290) 31 = .ok (.aload_n 0, 1) := dqo gX12_row_30.2.1
theorem dX12_row_32 : decode (mB 290) 32 = .ok (.getfield 98, 3) := dqo gX12_row_30.2.2.1
theorem dX12_row_35 : decode (mB 290) 35 = .ok (.iload_n 1, 1) := dqo gX12_row_30.2.2.2.1
theorem dX12_row_36 : decode (mB 290) 36 = .ok (.bipush (-2), 2) := dqo gX12_row_30.2.2.2.2.1
theorem dX12_row_38 : decode (mB 290) 38 = .ok (.iload_n 2, 1) := dqo gX12_row_30.2.2.2.2.2.1
theorem dX12_row_39 : decode (mB 290) 39 = .ok (.isub, 1) := dqo gX12_row_30.2.2.2.2.2.2.1
theorem dX12_row_40 : decode (mB 290) 40 = .ok (.iastore, 1) := dqo gX12_row_30.2.2.2.2.2.2.2.1
theorem dX12_row_41 : decode (mB 290) 41 = .ok (.aload_n 0, 1) := dqo gX12_row_30.2.2.2.2.2.2.2.2.1
theorem dX12_row_42 : decode (mB 290) 42 = .ok (.getfield 101, 3) := dqo gX12_row_30.2.2.2.2.2.2.2.2.2.1
theorem dX12_row_45 : decode (mB 290) 45 = .ok (.iload_n 1, 1) := dqo gX12_row_30.2.2.2.2.2.2.2.2.2.2.1
theorem dX12_row_46 : decode (mB 290) 46 = .ok (.iload_n 3, 1) := dqo gX12_row_30.2.2.2.2.2.2.2.2.2.2.2.1
theorem dX12_row_47 : decode (mB 290) 47 = .ok (.iastore, 1) := dqo gX12_row_30.2.2.2.2.2.2.2.2.2.2.2.2.1
theorem dX12_row_48 : decode (mB 290) 48 = .ok (.bipush 60, 2) := dqo gX12_row_30.2.2.2.2.2.2.2.2.2.2.2.2.2.1
theorem dX12_row_50 : decode (mB 290) 50 = .ok (.iload_n 1, 1) := dqo gX12_row_30.2.2.2.2.2.2.2.2.2.2.2.2.2.2.1
theorem dX12_row_51 : decode (mB 290) 51 = .ok (.imul, 1) := dqo gX12_row_30.2.2.2.2.2.2.2.2.2.2.2.2.2.2.2
theorem gX12_row_52 : dq 290 52 (.istore 4) 2 = true ∧ dq 290 54 (.iload 4) 2 = true ∧ dq 290 56 (.bipush 60) 2 = true ∧ dq 290 58 (.iload_n 1) 1 = true ∧ dq 290 59 (.imul) 1 = true ∧ dq 290 60 (.bipush 60) 2 = true ∧ dq 290 62 (.iadd) 1 = true ∧ dq 290 63 (.if_icmp .ge 17) 3 = true ∧ dq 290 66 (.aload_n 0) 1 = true ∧ dq 290 67 (.getfield 104) 3 = true ∧ dq 290 70 (.iload 4) 2 = true ∧ dq 290 72 (.lconst 0) 1 = true ∧ dq 290 73 (.lastore) 1 = true ∧ dq 290 74 (.iinc 4 1) 3 = true ∧ dq 290 77 (.goto (-23)) 3 = true ∧ dq 290 80 (.iconst 1) 1 = true := by decide +kernel
theorem dX12_row_52 : decode (mB 290) 52 = .ok (.istore 4, 2) := dqo gX12_row_52.1
theorem dX12_row_54 : decode (mB 290) 54 = .ok (.iload 4, 2) := dqo gX12_row_52.2.1
theorem dX12_row_56 : decode (mB 290) 56 = .ok (.bipush 60, 2) := dqo gX12_row_52.2.2.1
theorem dX12_row_58 : decode (mB 290) 58 = .ok (.iload_n 1, 1) := dqo gX12_row_52.2.2.2.1
theorem dX12_row_59 : decode (mB 290) 59 = .ok (.imul, 1) := dqo gX12_row_52.2.2.2.2.1
theorem dX12_row_60 : decode (mB 290) 60 = .ok (.bipush 60, 2) := dqo gX12_row_52.2.2.2.2.2.1
theorem dX12_row_62 : decode (mB 290) 62 = .ok (.iadd, 1) := dqo gX12_row_52.2.2.2.2.2.2.1
theorem dX12_row_63 : decode (mB 290) 63 = .ok (.if_icmp .ge 17, 3) := dqo gX12_row_52.2.2.2.2.2.2.2.1
theorem dX12_row_66 : decode (mB 290) 66 = .ok (.aload_n 0, 1) := dqo gX12_row_52.2.2.2.2.2.2.2.2.1
theorem dX12_row_67 : decode (mB 290) 67 = .ok (.getfield 104, 3) := dqo gX12_row_52.2.2.2.2.2.2.2.2.2.1
theorem dX12_row_70 : decode (mB 290) 70 = .ok (.iload 4, 2) := dqo gX12_row_52.2.2.2.2.2.2.2.2.2.2.1
theorem dX12_row_72 : decode (mB 290) 72 = .ok (.lconst 0, 1) := dqo gX12_row_52.2.2.2.2.2.2.2.2.2.2.2.1
theorem dX12_row_73 : decode (mB 290) 73 = .ok (.lastore, 1) := dqo gX12_row_52.2.2.2.2.2.2.2.2.2.2.2.2.1
theorem dX12_row_74 : decode (mB 290) 74 = .ok (.iinc 4 1, 3) := dqo gX12_row_52.2.2.2.2.2.2.2.2.2.2.2.2.2.1
theorem dX12_row_77 : decode (mB 290) 77 = .ok (.goto (-23), 3) := dqo gX12_row_52.2.2.2.2.2.2.2.2.2.2.2.2.2.2.1
theorem dX12_row_80 : decode (mB 290) 80 = .ok (.iconst 1, 1) := dqo gX12_row_52.2.2.2.2.2.2.2.2.2.2.2.2.2.2.2
theorem dX12_row_81 : decode (mB 290) 81 = .ok (.ireturn, 1) := dqo (by decide +kernel)
theorem gX12_whyNoPlace_0 : dq 291 0 (.iload_n 1) 1 = true ∧ dq 291 1 (.invokestatic 137) 3 = true ∧ dq 291 4 (.ifCond .ne 5) 3 = true ∧ dq 291 7 (.iconst (-1)) 1 = true ∧ dq 291 8 (.ireturn) 1 = true ∧ dq 291 9 (.aload_n 0) 1 = true ∧ dq 291 10 (.getfield 98) 3 = true ∧ dq 291 13 (.iload_n 1) 1 = true ∧ dq 291 14 (.iaload) 1 = true ∧ dq 291 15 (.iconst (-1)) 1 = true ∧ dq 291 16 (.if_icmp .ne 6) 3 = true ∧ dq 291 19 (.bipush (-11)) 2 = true ∧ dq 291 21 (.ireturn) 1 = true ∧ dq 291 22 (.aload_n 0) 1 = true ∧ dq 291 23 (.getfield 98) 3 = true ∧ dq 291 26 (.iload_n 1) 1 = true := by decide +kernel
theorem dX12_whyNoPlace_0 : decode (mB 291) 0 = .ok (.iload_n 1, 1) := dqo gX12_whyNoPlace_0.1
theorem dX12_whyNoPlace_1 : decode (mB 291) 1 = .ok (.invokestatic 137, 3) := dqo gX12_whyNoPlace_0.2.1
theorem dX12_whyNoPlace_4 : decode (mB 291) 4 = .ok (.ifCond .ne 5, 3) := dqo gX12_whyNoPlace_0.2.2.1
theorem dX12_whyNoPlace_7 : decode (mB 291) 7 = .ok (.iconst (-1), 1) := dqo gX12_whyNoPlace_0.2.2.2.1
theorem dX12_whyNoPlace_8 : decode (mB 291) 8 = .ok (.ireturn, 1) := dqo gX12_whyNoPlace_0.2.2.2.2.1
theorem dX12_whyNoPlace_9 : decode (mB 291) 9 = .ok (.aload_n 0, 1) := dqo gX12_whyNoPlace_0.2.2.2.2.2.1
theorem dX12_whyNoPlace_10 : decode (mB 291) 10 = .ok (.getfield 98, 3) := dqo gX12_whyNoPlace_0.2.2.2.2.2.2.1
theorem dX12_whyNoPlace_13 : decode (mB 291) 13 = .ok (.iload_n 1, 1) := dqo gX12_whyNoPlace_0.2.2.2.2.2.2.2.1
theorem dX12_whyNoPlace_14 : decode (mB 291) 14 = .ok (.iaload, 1) := dqo gX12_whyNoPlace_0.2.2.2.2.2.2.2.2.1
theorem dX12_whyNoPlace_15 : decode (mB 291) 15 = .ok (.iconst (-1), 1) := dqo gX12_whyNoPlace_0.2.2.2.2.2.2.2.2.2.1
theorem dX12_whyNoPlace_16 : decode (mB 291) 16 = .ok (.if_icmp .ne 6, 3) := dqo gX12_whyNoPlace_0.2.2.2.2.2.2.2.2.2.2.1
theorem dX12_whyNoPlace_19 : decode (mB 291) 19 = .ok (.bipush (-11), 2) := dqo gX12_whyNoPlace_0.2.2.2.2.2.2.2.2.2.2.2.1
theorem dX12_whyNoPlace_21 : decode (mB 291) 21 = .ok (.ireturn, 1) := dqo gX12_whyNoPlace_0.2.2.2.2.2.2.2.2.2.2.2.2.1
theorem dX12_whyNoPlace_22 : decode (mB 291) 22 = .ok (.aload_n 0, 1) := dqo gX12_whyNoPlace_0.2.2.2.2.2.2.2.2.2.2.2.2.2.1
theorem dX12_whyNoPlace_23 : decode (mB 291) 23 = .ok (.getfield 98, 3) := dqo gX12_whyNoPlace_0.2.2.2.2.2.2.2.2.2.2.2.2.2.2.1
theorem dX12_whyNoPlace_26 : decode (mB 291) 26 = .ok (.iload_n 1, 1) := dqo gX12_whyNoPlace_0.2.2.2.2.2.2.2.2.2.2.2.2.2.2.2
theorem gX12_whyNoPlace_27 : dq 291 27 (.iaload) 1 = true ∧ dq 291 28 (.ifCond .lt 6) 3 = true ∧ dq 291 31 (.bipush (-12)) 2 = true ∧ dq 291 33 (.ireturn) 1 = true ∧ dq 291 34 (.iload_n 2) 1 = true ∧ dq 291 35 (.iconst 0) 1 = true ∧ dq 291 36 (.aload_n 0) 1 = true ∧ dq 291 37 (.getfield 101) 3 = true ∧ dq 291 40 (.iload_n 1) 1 = true ∧ dq 291 41 (.iaload) 1 = true ∧ dq 291 42 (.iconst 1) 1 = true ∧ dq 291 43 (.isub) 1 = true ∧ dq 291 44 (.invokestatic 118) 3 = true ∧ dq 291 47 (.ifCond .eq 7) 3 = true ∧ dq 291 50 (.iconst 0) 1 = true ∧ dq 291 51 (.goto 5) 3 = true := by decide +kernel
theorem dX12_whyNoPlace_27 : decode (mB 291) 27 = .ok (.iaload, 1) := dqo gX12_whyNoPlace_27.1
theorem dX12_whyNoPlace_28 : decode (mB 291) 28 = .ok (.ifCond .lt 6, 3) := dqo gX12_whyNoPlace_27.2.1
theorem dX12_whyNoPlace_31 : decode (mB 291) 31 = .ok (.bipush (-12), 2) := dqo gX12_whyNoPlace_27.2.2.1
theorem dX12_whyNoPlace_33 : decode (mB 291) 33 = .ok (.ireturn, 1) := dqo gX12_whyNoPlace_27.2.2.2.1
theorem dX12_whyNoPlace_34 : decode (mB 291) 34 = .ok (.iload_n 2, 1) := dqo gX12_whyNoPlace_27.2.2.2.2.1
theorem dX12_whyNoPlace_35 : decode (mB 291) 35 = .ok (.iconst 0, 1) := dqo gX12_whyNoPlace_27.2.2.2.2.2.1
theorem dX12_whyNoPlace_36 : decode (mB 291) 36 = .ok (.aload_n 0, 1) := dqo gX12_whyNoPlace_27.2.2.2.2.2.2.1
theorem dX12_whyNoPlace_37 : decode (mB 291) 37 = .ok (.getfield 101, 3) := dqo gX12_whyNoPlace_27.2.2.2.2.2.2.2.1
theorem dX12_whyNoPlace_40 : decode (mB 291) 40 = .ok (.iload_n 1, 1) := dqo gX12_whyNoPlace_27.2.2.2.2.2.2.2.2.1
theorem dX12_whyNoPlace_41 : decode (mB 291) 41 = .ok (.iaload, 1) := dqo gX12_whyNoPlace_27.2.2.2.2.2.2.2.2.2.1
theorem dX12_whyNoPlace_42 : decode (mB 291) 42 = .ok (.iconst 1, 1) := dqo gX12_whyNoPlace_27.2.2.2.2.2.2.2.2.2.2.1
theorem dX12_whyNoPlace_43 : decode (mB 291) 43 = .ok (.isub, 1) := dqo gX12_whyNoPlace_27.2.2.2.2.2.2.2.2.2.2.2.1
theorem dX12_whyNoPlace_44 : decode (mB 291) 44 = .ok (.invokestatic 118, 3) := dqo gX12_whyNoPlace_27.2.2.2.2.2.2.2.2.2.2.2.2.1
theorem dX12_whyNoPlace_47 : decode (mB 291) 47 = .ok (.ifCond .eq 7, 3) := dqo gX12_whyNoPlace_27.2.2.2.2.2.2.2.2.2.2.2.2.2.1
theorem dX12_whyNoPlace_50 : decode (mB 291) 50 = .ok (.iconst 0, 1) := dqo gX12_whyNoPlace_27.2.2.2.2.2.2.2.2.2.2.2.2.2.2.1
theorem dX12_whyNoPlace_51 : decode (mB 291) 51 = .ok (.goto 5, 3) := dqo gX12_whyNoPlace_27.2.2.2.2.2.2.2.2.2.2.2.2.2.2.2
theorem gX12_whyNoPlace_54 : dq 291 54 (.bipush (-13)) 2 = true ∧ dq 291 56 (.ireturn) 1 = true := by decide +kernel
theorem dX12_whyNoPlace_54 : decode (mB 291) 54 = .ok (.bipush (-13), 2) := dqo gX12_whyNoPlace_54.1
theorem dX12_whyNoPlace_56 : decode (mB 291) 56 = .ok (.ireturn, 1) := dqo gX12_whyNoPlace_54.2
theorem gX12_put_0 : dq 292 0 (.aload_n 0) 1 = true ∧ dq 292 1 (.iload_n 1) 1 = true ∧ dq 292 2 (.iload_n 2) 1 = true ∧ dq 292 3 (.invokevirtual 414) 3 = true ∧ dq 292 6 (.istore 5) 2 = true ∧ dq 292 8 (.iload 5) 2 = true ∧ dq 292 10 (.ifCond .ge 6) 3 = true ∧ dq 292 13 (.iload 5) 2 = true ∧ dq 292 15 (.ireturn) 1 = true ∧ dq 292 16 (.bipush (-2)) 2 = true ∧ dq 292 18 (.aload_n 0) 1 = true ∧ dq 292 19 (.getfield 98) 3 = true ∧ dq 292 22 (.iload_n 1) 1 = true ∧ dq 292 23 (.iaload) 1 = true ∧ dq 292 24 (.isub) 1 = true ∧ dq 292 25 (.istore 6) 2 = true := by decide +kernel
theorem dX12_put_0 : decode (mB 292) 0 = .ok (.aload_n 0, 1) := dqo gX12_put_0.1
theorem dX12_put_1 : decode (mB 292) 1 = .ok (.iload_n 1, 1) := dqo gX12_put_0.2.1
theorem dX12_put_2 : decode (mB 292) 2 = .ok (.iload_n 2, 1) := dqo gX12_put_0.2.2.1
theorem dX12_put_3 : decode (mB 292) 3 = .ok (.invokevirtual 414, 3) := dqo gX12_put_0.2.2.2.1
theorem dX12_put_6 : decode (mB 292) 6 = .ok (.istore 5, 2) := dqo gX12_put_0.2.2.2.2.1
theorem dX12_put_8 : decode (mB 292) 8 = .ok (.iload 5, 2) := dqo gX12_put_0.2.2.2.2.2.1
theorem dX12_put_10 : decode (mB 292) 10 = .ok (.ifCond .ge 6, 3) := dqo gX12_put_0.2.2.2.2.2.2.1
theorem dX12_put_13 : decode (mB 292) 13 = .ok (.iload 5, 2) := dqo gX12_put_0.2.2.2.2.2.2.2.1
theorem dX12_put_15 : decode (mB 292) 15 = .ok (.ireturn, 1) := dqo gX12_put_0.2.2.2.2.2.2.2.2.1
theorem dX12_put_16 : decode (mB 292) 16 = .ok (.bipush (-2), 2) := dqo gX12_put_0.2.2.2.2.2.2.2.2.2.1
theorem dX12_put_18 : decode (mB 292) 18 = .ok (.aload_n 0, 1) := dqo gX12_put_0.2.2.2.2.2.2.2.2.2.2.1
theorem dX12_put_19 : decode (mB 292) 19 = .ok (.getfield 98, 3) := dqo gX12_put_0.2.2.2.2.2.2.2.2.2.2.2.1
theorem dX12_put_22 : decode (mB 292) 22 = .ok (.iload_n 1, 1) := dqo gX12_put_0.2.2.2.2.2.2.2.2.2.2.2.2.1
theorem dX12_put_23 : decode (mB 292) 23 = .ok (.iaload, 1) := dqo gX12_put_0.2.2.2.2.2.2.2.2.2.2.2.2.2.1
theorem dX12_put_24 : decode (mB 292) 24 = .ok (.isub, 1) := dqo gX12_put_0.2.2.2.2.2.2.2.2.2.2.2.2.2.2.1
theorem dX12_put_25 : decode (mB 292) 25 = .ok (.istore 6, 2) := dqo gX12_put_0.2.2.2.2.2.2.2.2.2.2.2.2.2.2.2
theorem gX12_put_27 : dq 292 27 (.aload_n 0) 1 = true ∧ dq 292 28 (.getfield 104) 3 = true ∧ dq 292 31 (.bipush 60) 2 = true ∧ dq 292 33 (.iload_n 1) 1 = true ∧ dq 292 34 (.imul) 1 = true ∧ dq 292 35 (.iload_n 2) 1 = true ∧ dq 292 36 (.iadd) 1 = true ∧ dq 292 37 (.iload 6) 2 = true ∧ dq 292 39 (.ifCond .ne 10) 3 = true ∧ dq 292 42 (.lload_n 3) 1 = true ∧ dq 292 43 (.l2i) 1 = true ∧ dq 292 44 (.i2b) 1 = true ∧ dq 292 45 (.i2l) 1 = true ∧ dq 292 46 (.goto 49) 3 = true ∧ dq 292 49 (.iload 6) 2 = true ∧ dq 292 51 (.iconst 1) 1 = true := by decide +kernel
theorem dX12_put_27 : decode (mB 292) 27 = .ok (.aload_n 0, 1) := dqo gX12_put_27.1
theorem dX12_put_28 : decode (mB 292) 28 = .ok (.getfield 104, 3) := dqo gX12_put_27.2.1
theorem dX12_put_31 : decode (mB 292) 31 = .ok (.bipush 60, 2) := dqo gX12_put_27.2.2.1
theorem dX12_put_33 : decode (mB 292) 33 = .ok (.iload_n 1, 1) := dqo gX12_put_27.2.2.2.1
theorem dX12_put_34 : decode (mB 292) 34 = .ok (.imul, 1) := dqo gX12_put_27.2.2.2.2.1
theorem dX12_put_35 : decode (mB 292) 35 = .ok (.iload_n 2, 1) := dqo gX12_put_27.2.2.2.2.2.1
theorem dX12_put_36 : decode (mB 292) 36 = .ok (.iadd, 1) := dqo gX12_put_27.2.2.2.2.2.2.1
theorem dX12_put_37 : decode (mB 292) 37 = .ok (.iload 6, 2) := dqo gX12_put_27.2.2.2.2.2.2.2.1
theorem dX12_put_39 : decode (mB 292) 39 = .ok (.ifCond .ne 10, 3) := dqo gX12_put_27.2.2.2.2.2.2.2.2.1
theorem dX12_put_42 : decode (mB 292) 42 = .ok (.lload_n 3, 1) := dqo gX12_put_27.2.2.2.2.2.2.2.2.2.1
theorem dX12_put_43 : decode (mB 292) 43 = .ok (.l2i, 1) := dqo gX12_put_27.2.2.2.2.2.2.2.2.2.2.1
theorem dX12_put_44 : decode (mB 292) 44 = .ok (.i2b, 1) := dqo gX12_put_27.2.2.2.2.2.2.2.2.2.2.2.1
theorem dX12_put_45 : decode (mB 292) 45 = .ok (.i2l, 1) := dqo gX12_put_27.2.2.2.2.2.2.2.2.2.2.2.2.1
theorem dX12_put_46 : decode (mB 292) 46 = .ok (.goto 49, 3) := dqo gX12_put_27.2.2.2.2.2.2.2.2.2.2.2.2.2.1
theorem dX12_put_49 : decode (mB 292) 49 = .ok (.iload 6, 2) := dqo gX12_put_27.2.2.2.2.2.2.2.2.2.2.2.2.2.2.1
theorem dX12_put_51 : decode (mB 292) 51 = .ok (.iconst 1, 1) := dqo gX12_put_27.2.2.2.2.2.2.2.2.2.2.2.2.2.2.2
theorem gX12_put_52 : dq 292 52 (.if_icmp .ne 10) 3 = true ∧ dq 292 55 (.lload_n 3) 1 = true ∧ dq 292 56 (.l2i) 1 = true ∧ dq 292 57 (.i2s) 1 = true ∧ dq 292 58 (.i2l) 1 = true ∧ dq 292 59 (.goto 36) 3 = true ∧ dq 292 62 (.iload 6) 2 = true ∧ dq 292 64 (.iconst 2) 1 = true ∧ dq 292 65 (.if_icmp .ne 9) 3 = true ∧ dq 292 68 (.lload_n 3) 1 = true ∧ dq 292 69 (.l2i) 1 = true ∧ dq 292 70 (.i2l) 1 = true ∧ dq 292 71 (.goto 24) 3 = true ∧ dq 292 74 (.iload 6) 2 = true ∧ dq 292 76 (.iconst 3) 1 = true ∧ dq 292 77 (.if_icmp .ne 7) 3 = true := by decide +kernel
theorem dX12_put_52 : decode (mB 292) 52 = .ok (.if_icmp .ne 10, 3) := dqo gX12_put_52.1
theorem dX12_put_55 : decode (mB 292) 55 = .ok (.lload_n 3, 1) := dqo gX12_put_52.2.1
theorem dX12_put_56 : decode (mB 292) 56 = .ok (.l2i, 1) := dqo gX12_put_52.2.2.1
theorem dX12_put_57 : decode (mB 292) 57 = .ok (.i2s, 1) := dqo gX12_put_52.2.2.2.1
theorem dX12_put_58 : decode (mB 292) 58 = .ok (.i2l, 1) := dqo gX12_put_52.2.2.2.2.1
theorem dX12_put_59 : decode (mB 292) 59 = .ok (.goto 36, 3) := dqo gX12_put_52.2.2.2.2.2.1
theorem dX12_put_62 : decode (mB 292) 62 = .ok (.iload 6, 2) := dqo gX12_put_52.2.2.2.2.2.2.1
theorem dX12_put_64 : decode (mB 292) 64 = .ok (.iconst 2, 1) := dqo gX12_put_52.2.2.2.2.2.2.2.1
theorem dX12_put_65 : decode (mB 292) 65 = .ok (.if_icmp .ne 9, 3) := dqo gX12_put_52.2.2.2.2.2.2.2.2.1
theorem dX12_put_68 : decode (mB 292) 68 = .ok (.lload_n 3, 1) := dqo gX12_put_52.2.2.2.2.2.2.2.2.2.1
theorem dX12_put_69 : decode (mB 292) 69 = .ok (.l2i, 1) := dqo gX12_put_52.2.2.2.2.2.2.2.2.2.2.1
theorem dX12_put_70 : decode (mB 292) 70 = .ok (.i2l, 1) := dqo gX12_put_52.2.2.2.2.2.2.2.2.2.2.2.1
theorem dX12_put_71 : decode (mB 292) 71 = .ok (.goto 24, 3) := dqo gX12_put_52.2.2.2.2.2.2.2.2.2.2.2.2.1
theorem dX12_put_74 : decode (mB 292) 74 = .ok (.iload 6, 2) := dqo gX12_put_52.2.2.2.2.2.2.2.2.2.2.2.2.2.1
theorem dX12_put_76 : decode (mB 292) 76 = .ok (.iconst 3, 1) := dqo gX12_put_52.2.2.2.2.2.2.2.2.2.2.2.2.2.2.1
theorem dX12_put_77 : decode (mB 292) 77 = .ok (.if_icmp .ne 7, 3) := dqo gX12_put_52.2.2.2.2.2.2.2.2.2.2.2.2.2.2.2
theorem gX12_put_80 : dq 292 80 (.lload_n 3) 1 = true ∧ dq 292 81 (.goto 14) 3 = true ∧ dq 292 84 (.lload_n 3) 1 = true ∧ dq 292 85 (.lconst 0) 1 = true ∧ dq 292 86 (.lcmp) 1 = true ∧ dq 292 87 (.ifCond .eq 7) 3 = true ∧ dq 292 90 (.lconst 1) 1 = true ∧ dq 292 91 (.goto 4) 3 = true ∧ dq 292 94 (.lconst 0) 1 = true ∧ dq 292 95 (.lastore) 1 = true ∧ dq 292 96 (.iconst 1) 1 = true ∧ dq 292 97 (.ireturn) 1 = true := by decide +kernel
theorem dX12_put_80 : decode (mB 292) 80 = .ok (.lload_n 3, 1) := dqo gX12_put_80.1
theorem dX12_put_81 : decode (mB 292) 81 = .ok (.goto 14, 3) := dqo gX12_put_80.2.1
theorem dX12_put_84 : decode (mB 292) 84 = .ok (.lload_n 3, 1) := dqo gX12_put_80.2.2.1
theorem dX12_put_85 : decode (mB 292) 85 = .ok (.lconst 0, 1) := dqo gX12_put_80.2.2.2.1
theorem dX12_put_86 : decode (mB 292) 86 = .ok (.lcmp, 1) := dqo gX12_put_80.2.2.2.2.1
theorem dX12_put_87 : decode (mB 292) 87 = .ok (.ifCond .eq 7, 3) := dqo gX12_put_80.2.2.2.2.2.1
theorem dX12_put_90 : decode (mB 292) 90 = .ok (.lconst 1, 1) := dqo gX12_put_80.2.2.2.2.2.2.1
theorem dX12_put_91 : decode (mB 292) 91 = .ok (.goto 4, 3) := dqo gX12_put_80.2.2.2.2.2.2.2.1
theorem dX12_put_94 : decode (mB 292) 94 = .ok (.lconst 0, 1) := dqo gX12_put_80.2.2.2.2.2.2.2.2.1
theorem dX12_put_95 : decode (mB 292) 95 = .ok (.lastore, 1) := dqo gX12_put_80.2.2.2.2.2.2.2.2.2.1
theorem dX12_put_96 : decode (mB 292) 96 = .ok (.iconst 1, 1) := dqo gX12_put_80.2.2.2.2.2.2.2.2.2.2.1
theorem dX12_put_97 : decode (mB 292) 97 = .ok (.ireturn, 1) := dqo gX12_put_80.2.2.2.2.2.2.2.2.2.2.2
theorem gX12_element_0 : dq 293 0 (.aload_n 0) 1 = true ∧ dq 293 1 (.iload_n 1) 1 = true ∧ dq 293 2 (.iload_n 2) 1 = true ∧ dq 293 3 (.invokevirtual 414) 3 = true ∧ dq 293 6 (.ifCond .ge 9) 3 = true ∧ dq 293 9 (.ldc2_w 284) 3 = true ∧ dq 293 12 (.goto 14) 3 = true ∧ dq 293 15 (.aload_n 0) 1 = true ∧ dq 293 16 (.getfield 104) 3 = true ∧ dq 293 19 (.bipush 60) 2 = true ∧ dq 293 21 (.iload_n 1) 1 = true ∧ dq 293 22 (.imul) 1 = true ∧ dq 293 23 (.iload_n 2) 1 = true ∧ dq 293 24 (.iadd) 1 = true ∧ dq 293 25 (.laload) 1 = true ∧ dq 293 26 (.lreturn) 1 = true := by decide +kernel
theorem dX12_element_0 : decode (mB 293) 0 = .ok (.aload_n 0, 1) := dqo gX12_element_0.1
theorem dX12_element_1 : decode (mB 293) 1 = .ok (.iload_n 1, 1) := dqo gX12_element_0.2.1
theorem dX12_element_2 : decode (mB 293) 2 = .ok (.iload_n 2, 1) := dqo gX12_element_0.2.2.1
theorem dX12_element_3 : decode (mB 293) 3 = .ok (.invokevirtual 414, 3) := dqo gX12_element_0.2.2.2.1
theorem dX12_element_6 : decode (mB 293) 6 = .ok (.ifCond .ge 9, 3) := dqo gX12_element_0.2.2.2.2.1
theorem dX12_element_9 : decode (mB 293) 9 = .ok (.ldc2_w 284, 3) := dqo gX12_element_0.2.2.2.2.2.1
theorem dX12_element_12 : decode (mB 293) 12 = .ok (.goto 14, 3) := dqo gX12_element_0.2.2.2.2.2.2.1
theorem dX12_element_15 : decode (mB 293) 15 = .ok (.aload_n 0, 1) := dqo gX12_element_0.2.2.2.2.2.2.2.1
theorem dX12_element_16 : decode (mB 293) 16 = .ok (.getfield 104, 3) := dqo gX12_element_0.2.2.2.2.2.2.2.2.1
theorem dX12_element_19 : decode (mB 293) 19 = .ok (.bipush 60, 2) := dqo gX12_element_0.2.2.2.2.2.2.2.2.2.1
theorem dX12_element_21 : decode (mB 293) 21 = .ok (.iload_n 1, 1) := dqo gX12_element_0.2.2.2.2.2.2.2.2.2.2.1
theorem dX12_element_22 : decode (mB 293) 22 = .ok (.imul, 1) := dqo gX12_element_0.2.2.2.2.2.2.2.2.2.2.2.1
theorem dX12_element_23 : decode (mB 293) 23 = .ok (.iload_n 2, 1) := dqo gX12_element_0.2.2.2.2.2.2.2.2.2.2.2.2.1
theorem dX12_element_24 : decode (mB 293) 24 = .ok (.iadd, 1) := dqo gX12_element_0.2.2.2.2.2.2.2.2.2.2.2.2.2.1
theorem dX12_element_25 : decode (mB 293) 25 = .ok (.laload, 1) := dqo gX12_element_0.2.2.2.2.2.2.2.2.2.2.2.2.2.2.1
theorem dX12_element_26 : decode (mB 293) 26 = .ok (.lreturn, 1) := dqo gX12_element_0.2.2.2.2.2.2.2.2.2.2.2.2.2.2.2
theorem gX12_shift_0 : dq 294 0 (.iload_n 1) 1 = true ∧ dq 294 1 (.invokestatic 137) 3 = true ∧ dq 294 4 (.ifCond .eq 10) 3 = true ∧ dq 294 7 (.iload_n 3) 1 = true ∧ dq 294 8 (.invokestatic 137) 3 = true ∧ dq 294 11 (.ifCond .ne 5) 3 = true ∧ dq 294 14 (.iconst (-1)) 1 = true ∧ dq 294 15 (.ireturn) 1 = true ∧ dq 294 16 (.aload_n 0) 1 = true ∧ dq 294 17 (.getfield 98) 3 = true ∧ dq 294 20 (.iload_n 1) 1 = true ∧ dq 294 21 (.iaload) 1 = true ∧ dq 294 22 (.iconst (-1)) 1 = true ∧ dq 294 23 (.if_icmp .eq 13) 3 = true ∧ dq 294 26 (.aload_n 0) 1 = true ∧ dq 294 27 (.getfield 98) 3 = true := by decide +kernel
theorem dX12_shift_0 : decode (mB 294) 0 = .ok (.iload_n 1, 1) := dqo gX12_shift_0.1
theorem dX12_shift_1 : decode (mB 294) 1 = .ok (.invokestatic 137, 3) := dqo gX12_shift_0.2.1
theorem dX12_shift_4 : decode (mB 294) 4 = .ok (.ifCond .eq 10, 3) := dqo gX12_shift_0.2.2.1
theorem dX12_shift_7 : decode (mB 294) 7 = .ok (.iload_n 3, 1) := dqo gX12_shift_0.2.2.2.1
theorem dX12_shift_8 : decode (mB 294) 8 = .ok (.invokestatic 137, 3) := dqo gX12_shift_0.2.2.2.2.1
theorem dX12_shift_11 : decode (mB 294) 11 = .ok (.ifCond .ne 5, 3) := dqo gX12_shift_0.2.2.2.2.2.1
theorem dX12_shift_14 : decode (mB 294) 14 = .ok (.iconst (-1), 1) := dqo gX12_shift_0.2.2.2.2.2.2.1
theorem dX12_shift_15 : decode (mB 294) 15 = .ok (.ireturn, 1) := dqo gX12_shift_0.2.2.2.2.2.2.2.1
theorem dX12_shift_16 : decode (mB 294) 16 = .ok (.aload_n 0, 1) := dqo gX12_shift_0.2.2.2.2.2.2.2.2.1
theorem dX12_shift_17 : decode (mB 294) 17 = .ok (.getfield 98, 3) := dqo gX12_shift_0.2.2.2.2.2.2.2.2.2.1
theorem dX12_shift_20 : decode (mB 294) 20 = .ok (.iload_n 1, 1) := dqo gX12_shift_0.2.2.2.2.2.2.2.2.2.2.1
theorem dX12_shift_21 : decode (mB 294) 21 = .ok (.iaload, 1) := dqo gX12_shift_0.2.2.2.2.2.2.2.2.2.2.2.1
theorem dX12_shift_22 : decode (mB 294) 22 = .ok (.iconst (-1), 1) := dqo gX12_shift_0.2.2.2.2.2.2.2.2.2.2.2.2.1
theorem dX12_shift_23 : decode (mB 294) 23 = .ok (.if_icmp .eq 13, 3) := dqo gX12_shift_0.2.2.2.2.2.2.2.2.2.2.2.2.2.1
theorem dX12_shift_26 : decode (mB 294) 26 = .ok (.aload_n 0, 1) := dqo gX12_shift_0.2.2.2.2.2.2.2.2.2.2.2.2.2.2.1
theorem dX12_shift_27 : decode (mB 294) 27 = .ok (.getfield 98, 3) := dqo gX12_shift_0.2.2.2.2.2.2.2.2.2.2.2.2.2.2.2
theorem gX12_shift_30 : dq 294 30 (.iload_n 3) 1 = true ∧ dq 294 31 (.iaload) 1 = true ∧ dq 294 32 (.iconst (-1)) 1 = true ∧ dq 294 33 (.if_icmp .ne 6) 3 = true ∧ dq 294 36 (.bipush (-11)) 2 = true ∧ dq 294 38 (.ireturn) 1 = true ∧ dq 294 39 (.aload_n 0) 1 = true ∧ dq 294 40 (.getfield 98) 3 = true ∧ dq 294 43 (.iload_n 1) 1 = true ∧ dq 294 44 (.iaload) 1 = true ∧ dq 294 45 (.ifCond .ge 18) 3 = true ∧ dq 294 48 (.aload_n 0) 1 = true ∧ dq 294 49 (.getfield 98) 3 = true ∧ dq 294 52 (.iload_n 1) 1 = true ∧ dq 294 53 (.iaload) 1 = true ∧ dq 294 54 (.aload_n 0) 1 = true := by decide +kernel
theorem dX12_shift_30 : decode (mB 294) 30 = .ok (.iload_n 3, 1) := dqo gX12_shift_30.1
theorem dX12_shift_31 : decode (mB 294) 31 = .ok (.iaload, 1) := dqo gX12_shift_30.2.1
theorem dX12_shift_32 : decode (mB 294) 32 = .ok (.iconst (-1), 1) := dqo gX12_shift_30.2.2.1
theorem dX12_shift_33 : decode (mB 294) 33 = .ok (.if_icmp .ne 6, 3) := dqo gX12_shift_30.2.2.2.1
theorem dX12_shift_36 : decode (mB 294) 36 = .ok (.bipush (-11), 2) := dqo gX12_shift_30.2.2.2.2.1
theorem dX12_shift_38 : decode (mB 294) 38 = .ok (.ireturn, 1) := dqo gX12_shift_30.2.2.2.2.2.1
theorem dX12_shift_39 : decode (mB 294) 39 = .ok (.aload_n 0, 1) := dqo gX12_shift_30.2.2.2.2.2.2.1
theorem dX12_shift_40 : decode (mB 294) 40 = .ok (.getfield 98, 3) := dqo gX12_shift_30.2.2.2.2.2.2.2.1
theorem dX12_shift_43 : decode (mB 294) 43 = .ok (.iload_n 1, 1) := dqo gX12_shift_30.2.2.2.2.2.2.2.2.1
theorem dX12_shift_44 : decode (mB 294) 44 = .ok (.iaload, 1) := dqo gX12_shift_30.2.2.2.2.2.2.2.2.2.1
theorem dX12_shift_45 : decode (mB 294) 45 = .ok (.ifCond .ge 18, 3) := dqo gX12_shift_30.2.2.2.2.2.2.2.2.2.2.1
theorem dX12_shift_48 : decode (mB 294) 48 = .ok (.aload_n 0, 1) := dqo gX12_shift_30.2.2.2.2.2.2.2.2.2.2.2.1
theorem dX12_shift_49 : decode (mB 294) 49 = .ok (.getfield 98, 3) := dqo gX12_shift_30.2.2.2.2.2.2.2.2.2.2.2.2.1
theorem dX12_shift_52 : decode (mB 294) 52 = .ok (.iload_n 1, 1) := dqo gX12_shift_30.2.2.2.2.2.2.2.2.2.2.2.2.2.1
theorem dX12_shift_53 : decode (mB 294) 53 = .ok (.iaload, 1) := dqo gX12_shift_30.2.2.2.2.2.2.2.2.2.2.2.2.2.2.1
theorem dX12_shift_54 : decode (mB 294) 54 = .ok (.aload_n 0, 1) := dqo gX12_shift_30.2.2.2.2.2.2.2.2.2.2.2.2.2.2.2
theorem gX12_shift_55 : dq 294 55 (.getfield 98) 3 = true ∧ dq 294 58 (.iload_n 3) 1 = true ∧ dq 294 59 (.iaload) 1 = true ∧ dq 294 60 (.if_icmp .eq 6) 3 = true ∧ dq 294 63 (.bipush (-12)) 2 = true ∧ dq 294 65 (.ireturn) 1 = true ∧ dq 294 66 (.iload 5) 2 = true ∧ dq 294 68 (.ifCond .lt 39) 3 = true ∧ dq 294 71 (.iload_n 2) 1 = true ∧ dq 294 72 (.ifCond .lt 35) 3 = true ∧ dq 294 75 (.iload 4) 2 = true ∧ dq 294 77 (.ifCond .lt 30) 3 = true ∧ dq 294 80 (.iload_n 2) 1 = true ∧ dq 294 81 (.aload_n 0) 1 = true ∧ dq 294 82 (.getfield 101) 3 = true ∧ dq 294 85 (.iload_n 1) 1 = true := by decide +kernel
theorem dX12_shift_55 : decode (mB 294) 55 = .ok (.getfield 98, 3) := dqo gX12_shift_55.1
theorem dX12_shift_58 : decode (mB 294) 58 = .ok (.iload_n 3, 1) := dqo gX12_shift_55.2.1
theorem dX12_shift_59 : decode (mB 294) 59 = .ok (.iaload, 1) := dqo gX12_shift_55.2.2.1
theorem dX12_shift_60 : decode (mB 294) 60 = .ok (.if_icmp .eq 6, 3) := dqo gX12_shift_55.2.2.2.1
theorem dX12_shift_63 : decode (mB 294) 63 = .ok (.bipush (-12), 2) := dqo gX12_shift_55.2.2.2.2.1
theorem dX12_shift_65 : decode (mB 294) 65 = .ok (.ireturn, 1) := dqo gX12_shift_55.2.2.2.2.2.1
theorem dX12_shift_66 : decode (mB 294) 66 = .ok (.iload 5, 2) := dqo gX12_shift_55.2.2.2.2.2.2.1
theorem dX12_shift_68 : decode (mB 294) 68 = .ok (.ifCond .lt 39, 3) := dqo gX12_shift_55.2.2.2.2.2.2.2.1
theorem dX12_shift_71 : decode (mB 294) 71 = .ok (.iload_n 2, 1) := dqo gX12_shift_55.2.2.2.2.2.2.2.2.1
theorem dX12_shift_72 : decode (mB 294) 72 = .ok (.ifCond .lt 35, 3) := dqo gX12_shift_55.2.2.2.2.2.2.2.2.2.1
theorem dX12_shift_75 : decode (mB 294) 75 = .ok (.iload 4, 2) := dqo gX12_shift_55.2.2.2.2.2.2.2.2.2.2.1
theorem dX12_shift_77 : decode (mB 294) 77 = .ok (.ifCond .lt 30, 3) := dqo gX12_shift_55.2.2.2.2.2.2.2.2.2.2.2.1
theorem dX12_shift_80 : decode (mB 294) 80 = .ok (.iload_n 2, 1) := dqo gX12_shift_55.2.2.2.2.2.2.2.2.2.2.2.2.1
theorem dX12_shift_81 : decode (mB 294) 81 = .ok (.aload_n 0, 1) := dqo gX12_shift_55.2.2.2.2.2.2.2.2.2.2.2.2.2.1
theorem dX12_shift_82 : decode (mB 294) 82 = .ok (.getfield 101, 3) := dqo gX12_shift_55.2.2.2.2.2.2.2.2.2.2.2.2.2.2.1
theorem dX12_shift_85 : decode (mB 294) 85 = .ok (.iload_n 1, 1) := dqo gX12_shift_55.2.2.2.2.2.2.2.2.2.2.2.2.2.2.2
theorem gX12_shift_86 : dq 294 86 (.iaload) 1 = true ∧ dq 294 87 (.iload 5) 2 = true ∧ dq 294 89 (.isub) 1 = true ∧ dq 294 90 (.if_icmp .gt 17) 3 = true ∧ dq 294 93 (.iload 4) 2 = true ∧ dq 294 95 (.aload_n 0) 1 = true ∧ dq 294 96 (.getfield 101) 3 = true ∧ dq 294 99 (.iload_n 3) 1 = true ∧ dq 294 100 (.iaload) 1 = true ∧ dq 294 101 (.iload 5) 2 = true ∧ dq 294 103 (.isub) 1 = true ∧ dq 294 104 (.if_icmp .le 6) 3 = true ∧ dq 294 107 (.bipush (-13)) 2 = true ∧ dq 294 109 (.ireturn) 1 = true ∧ dq 294 110 (.iconst 0) 1 = true ∧ dq 294 111 (.istore 6) 2 = true := by decide +kernel
theorem dX12_shift_86 : decode (mB 294) 86 = .ok (.iaload, 1) := dqo gX12_shift_86.1
theorem dX12_shift_87 : decode (mB 294) 87 = .ok (.iload 5, 2) := dqo gX12_shift_86.2.1
theorem dX12_shift_89 : decode (mB 294) 89 = .ok (.isub, 1) := dqo gX12_shift_86.2.2.1
theorem dX12_shift_90 : decode (mB 294) 90 = .ok (.if_icmp .gt 17, 3) := dqo gX12_shift_86.2.2.2.1
theorem dX12_shift_93 : decode (mB 294) 93 = .ok (.iload 4, 2) := dqo gX12_shift_86.2.2.2.2.1
theorem dX12_shift_95 : decode (mB 294) 95 = .ok (.aload_n 0, 1) := dqo gX12_shift_86.2.2.2.2.2.1
theorem dX12_shift_96 : decode (mB 294) 96 = .ok (.getfield 101, 3) := dqo gX12_shift_86.2.2.2.2.2.2.1
theorem dX12_shift_99 : decode (mB 294) 99 = .ok (.iload_n 3, 1) := dqo gX12_shift_86.2.2.2.2.2.2.2.1
theorem dX12_shift_100 : decode (mB 294) 100 = .ok (.iaload, 1) := dqo gX12_shift_86.2.2.2.2.2.2.2.2.1
theorem dX12_shift_101 : decode (mB 294) 101 = .ok (.iload 5, 2) := dqo gX12_shift_86.2.2.2.2.2.2.2.2.2.1
theorem dX12_shift_103 : decode (mB 294) 103 = .ok (.isub, 1) := dqo gX12_shift_86.2.2.2.2.2.2.2.2.2.2.1
theorem dX12_shift_104 : decode (mB 294) 104 = .ok (.if_icmp .le 6, 3) := dqo gX12_shift_86.2.2.2.2.2.2.2.2.2.2.2.1
theorem dX12_shift_107 : decode (mB 294) 107 = .ok (.bipush (-13), 2) := dqo gX12_shift_86.2.2.2.2.2.2.2.2.2.2.2.2.1
theorem dX12_shift_109 : decode (mB 294) 109 = .ok (.ireturn, 1) := dqo gX12_shift_86.2.2.2.2.2.2.2.2.2.2.2.2.2.1
theorem dX12_shift_110 : decode (mB 294) 110 = .ok (.iconst 0, 1) := dqo gX12_shift_86.2.2.2.2.2.2.2.2.2.2.2.2.2.2.1
theorem dX12_shift_111 : decode (mB 294) 111 = .ok (.istore 6, 2) := dqo gX12_shift_86.2.2.2.2.2.2.2.2.2.2.2.2.2.2.2
theorem gX12_shift_113 : dq 294 113 (.iload 6) 2 = true ∧ dq 294 115 (.iload 5) 2 = true ∧ dq 294 117 (.if_icmp .ge 30) 3 = true ∧ dq 294 120 (.aload_n 0) 1 = true ∧ dq 294 121 (.getfield 108) 3 = true ∧ dq 294 124 (.iload 6) 2 = true ∧ dq 294 126 (.aload_n 0) 1 = true ∧ dq 294 127 (.getfield 104) 3 = true ∧ dq 294 130 (.bipush 60) 2 = true ∧ dq 294 132 (.iload_n 1) 1 = true ∧ dq 294 133 (.imul) 1 = true ∧ dq 294 134 (.iload_n 2) 1 = true ∧ dq 294 135 (.iadd) 1 = true ∧ dq 294 136 (.iload 6) 2 = true ∧ dq 294 138 (.iadd) 1 = true ∧ dq 294 139 (.laload) 1 = true := by decide +kernel
theorem dX12_shift_113 : decode (mB 294) 113 = .ok (.iload 6, 2) := dqo gX12_shift_113.1
theorem dX12_shift_115 : decode (mB 294) 115 = .ok (.iload 5, 2) := dqo gX12_shift_113.2.1
theorem dX12_shift_117 : decode (mB 294) 117 = .ok (.if_icmp .ge 30, 3) := dqo gX12_shift_113.2.2.1
theorem dX12_shift_120 : decode (mB 294) 120 = .ok (.aload_n 0, 1) := dqo gX12_shift_113.2.2.2.1
theorem dX12_shift_121 : decode (mB 294) 121 = .ok (.getfield 108, 3) := dqo gX12_shift_113.2.2.2.2.1
theorem dX12_shift_124 : decode (mB 294) 124 = .ok (.iload 6, 2) := dqo gX12_shift_113.2.2.2.2.2.1
theorem dX12_shift_126 : decode (mB 294) 126 = .ok (.aload_n 0, 1) := dqo gX12_shift_113.2.2.2.2.2.2.1
theorem dX12_shift_127 : decode (mB 294) 127 = .ok (.getfield 104, 3) := dqo gX12_shift_113.2.2.2.2.2.2.2.1
theorem dX12_shift_130 : decode (mB 294) 130 = .ok (.bipush 60, 2) := dqo gX12_shift_113.2.2.2.2.2.2.2.2.1
theorem dX12_shift_132 : decode (mB 294) 132 = .ok (.iload_n 1, 1) := dqo gX12_shift_113.2.2.2.2.2.2.2.2.2.1
theorem dX12_shift_133 : decode (mB 294) 133 = .ok (.imul, 1) := dqo gX12_shift_113.2.2.2.2.2.2.2.2.2.2.1
theorem dX12_shift_134 : decode (mB 294) 134 = .ok (.iload_n 2, 1) := dqo gX12_shift_113.2.2.2.2.2.2.2.2.2.2.2.1
theorem dX12_shift_135 : decode (mB 294) 135 = .ok (.iadd, 1) := dqo gX12_shift_113.2.2.2.2.2.2.2.2.2.2.2.2.1
theorem dX12_shift_136 : decode (mB 294) 136 = .ok (.iload 6, 2) := dqo gX12_shift_113.2.2.2.2.2.2.2.2.2.2.2.2.2.1
theorem dX12_shift_138 : decode (mB 294) 138 = .ok (.iadd, 1) := dqo gX12_shift_113.2.2.2.2.2.2.2.2.2.2.2.2.2.2.1
theorem dX12_shift_139 : decode (mB 294) 139 = .ok (.laload, 1) := dqo gX12_shift_113.2.2.2.2.2.2.2.2.2.2.2.2.2.2.2
theorem gX12_shift_140 : dq 294 140 (.lastore) 1 = true ∧ dq 294 141 (.iinc 6 1) 3 = true ∧ dq 294 144 (.goto (-31)) 3 = true ∧ dq 294 147 (.iconst 0) 1 = true ∧ dq 294 148 (.istore 6) 2 = true ∧ dq 294 150 (.iload 6) 2 = true ∧ dq 294 152 (.iload 5) 2 = true ∧ dq 294 154 (.if_icmp .ge 31) 3 = true ∧ dq 294 157 (.aload_n 0) 1 = true ∧ dq 294 158 (.getfield 104) 3 = true ∧ dq 294 161 (.bipush 60) 2 = true ∧ dq 294 163 (.iload_n 3) 1 = true ∧ dq 294 164 (.imul) 1 = true ∧ dq 294 165 (.iload 4) 2 = true ∧ dq 294 167 (.iadd) 1 = true ∧ dq 294 168 (.iload 6) 2 = true := by decide +kernel
theorem dX12_shift_140 : decode (mB 294) 140 = .ok (.lastore, 1) := dqo gX12_shift_140.1
theorem dX12_shift_141 : decode (mB 294) 141 = .ok (.iinc 6 1, 3) := dqo gX12_shift_140.2.1
theorem dX12_shift_144 : decode (mB 294) 144 = .ok (.goto (-31), 3) := dqo gX12_shift_140.2.2.1
theorem dX12_shift_147 : decode (mB 294) 147 = .ok (.iconst 0, 1) := dqo gX12_shift_140.2.2.2.1
theorem dX12_shift_148 : decode (mB 294) 148 = .ok (.istore 6, 2) := dqo gX12_shift_140.2.2.2.2.1
theorem dX12_shift_150 : decode (mB 294) 150 = .ok (.iload 6, 2) := dqo gX12_shift_140.2.2.2.2.2.1
theorem dX12_shift_152 : decode (mB 294) 152 = .ok (.iload 5, 2) := dqo gX12_shift_140.2.2.2.2.2.2.1
theorem dX12_shift_154 : decode (mB 294) 154 = .ok (.if_icmp .ge 31, 3) := dqo gX12_shift_140.2.2.2.2.2.2.2.1
theorem dX12_shift_157 : decode (mB 294) 157 = .ok (.aload_n 0, 1) := dqo gX12_shift_140.2.2.2.2.2.2.2.2.1
theorem dX12_shift_158 : decode (mB 294) 158 = .ok (.getfield 104, 3) := dqo gX12_shift_140.2.2.2.2.2.2.2.2.2.1
theorem dX12_shift_161 : decode (mB 294) 161 = .ok (.bipush 60, 2) := dqo gX12_shift_140.2.2.2.2.2.2.2.2.2.2.1
theorem dX12_shift_163 : decode (mB 294) 163 = .ok (.iload_n 3, 1) := dqo gX12_shift_140.2.2.2.2.2.2.2.2.2.2.2.1
theorem dX12_shift_164 : decode (mB 294) 164 = .ok (.imul, 1) := dqo gX12_shift_140.2.2.2.2.2.2.2.2.2.2.2.2.1
theorem dX12_shift_165 : decode (mB 294) 165 = .ok (.iload 4, 2) := dqo gX12_shift_140.2.2.2.2.2.2.2.2.2.2.2.2.2.1
theorem dX12_shift_167 : decode (mB 294) 167 = .ok (.iadd, 1) := dqo gX12_shift_140.2.2.2.2.2.2.2.2.2.2.2.2.2.2.1
theorem dX12_shift_168 : decode (mB 294) 168 = .ok (.iload 6, 2) := dqo gX12_shift_140.2.2.2.2.2.2.2.2.2.2.2.2.2.2.2
theorem gX12_shift_170 : dq 294 170 (.iadd) 1 = true ∧ dq 294 171 (.aload_n 0) 1 = true ∧ dq 294 172 (.getfield 108) 3 = true ∧ dq 294 175 (.iload 6) 2 = true ∧ dq 294 177 (.laload) 1 = true ∧ dq 294 178 (.lastore) 1 = true ∧ dq 294 179 (.iinc 6 1) 3 = true ∧ dq 294 182 (.goto (-32)) 3 = true ∧ dq 294 185 (.iload 5) 2 = true ∧ dq 294 187 (.ireturn) 1 = true := by decide +kernel
theorem dX12_shift_170 : decode (mB 294) 170 = .ok (.iadd, 1) := dqo gX12_shift_170.1
theorem dX12_shift_171 : decode (mB 294) 171 = .ok (.aload_n 0, 1) := dqo gX12_shift_170.2.1
theorem dX12_shift_172 : decode (mB 294) 172 = .ok (.getfield 108, 3) := dqo gX12_shift_170.2.2.1
theorem dX12_shift_175 : decode (mB 294) 175 = .ok (.iload 6, 2) := dqo gX12_shift_170.2.2.2.1
theorem dX12_shift_177 : decode (mB 294) 177 = .ok (.laload, 1) := dqo gX12_shift_170.2.2.2.2.1
theorem dX12_shift_178 : decode (mB 294) 178 = .ok (.lastore, 1) := dqo gX12_shift_170.2.2.2.2.2.1
theorem dX12_shift_179 : decode (mB 294) 179 = .ok (.iinc 6 1, 3) := dqo gX12_shift_170.2.2.2.2.2.2.1
theorem dX12_shift_182 : decode (mB 294) 182 = .ok (.goto (-32), 3) := dqo gX12_shift_170.2.2.2.2.2.2.2.1
theorem dX12_shift_185 : decode (mB 294) 185 = .ok (.iload 5, 2) := dqo gX12_shift_170.2.2.2.2.2.2.2.2.1
theorem dX12_shift_187 : decode (mB 294) 187 = .ok (.ireturn, 1) := dqo gX12_shift_170.2.2.2.2.2.2.2.2.2
theorem gX12_taken_0 : dq 295 0 (.iload_n 1) 1 = true ∧ dq 295 1 (.invokestatic 137) 3 = true ∧ dq 295 4 (.ifCond .eq 13) 3 = true ∧ dq 295 7 (.iload_n 2) 1 = true ∧ dq 295 8 (.iconst 0) 1 = true ∧ dq 295 9 (.bipush 7) 2 = true ∧ dq 295 11 (.invokestatic 118) 3 = true ∧ dq 295 14 (.ifCond .ne 5) 3 = true ∧ dq 295 17 (.iconst (-1)) 1 = true ∧ dq 295 18 (.ireturn) 1 = true ∧ dq 295 19 (.aload_n 0) 1 = true ∧ dq 295 20 (.getfield 98) 3 = true ∧ dq 295 23 (.iload_n 1) 1 = true ∧ dq 295 24 (.iaload) 1 = true ∧ dq 295 25 (.iconst (-1)) 1 = true ∧ dq 295 26 (.if_icmp .ne 6) 3 = true := by decide +kernel
theorem dX12_taken_0 : decode (mB 295) 0 = .ok (.iload_n 1, 1) := dqo gX12_taken_0.1
theorem dX12_taken_1 : decode (mB 295) 1 = .ok (.invokestatic 137, 3) := dqo gX12_taken_0.2.1
theorem dX12_taken_4 : decode (mB 295) 4 = .ok (.ifCond .eq 13, 3) := dqo gX12_taken_0.2.2.1
theorem dX12_taken_7 : decode (mB 295) 7 = .ok (.iload_n 2, 1) := dqo gX12_taken_0.2.2.2.1
theorem dX12_taken_8 : decode (mB 295) 8 = .ok (.iconst 0, 1) := dqo gX12_taken_0.2.2.2.2.1
theorem dX12_taken_9 : decode (mB 295) 9 = .ok (.bipush 7, 2) := dqo gX12_taken_0.2.2.2.2.2.1
theorem dX12_taken_11 : decode (mB 295) 11 = .ok (.invokestatic 118, 3) := dqo gX12_taken_0.2.2.2.2.2.2.1
theorem dX12_taken_14 : decode (mB 295) 14 = .ok (.ifCond .ne 5, 3) := dqo gX12_taken_0.2.2.2.2.2.2.2.1
theorem dX12_taken_17 : decode (mB 295) 17 = .ok (.iconst (-1), 1) := dqo gX12_taken_0.2.2.2.2.2.2.2.2.1
theorem dX12_taken_18 : decode (mB 295) 18 = .ok (.ireturn, 1) := dqo gX12_taken_0.2.2.2.2.2.2.2.2.2.1
theorem dX12_taken_19 : decode (mB 295) 19 = .ok (.aload_n 0, 1) := dqo gX12_taken_0.2.2.2.2.2.2.2.2.2.2.1
theorem dX12_taken_20 : decode (mB 295) 20 = .ok (.getfield 98, 3) := dqo gX12_taken_0.2.2.2.2.2.2.2.2.2.2.2.1
theorem dX12_taken_23 : decode (mB 295) 23 = .ok (.iload_n 1, 1) := dqo gX12_taken_0.2.2.2.2.2.2.2.2.2.2.2.2.1
theorem dX12_taken_24 : decode (mB 295) 24 = .ok (.iaload, 1) := dqo gX12_taken_0.2.2.2.2.2.2.2.2.2.2.2.2.2.1
theorem dX12_taken_25 : decode (mB 295) 25 = .ok (.iconst (-1), 1) := dqo gX12_taken_0.2.2.2.2.2.2.2.2.2.2.2.2.2.2.1
theorem dX12_taken_26 : decode (mB 295) 26 = .ok (.if_icmp .ne 6, 3) := dqo gX12_taken_0.2.2.2.2.2.2.2.2.2.2.2.2.2.2.2
theorem gX12_taken_29 : dq 295 29 (.bipush (-11)) 2 = true ∧ dq 295 31 (.ireturn) 1 = true ∧ dq 295 32 (.aload_n 0) 1 = true ∧ dq 295 33 (.getfield 98) 3 = true ∧ dq 295 36 (.iload_n 1) 1 = true ∧ dq 295 37 (.iaload) 1 = true ∧ dq 295 38 (.ifCond .lt 35) 3 = true ∧ dq 295 41 (.aload_n 0) 1 = true ∧ dq 295 42 (.getfield 92) 3 = true ∧ dq 295 45 (.aload_n 0) 1 = true ∧ dq 295 46 (.getfield 98) 3 = true ∧ dq 295 49 (.iload_n 1) 1 = true ∧ dq 295 50 (.iaload) 1 = true ∧ dq 295 51 (.iaload) 1 = true ∧ dq 295 52 (.iload_n 2) 1 = true ∧ dq 295 53 (.invokestatic 378) 3 = true := by decide +kernel
theorem dX12_taken_29 : decode (mB 295) 29 = .ok (.bipush (-11), 2) := dqo gX12_taken_29.1
theorem dX12_taken_31 : decode (mB 295) 31 = .ok (.ireturn, 1) := dqo gX12_taken_29.2.1
theorem dX12_taken_32 : decode (mB 295) 32 = .ok (.aload_n 0, 1) := dqo gX12_taken_29.2.2.1
theorem dX12_taken_33 : decode (mB 295) 33 = .ok (.getfield 98, 3) := dqo gX12_taken_29.2.2.2.1
theorem dX12_taken_36 : decode (mB 295) 36 = .ok (.iload_n 1, 1) := dqo gX12_taken_29.2.2.2.2.1
theorem dX12_taken_37 : decode (mB 295) 37 = .ok (.iaload, 1) := dqo gX12_taken_29.2.2.2.2.2.1
theorem dX12_taken_38 : decode (mB 295) 38 = .ok (.ifCond .lt 35, 3) := dqo gX12_taken_29.2.2.2.2.2.2.1
theorem dX12_taken_41 : decode (mB 295) 41 = .ok (.aload_n 0, 1) := dqo gX12_taken_29.2.2.2.2.2.2.2.1
theorem dX12_taken_42 : decode (mB 295) 42 = .ok (.getfield 92, 3) := dqo gX12_taken_29.2.2.2.2.2.2.2.2.1
theorem dX12_taken_45 : decode (mB 295) 45 = .ok (.aload_n 0, 1) := dqo gX12_taken_29.2.2.2.2.2.2.2.2.2.1
theorem dX12_taken_46 : decode (mB 295) 46 = .ok (.getfield 98, 3) := dqo gX12_taken_29.2.2.2.2.2.2.2.2.2.2.1
theorem dX12_taken_49 : decode (mB 295) 49 = .ok (.iload_n 1, 1) := dqo gX12_taken_29.2.2.2.2.2.2.2.2.2.2.2.1
theorem dX12_taken_50 : decode (mB 295) 50 = .ok (.iaload, 1) := dqo gX12_taken_29.2.2.2.2.2.2.2.2.2.2.2.2.1
theorem dX12_taken_51 : decode (mB 295) 51 = .ok (.iaload, 1) := dqo gX12_taken_29.2.2.2.2.2.2.2.2.2.2.2.2.2.1
theorem dX12_taken_52 : decode (mB 295) 52 = .ok (.iload_n 2, 1) := dqo gX12_taken_29.2.2.2.2.2.2.2.2.2.2.2.2.2.2.1
theorem dX12_taken_53 : decode (mB 295) 53 = .ok (.invokestatic 378, 3) := dqo gX12_taken_29.2.2.2.2.2.2.2.2.2.2.2.2.2.2.2
theorem gX12_taken_56 : dq 295 56 (.ifCond .eq 17) 3 = true ∧ dq 295 59 (.aload_n 0) 1 = true ∧ dq 295 60 (.getfield 92) 3 = true ∧ dq 295 63 (.aload_n 0) 1 = true ∧ dq 295 64 (.getfield 98) 3 = true ∧ dq 295 67 (.iload_n 1) 1 = true ∧ dq 295 68 (.iaload) 1 = true ∧ dq 295 69 (.iaload) 1 = true ∧ dq 295 70 (.goto 5) 3 = true ∧ dq 295 73 (.bipush (-12)) 2 = true ∧ dq 295 75 (.ireturn) 1 = true := by decide +kernel
theorem dX12_taken_56 : decode (mB 295) 56 = .ok (.ifCond .eq 17, 3) := dqo gX12_taken_56.1
theorem dX12_taken_59 : decode (mB 295) 59 = .ok (.aload_n 0, 1) := dqo gX12_taken_56.2.1
theorem dX12_taken_60 : decode (mB 295) 60 = .ok (.getfield 92, 3) := dqo gX12_taken_56.2.2.1
theorem dX12_taken_63 : decode (mB 295) 63 = .ok (.aload_n 0, 1) := dqo gX12_taken_56.2.2.2.1
theorem dX12_taken_64 : decode (mB 295) 64 = .ok (.getfield 98, 3) := dqo gX12_taken_56.2.2.2.2.1
theorem dX12_taken_67 : decode (mB 295) 67 = .ok (.iload_n 1, 1) := dqo gX12_taken_56.2.2.2.2.2.1
theorem dX12_taken_68 : decode (mB 295) 68 = .ok (.iaload, 1) := dqo gX12_taken_56.2.2.2.2.2.2.1
theorem dX12_taken_69 : decode (mB 295) 69 = .ok (.iaload, 1) := dqo gX12_taken_56.2.2.2.2.2.2.2.1
theorem dX12_taken_70 : decode (mB 295) 70 = .ok (.goto 5, 3) := dqo gX12_taken_56.2.2.2.2.2.2.2.2.1
theorem dX12_taken_73 : decode (mB 295) 73 = .ok (.bipush (-12), 2) := dqo gX12_taken_56.2.2.2.2.2.2.2.2.2.1
theorem dX12_taken_75 : decode (mB 295) 75 = .ok (.ireturn, 1) := dqo gX12_taken_56.2.2.2.2.2.2.2.2.2.2
theorem gJ6_bitCount_0f7a4_0 : dq 296 0 (.iload_n 0) 1 = true ∧ dq 296 1 (.iload_n 0) 1 = true ∧ dq 296 2 (.iconst 1) 1 = true ∧ dq 296 3 (.iushr) 1 = true ∧ dq 296 4 (.ldc_w 265) 3 = true ∧ dq 296 7 (.iand) 1 = true ∧ dq 296 8 (.isub) 1 = true ∧ dq 296 9 (.istore_n 0) 1 = true ∧ dq 296 10 (.iload_n 0) 1 = true ∧ dq 296 11 (.ldc_w 266) 3 = true ∧ dq 296 14 (.iand) 1 = true ∧ dq 296 15 (.iload_n 0) 1 = true ∧ dq 296 16 (.iconst 2) 1 = true ∧ dq 296 17 (.iushr) 1 = true ∧ dq 296 18 (.ldc_w 266) 3 = true ∧ dq 296 21 (.iand) 1 = true := by decide +kernel
theorem dJ6_bitCount_0f7a4_0 : decode (mB 296) 0 = .ok (.iload_n 0, 1) := dqo gJ6_bitCount_0f7a4_0.1
theorem dJ6_bitCount_0f7a4_1 : decode (mB 296) 1 = .ok (.iload_n 0, 1) := dqo gJ6_bitCount_0f7a4_0.2.1
theorem dJ6_bitCount_0f7a4_2 : decode (mB 296) 2 = .ok (.iconst 1, 1) := dqo gJ6_bitCount_0f7a4_0.2.2.1
theorem dJ6_bitCount_0f7a4_3 : decode (mB 296) 3 = .ok (.iushr, 1) := dqo gJ6_bitCount_0f7a4_0.2.2.2.1
theorem dJ6_bitCount_0f7a4_4 : decode (mB 296) 4 = .ok (.ldc_w 265, 3) := dqo gJ6_bitCount_0f7a4_0.2.2.2.2.1
theorem dJ6_bitCount_0f7a4_7 : decode (mB 296) 7 = .ok (.iand, 1) := dqo gJ6_bitCount_0f7a4_0.2.2.2.2.2.1
theorem dJ6_bitCount_0f7a4_8 : decode (mB 296) 8 = .ok (.isub, 1) := dqo gJ6_bitCount_0f7a4_0.2.2.2.2.2.2.1
theorem dJ6_bitCount_0f7a4_9 : decode (mB 296) 9 = .ok (.istore_n 0, 1) := dqo gJ6_bitCount_0f7a4_0.2.2.2.2.2.2.2.1
theorem dJ6_bitCount_0f7a4_10 : decode (mB 296) 10 = .ok (.iload_n 0, 1) := dqo gJ6_bitCount_0f7a4_0.2.2.2.2.2.2.2.2.1
theorem dJ6_bitCount_0f7a4_11 : decode (mB 296) 11 = .ok (.ldc_w 266, 3) := dqo gJ6_bitCount_0f7a4_0.2.2.2.2.2.2.2.2.2.1
theorem dJ6_bitCount_0f7a4_14 : decode (mB 296) 14 = .ok (.iand, 1) := dqo gJ6_bitCount_0f7a4_0.2.2.2.2.2.2.2.2.2.2.1
theorem dJ6_bitCount_0f7a4_15 : decode (mB 296) 15 = .ok (.iload_n 0, 1) := dqo gJ6_bitCount_0f7a4_0.2.2.2.2.2.2.2.2.2.2.2.1
theorem dJ6_bitCount_0f7a4_16 : decode (mB 296) 16 = .ok (.iconst 2, 1) := dqo gJ6_bitCount_0f7a4_0.2.2.2.2.2.2.2.2.2.2.2.2.1
theorem dJ6_bitCount_0f7a4_17 : decode (mB 296) 17 = .ok (.iushr, 1) := dqo gJ6_bitCount_0f7a4_0.2.2.2.2.2.2.2.2.2.2.2.2.2.1
theorem dJ6_bitCount_0f7a4_18 : decode (mB 296) 18 = .ok (.ldc_w 266, 3) := dqo gJ6_bitCount_0f7a4_0.2.2.2.2.2.2.2.2.2.2.2.2.2.2.1
theorem dJ6_bitCount_0f7a4_21 : decode (mB 296) 21 = .ok (.iand, 1) := dqo gJ6_bitCount_0f7a4_0.2.2.2.2.2.2.2.2.2.2.2.2.2.2.2
theorem gJ6_bitCount_0f7a4_22 : dq 296 22 (.iadd) 1 = true ∧ dq 296 23 (.istore_n 0) 1 = true ∧ dq 296 24 (.iload_n 0) 1 = true ∧ dq 296 25 (.iload_n 0) 1 = true ∧ dq 296 26 (.iconst 4) 1 = true ∧ dq 296 27 (.iushr) 1 = true ∧ dq 296 28 (.iadd) 1 = true ∧ dq 296 29 (.ldc_w 267) 3 = true ∧ dq 296 32 (.iand) 1 = true ∧ dq 296 33 (.istore_n 0) 1 = true ∧ dq 296 34 (.iload_n 0) 1 = true ∧ dq 296 35 (.iload_n 0) 1 = true ∧ dq 296 36 (.bipush 8) 2 = true ∧ dq 296 38 (.iushr) 1 = true ∧ dq 296 39 (.iadd) 1 = true ∧ dq 296 40 (.istore_n 0) 1 = true := by decide +kernel
theorem dJ6_bitCount_0f7a4_22 : decode (mB 296) 22 = .ok (.iadd, 1) := dqo gJ6_bitCount_0f7a4_22.1
theorem dJ6_bitCount_0f7a4_23 : decode (mB 296) 23 = .ok (.istore_n 0, 1) := dqo gJ6_bitCount_0f7a4_22.2.1
theorem dJ6_bitCount_0f7a4_24 : decode (mB 296) 24 = .ok (.iload_n 0, 1) := dqo gJ6_bitCount_0f7a4_22.2.2.1
theorem dJ6_bitCount_0f7a4_25 : decode (mB 296) 25 = .ok (.iload_n 0, 1) := dqo gJ6_bitCount_0f7a4_22.2.2.2.1
theorem dJ6_bitCount_0f7a4_26 : decode (mB 296) 26 = .ok (.iconst 4, 1) := dqo gJ6_bitCount_0f7a4_22.2.2.2.2.1
theorem dJ6_bitCount_0f7a4_27 : decode (mB 296) 27 = .ok (.iushr, 1) := dqo gJ6_bitCount_0f7a4_22.2.2.2.2.2.1
theorem dJ6_bitCount_0f7a4_28 : decode (mB 296) 28 = .ok (.iadd, 1) := dqo gJ6_bitCount_0f7a4_22.2.2.2.2.2.2.1
theorem dJ6_bitCount_0f7a4_29 : decode (mB 296) 29 = .ok (.ldc_w 267, 3) := dqo gJ6_bitCount_0f7a4_22.2.2.2.2.2.2.2.1
theorem dJ6_bitCount_0f7a4_32 : decode (mB 296) 32 = .ok (.iand, 1) := dqo gJ6_bitCount_0f7a4_22.2.2.2.2.2.2.2.2.1
theorem dJ6_bitCount_0f7a4_33 : decode (mB 296) 33 = .ok (.istore_n 0, 1) := dqo gJ6_bitCount_0f7a4_22.2.2.2.2.2.2.2.2.2.1
theorem dJ6_bitCount_0f7a4_34 : decode (mB 296) 34 = .ok (.iload_n 0, 1) := dqo gJ6_bitCount_0f7a4_22.2.2.2.2.2.2.2.2.2.2.1
theorem dJ6_bitCount_0f7a4_35 : decode (mB 296) 35 = .ok (.iload_n 0, 1) := dqo gJ6_bitCount_0f7a4_22.2.2.2.2.2.2.2.2.2.2.2.1
theorem dJ6_bitCount_0f7a4_36 : decode (mB 296) 36 = .ok (.bipush 8, 2) := dqo gJ6_bitCount_0f7a4_22.2.2.2.2.2.2.2.2.2.2.2.2.1
theorem dJ6_bitCount_0f7a4_38 : decode (mB 296) 38 = .ok (.iushr, 1) := dqo gJ6_bitCount_0f7a4_22.2.2.2.2.2.2.2.2.2.2.2.2.2.1
theorem dJ6_bitCount_0f7a4_39 : decode (mB 296) 39 = .ok (.iadd, 1) := dqo gJ6_bitCount_0f7a4_22.2.2.2.2.2.2.2.2.2.2.2.2.2.2.1
theorem dJ6_bitCount_0f7a4_40 : decode (mB 296) 40 = .ok (.istore_n 0, 1) := dqo gJ6_bitCount_0f7a4_22.2.2.2.2.2.2.2.2.2.2.2.2.2.2.2
theorem gJ6_bitCount_0f7a4_41 : dq 296 41 (.iload_n 0) 1 = true ∧ dq 296 42 (.iload_n 0) 1 = true ∧ dq 296 43 (.bipush 16) 2 = true ∧ dq 296 45 (.iushr) 1 = true ∧ dq 296 46 (.iadd) 1 = true ∧ dq 296 47 (.istore_n 0) 1 = true ∧ dq 296 48 (.iload_n 0) 1 = true ∧ dq 296 49 (.bipush 63) 2 = true ∧ dq 296 51 (.iand) 1 = true ∧ dq 296 52 (.ireturn) 1 = true := by decide +kernel
theorem dJ6_bitCount_0f7a4_41 : decode (mB 296) 41 = .ok (.iload_n 0, 1) := dqo gJ6_bitCount_0f7a4_41.1
theorem dJ6_bitCount_0f7a4_42 : decode (mB 296) 42 = .ok (.iload_n 0, 1) := dqo gJ6_bitCount_0f7a4_41.2.1
theorem dJ6_bitCount_0f7a4_43 : decode (mB 296) 43 = .ok (.bipush 16, 2) := dqo gJ6_bitCount_0f7a4_41.2.2.1
theorem dJ6_bitCount_0f7a4_45 : decode (mB 296) 45 = .ok (.iushr, 1) := dqo gJ6_bitCount_0f7a4_41.2.2.2.1
theorem dJ6_bitCount_0f7a4_46 : decode (mB 296) 46 = .ok (.iadd, 1) := dqo gJ6_bitCount_0f7a4_41.2.2.2.2.1
theorem dJ6_bitCount_0f7a4_47 : decode (mB 296) 47 = .ok (.istore_n 0, 1) := dqo gJ6_bitCount_0f7a4_41.2.2.2.2.2.1
theorem dJ6_bitCount_0f7a4_48 : decode (mB 296) 48 = .ok (.iload_n 0, 1) := dqo gJ6_bitCount_0f7a4_41.2.2.2.2.2.2.1
theorem dJ6_bitCount_0f7a4_49 : decode (mB 296) 49 = .ok (.bipush 63, 2) := dqo gJ6_bitCount_0f7a4_41.2.2.2.2.2.2.2.1
theorem dJ6_bitCount_0f7a4_51 : decode (mB 296) 51 = .ok (.iand, 1) := dqo gJ6_bitCount_0f7a4_41.2.2.2.2.2.2.2.2.1
theorem dJ6_bitCount_0f7a4_52 : decode (mB 296) 52 = .ok (.ireturn, 1) := dqo gJ6_bitCount_0f7a4_41.2.2.2.2.2.2.2.2.2
