theorem d_I_init_0 : decode b_I_init 0 = .ok (.aload_n 0, 1) := by decide +kernel
theorem d_I_init_1 : decode b_I_init 1 = .ok (.invokespecial 3, 3) := by decide +kernel
theorem d_I_init_4 : decode b_I_init 4 = .ok (.aload_n 0, 1) := by decide +kernel
theorem d_I_init_5 : decode b_I_init 5 = .ok (.iload_n 1, 1) := by decide +kernel
theorem d_I_init_6 : decode b_I_init 6 = .ok (.putfield 9, 3) := by decide +kernel
theorem d_I_init_9 : decode b_I_init 9 = .ok (.aload_n 0, 1) := by decide +kernel
theorem d_I_init_10 : decode b_I_init 10 = .ok (.iload_n 2, 1) := by decide +kernel
theorem d_I_init_11 : decode b_I_init 11 = .ok (.putfield 15, 3) := by decide +kernel
theorem d_I_init_14 : decode b_I_init 14 = .ok (.aload_n 0, 1) := by decide +kernel
theorem d_I_init_15 : decode b_I_init 15 = .ok (.iload_n 3, 1) := by decide +kernel
theorem d_I_init_16 : decode b_I_init 16 = .ok (.putfield 18, 3) := by decide +kernel
theorem d_I_init_19 : decode b_I_init 19 = .ok (.aload_n 0, 1) := by decide +kernel
theorem d_I_init_20 : decode b_I_init 20 = .ok (.iload 4, 2) := by decide +kernel
theorem d_I_init_22 : decode b_I_init 22 = .ok (.putfield 21, 3) := by decide +kernel
theorem d_I_init_25 : decode b_I_init 25 = .ok (.aload_n 0, 1) := by decide +kernel
theorem d_I_init_26 : decode b_I_init 26 = .ok (.iload 5, 2) := by decide +kernel
theorem d_I_init_28 : decode b_I_init 28 = .ok (.putfield 24, 3) := by decide +kernel
theorem d_I_init_31 : decode b_I_init 31 = .ok (.aload_n 0, 1) := by decide +kernel
theorem d_I_init_32 : decode b_I_init 32 = .ok (.iload 6, 2) := by decide +kernel
theorem d_I_init_34 : decode b_I_init 34 = .ok (.putfield 27, 3) := by decide +kernel
theorem d_I_init_37 : decode b_I_init 37 = .ok (.return_, 1) := by decide +kernel
theorem d_I_unit_0 : decode b_I_unit 0 = .ok (.aload_n 0, 1) := by decide +kernel
theorem d_I_unit_1 : decode b_I_unit 1 = .ok (.getfield 9, 3) := by decide +kernel
theorem d_I_unit_4 : decode b_I_unit 4 = .ok (.bipush 17, 2) := by decide +kernel
theorem d_I_unit_6 : decode b_I_unit 6 = .ok (.if_icmp .lt 5, 3) := by decide +kernel
theorem d_I_unit_9 : decode b_I_unit 9 = .ok (.iconst 2, 1) := by decide +kernel
theorem d_I_unit_10 : decode b_I_unit 10 = .ok (.ireturn, 1) := by decide +kernel
theorem d_I_unit_11 : decode b_I_unit 11 = .ok (.aload_n 0, 1) := by decide +kernel
theorem d_I_unit_12 : decode b_I_unit 12 = .ok (.getfield 9, 3) := by decide +kernel
theorem d_I_unit_15 : decode b_I_unit 15 = .ok (.bipush 10, 2) := by decide +kernel
theorem d_I_unit_17 : decode b_I_unit 17 = .ok (.if_icmp .eq 12, 3) := by decide +kernel
theorem d_I_unit_20 : decode b_I_unit 20 = .ok (.aload_n 0, 1) := by decide +kernel
theorem d_I_unit_21 : decode b_I_unit 21 = .ok (.getfield 9, 3) := by decide +kernel
theorem d_I_unit_24 : decode b_I_unit 24 = .ok (.bipush 14, 2) := by decide +kernel
theorem d_I_unit_26 : decode b_I_unit 26 = .ok (.if_icmp .lt 7, 3) := by decide +kernel
theorem d_I_unit_29 : decode b_I_unit 29 = .ok (.iconst 1, 1) := by decide +kernel
theorem d_I_unit_30 : decode b_I_unit 30 = .ok (.goto 4, 3) := by decide +kernel
theorem d_I_unit_33 : decode b_I_unit 33 = .ok (.iconst 0, 1) := by decide +kernel
theorem d_I_unit_34 : decode b_I_unit 34 = .ok (.ireturn, 1) := by decide +kernel
theorem d_I_isVector_0 : decode b_I_isVector 0 = .ok (.aload_n 0, 1) := by decide +kernel
theorem d_I_isVector_1 : decode b_I_isVector 1 = .ok (.getfield 9, 3) := by decide +kernel
theorem d_I_isVector_4 : decode b_I_isVector 4 = .ok (.bipush 8, 2) := by decide +kernel
theorem d_I_isVector_6 : decode b_I_isVector 6 = .ok (.if_icmp .lt 7, 3) := by decide +kernel
theorem d_I_isVector_9 : decode b_I_isVector 9 = .ok (.iconst 1, 1) := by decide +kernel
theorem d_I_isVector_10 : decode b_I_isVector 10 = .ok (.goto 4, 3) := by decide +kernel
theorem d_I_isVector_13 : decode b_I_isVector 13 = .ok (.iconst 0, 1) := by decide +kernel
theorem d_I_isVector_14 : decode b_I_isVector 14 = .ok (.ireturn, 1) := by decide +kernel
theorem d_I_hasGroupAtD_0 : decode b_I_hasGroupAtD 0 = .ok (.aload_n 0, 1) := by decide +kernel
theorem d_I_hasGroupAtD_1 : decode b_I_hasGroupAtD 1 = .ok (.getfield 9, 3) := by decide +kernel
theorem d_I_hasGroupAtD_4 : decode b_I_hasGroupAtD 4 = .ok (.bipush 12, 2) := by decide +kernel
theorem d_I_hasGroupAtD_6 : decode b_I_hasGroupAtD 6 = .ok (.if_icmp .eq 16, 3) := by decide +kernel
theorem d_I_hasGroupAtD_9 : decode b_I_hasGroupAtD 9 = .ok (.aload_n 0, 1) := by decide +kernel
theorem d_I_hasGroupAtD_10 : decode b_I_hasGroupAtD 10 = .ok (.getfield 9, 3) := by decide +kernel
theorem d_I_hasGroupAtD_13 : decode b_I_hasGroupAtD 13 = .ok (.bipush 14, 2) := by decide +kernel
theorem d_I_hasGroupAtD_15 : decode b_I_hasGroupAtD 15 = .ok (.if_icmp .eq 7, 3) := by decide +kernel
theorem d_I_hasGroupAtD_18 : decode b_I_hasGroupAtD 18 = .ok (.iconst 1, 1) := by decide +kernel
theorem d_I_hasGroupAtD_19 : decode b_I_hasGroupAtD 19 = .ok (.goto 4, 3) := by decide +kernel
theorem d_I_hasGroupAtD_22 : decode b_I_hasGroupAtD 22 = .ok (.iconst 0, 1) := by decide +kernel
theorem d_I_hasGroupAtD_23 : decode b_I_hasGroupAtD 23 = .ok (.ireturn, 1) := by decide +kernel
theorem d_I_hasGroupAtA_0 : decode b_I_hasGroupAtA 0 = .ok (.aload_n 0, 1) := by decide +kernel
theorem d_I_hasGroupAtA_1 : decode b_I_hasGroupAtA 1 = .ok (.getfield 9, 3) := by decide +kernel
theorem d_I_hasGroupAtA_4 : decode b_I_hasGroupAtA 4 = .ok (.bipush 16, 2) := by decide +kernel
theorem d_I_hasGroupAtA_6 : decode b_I_hasGroupAtA 6 = .ok (.if_icmp .gt 7, 3) := by decide +kernel
theorem d_I_hasGroupAtA_9 : decode b_I_hasGroupAtA 9 = .ok (.iconst 1, 1) := by decide +kernel
theorem d_I_hasGroupAtA_10 : decode b_I_hasGroupAtA 10 = .ok (.goto 4, 3) := by decide +kernel
theorem d_I_hasGroupAtA_13 : decode b_I_hasGroupAtA 13 = .ok (.iconst 0, 1) := by decide +kernel
theorem d_I_hasGroupAtA_14 : decode b_I_hasGroupAtA 14 = .ok (.ireturn, 1) := by decide +kernel
theorem d_I_hasGroupAtB_0 : decode b_I_hasGroupAtB 0 = .ok (.aload_n 0, 1) := by decide +kernel
theorem d_I_hasGroupAtB_1 : decode b_I_hasGroupAtB 1 = .ok (.getfield 9, 3) := by decide +kernel
theorem d_I_hasGroupAtB_4 : decode b_I_hasGroupAtB 4 = .ok (.bipush 19, 2) := by decide +kernel
theorem d_I_hasGroupAtB_6 : decode b_I_hasGroupAtB 6 = .ok (.if_icmp .eq 39, 3) := by decide +kernel
theorem d_I_hasGroupAtB_9 : decode b_I_hasGroupAtB 9 = .ok (.aload_n 0, 1) := by decide +kernel
theorem d_I_hasGroupAtB_10 : decode b_I_hasGroupAtB 10 = .ok (.getfield 9, 3) := by decide +kernel
theorem d_I_hasGroupAtB_13 : decode b_I_hasGroupAtB 13 = .ok (.bipush 16, 2) := by decide +kernel
theorem d_I_hasGroupAtB_15 : decode b_I_hasGroupAtB 15 = .ok (.if_icmp .gt 34, 3) := by decide +kernel
theorem d_I_hasGroupAtB_18 : decode b_I_hasGroupAtB 18 = .ok (.aload_n 0, 1) := by decide +kernel
theorem d_I_hasGroupAtB_19 : decode b_I_hasGroupAtB 19 = .ok (.getfield 9, 3) := by decide +kernel
theorem d_I_hasGroupAtB_22 : decode b_I_hasGroupAtB 22 = .ok (.bipush 11, 2) := by decide +kernel
theorem d_I_hasGroupAtB_24 : decode b_I_hasGroupAtB 24 = .ok (.if_icmp .eq 25, 3) := by decide +kernel
theorem d_I_hasGroupAtB_27 : decode b_I_hasGroupAtB 27 = .ok (.aload_n 0, 1) := by decide +kernel
theorem d_I_hasGroupAtB_28 : decode b_I_hasGroupAtB 28 = .ok (.getfield 9, 3) := by decide +kernel
theorem d_I_hasGroupAtB_31 : decode b_I_hasGroupAtB 31 = .ok (.bipush 15, 2) := by decide +kernel
theorem d_I_hasGroupAtB_33 : decode b_I_hasGroupAtB 33 = .ok (.if_icmp .eq 16, 3) := by decide +kernel
theorem d_I_hasGroupAtB_36 : decode b_I_hasGroupAtB 36 = .ok (.aload_n 0, 1) := by decide +kernel
theorem d_I_hasGroupAtB_37 : decode b_I_hasGroupAtB 37 = .ok (.getfield 9, 3) := by decide +kernel
theorem d_I_hasGroupAtB_40 : decode b_I_hasGroupAtB 40 = .ok (.bipush 14, 2) := by decide +kernel
theorem d_I_hasGroupAtB_42 : decode b_I_hasGroupAtB 42 = .ok (.if_icmp .eq 7, 3) := by decide +kernel
theorem d_I_hasGroupAtB_45 : decode b_I_hasGroupAtB 45 = .ok (.iconst 1, 1) := by decide +kernel
theorem d_I_hasGroupAtB_46 : decode b_I_hasGroupAtB 46 = .ok (.goto 4, 3) := by decide +kernel
theorem d_I_hasGroupAtB_49 : decode b_I_hasGroupAtB 49 = .ok (.iconst 0, 1) := by decide +kernel
theorem d_I_hasGroupAtB_50 : decode b_I_hasGroupAtB 50 = .ok (.ireturn, 1) := by decide +kernel
theorem d_I_needsEmptyQueue_0 : decode b_I_needsEmptyQueue 0 = .ok (.aload_n 0, 1) := by decide +kernel
theorem d_I_needsEmptyQueue_1 : decode b_I_needsEmptyQueue 1 = .ok (.getfield 9, 3) := by decide +kernel
theorem d_I_needsEmptyQueue_4 : decode b_I_needsEmptyQueue 4 = .ok (.bipush 7, 2) := by decide +kernel
theorem d_I_needsEmptyQueue_6 : decode b_I_needsEmptyQueue 6 = .ok (.if_icmp .eq 20, 3) := by decide +kernel
theorem d_I_needsEmptyQueue_9 : decode b_I_needsEmptyQueue 9 = .ok (.aload_n 0, 1) := by decide +kernel
theorem d_I_needsEmptyQueue_10 : decode b_I_needsEmptyQueue 10 = .ok (.getfield 9, 3) := by decide +kernel
theorem d_I_needsEmptyQueue_13 : decode b_I_needsEmptyQueue 13 = .ok (.bipush 6, 2) := by decide +kernel
theorem d_I_needsEmptyQueue_15 : decode b_I_needsEmptyQueue 15 = .ok (.if_icmp .eq 11, 3) := by decide +kernel
theorem d_I_needsEmptyQueue_18 : decode b_I_needsEmptyQueue 18 = .ok (.aload_n 0, 1) := by decide +kernel
theorem d_I_needsEmptyQueue_19 : decode b_I_needsEmptyQueue 19 = .ok (.getfield 9, 3) := by decide +kernel
theorem d_I_needsEmptyQueue_22 : decode b_I_needsEmptyQueue 22 = .ok (.iconst 5, 1) := by decide +kernel
theorem d_I_needsEmptyQueue_23 : decode b_I_needsEmptyQueue 23 = .ok (.if_icmp .ne 7, 3) := by decide +kernel
theorem d_I_needsEmptyQueue_26 : decode b_I_needsEmptyQueue 26 = .ok (.iconst 1, 1) := by decide +kernel
theorem d_I_needsEmptyQueue_27 : decode b_I_needsEmptyQueue 27 = .ok (.goto 4, 3) := by decide +kernel
theorem d_I_needsEmptyQueue_30 : decode b_I_needsEmptyQueue 30 = .ok (.iconst 0, 1) := by decide +kernel
theorem d_I_needsEmptyQueue_31 : decode b_I_needsEmptyQueue 31 = .ok (.ireturn, 1) := by decide +kernel
