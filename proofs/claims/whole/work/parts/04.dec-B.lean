theorem d_B_init_0 : decode b_B_init 0 = .ok (.aload_n 0, 1) := by decide +kernel
theorem d_B_init_1 : decode b_B_init 1 = .ok (.invokespecial 1, 3) := by decide +kernel
theorem d_B_init_4 : decode b_B_init 4 = .ok (.aload_n 0, 1) := by decide +kernel
theorem d_B_init_5 : decode b_B_init 5 = .ok (.iload_n 1, 1) := by decide +kernel
theorem d_B_init_6 : decode b_B_init 6 = .ok (.newarray .byte, 2) := by decide +kernel
theorem d_B_init_8 : decode b_B_init 8 = .ok (.putfield 7, 3) := by decide +kernel
theorem d_B_init_11 : decode b_B_init 11 = .ok (.return_, 1) := by decide +kernel
theorem d_B_number_0 : decode b_B_number 0 = .ok (.bipush 32, 2) := by decide +kernel
theorem d_B_number_2 : decode b_B_number 2 = .ok (.bipush 8, 2) := by decide +kernel
theorem d_B_number_4 : decode b_B_number 4 = .ok (.iload_n 2, 1) := by decide +kernel
theorem d_B_number_5 : decode b_B_number 5 = .ok (.imul, 1) := by decide +kernel
theorem d_B_number_6 : decode b_B_number 6 = .ok (.isub, 1) := by decide +kernel
theorem d_B_number_7 : decode b_B_number 7 = .ok (.istore_n 3, 1) := by decide +kernel
theorem d_B_number_8 : decode b_B_number 8 = .ok (.aload_n 0, 1) := by decide +kernel
theorem d_B_number_9 : decode b_B_number 9 = .ok (.iload_n 1, 1) := by decide +kernel
theorem d_B_number_10 : decode b_B_number 10 = .ok (.iload_n 2, 1) := by decide +kernel
theorem d_B_number_11 : decode b_B_number 11 = .ok (.invokevirtual 13, 3) := by decide +kernel
theorem d_B_number_14 : decode b_B_number 14 = .ok (.iload_n 3, 1) := by decide +kernel
theorem d_B_number_15 : decode b_B_number 15 = .ok (.ishl, 1) := by decide +kernel
theorem d_B_number_16 : decode b_B_number 16 = .ok (.iload_n 3, 1) := by decide +kernel
theorem d_B_number_17 : decode b_B_number 17 = .ok (.ishr, 1) := by decide +kernel
theorem d_B_number_18 : decode b_B_number 18 = .ok (.ireturn, 1) := by decide +kernel
theorem d_B_bareNumber_0 : decode b_B_bareNumber 0 = .ok (.iconst 0, 1) := by decide +kernel
theorem d_B_bareNumber_1 : decode b_B_bareNumber 1 = .ok (.istore_n 3, 1) := by decide +kernel
theorem d_B_bareNumber_2 : decode b_B_bareNumber 2 = .ok (.iload_n 1, 1) := by decide +kernel
theorem d_B_bareNumber_3 : decode b_B_bareNumber 3 = .ok (.ifCond .lt 49, 3) := by decide +kernel
theorem d_B_bareNumber_6 : decode b_B_bareNumber 6 = .ok (.iload_n 1, 1) := by decide +kernel
theorem d_B_bareNumber_7 : decode b_B_bareNumber 7 = .ok (.aload_n 0, 1) := by decide +kernel
theorem d_B_bareNumber_8 : decode b_B_bareNumber 8 = .ok (.getfield 7, 3) := by decide +kernel
theorem d_B_bareNumber_11 : decode b_B_bareNumber 11 = .ok (.arraylength, 1) := by decide +kernel
theorem d_B_bareNumber_12 : decode b_B_bareNumber 12 = .ok (.iload_n 2, 1) := by decide +kernel
theorem d_B_bareNumber_13 : decode b_B_bareNumber 13 = .ok (.isub, 1) := by decide +kernel
theorem d_B_bareNumber_14 : decode b_B_bareNumber 14 = .ok (.if_icmp .gt 38, 3) := by decide +kernel
theorem d_B_bareNumber_17 : decode b_B_bareNumber 17 = .ok (.iload_n 2, 1) := by decide +kernel
theorem d_B_bareNumber_18 : decode b_B_bareNumber 18 = .ok (.iconst 1, 1) := by decide +kernel
theorem d_B_bareNumber_19 : decode b_B_bareNumber 19 = .ok (.isub, 1) := by decide +kernel
theorem d_B_bareNumber_20 : decode b_B_bareNumber 20 = .ok (.istore 4, 2) := by decide +kernel
theorem d_B_bareNumber_22 : decode b_B_bareNumber 22 = .ok (.iload 4, 2) := by decide +kernel
theorem d_B_bareNumber_24 : decode b_B_bareNumber 24 = .ok (.ifCond .lt 28, 3) := by decide +kernel
theorem d_B_bareNumber_27 : decode b_B_bareNumber 27 = .ok (.iload_n 3, 1) := by decide +kernel
theorem d_B_bareNumber_28 : decode b_B_bareNumber 28 = .ok (.bipush 8, 2) := by decide +kernel
theorem d_B_bareNumber_30 : decode b_B_bareNumber 30 = .ok (.ishl, 1) := by decide +kernel
theorem d_B_bareNumber_31 : decode b_B_bareNumber 31 = .ok (.aload_n 0, 1) := by decide +kernel
theorem d_B_bareNumber_32 : decode b_B_bareNumber 32 = .ok (.getfield 7, 3) := by decide +kernel
theorem d_B_bareNumber_35 : decode b_B_bareNumber 35 = .ok (.iload_n 1, 1) := by decide +kernel
theorem d_B_bareNumber_36 : decode b_B_bareNumber 36 = .ok (.iload 4, 2) := by decide +kernel
theorem d_B_bareNumber_38 : decode b_B_bareNumber 38 = .ok (.iadd, 1) := by decide +kernel
theorem d_B_bareNumber_39 : decode b_B_bareNumber 39 = .ok (.baload, 1) := by decide +kernel
theorem d_B_bareNumber_40 : decode b_B_bareNumber 40 = .ok (.sipush 255, 3) := by decide +kernel
theorem d_B_bareNumber_43 : decode b_B_bareNumber 43 = .ok (.iand, 1) := by decide +kernel
theorem d_B_bareNumber_44 : decode b_B_bareNumber 44 = .ok (.ior, 1) := by decide +kernel
theorem d_B_bareNumber_45 : decode b_B_bareNumber 45 = .ok (.istore_n 3, 1) := by decide +kernel
theorem d_B_bareNumber_46 : decode b_B_bareNumber 46 = .ok (.iinc 4 (-1), 3) := by decide +kernel
theorem d_B_bareNumber_49 : decode b_B_bareNumber 49 = .ok (.goto (-27), 3) := by decide +kernel
theorem d_B_bareNumber_52 : decode b_B_bareNumber 52 = .ok (.iload_n 3, 1) := by decide +kernel
theorem d_B_bareNumber_53 : decode b_B_bareNumber 53 = .ok (.ireturn, 1) := by decide +kernel
theorem d_B_write_0 : decode b_B_write 0 = .ok (.iload_n 1, 1) := by decide +kernel
theorem d_B_write_1 : decode b_B_write 1 = .ok (.ifCond .lt 46, 3) := by decide +kernel
theorem d_B_write_4 : decode b_B_write 4 = .ok (.iload_n 1, 1) := by decide +kernel
theorem d_B_write_5 : decode b_B_write 5 = .ok (.aload_n 0, 1) := by decide +kernel
theorem d_B_write_6 : decode b_B_write 6 = .ok (.getfield 7, 3) := by decide +kernel
theorem d_B_write_9 : decode b_B_write 9 = .ok (.arraylength, 1) := by decide +kernel
theorem d_B_write_10 : decode b_B_write 10 = .ok (.iload_n 2, 1) := by decide +kernel
theorem d_B_write_11 : decode b_B_write 11 = .ok (.isub, 1) := by decide +kernel
theorem d_B_write_12 : decode b_B_write 12 = .ok (.if_icmp .gt 35, 3) := by decide +kernel
theorem d_B_write_15 : decode b_B_write 15 = .ok (.iconst 0, 1) := by decide +kernel
theorem d_B_write_16 : decode b_B_write 16 = .ok (.istore 4, 2) := by decide +kernel
theorem d_B_write_18 : decode b_B_write 18 = .ok (.iload 4, 2) := by decide +kernel
theorem d_B_write_20 : decode b_B_write 20 = .ok (.iload_n 2, 1) := by decide +kernel
theorem d_B_write_21 : decode b_B_write 21 = .ok (.if_icmp .ge 26, 3) := by decide +kernel
theorem d_B_write_24 : decode b_B_write 24 = .ok (.aload_n 0, 1) := by decide +kernel
theorem d_B_write_25 : decode b_B_write 25 = .ok (.getfield 7, 3) := by decide +kernel
theorem d_B_write_28 : decode b_B_write 28 = .ok (.iload_n 1, 1) := by decide +kernel
theorem d_B_write_29 : decode b_B_write 29 = .ok (.iload 4, 2) := by decide +kernel
theorem d_B_write_31 : decode b_B_write 31 = .ok (.iadd, 1) := by decide +kernel
theorem d_B_write_32 : decode b_B_write 32 = .ok (.iload_n 3, 1) := by decide +kernel
theorem d_B_write_33 : decode b_B_write 33 = .ok (.bipush 8, 2) := by decide +kernel
theorem d_B_write_35 : decode b_B_write 35 = .ok (.iload 4, 2) := by decide +kernel
theorem d_B_write_37 : decode b_B_write 37 = .ok (.imul, 1) := by decide +kernel
theorem d_B_write_38 : decode b_B_write 38 = .ok (.ishr, 1) := by decide +kernel
theorem d_B_write_39 : decode b_B_write 39 = .ok (.i2b, 1) := by decide +kernel
theorem d_B_write_40 : decode b_B_write 40 = .ok (.bastore, 1) := by decide +kernel
theorem d_B_write_41 : decode b_B_write 41 = .ok (.iinc 4 1, 3) := by decide +kernel
theorem d_B_write_44 : decode b_B_write 44 = .ok (.goto (-26), 3) := by decide +kernel
theorem d_B_write_47 : decode b_B_write 47 = .ok (.return_, 1) := by decide +kernel
