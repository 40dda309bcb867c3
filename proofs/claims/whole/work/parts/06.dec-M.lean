theorem d_M_init_0 : decode b_M_init 0 = .ok (.aload_n 0, 1) := by decide +kernel
theorem d_M_init_1 : decode b_M_init 1 = .ok (.invokespecial 1, 3) := by decide +kernel
theorem d_M_init_4 : decode b_M_init 4 = .ok (.aload_n 0, 1) := by decide +kernel
theorem d_M_init_5 : decode b_M_init 5 = .ok (.iconst 1, 1) := by decide +kernel
theorem d_M_init_6 : decode b_M_init 6 = .ok (.bipush 8, 2) := by decide +kernel
theorem d_M_init_8 : decode b_M_init 8 = .ok (.iload_n 1, 1) := by decide +kernel
theorem d_M_init_9 : decode b_M_init 9 = .ok (.invokestatic 9, 3) := by decide +kernel
theorem d_M_init_12 : decode b_M_init 12 = .ok (.invokestatic 15, 3) := by decide +kernel
theorem d_M_init_15 : decode b_M_init 15 = .ok (.putfield 18, 3) := by decide +kernel
theorem d_M_init_18 : decode b_M_init 18 = .ok (.aload_n 0, 1) := by decide +kernel
theorem d_M_init_19 : decode b_M_init 19 = .ok (.bipush 8, 2) := by decide +kernel
theorem d_M_init_21 : decode b_M_init 21 = .ok (.newarray .int, 2) := by decide +kernel
theorem d_M_init_23 : decode b_M_init 23 = .ok (.putfield 22, 3) := by decide +kernel
theorem d_M_init_26 : decode b_M_init 26 = .ok (.aload_n 0, 1) := by decide +kernel
theorem d_M_init_27 : decode b_M_init 27 = .ok (.new 26, 3) := by decide +kernel
theorem d_M_init_30 : decode b_M_init 30 = .ok (.dup, 1) := by decide +kernel
theorem d_M_init_31 : decode b_M_init 31 = .ok (.bipush 64, 2) := by decide +kernel
theorem d_M_init_33 : decode b_M_init 33 = .ok (.invokespecial 28, 3) := by decide +kernel
theorem d_M_init_36 : decode b_M_init 36 = .ok (.putfield 31, 3) := by decide +kernel
theorem d_M_init_39 : decode b_M_init 39 = .ok (.aload_n 0, 1) := by decide +kernel
theorem d_M_init_40 : decode b_M_init 40 = .ok (.new 26, 3) := by decide +kernel
theorem d_M_init_43 : decode b_M_init 43 = .ok (.dup, 1) := by decide +kernel
theorem d_M_init_44 : decode b_M_init 44 = .ok (.sipush 128, 3) := by decide +kernel
theorem d_M_init_47 : decode b_M_init 47 = .ok (.invokespecial 28, 3) := by decide +kernel
theorem d_M_init_50 : decode b_M_init 50 = .ok (.putfield 35, 3) := by decide +kernel
theorem d_M_init_53 : decode b_M_init 53 = .ok (.aload_n 0, 1) := by decide +kernel
theorem d_M_init_54 : decode b_M_init 54 = .ok (.new 38, 3) := by decide +kernel
theorem d_M_init_57 : decode b_M_init 57 = .ok (.dup, 1) := by decide +kernel
theorem d_M_init_58 : decode b_M_init 58 = .ok (.invokespecial 40, 3) := by decide +kernel
theorem d_M_init_61 : decode b_M_init 61 = .ok (.putfield 41, 3) := by decide +kernel
theorem d_M_init_64 : decode b_M_init 64 = .ok (.aload_n 0, 1) := by decide +kernel
theorem d_M_init_65 : decode b_M_init 65 = .ok (.bipush 40, 2) := by decide +kernel
theorem d_M_init_67 : decode b_M_init 67 = .ok (.anewarray 45, 3) := by decide +kernel
theorem d_M_init_70 : decode b_M_init 70 = .ok (.putfield 47, 3) := by decide +kernel
theorem d_M_init_73 : decode b_M_init 73 = .ok (.aload_n 0, 1) := by decide +kernel
theorem d_M_init_74 : decode b_M_init 74 = .ok (.iconst 4, 1) := by decide +kernel
theorem d_M_init_75 : decode b_M_init 75 = .ok (.anewarray 51, 3) := by decide +kernel
theorem d_M_init_78 : decode b_M_init 78 = .ok (.putfield 53, 3) := by decide +kernel
theorem d_M_init_81 : decode b_M_init 81 = .ok (.new 45, 3) := by decide +kernel
theorem d_M_init_84 : decode b_M_init 84 = .ok (.dup, 1) := by decide +kernel
theorem d_M_init_85 : decode b_M_init 85 = .ok (.iconst 4, 1) := by decide +kernel
theorem d_M_init_86 : decode b_M_init 86 = .ok (.iconst 0, 1) := by decide +kernel
theorem d_M_init_87 : decode b_M_init 87 = .ok (.iconst 0, 1) := by decide +kernel
theorem d_M_init_88 : decode b_M_init 88 = .ok (.iconst 0, 1) := by decide +kernel
theorem d_M_init_89 : decode b_M_init 89 = .ok (.iconst 0, 1) := by decide +kernel
theorem d_M_init_90 : decode b_M_init 90 = .ok (.iconst 0, 1) := by decide +kernel
theorem d_M_init_91 : decode b_M_init 91 = .ok (.invokespecial 57, 3) := by decide +kernel
theorem d_M_init_94 : decode b_M_init 94 = .ok (.astore_n 2, 1) := by decide +kernel
theorem d_M_init_95 : decode b_M_init 95 = .ok (.iconst 0, 1) := by decide +kernel
theorem d_M_init_96 : decode b_M_init 96 = .ok (.istore_n 3, 1) := by decide +kernel
theorem d_M_init_97 : decode b_M_init 97 = .ok (.iload_n 3, 1) := by decide +kernel
theorem d_M_init_98 : decode b_M_init 98 = .ok (.iconst 4, 1) := by decide +kernel
theorem d_M_init_99 : decode b_M_init 99 = .ok (.if_icmp .ge 31, 3) := by decide +kernel
theorem d_M_init_102 : decode b_M_init 102 = .ok (.aload_n 0, 1) := by decide +kernel
theorem d_M_init_103 : decode b_M_init 103 = .ok (.getfield 53, 3) := by decide +kernel
theorem d_M_init_106 : decode b_M_init 106 = .ok (.iload_n 3, 1) := by decide +kernel
theorem d_M_init_107 : decode b_M_init 107 = .ok (.new 51, 3) := by decide +kernel
theorem d_M_init_110 : decode b_M_init 110 = .ok (.dup, 1) := by decide +kernel
theorem d_M_init_111 : decode b_M_init 111 = .ok (.aload_n 0, 1) := by decide +kernel
theorem d_M_init_112 : decode b_M_init 112 = .ok (.getfield 31, 3) := by decide +kernel
theorem d_M_init_115 : decode b_M_init 115 = .ok (.aload_n 0, 1) := by decide +kernel
theorem d_M_init_116 : decode b_M_init 116 = .ok (.getfield 35, 3) := by decide +kernel
theorem d_M_init_119 : decode b_M_init 119 = .ok (.aload_n 2, 1) := by decide +kernel
theorem d_M_init_120 : decode b_M_init 120 = .ok (.invokespecial 60, 3) := by decide +kernel
theorem d_M_init_123 : decode b_M_init 123 = .ok (.aastore, 1) := by decide +kernel
theorem d_M_init_124 : decode b_M_init 124 = .ok (.iinc 3 1, 3) := by decide +kernel
theorem d_M_init_127 : decode b_M_init 127 = .ok (.goto (-30), 3) := by decide +kernel
theorem d_M_init_130 : decode b_M_init 130 = .ok (.aload_n 0, 1) := by decide +kernel
theorem d_M_init_131 : decode b_M_init 131 = .ok (.iconst 1, 1) := by decide +kernel
theorem d_M_init_132 : decode b_M_init 132 = .ok (.putfield 63, 3) := by decide +kernel
theorem d_M_init_135 : decode b_M_init 135 = .ok (.aload_n 0, 1) := by decide +kernel
theorem d_M_init_136 : decode b_M_init 136 = .ok (.sipush 128, 3) := by decide +kernel
theorem d_M_init_139 : decode b_M_init 139 = .ok (.putfield 66, 3) := by decide +kernel
theorem d_M_init_142 : decode b_M_init 142 = .ok (.return_, 1) := by decide +kernel
theorem d_M_scalar_0 : decode b_M_scalar 0 = .ok (.iload_n 1, 1) := by decide +kernel
theorem d_M_scalar_1 : decode b_M_scalar 1 = .ok (.ifCond .lt 18, 3) := by decide +kernel
theorem d_M_scalar_4 : decode b_M_scalar 4 = .ok (.iload_n 1, 1) := by decide +kernel
theorem d_M_scalar_5 : decode b_M_scalar 5 = .ok (.bipush 8, 2) := by decide +kernel
theorem d_M_scalar_7 : decode b_M_scalar 7 = .ok (.if_icmp .ge 12, 3) := by decide +kernel
theorem d_M_scalar_10 : decode b_M_scalar 10 = .ok (.aload_n 0, 1) := by decide +kernel
theorem d_M_scalar_11 : decode b_M_scalar 11 = .ok (.getfield 22, 3) := by decide +kernel
theorem d_M_scalar_14 : decode b_M_scalar 14 = .ok (.iload_n 1, 1) := by decide +kernel
theorem d_M_scalar_15 : decode b_M_scalar 15 = .ok (.iaload, 1) := by decide +kernel
theorem d_M_scalar_16 : decode b_M_scalar 16 = .ok (.goto 4, 3) := by decide +kernel
theorem d_M_scalar_19 : decode b_M_scalar 19 = .ok (.iconst 0, 1) := by decide +kernel
theorem d_M_scalar_20 : decode b_M_scalar 20 = .ok (.ireturn, 1) := by decide +kernel
theorem d_M_file_0 : decode b_M_file 0 = .ok (.aload_n 0, 1) := by decide +kernel
theorem d_M_file_1 : decode b_M_file 1 = .ok (.getfield 31, 3) := by decide +kernel
theorem d_M_file_4 : decode b_M_file 4 = .ok (.iload_n 1, 1) := by decide +kernel
theorem d_M_file_5 : decode b_M_file 5 = .ok (.iconst 1, 1) := by decide +kernel
theorem d_M_file_6 : decode b_M_file 6 = .ok (.invokevirtual 113, 3) := by decide +kernel
theorem d_M_file_9 : decode b_M_file 9 = .ok (.ireturn, 1) := by decide +kernel
theorem d_M_memory_0 : decode b_M_memory 0 = .ok (.aload_n 0, 1) := by decide +kernel
theorem d_M_memory_1 : decode b_M_memory 1 = .ok (.getfield 35, 3) := by decide +kernel
theorem d_M_memory_4 : decode b_M_memory 4 = .ok (.iload_n 1, 1) := by decide +kernel
theorem d_M_memory_5 : decode b_M_memory 5 = .ok (.iconst 1, 1) := by decide +kernel
theorem d_M_memory_6 : decode b_M_memory 6 = .ok (.invokevirtual 113, 3) := by decide +kernel
theorem d_M_memory_9 : decode b_M_memory 9 = .ok (.ireturn, 1) := by decide +kernel
theorem d_M_about_0 : decode b_M_about 0 = .ok (.iload_n 1, 1) := by decide +kernel
theorem d_M_about_1 : decode b_M_about 1 = .ok (.tableswitch 126 0 10 #[59, 64, 69, 77, 85, 93, 101, 106, 111, 116, 121], 59) := by decide +kernel
theorem d_M_about_60 : decode b_M_about 60 = .ok (.aload_n 0, 1) := by decide +kernel
theorem d_M_about_61 : decode b_M_about 61 = .ok (.getfield 63, 3) := by decide +kernel
theorem d_M_about_64 : decode b_M_about 64 = .ok (.ireturn, 1) := by decide +kernel
theorem d_M_about_65 : decode b_M_about 65 = .ok (.aload_n 0, 1) := by decide +kernel
theorem d_M_about_66 : decode b_M_about 66 = .ok (.getfield 88, 3) := by decide +kernel
theorem d_M_about_69 : decode b_M_about 69 = .ok (.ireturn, 1) := by decide +kernel
theorem d_M_about_70 : decode b_M_about 70 = .ok (.aload_n 0, 1) := by decide +kernel
theorem d_M_about_71 : decode b_M_about 71 = .ok (.getfield 41, 3) := by decide +kernel
theorem d_M_about_74 : decode b_M_about 74 = .ok (.invokevirtual 116, 3) := by decide +kernel
theorem d_M_about_77 : decode b_M_about 77 = .ok (.ireturn, 1) := by decide +kernel
theorem d_M_about_78 : decode b_M_about 78 = .ok (.aload_n 0, 1) := by decide +kernel
theorem d_M_about_79 : decode b_M_about 79 = .ok (.getfield 41, 3) := by decide +kernel
theorem d_M_about_82 : decode b_M_about 82 = .ok (.invokevirtual 120, 3) := by decide +kernel
theorem d_M_about_85 : decode b_M_about 85 = .ok (.ireturn, 1) := by decide +kernel
theorem d_M_about_86 : decode b_M_about 86 = .ok (.aload_n 0, 1) := by decide +kernel
theorem d_M_about_87 : decode b_M_about 87 = .ok (.getfield 41, 3) := by decide +kernel
theorem d_M_about_90 : decode b_M_about 90 = .ok (.getfield 123, 3) := by decide +kernel
theorem d_M_about_93 : decode b_M_about 93 = .ok (.ireturn, 1) := by decide +kernel
theorem d_M_about_94 : decode b_M_about 94 = .ok (.aload_n 0, 1) := by decide +kernel
theorem d_M_about_95 : decode b_M_about 95 = .ok (.getfield 41, 3) := by decide +kernel
theorem d_M_about_98 : decode b_M_about 98 = .ok (.getfield 91, 3) := by decide +kernel
theorem d_M_about_101 : decode b_M_about 101 = .ok (.ireturn, 1) := by decide +kernel
theorem d_M_about_102 : decode b_M_about 102 = .ok (.aload_n 0, 1) := by decide +kernel
theorem d_M_about_103 : decode b_M_about 103 = .ok (.getfield 66, 3) := by decide +kernel
theorem d_M_about_106 : decode b_M_about 106 = .ok (.ireturn, 1) := by decide +kernel
theorem d_M_about_107 : decode b_M_about 107 = .ok (.aload_n 0, 1) := by decide +kernel
theorem d_M_about_108 : decode b_M_about 108 = .ok (.getfield 94, 3) := by decide +kernel
theorem d_M_about_111 : decode b_M_about 111 = .ok (.ireturn, 1) := by decide +kernel
theorem d_M_about_112 : decode b_M_about 112 = .ok (.aload_n 0, 1) := by decide +kernel
theorem d_M_about_113 : decode b_M_about 113 = .ok (.getfield 85, 3) := by decide +kernel
theorem d_M_about_116 : decode b_M_about 116 = .ok (.ireturn, 1) := by decide +kernel
theorem d_M_about_117 : decode b_M_about 117 = .ok (.aload_n 0, 1) := by decide +kernel
theorem d_M_about_118 : decode b_M_about 118 = .ok (.getfield 79, 3) := by decide +kernel
theorem d_M_about_121 : decode b_M_about 121 = .ok (.ireturn, 1) := by decide +kernel
theorem d_M_about_122 : decode b_M_about 122 = .ok (.aload_n 0, 1) := by decide +kernel
theorem d_M_about_123 : decode b_M_about 123 = .ok (.getfield 126, 3) := by decide +kernel
theorem d_M_about_126 : decode b_M_about 126 = .ok (.ireturn, 1) := by decide +kernel
theorem d_M_about_127 : decode b_M_about 127 = .ok (.iconst (-1), 1) := by decide +kernel
theorem d_M_about_128 : decode b_M_about 128 = .ok (.ireturn, 1) := by decide +kernel
theorem d_M_queue_0 : decode b_M_queue 0 = .ok (.iload_n 1, 1) := by decide +kernel
theorem d_M_queue_1 : decode b_M_queue 1 = .ok (.ifCond .lt 16, 3) := by decide +kernel
theorem d_M_queue_4 : decode b_M_queue 4 = .ok (.iload_n 1, 1) := by decide +kernel
theorem d_M_queue_5 : decode b_M_queue 5 = .ok (.aload_n 0, 1) := by decide +kernel
theorem d_M_queue_6 : decode b_M_queue 6 = .ok (.getfield 85, 3) := by decide +kernel
theorem d_M_queue_9 : decode b_M_queue 9 = .ok (.if_icmp .ge 8, 3) := by decide +kernel
theorem d_M_queue_12 : decode b_M_queue 12 = .ok (.iload_n 1, 1) := by decide +kernel
theorem d_M_queue_13 : decode b_M_queue 13 = .ok (.iconst 4, 1) := by decide +kernel
theorem d_M_queue_14 : decode b_M_queue 14 = .ok (.if_icmp .lt 5, 3) := by decide +kernel
theorem d_M_queue_17 : decode b_M_queue 17 = .ok (.iconst (-1), 1) := by decide +kernel
theorem d_M_queue_18 : decode b_M_queue 18 = .ok (.ireturn, 1) := by decide +kernel
theorem d_M_queue_19 : decode b_M_queue 19 = .ok (.aload_n 0, 1) := by decide +kernel
theorem d_M_queue_20 : decode b_M_queue 20 = .ok (.getfield 53, 3) := by decide +kernel
theorem d_M_queue_23 : decode b_M_queue 23 = .ok (.iload_n 1, 1) := by decide +kernel
theorem d_M_queue_24 : decode b_M_queue 24 = .ok (.aaload, 1) := by decide +kernel
theorem d_M_queue_25 : decode b_M_queue 25 = .ok (.astore_n 3, 1) := by decide +kernel
theorem d_M_queue_26 : decode b_M_queue 26 = .ok (.iload_n 2, 1) := by decide +kernel
theorem d_M_queue_27 : decode b_M_queue 27 = .ok (.tableswitch 40 0 2 #[25, 30, 35], 25) := by decide +kernel
theorem d_M_queue_52 : decode b_M_queue 52 = .ok (.aload_n 3, 1) := by decide +kernel
theorem d_M_queue_53 : decode b_M_queue 53 = .ok (.getfield 129, 3) := by decide +kernel
theorem d_M_queue_56 : decode b_M_queue 56 = .ok (.ireturn, 1) := by decide +kernel
theorem d_M_queue_57 : decode b_M_queue 57 = .ok (.aload_n 3, 1) := by decide +kernel
theorem d_M_queue_58 : decode b_M_queue 58 = .ok (.invokevirtual 131, 3) := by decide +kernel
theorem d_M_queue_61 : decode b_M_queue 61 = .ok (.ireturn, 1) := by decide +kernel
theorem d_M_queue_62 : decode b_M_queue 62 = .ok (.aload_n 3, 1) := by decide +kernel
theorem d_M_queue_63 : decode b_M_queue 63 = .ok (.getfield 134, 3) := by decide +kernel
theorem d_M_queue_66 : decode b_M_queue 66 = .ok (.ireturn, 1) := by decide +kernel
theorem d_M_queue_67 : decode b_M_queue 67 = .ok (.iconst (-1), 1) := by decide +kernel
theorem d_M_queue_68 : decode b_M_queue 68 = .ok (.ireturn, 1) := by decide +kernel
theorem d_M_put_0 : decode b_M_put 0 = .ok (.iload_n 1, 1) := by decide +kernel
theorem d_M_put_1 : decode b_M_put 1 = .ok (.ifCond .lt 31, 3) := by decide +kernel
theorem d_M_put_4 : decode b_M_put 4 = .ok (.iload_n 1, 1) := by decide +kernel
theorem d_M_put_5 : decode b_M_put 5 = .ok (.bipush 20, 2) := by decide +kernel
theorem d_M_put_7 : decode b_M_put 7 = .ok (.if_icmp .gt 25, 3) := by decide +kernel
theorem d_M_put_10 : decode b_M_put 10 = .ok (.iload_n 2, 1) := by decide +kernel
theorem d_M_put_11 : decode b_M_put 11 = .ok (.invokestatic 69, 3) := by decide +kernel
theorem d_M_put_14 : decode b_M_put 14 = .ok (.ifCond .eq 18, 3) := by decide +kernel
theorem d_M_put_17 : decode b_M_put 17 = .ok (.iload_n 3, 1) := by decide +kernel
theorem d_M_put_18 : decode b_M_put 18 = .ok (.invokestatic 69, 3) := by decide +kernel
theorem d_M_put_21 : decode b_M_put 21 = .ok (.ifCond .eq 11, 3) := by decide +kernel
theorem d_M_put_24 : decode b_M_put 24 = .ok (.iload 4, 2) := by decide +kernel
theorem d_M_put_26 : decode b_M_put 26 = .ok (.invokestatic 69, 3) := by decide +kernel
theorem d_M_put_29 : decode b_M_put 29 = .ok (.ifCond .ne 11, 3) := by decide +kernel
theorem d_M_put_32 : decode b_M_put 32 = .ok (.new 73, 3) := by decide +kernel
theorem d_M_put_35 : decode b_M_put 35 = .ok (.dup, 1) := by decide +kernel
theorem d_M_put_36 : decode b_M_put 36 = .ok (.invokespecial 75, 3) := by decide +kernel
theorem d_M_put_39 : decode b_M_put 39 = .ok (.athrow, 1) := by decide +kernel
theorem d_M_put_40 : decode b_M_put 40 = .ok (.iload_n 1, 1) := by decide +kernel
theorem d_M_put_41 : decode b_M_put 41 = .ok (.bipush 6, 2) := by decide +kernel
theorem d_M_put_43 : decode b_M_put 43 = .ok (.if_icmp .ne 19, 3) := by decide +kernel
theorem d_M_put_46 : decode b_M_put 46 = .ok (.iload 5, 2) := by decide +kernel
theorem d_M_put_48 : decode b_M_put 48 = .ok (.invokestatic 76, 3) := by decide +kernel
theorem d_M_put_51 : decode b_M_put 51 = .ok (.ifCond .ne 11, 3) := by decide +kernel
theorem d_M_put_54 : decode b_M_put 54 = .ok (.new 73, 3) := by decide +kernel
theorem d_M_put_57 : decode b_M_put 57 = .ok (.dup, 1) := by decide +kernel
theorem d_M_put_58 : decode b_M_put 58 = .ok (.invokespecial 75, 3) := by decide +kernel
theorem d_M_put_61 : decode b_M_put 61 = .ok (.athrow, 1) := by decide +kernel
theorem d_M_put_62 : decode b_M_put 62 = .ok (.aload_n 0, 1) := by decide +kernel
theorem d_M_put_63 : decode b_M_put 63 = .ok (.getfield 63, 3) := by decide +kernel
theorem d_M_put_66 : decode b_M_put 66 = .ok (.ifCond .eq 12, 3) := by decide +kernel
theorem d_M_put_69 : decode b_M_put 69 = .ok (.aload_n 0, 1) := by decide +kernel
theorem d_M_put_70 : decode b_M_put 70 = .ok (.getfield 79, 3) := by decide +kernel
theorem d_M_put_73 : decode b_M_put 73 = .ok (.bipush 40, 2) := by decide +kernel
theorem d_M_put_75 : decode b_M_put 75 = .ok (.if_icmp .lt 11, 3) := by decide +kernel
theorem d_M_put_78 : decode b_M_put 78 = .ok (.new 82, 3) := by decide +kernel
theorem d_M_put_81 : decode b_M_put 81 = .ok (.dup, 1) := by decide +kernel
theorem d_M_put_82 : decode b_M_put 82 = .ok (.invokespecial 84, 3) := by decide +kernel
theorem d_M_put_85 : decode b_M_put 85 = .ok (.athrow, 1) := by decide +kernel
theorem d_M_put_86 : decode b_M_put 86 = .ok (.aload_n 0, 1) := by decide +kernel
theorem d_M_put_87 : decode b_M_put 87 = .ok (.getfield 47, 3) := by decide +kernel
theorem d_M_put_90 : decode b_M_put 90 = .ok (.aload_n 0, 1) := by decide +kernel
theorem d_M_put_91 : decode b_M_put 91 = .ok (.getfield 79, 3) := by decide +kernel
theorem d_M_put_94 : decode b_M_put 94 = .ok (.new 45, 3) := by decide +kernel
theorem d_M_put_97 : decode b_M_put 97 = .ok (.dup, 1) := by decide +kernel
theorem d_M_put_98 : decode b_M_put 98 = .ok (.iload_n 1, 1) := by decide +kernel
theorem d_M_put_99 : decode b_M_put 99 = .ok (.iload_n 2, 1) := by decide +kernel
theorem d_M_put_100 : decode b_M_put 100 = .ok (.iload_n 3, 1) := by decide +kernel
theorem d_M_put_101 : decode b_M_put 101 = .ok (.iload 4, 2) := by decide +kernel
theorem d_M_put_103 : decode b_M_put 103 = .ok (.iload 5, 2) := by decide +kernel
theorem d_M_put_105 : decode b_M_put 105 = .ok (.iload 6, 2) := by decide +kernel
theorem d_M_put_107 : decode b_M_put 107 = .ok (.invokespecial 57, 3) := by decide +kernel
theorem d_M_put_110 : decode b_M_put 110 = .ok (.aastore, 1) := by decide +kernel
theorem d_M_put_111 : decode b_M_put 111 = .ok (.aload_n 0, 1) := by decide +kernel
theorem d_M_put_112 : decode b_M_put 112 = .ok (.dup, 1) := by decide +kernel
theorem d_M_put_113 : decode b_M_put 113 = .ok (.getfield 79, 3) := by decide +kernel
theorem d_M_put_116 : decode b_M_put 116 = .ok (.iconst 1, 1) := by decide +kernel
theorem d_M_put_117 : decode b_M_put 117 = .ok (.iadd, 1) := by decide +kernel
theorem d_M_put_118 : decode b_M_put 118 = .ok (.putfield 79, 3) := by decide +kernel
theorem d_M_put_121 : decode b_M_put 121 = .ok (.aload_n 0, 1) := by decide +kernel
theorem d_M_put_122 : decode b_M_put 122 = .ok (.getfield 79, 3) := by decide +kernel
theorem d_M_put_125 : decode b_M_put 125 = .ok (.iconst 1, 1) := by decide +kernel
theorem d_M_put_126 : decode b_M_put 126 = .ok (.isub, 1) := by decide +kernel
theorem d_M_put_127 : decode b_M_put 127 = .ok (.ireturn, 1) := by decide +kernel
theorem d_M_isRegister_0 : decode b_M_isRegister 0 = .ok (.iload_n 0, 1) := by decide +kernel
theorem d_M_isRegister_1 : decode b_M_isRegister 1 = .ok (.ifCond .lt 13, 3) := by decide +kernel
theorem d_M_isRegister_4 : decode b_M_isRegister 4 = .ok (.iload_n 0, 1) := by decide +kernel
theorem d_M_isRegister_5 : decode b_M_isRegister 5 = .ok (.bipush 8, 2) := by decide +kernel
theorem d_M_isRegister_7 : decode b_M_isRegister 7 = .ok (.if_icmp .ge 7, 3) := by decide +kernel
theorem d_M_isRegister_10 : decode b_M_isRegister 10 = .ok (.iconst 1, 1) := by decide +kernel
theorem d_M_isRegister_11 : decode b_M_isRegister 11 = .ok (.goto 4, 3) := by decide +kernel
theorem d_M_isRegister_14 : decode b_M_isRegister 14 = .ok (.iconst 0, 1) := by decide +kernel
theorem d_M_isRegister_15 : decode b_M_isRegister 15 = .ok (.ireturn, 1) := by decide +kernel
theorem d_M_go_0 : decode b_M_go 0 = .ok (.iload_n 1, 1) := by decide +kernel
theorem d_M_go_1 : decode b_M_go 1 = .ok (.ifCond .lt 11, 3) := by decide +kernel
theorem d_M_go_4 : decode b_M_go 4 = .ok (.iload_n 1, 1) := by decide +kernel
theorem d_M_go_5 : decode b_M_go 5 = .ok (.aload_n 0, 1) := by decide +kernel
theorem d_M_go_6 : decode b_M_go 6 = .ok (.getfield 79, 3) := by decide +kernel
theorem d_M_go_9 : decode b_M_go 9 = .ok (.if_icmp .lt 11, 3) := by decide +kernel
theorem d_M_go_12 : decode b_M_go 12 = .ok (.new 73, 3) := by decide +kernel
theorem d_M_go_15 : decode b_M_go 15 = .ok (.dup, 1) := by decide +kernel
theorem d_M_go_16 : decode b_M_go 16 = .ok (.invokespecial 75, 3) := by decide +kernel
theorem d_M_go_19 : decode b_M_go 19 = .ok (.athrow, 1) := by decide +kernel
theorem d_M_go_20 : decode b_M_go 20 = .ok (.aload_n 0, 1) := by decide +kernel
theorem d_M_go_21 : decode b_M_go 21 = .ok (.getfield 63, 3) := by decide +kernel
theorem d_M_go_24 : decode b_M_go 24 = .ok (.ifCond .eq 10, 3) := by decide +kernel
theorem d_M_go_27 : decode b_M_go 27 = .ok (.aload_n 0, 1) := by decide +kernel
theorem d_M_go_28 : decode b_M_go 28 = .ok (.getfield 85, 3) := by decide +kernel
theorem d_M_go_31 : decode b_M_go 31 = .ok (.ifCond .le 11, 3) := by decide +kernel
theorem d_M_go_34 : decode b_M_go 34 = .ok (.new 82, 3) := by decide +kernel
theorem d_M_go_37 : decode b_M_go 37 = .ok (.dup, 1) := by decide +kernel
theorem d_M_go_38 : decode b_M_go 38 = .ok (.invokespecial 84, 3) := by decide +kernel
theorem d_M_go_41 : decode b_M_go 41 = .ok (.athrow, 1) := by decide +kernel
theorem d_M_go_42 : decode b_M_go 42 = .ok (.aload_n 0, 1) := by decide +kernel
theorem d_M_go_43 : decode b_M_go 43 = .ok (.iload_n 1, 1) := by decide +kernel
theorem d_M_go_44 : decode b_M_go 44 = .ok (.putfield 88, 3) := by decide +kernel
theorem d_M_go_47 : decode b_M_go 47 = .ok (.aload_n 0, 1) := by decide +kernel
theorem d_M_go_48 : decode b_M_go 48 = .ok (.getfield 41, 3) := by decide +kernel
theorem d_M_go_51 : decode b_M_go 51 = .ok (.iconst 0, 1) := by decide +kernel
theorem d_M_go_52 : decode b_M_go 52 = .ok (.putfield 91, 3) := by decide +kernel
theorem d_M_go_55 : decode b_M_go 55 = .ok (.aload_n 0, 1) := by decide +kernel
theorem d_M_go_56 : decode b_M_go 56 = .ok (.iconst 0, 1) := by decide +kernel
theorem d_M_go_57 : decode b_M_go 57 = .ok (.putfield 63, 3) := by decide +kernel
theorem d_M_go_60 : decode b_M_go 60 = .ok (.iload_n 1, 1) := by decide +kernel
theorem d_M_go_61 : decode b_M_go 61 = .ok (.ireturn, 1) := by decide +kernel
theorem d_M_resume_0 : decode b_M_resume 0 = .ok (.aload_n 0, 1) := by decide +kernel
theorem d_M_resume_1 : decode b_M_resume 1 = .ok (.getfield 63, 3) := by decide +kernel
theorem d_M_resume_4 : decode b_M_resume 4 = .ok (.iconst 2, 1) := by decide +kernel
theorem d_M_resume_5 : decode b_M_resume 5 = .ok (.if_icmp .ne 10, 3) := by decide +kernel
theorem d_M_resume_8 : decode b_M_resume 8 = .ok (.aload_n 0, 1) := by decide +kernel
theorem d_M_resume_9 : decode b_M_resume 9 = .ok (.getfield 85, 3) := by decide +kernel
theorem d_M_resume_12 : decode b_M_resume 12 = .ok (.ifCond .le 11, 3) := by decide +kernel
theorem d_M_resume_15 : decode b_M_resume 15 = .ok (.new 82, 3) := by decide +kernel
theorem d_M_resume_18 : decode b_M_resume 18 = .ok (.dup, 1) := by decide +kernel
theorem d_M_resume_19 : decode b_M_resume 19 = .ok (.invokespecial 84, 3) := by decide +kernel
theorem d_M_resume_22 : decode b_M_resume 22 = .ok (.athrow, 1) := by decide +kernel
theorem d_M_resume_23 : decode b_M_resume 23 = .ok (.aload_n 0, 1) := by decide +kernel
theorem d_M_resume_24 : decode b_M_resume 24 = .ok (.iconst 0, 1) := by decide +kernel
theorem d_M_resume_25 : decode b_M_resume 25 = .ok (.putfield 63, 3) := by decide +kernel
theorem d_M_resume_28 : decode b_M_resume 28 = .ok (.aload_n 0, 1) := by decide +kernel
theorem d_M_resume_29 : decode b_M_resume 29 = .ok (.getfield 41, 3) := by decide +kernel
theorem d_M_resume_32 : decode b_M_resume 32 = .ok (.getfield 91, 3) := by decide +kernel
theorem d_M_resume_35 : decode b_M_resume 35 = .ok (.ireturn, 1) := by decide +kernel
theorem d_M_cycles_0 : decode b_M_cycles 0 = .ok (.iload_n 1, 1) := by decide +kernel
theorem d_M_cycles_1 : decode b_M_cycles 1 = .ok (.iconst 1, 1) := by decide +kernel
theorem d_M_cycles_2 : decode b_M_cycles 2 = .ok (.if_icmp .lt 10, 3) := by decide +kernel
theorem d_M_cycles_5 : decode b_M_cycles 5 = .ok (.iload_n 1, 1) := by decide +kernel
theorem d_M_cycles_6 : decode b_M_cycles 6 = .ok (.sipush 200, 3) := by decide +kernel
theorem d_M_cycles_9 : decode b_M_cycles 9 = .ok (.if_icmp .le 11, 3) := by decide +kernel
theorem d_M_cycles_12 : decode b_M_cycles 12 = .ok (.new 73, 3) := by decide +kernel
theorem d_M_cycles_15 : decode b_M_cycles 15 = .ok (.dup, 1) := by decide +kernel
theorem d_M_cycles_16 : decode b_M_cycles 16 = .ok (.invokespecial 75, 3) := by decide +kernel
theorem d_M_cycles_19 : decode b_M_cycles 19 = .ok (.athrow, 1) := by decide +kernel
theorem d_M_cycles_20 : decode b_M_cycles 20 = .ok (.iconst 0, 1) := by decide +kernel
theorem d_M_cycles_21 : decode b_M_cycles 21 = .ok (.istore_n 2, 1) := by decide +kernel
theorem d_M_cycles_22 : decode b_M_cycles 22 = .ok (.iload_n 2, 1) := by decide +kernel
theorem d_M_cycles_23 : decode b_M_cycles 23 = .ok (.iload_n 1, 1) := by decide +kernel
theorem d_M_cycles_24 : decode b_M_cycles 24 = .ok (.if_icmp .ge 56, 3) := by decide +kernel
theorem d_M_cycles_27 : decode b_M_cycles 27 = .ok (.aload_n 0, 1) := by decide +kernel
theorem d_M_cycles_28 : decode b_M_cycles 28 = .ok (.dup, 1) := by decide +kernel
theorem d_M_cycles_29 : decode b_M_cycles 29 = .ok (.getfield 94, 3) := by decide +kernel
theorem d_M_cycles_32 : decode b_M_cycles 32 = .ok (.iconst 1, 1) := by decide +kernel
theorem d_M_cycles_33 : decode b_M_cycles 33 = .ok (.iadd, 1) := by decide +kernel
theorem d_M_cycles_34 : decode b_M_cycles 34 = .ok (.putfield 94, 3) := by decide +kernel
theorem d_M_cycles_37 : decode b_M_cycles 37 = .ok (.aload_n 0, 1) := by decide +kernel
theorem d_M_cycles_38 : decode b_M_cycles 38 = .ok (.invokevirtual 97, 3) := by decide +kernel
theorem d_M_cycles_41 : decode b_M_cycles 41 = .ok (.iconst 0, 1) := by decide +kernel
theorem d_M_cycles_42 : decode b_M_cycles 42 = .ok (.istore_n 3, 1) := by decide +kernel
theorem d_M_cycles_43 : decode b_M_cycles 43 = .ok (.iload_n 3, 1) := by decide +kernel
theorem d_M_cycles_44 : decode b_M_cycles 44 = .ok (.iconst 3, 1) := by decide +kernel
theorem d_M_cycles_45 : decode b_M_cycles 45 = .ok (.if_icmp .ge 14, 3) := by decide +kernel
theorem d_M_cycles_48 : decode b_M_cycles 48 = .ok (.aload_n 0, 1) := by decide +kernel
theorem d_M_cycles_49 : decode b_M_cycles 49 = .ok (.iload_n 3, 1) := by decide +kernel
theorem d_M_cycles_50 : decode b_M_cycles 50 = .ok (.invokevirtual 100, 3) := by decide +kernel
theorem d_M_cycles_53 : decode b_M_cycles 53 = .ok (.iinc 3 1, 3) := by decide +kernel
theorem d_M_cycles_56 : decode b_M_cycles 56 = .ok (.goto (-13), 3) := by decide +kernel
theorem d_M_cycles_59 : decode b_M_cycles 59 = .ok (.aload_n 0, 1) := by decide +kernel
theorem d_M_cycles_60 : decode b_M_cycles 60 = .ok (.invokevirtual 103, 3) := by decide +kernel
theorem d_M_cycles_63 : decode b_M_cycles 63 = .ok (.aload_n 0, 1) := by decide +kernel
theorem d_M_cycles_64 : decode b_M_cycles 64 = .ok (.getfield 63, 3) := by decide +kernel
theorem d_M_cycles_67 : decode b_M_cycles 67 = .ok (.ifCond .ne 7, 3) := by decide +kernel
theorem d_M_cycles_70 : decode b_M_cycles 70 = .ok (.aload_n 0, 1) := by decide +kernel
theorem d_M_cycles_71 : decode b_M_cycles 71 = .ok (.invokevirtual 106, 3) := by decide +kernel
theorem d_M_cycles_74 : decode b_M_cycles 74 = .ok (.iinc 2 1, 3) := by decide +kernel
theorem d_M_cycles_77 : decode b_M_cycles 77 = .ok (.goto (-55), 3) := by decide +kernel
theorem d_M_cycles_80 : decode b_M_cycles 80 = .ok (.aload_n 0, 1) := by decide +kernel
theorem d_M_cycles_81 : decode b_M_cycles 81 = .ok (.getfield 94, 3) := by decide +kernel
theorem d_M_cycles_84 : decode b_M_cycles 84 = .ok (.ireturn, 1) := by decide +kernel
theorem d_M_noteStepsDone_0 : decode b_M_noteStepsDone 0 = .ok (.iconst 0, 1) := by decide +kernel
theorem d_M_noteStepsDone_1 : decode b_M_noteStepsDone 1 = .ok (.istore_n 1, 1) := by decide +kernel
theorem d_M_noteStepsDone_2 : decode b_M_noteStepsDone 2 = .ok (.iload_n 1, 1) := by decide +kernel
theorem d_M_noteStepsDone_3 : decode b_M_noteStepsDone 3 = .ok (.aload_n 0, 1) := by decide +kernel
theorem d_M_noteStepsDone_4 : decode b_M_noteStepsDone 4 = .ok (.getfield 85, 3) := by decide +kernel
theorem d_M_noteStepsDone_7 : decode b_M_noteStepsDone 7 = .ok (.if_icmp .ge 32, 3) := by decide +kernel
theorem d_M_noteStepsDone_10 : decode b_M_noteStepsDone 10 = .ok (.iload_n 1, 1) := by decide +kernel
theorem d_M_noteStepsDone_11 : decode b_M_noteStepsDone 11 = .ok (.iconst 4, 1) := by decide +kernel
theorem d_M_noteStepsDone_12 : decode b_M_noteStepsDone 12 = .ok (.if_icmp .ge 27, 3) := by decide +kernel
theorem d_M_noteStepsDone_15 : decode b_M_noteStepsDone 15 = .ok (.aload_n 0, 1) := by decide +kernel
theorem d_M_noteStepsDone_16 : decode b_M_noteStepsDone 16 = .ok (.getfield 53, 3) := by decide +kernel
theorem d_M_noteStepsDone_19 : decode b_M_noteStepsDone 19 = .ok (.iload_n 1, 1) := by decide +kernel
theorem d_M_noteStepsDone_20 : decode b_M_noteStepsDone 20 = .ok (.aaload, 1) := by decide +kernel
theorem d_M_noteStepsDone_21 : decode b_M_noteStepsDone 21 = .ok (.aload_n 0, 1) := by decide +kernel
theorem d_M_noteStepsDone_22 : decode b_M_noteStepsDone 22 = .ok (.getfield 53, 3) := by decide +kernel
theorem d_M_noteStepsDone_25 : decode b_M_noteStepsDone 25 = .ok (.iload_n 1, 1) := by decide +kernel
theorem d_M_noteStepsDone_26 : decode b_M_noteStepsDone 26 = .ok (.aaload, 1) := by decide +kernel
theorem d_M_noteStepsDone_27 : decode b_M_noteStepsDone 27 = .ok (.getfield 134, 3) := by decide +kernel
theorem d_M_noteStepsDone_30 : decode b_M_noteStepsDone 30 = .ok (.putfield 137, 3) := by decide +kernel
theorem d_M_noteStepsDone_33 : decode b_M_noteStepsDone 33 = .ok (.iinc 1 1, 3) := by decide +kernel
theorem d_M_noteStepsDone_36 : decode b_M_noteStepsDone 36 = .ok (.goto (-34), 3) := by decide +kernel
theorem d_M_noteStepsDone_39 : decode b_M_noteStepsDone 39 = .ok (.return_, 1) := by decide +kernel
theorem d_M_workUnit_0 : decode b_M_workUnit 0 = .ok (.lconst 0, 1) := by decide +kernel
theorem d_M_workUnit_1 : decode b_M_workUnit 1 = .ok (.lstore_n 2, 1) := by decide +kernel
theorem d_M_workUnit_2 : decode b_M_workUnit 2 = .ok (.lconst 0, 1) := by decide +kernel
theorem d_M_workUnit_3 : decode b_M_workUnit 3 = .ok (.lstore 4, 2) := by decide +kernel
theorem d_M_workUnit_5 : decode b_M_workUnit 5 = .ok (.iconst 0, 1) := by decide +kernel
theorem d_M_workUnit_6 : decode b_M_workUnit 6 = .ok (.istore 6, 2) := by decide +kernel
theorem d_M_workUnit_8 : decode b_M_workUnit 8 = .ok (.iload 6, 2) := by decide +kernel
theorem d_M_workUnit_10 : decode b_M_workUnit 10 = .ok (.aload_n 0, 1) := by decide +kernel
theorem d_M_workUnit_11 : decode b_M_workUnit 11 = .ok (.getfield 85, 3) := by decide +kernel
theorem d_M_workUnit_14 : decode b_M_workUnit 14 = .ok (.if_icmp .ge 109, 3) := by decide +kernel
theorem d_M_workUnit_17 : decode b_M_workUnit 17 = .ok (.iload 6, 2) := by decide +kernel
theorem d_M_workUnit_19 : decode b_M_workUnit 19 = .ok (.iconst 4, 1) := by decide +kernel
theorem d_M_workUnit_20 : decode b_M_workUnit 20 = .ok (.if_icmp .ge 103, 3) := by decide +kernel
theorem d_M_workUnit_23 : decode b_M_workUnit 23 = .ok (.aload_n 0, 1) := by decide +kernel
theorem d_M_workUnit_24 : decode b_M_workUnit 24 = .ok (.getfield 53, 3) := by decide +kernel
theorem d_M_workUnit_27 : decode b_M_workUnit 27 = .ok (.iload 6, 2) := by decide +kernel
theorem d_M_workUnit_29 : decode b_M_workUnit 29 = .ok (.aaload, 1) := by decide +kernel
theorem d_M_workUnit_30 : decode b_M_workUnit 30 = .ok (.astore 7, 2) := by decide +kernel
theorem d_M_workUnit_32 : decode b_M_workUnit 32 = .ok (.aload 7, 2) := by decide +kernel
theorem d_M_workUnit_34 : decode b_M_workUnit 34 = .ok (.getfield 140, 3) := by decide +kernel
theorem d_M_workUnit_37 : decode b_M_workUnit 37 = .ok (.invokevirtual 144, 3) := by decide +kernel
theorem d_M_workUnit_40 : decode b_M_workUnit 40 = .ok (.iload_n 1, 1) := by decide +kernel
theorem d_M_workUnit_41 : decode b_M_workUnit 41 = .ok (.if_icmp .ne 48, 3) := by decide +kernel
theorem d_M_workUnit_44 : decode b_M_workUnit 44 = .ok (.iconst 0, 1) := by decide +kernel
theorem d_M_workUnit_45 : decode b_M_workUnit 45 = .ok (.istore 8, 2) := by decide +kernel
theorem d_M_workUnit_47 : decode b_M_workUnit 47 = .ok (.iload 8, 2) := by decide +kernel
theorem d_M_workUnit_49 : decode b_M_workUnit 49 = .ok (.aload_n 0, 1) := by decide +kernel
theorem d_M_workUnit_50 : decode b_M_workUnit 50 = .ok (.getfield 18, 3) := by decide +kernel
theorem d_M_workUnit_53 : decode b_M_workUnit 53 = .ok (.if_icmp .ge 35, 3) := by decide +kernel
theorem d_M_workUnit_56 : decode b_M_workUnit 56 = .ok (.aload 7, 2) := by decide +kernel
theorem d_M_workUnit_58 : decode b_M_workUnit 58 = .ok (.lload_n 2, 1) := by decide +kernel
theorem d_M_workUnit_59 : decode b_M_workUnit 59 = .ok (.lload 4, 2) := by decide +kernel
theorem d_M_workUnit_61 : decode b_M_workUnit 61 = .ok (.invokevirtual 147, 3) := by decide +kernel
theorem d_M_workUnit_64 : decode b_M_workUnit 64 = .ok (.ifCond .eq 24, 3) := by decide +kernel
theorem d_M_workUnit_67 : decode b_M_workUnit 67 = .ok (.aload 7, 2) := by decide +kernel
theorem d_M_workUnit_69 : decode b_M_workUnit 69 = .ok (.invokevirtual 151, 3) := by decide +kernel
theorem d_M_workUnit_72 : decode b_M_workUnit 72 = .ok (.aload_n 0, 1) := by decide +kernel
theorem d_M_workUnit_73 : decode b_M_workUnit 73 = .ok (.dup, 1) := by decide +kernel
theorem d_M_workUnit_74 : decode b_M_workUnit 74 = .ok (.getfield 126, 3) := by decide +kernel
theorem d_M_workUnit_77 : decode b_M_workUnit 77 = .ok (.iconst 1, 1) := by decide +kernel
theorem d_M_workUnit_78 : decode b_M_workUnit 78 = .ok (.iadd, 1) := by decide +kernel
theorem d_M_workUnit_79 : decode b_M_workUnit 79 = .ok (.putfield 126, 3) := by decide +kernel
theorem d_M_workUnit_82 : decode b_M_workUnit 82 = .ok (.iinc 8 1, 3) := by decide +kernel
theorem d_M_workUnit_85 : decode b_M_workUnit 85 = .ok (.goto (-38), 3) := by decide +kernel
theorem d_M_workUnit_88 : decode b_M_workUnit 88 = .ok (.return_, 1) := by decide +kernel
theorem d_M_workUnit_89 : decode b_M_workUnit 89 = .ok (.lload_n 2, 1) := by decide +kernel
theorem d_M_workUnit_90 : decode b_M_workUnit 90 = .ok (.aload 7, 2) := by decide +kernel
theorem d_M_workUnit_92 : decode b_M_workUnit 92 = .ok (.aload 7, 2) := by decide +kernel
theorem d_M_workUnit_94 : decode b_M_workUnit 94 = .ok (.getfield 137, 3) := by decide +kernel
theorem d_M_workUnit_97 : decode b_M_workUnit 97 = .ok (.invokevirtual 154, 3) := by decide +kernel
theorem d_M_workUnit_100 : decode b_M_workUnit 100 = .ok (.lor, 1) := by decide +kernel
theorem d_M_workUnit_101 : decode b_M_workUnit 101 = .ok (.lstore_n 2, 1) := by decide +kernel
theorem d_M_workUnit_102 : decode b_M_workUnit 102 = .ok (.lload 4, 2) := by decide +kernel
theorem d_M_workUnit_104 : decode b_M_workUnit 104 = .ok (.aload 7, 2) := by decide +kernel
theorem d_M_workUnit_106 : decode b_M_workUnit 106 = .ok (.aload 7, 2) := by decide +kernel
theorem d_M_workUnit_108 : decode b_M_workUnit 108 = .ok (.getfield 137, 3) := by decide +kernel
theorem d_M_workUnit_111 : decode b_M_workUnit 111 = .ok (.invokevirtual 158, 3) := by decide +kernel
theorem d_M_workUnit_114 : decode b_M_workUnit 114 = .ok (.lor, 1) := by decide +kernel
theorem d_M_workUnit_115 : decode b_M_workUnit 115 = .ok (.lstore 4, 2) := by decide +kernel
theorem d_M_workUnit_117 : decode b_M_workUnit 117 = .ok (.iinc 6 1, 3) := by decide +kernel
theorem d_M_workUnit_120 : decode b_M_workUnit 120 = .ok (.goto (-112), 3) := by decide +kernel
theorem d_M_workUnit_123 : decode b_M_workUnit 123 = .ok (.return_, 1) := by decide +kernel
theorem d_M_dropFinished_0 : decode b_M_dropFinished 0 = .ok (.iconst 0, 1) := by decide +kernel
theorem d_M_dropFinished_1 : decode b_M_dropFinished 1 = .ok (.istore_n 1, 1) := by decide +kernel
theorem d_M_dropFinished_2 : decode b_M_dropFinished 2 = .ok (.iconst 0, 1) := by decide +kernel
theorem d_M_dropFinished_3 : decode b_M_dropFinished 3 = .ok (.istore_n 2, 1) := by decide +kernel
theorem d_M_dropFinished_4 : decode b_M_dropFinished 4 = .ok (.iload_n 2, 1) := by decide +kernel
theorem d_M_dropFinished_5 : decode b_M_dropFinished 5 = .ok (.aload_n 0, 1) := by decide +kernel
theorem d_M_dropFinished_6 : decode b_M_dropFinished 6 = .ok (.getfield 85, 3) := by decide +kernel
theorem d_M_dropFinished_9 : decode b_M_dropFinished 9 = .ok (.if_icmp .ge 50, 3) := by decide +kernel
theorem d_M_dropFinished_12 : decode b_M_dropFinished 12 = .ok (.iload_n 2, 1) := by decide +kernel
theorem d_M_dropFinished_13 : decode b_M_dropFinished 13 = .ok (.iconst 4, 1) := by decide +kernel
theorem d_M_dropFinished_14 : decode b_M_dropFinished 14 = .ok (.if_icmp .ge 45, 3) := by decide +kernel
theorem d_M_dropFinished_17 : decode b_M_dropFinished 17 = .ok (.aload_n 0, 1) := by decide +kernel
theorem d_M_dropFinished_18 : decode b_M_dropFinished 18 = .ok (.getfield 53, 3) := by decide +kernel
theorem d_M_dropFinished_21 : decode b_M_dropFinished 21 = .ok (.iload_n 2, 1) := by decide +kernel
theorem d_M_dropFinished_22 : decode b_M_dropFinished 22 = .ok (.aaload, 1) := by decide +kernel
theorem d_M_dropFinished_23 : decode b_M_dropFinished 23 = .ok (.astore_n 3, 1) := by decide +kernel
theorem d_M_dropFinished_24 : decode b_M_dropFinished 24 = .ok (.aload_n 3, 1) := by decide +kernel
theorem d_M_dropFinished_25 : decode b_M_dropFinished 25 = .ok (.invokevirtual 161, 3) := by decide +kernel
theorem d_M_dropFinished_28 : decode b_M_dropFinished 28 = .ok (.ifCond .ne 25, 3) := by decide +kernel
theorem d_M_dropFinished_31 : decode b_M_dropFinished 31 = .ok (.aload_n 0, 1) := by decide +kernel
theorem d_M_dropFinished_32 : decode b_M_dropFinished 32 = .ok (.getfield 53, 3) := by decide +kernel
theorem d_M_dropFinished_35 : decode b_M_dropFinished 35 = .ok (.iload_n 2, 1) := by decide +kernel
theorem d_M_dropFinished_36 : decode b_M_dropFinished 36 = .ok (.aload_n 0, 1) := by decide +kernel
theorem d_M_dropFinished_37 : decode b_M_dropFinished 37 = .ok (.getfield 53, 3) := by decide +kernel
theorem d_M_dropFinished_40 : decode b_M_dropFinished 40 = .ok (.iload_n 1, 1) := by decide +kernel
theorem d_M_dropFinished_41 : decode b_M_dropFinished 41 = .ok (.aaload, 1) := by decide +kernel
theorem d_M_dropFinished_42 : decode b_M_dropFinished 42 = .ok (.aastore, 1) := by decide +kernel
theorem d_M_dropFinished_43 : decode b_M_dropFinished 43 = .ok (.aload_n 0, 1) := by decide +kernel
theorem d_M_dropFinished_44 : decode b_M_dropFinished 44 = .ok (.getfield 53, 3) := by decide +kernel
theorem d_M_dropFinished_47 : decode b_M_dropFinished 47 = .ok (.iload_n 1, 1) := by decide +kernel
theorem d_M_dropFinished_48 : decode b_M_dropFinished 48 = .ok (.aload_n 3, 1) := by decide +kernel
theorem d_M_dropFinished_49 : decode b_M_dropFinished 49 = .ok (.aastore, 1) := by decide +kernel
theorem d_M_dropFinished_50 : decode b_M_dropFinished 50 = .ok (.iinc 1 1, 3) := by decide +kernel
theorem d_M_dropFinished_53 : decode b_M_dropFinished 53 = .ok (.iinc 2 1, 3) := by decide +kernel
theorem d_M_dropFinished_56 : decode b_M_dropFinished 56 = .ok (.goto (-52), 3) := by decide +kernel
theorem d_M_dropFinished_59 : decode b_M_dropFinished 59 = .ok (.aload_n 0, 1) := by decide +kernel
theorem d_M_dropFinished_60 : decode b_M_dropFinished 60 = .ok (.iload_n 1, 1) := by decide +kernel
theorem d_M_dropFinished_61 : decode b_M_dropFinished 61 = .ok (.putfield 85, 3) := by decide +kernel
theorem d_M_dropFinished_64 : decode b_M_dropFinished 64 = .ok (.return_, 1) := by decide +kernel
theorem d_M_advance_0 : decode b_M_advance 0 = .ok (.aload_n 0, 1) := by decide +kernel
theorem d_M_advance_1 : decode b_M_advance 1 = .ok (.getfield 88, 3) := by decide +kernel
theorem d_M_advance_4 : decode b_M_advance 4 = .ok (.ifCond .lt 35, 3) := by decide +kernel
theorem d_M_advance_7 : decode b_M_advance 7 = .ok (.aload_n 0, 1) := by decide +kernel
theorem d_M_advance_8 : decode b_M_advance 8 = .ok (.getfield 88, 3) := by decide +kernel
theorem d_M_advance_11 : decode b_M_advance 11 = .ok (.aload_n 0, 1) := by decide +kernel
theorem d_M_advance_12 : decode b_M_advance 12 = .ok (.getfield 79, 3) := by decide +kernel
theorem d_M_advance_15 : decode b_M_advance 15 = .ok (.if_icmp .ge 24, 3) := by decide +kernel
theorem d_M_advance_18 : decode b_M_advance 18 = .ok (.aload_n 0, 1) := by decide +kernel
theorem d_M_advance_19 : decode b_M_advance 19 = .ok (.getfield 88, 3) := by decide +kernel
theorem d_M_advance_22 : decode b_M_advance 22 = .ok (.bipush 40, 2) := by decide +kernel
theorem d_M_advance_24 : decode b_M_advance 24 = .ok (.if_icmp .ge 15, 3) := by decide +kernel
theorem d_M_advance_27 : decode b_M_advance 27 = .ok (.aload_n 0, 1) := by decide +kernel
theorem d_M_advance_28 : decode b_M_advance 28 = .ok (.getfield 47, 3) := by decide +kernel
theorem d_M_advance_31 : decode b_M_advance 31 = .ok (.aload_n 0, 1) := by decide +kernel
theorem d_M_advance_32 : decode b_M_advance 32 = .ok (.getfield 88, 3) := by decide +kernel
theorem d_M_advance_35 : decode b_M_advance 35 = .ok (.aaload, 1) := by decide +kernel
theorem d_M_advance_36 : decode b_M_advance 36 = .ok (.goto 4, 3) := by decide +kernel
theorem d_M_advance_39 : decode b_M_advance 39 = .ok (.aconst_null, 1) := by decide +kernel
theorem d_M_advance_40 : decode b_M_advance 40 = .ok (.astore_n 1, 1) := by decide +kernel
theorem d_M_advance_41 : decode b_M_advance 41 = .ok (.aload_n 1, 1) := by decide +kernel
theorem d_M_advance_42 : decode b_M_advance 42 = .ok (.ifnull 14, 3) := by decide +kernel
theorem d_M_advance_45 : decode b_M_advance 45 = .ok (.aload_n 0, 1) := by decide +kernel
theorem d_M_advance_46 : decode b_M_advance 46 = .ok (.getfield 41, 3) := by decide +kernel
theorem d_M_advance_49 : decode b_M_advance 49 = .ok (.aload_n 1, 1) := by decide +kernel
theorem d_M_advance_50 : decode b_M_advance 50 = .ok (.invokevirtual 165, 3) := by decide +kernel
theorem d_M_advance_53 : decode b_M_advance 53 = .ok (.ifCond .eq 11, 3) := by decide +kernel
theorem d_M_advance_56 : decode b_M_advance 56 = .ok (.aload_n 0, 1) := by decide +kernel
theorem d_M_advance_57 : decode b_M_advance 57 = .ok (.iconst 3, 1) := by decide +kernel
theorem d_M_advance_58 : decode b_M_advance 58 = .ok (.putfield 63, 3) := by decide +kernel
theorem d_M_advance_61 : decode b_M_advance 61 = .ok (.goto 62, 3) := by decide +kernel
theorem d_M_advance_64 : decode b_M_advance 64 = .ok (.aload_n 1, 1) := by decide +kernel
theorem d_M_advance_65 : decode b_M_advance 65 = .ok (.invokevirtual 169, 3) := by decide +kernel
theorem d_M_advance_68 : decode b_M_advance 68 = .ok (.ifCond .eq 36, 3) := by decide +kernel
theorem d_M_advance_71 : decode b_M_advance 71 = .ok (.aload_n 0, 1) := by decide +kernel
theorem d_M_advance_72 : decode b_M_advance 72 = .ok (.getfield 85, 3) := by decide +kernel
theorem d_M_advance_75 : decode b_M_advance 75 = .ok (.iconst 4, 1) := by decide +kernel
theorem d_M_advance_76 : decode b_M_advance 76 = .ok (.if_icmp .ge 47, 3) := by decide +kernel
theorem d_M_advance_79 : decode b_M_advance 79 = .ok (.aload_n 0, 1) := by decide +kernel
theorem d_M_advance_80 : decode b_M_advance 80 = .ok (.aload_n 1, 1) := by decide +kernel
theorem d_M_advance_81 : decode b_M_advance 81 = .ok (.invokevirtual 172, 3) := by decide +kernel
theorem d_M_advance_84 : decode b_M_advance 84 = .ok (.ifCond .ne 39, 3) := by decide +kernel
theorem d_M_advance_87 : decode b_M_advance 87 = .ok (.aload_n 0, 1) := by decide +kernel
theorem d_M_advance_88 : decode b_M_advance 88 = .ok (.aload_n 1, 1) := by decide +kernel
theorem d_M_advance_89 : decode b_M_advance 89 = .ok (.aload_n 0, 1) := by decide +kernel
theorem d_M_advance_90 : decode b_M_advance 90 = .ok (.getfield 53, 3) := by decide +kernel
theorem d_M_advance_93 : decode b_M_advance 93 = .ok (.aload_n 0, 1) := by decide +kernel
theorem d_M_advance_94 : decode b_M_advance 94 = .ok (.getfield 85, 3) := by decide +kernel
theorem d_M_advance_97 : decode b_M_advance 97 = .ok (.aaload, 1) := by decide +kernel
theorem d_M_advance_98 : decode b_M_advance 98 = .ok (.invokevirtual 175, 3) := by decide +kernel
theorem d_M_advance_101 : decode b_M_advance 101 = .ok (.goto 22, 3) := by decide +kernel
theorem d_M_advance_104 : decode b_M_advance 104 = .ok (.aload_n 0, 1) := by decide +kernel
theorem d_M_advance_105 : decode b_M_advance 105 = .ok (.getfield 85, 3) := by decide +kernel
theorem d_M_advance_108 : decode b_M_advance 108 = .ok (.ifCond .eq 10, 3) := by decide +kernel
theorem d_M_advance_111 : decode b_M_advance 111 = .ok (.aload_n 1, 1) := by decide +kernel
theorem d_M_advance_112 : decode b_M_advance 112 = .ok (.invokevirtual 179, 3) := by decide +kernel
theorem d_M_advance_115 : decode b_M_advance 115 = .ok (.ifCond .ne 8, 3) := by decide +kernel
theorem d_M_advance_118 : decode b_M_advance 118 = .ok (.aload_n 0, 1) := by decide +kernel
theorem d_M_advance_119 : decode b_M_advance 119 = .ok (.aload_n 1, 1) := by decide +kernel
theorem d_M_advance_120 : decode b_M_advance 120 = .ok (.invokevirtual 182, 3) := by decide +kernel
theorem d_M_advance_123 : decode b_M_advance 123 = .ok (.return_, 1) := by decide +kernel
theorem d_M_mustWaitForQueue_0 : decode b_M_mustWaitForQueue 0 = .ok (.aload_n 1, 1) := by decide +kernel
theorem d_M_mustWaitForQueue_1 : decode b_M_mustWaitForQueue 1 = .ok (.invokevirtual 144, 3) := by decide +kernel
theorem d_M_mustWaitForQueue_4 : decode b_M_mustWaitForQueue 4 = .ok (.iconst 2, 1) := by decide +kernel
theorem d_M_mustWaitForQueue_5 : decode b_M_mustWaitForQueue 5 = .ok (.if_icmp .eq 5, 3) := by decide +kernel
theorem d_M_mustWaitForQueue_8 : decode b_M_mustWaitForQueue 8 = .ok (.iconst 0, 1) := by decide +kernel
theorem d_M_mustWaitForQueue_9 : decode b_M_mustWaitForQueue 9 = .ok (.ireturn, 1) := by decide +kernel
theorem d_M_mustWaitForQueue_10 : decode b_M_mustWaitForQueue 10 = .ok (.aload_n 1, 1) := by decide +kernel
theorem d_M_mustWaitForQueue_11 : decode b_M_mustWaitForQueue 11 = .ok (.getfield 212, 3) := by decide +kernel
theorem d_M_mustWaitForQueue_14 : decode b_M_mustWaitForQueue 14 = .ok (.ifCond .eq 12, 3) := by decide +kernel
theorem d_M_mustWaitForQueue_17 : decode b_M_mustWaitForQueue 17 = .ok (.iconst 0, 1) := by decide +kernel
theorem d_M_mustWaitForQueue_18 : decode b_M_mustWaitForQueue 18 = .ok (.bipush 8, 2) := by decide +kernel
theorem d_M_mustWaitForQueue_20 : decode b_M_mustWaitForQueue 20 = .ok (.invokestatic 216, 3) := by decide +kernel
theorem d_M_mustWaitForQueue_23 : decode b_M_mustWaitForQueue 23 = .ok (.goto 4, 3) := by decide +kernel
theorem d_M_mustWaitForQueue_26 : decode b_M_mustWaitForQueue 26 = .ok (.lconst 0, 1) := by decide +kernel
theorem d_M_mustWaitForQueue_27 : decode b_M_mustWaitForQueue 27 = .ok (.lstore_n 2, 1) := by decide +kernel
theorem d_M_mustWaitForQueue_28 : decode b_M_mustWaitForQueue 28 = .ok (.aload_n 1, 1) := by decide +kernel
theorem d_M_mustWaitForQueue_29 : decode b_M_mustWaitForQueue 29 = .ok (.getfield 186, 3) := by decide +kernel
theorem d_M_mustWaitForQueue_32 : decode b_M_mustWaitForQueue 32 = .ok (.bipush 19, 2) := by decide +kernel
theorem d_M_mustWaitForQueue_34 : decode b_M_mustWaitForQueue 34 = .ok (.if_icmp .ne 26, 3) := by decide +kernel
theorem d_M_mustWaitForQueue_37 : decode b_M_mustWaitForQueue 37 = .ok (.lload_n 2, 1) := by decide +kernel
theorem d_M_mustWaitForQueue_38 : decode b_M_mustWaitForQueue 38 = .ok (.bipush 8, 2) := by decide +kernel
theorem d_M_mustWaitForQueue_40 : decode b_M_mustWaitForQueue 40 = .ok (.aload_n 1, 1) := by decide +kernel
theorem d_M_mustWaitForQueue_41 : decode b_M_mustWaitForQueue 41 = .ok (.getfield 206, 3) := by decide +kernel
theorem d_M_mustWaitForQueue_44 : decode b_M_mustWaitForQueue 44 = .ok (.imul, 1) := by decide +kernel
theorem d_M_mustWaitForQueue_45 : decode b_M_mustWaitForQueue 45 = .ok (.bipush 8, 2) := by decide +kernel
theorem d_M_mustWaitForQueue_47 : decode b_M_mustWaitForQueue 47 = .ok (.aload_n 0, 1) := by decide +kernel
theorem d_M_mustWaitForQueue_48 : decode b_M_mustWaitForQueue 48 = .ok (.getfield 41, 3) := by decide +kernel
theorem d_M_mustWaitForQueue_51 : decode b_M_mustWaitForQueue 51 = .ok (.invokevirtual 120, 3) := by decide +kernel
theorem d_M_mustWaitForQueue_54 : decode b_M_mustWaitForQueue 54 = .ok (.imul, 1) := by decide +kernel
theorem d_M_mustWaitForQueue_55 : decode b_M_mustWaitForQueue 55 = .ok (.invokestatic 216, 3) := by decide +kernel
theorem d_M_mustWaitForQueue_58 : decode b_M_mustWaitForQueue 58 = .ok (.lor, 1) := by decide +kernel
theorem d_M_mustWaitForQueue_59 : decode b_M_mustWaitForQueue 59 = .ok (.lstore_n 2, 1) := by decide +kernel
theorem d_M_mustWaitForQueue_60 : decode b_M_mustWaitForQueue 60 = .ok (.iconst 0, 1) := by decide +kernel
theorem d_M_mustWaitForQueue_61 : decode b_M_mustWaitForQueue 61 = .ok (.istore 4, 2) := by decide +kernel
theorem d_M_mustWaitForQueue_63 : decode b_M_mustWaitForQueue 63 = .ok (.iload 4, 2) := by decide +kernel
theorem d_M_mustWaitForQueue_65 : decode b_M_mustWaitForQueue 65 = .ok (.aload_n 0, 1) := by decide +kernel
theorem d_M_mustWaitForQueue_66 : decode b_M_mustWaitForQueue 66 = .ok (.getfield 85, 3) := by decide +kernel
theorem d_M_mustWaitForQueue_69 : decode b_M_mustWaitForQueue 69 = .ok (.if_icmp .ge 55, 3) := by decide +kernel
theorem d_M_mustWaitForQueue_72 : decode b_M_mustWaitForQueue 72 = .ok (.iload 4, 2) := by decide +kernel
theorem d_M_mustWaitForQueue_74 : decode b_M_mustWaitForQueue 74 = .ok (.iconst 4, 1) := by decide +kernel
theorem d_M_mustWaitForQueue_75 : decode b_M_mustWaitForQueue 75 = .ok (.if_icmp .ge 49, 3) := by decide +kernel
theorem d_M_mustWaitForQueue_78 : decode b_M_mustWaitForQueue 78 = .ok (.aload_n 0, 1) := by decide +kernel
theorem d_M_mustWaitForQueue_79 : decode b_M_mustWaitForQueue 79 = .ok (.getfield 53, 3) := by decide +kernel
theorem d_M_mustWaitForQueue_82 : decode b_M_mustWaitForQueue 82 = .ok (.iload 4, 2) := by decide +kernel
theorem d_M_mustWaitForQueue_84 : decode b_M_mustWaitForQueue 84 = .ok (.aaload, 1) := by decide +kernel
theorem d_M_mustWaitForQueue_85 : decode b_M_mustWaitForQueue 85 = .ok (.astore 5, 2) := by decide +kernel
theorem d_M_mustWaitForQueue_87 : decode b_M_mustWaitForQueue 87 = .ok (.aload 5, 2) := by decide +kernel
theorem d_M_mustWaitForQueue_89 : decode b_M_mustWaitForQueue 89 = .ok (.getfield 140, 3) := by decide +kernel
theorem d_M_mustWaitForQueue_92 : decode b_M_mustWaitForQueue 92 = .ok (.invokevirtual 144, 3) := by decide +kernel
theorem d_M_mustWaitForQueue_95 : decode b_M_mustWaitForQueue 95 = .ok (.iconst 2, 1) := by decide +kernel
theorem d_M_mustWaitForQueue_96 : decode b_M_mustWaitForQueue 96 = .ok (.if_icmp .eq 20, 3) := by decide +kernel
theorem d_M_mustWaitForQueue_99 : decode b_M_mustWaitForQueue 99 = .ok (.aload 5, 2) := by decide +kernel
theorem d_M_mustWaitForQueue_101 : decode b_M_mustWaitForQueue 101 = .ok (.aload 5, 2) := by decide +kernel
theorem d_M_mustWaitForQueue_103 : decode b_M_mustWaitForQueue 103 = .ok (.getfield 134, 3) := by decide +kernel
theorem d_M_mustWaitForQueue_106 : decode b_M_mustWaitForQueue 106 = .ok (.invokevirtual 158, 3) := by decide +kernel
theorem d_M_mustWaitForQueue_109 : decode b_M_mustWaitForQueue 109 = .ok (.lload_n 2, 1) := by decide +kernel
theorem d_M_mustWaitForQueue_110 : decode b_M_mustWaitForQueue 110 = .ok (.land, 1) := by decide +kernel
theorem d_M_mustWaitForQueue_111 : decode b_M_mustWaitForQueue 111 = .ok (.lconst 0, 1) := by decide +kernel
theorem d_M_mustWaitForQueue_112 : decode b_M_mustWaitForQueue 112 = .ok (.lcmp, 1) := by decide +kernel
theorem d_M_mustWaitForQueue_113 : decode b_M_mustWaitForQueue 113 = .ok (.ifCond .eq 5, 3) := by decide +kernel
theorem d_M_mustWaitForQueue_116 : decode b_M_mustWaitForQueue 116 = .ok (.iconst 1, 1) := by decide +kernel
theorem d_M_mustWaitForQueue_117 : decode b_M_mustWaitForQueue 117 = .ok (.ireturn, 1) := by decide +kernel
theorem d_M_mustWaitForQueue_118 : decode b_M_mustWaitForQueue 118 = .ok (.iinc 4 1, 3) := by decide +kernel
theorem d_M_mustWaitForQueue_121 : decode b_M_mustWaitForQueue 121 = .ok (.goto (-58), 3) := by decide +kernel
theorem d_M_mustWaitForQueue_124 : decode b_M_mustWaitForQueue 124 = .ok (.iconst 0, 1) := by decide +kernel
theorem d_M_mustWaitForQueue_125 : decode b_M_mustWaitForQueue 125 = .ok (.ireturn, 1) := by decide +kernel
theorem d_M_handOut_0 : decode b_M_handOut 0 = .ok (.aload_n 2, 1) := by decide +kernel
theorem d_M_handOut_1 : decode b_M_handOut 1 = .ok (.aload_n 1, 1) := by decide +kernel
theorem d_M_handOut_2 : decode b_M_handOut 2 = .ok (.aload_n 0, 1) := by decide +kernel
theorem d_M_handOut_3 : decode b_M_handOut 3 = .ok (.getfield 88, 3) := by decide +kernel
theorem d_M_handOut_6 : decode b_M_handOut 6 = .ok (.aload_n 0, 1) := by decide +kernel
theorem d_M_handOut_7 : decode b_M_handOut 7 = .ok (.getfield 41, 3) := by decide +kernel
theorem d_M_handOut_10 : decode b_M_handOut 10 = .ok (.aload_n 0, 1) := by decide +kernel
theorem d_M_handOut_11 : decode b_M_handOut 11 = .ok (.aload_n 1, 1) := by decide +kernel
theorem d_M_handOut_12 : decode b_M_handOut 12 = .ok (.getfield 199, 3) := by decide +kernel
theorem d_M_handOut_15 : decode b_M_handOut 15 = .ok (.invokevirtual 202, 3) := by decide +kernel
theorem d_M_handOut_18 : decode b_M_handOut 18 = .ok (.aload_n 0, 1) := by decide +kernel
theorem d_M_handOut_19 : decode b_M_handOut 19 = .ok (.aload_n 1, 1) := by decide +kernel
theorem d_M_handOut_20 : decode b_M_handOut 20 = .ok (.getfield 206, 3) := by decide +kernel
theorem d_M_handOut_23 : decode b_M_handOut 23 = .ok (.invokevirtual 202, 3) := by decide +kernel
theorem d_M_handOut_26 : decode b_M_handOut 26 = .ok (.invokevirtual 220, 3) := by decide +kernel
theorem d_M_handOut_29 : decode b_M_handOut 29 = .ok (.aload_n 1, 1) := by decide +kernel
theorem d_M_handOut_30 : decode b_M_handOut 30 = .ok (.invokevirtual 144, 3) := by decide +kernel
theorem d_M_handOut_33 : decode b_M_handOut 33 = .ok (.iconst 2, 1) := by decide +kernel
theorem d_M_handOut_34 : decode b_M_handOut 34 = .ok (.if_icmp .ne 14, 3) := by decide +kernel
theorem d_M_handOut_37 : decode b_M_handOut 37 = .ok (.aload_n 2, 1) := by decide +kernel
theorem d_M_handOut_38 : decode b_M_handOut 38 = .ok (.aload_n 0, 1) := by decide +kernel
theorem d_M_handOut_39 : decode b_M_handOut 39 = .ok (.getfield 66, 3) := by decide +kernel
theorem d_M_handOut_42 : decode b_M_handOut 42 = .ok (.invokevirtual 224, 3) := by decide +kernel
theorem d_M_handOut_45 : decode b_M_handOut 45 = .ok (.goto 4, 3) := by decide +kernel
theorem d_M_handOut_48 : decode b_M_handOut 48 = .ok (.iconst (-1), 1) := by decide +kernel
theorem d_M_handOut_49 : decode b_M_handOut 49 = .ok (.istore_n 3, 1) := by decide +kernel
theorem d_M_handOut_50 : decode b_M_handOut 50 = .ok (.iload_n 3, 1) := by decide +kernel
theorem d_M_handOut_51 : decode b_M_handOut 51 = .ok (.iconst (-1), 1) := by decide +kernel
theorem d_M_handOut_52 : decode b_M_handOut 52 = .ok (.if_icmp .eq 8, 3) := by decide +kernel
theorem d_M_handOut_55 : decode b_M_handOut 55 = .ok (.aload_n 2, 1) := by decide +kernel
theorem d_M_handOut_56 : decode b_M_handOut 56 = .ok (.iload_n 3, 1) := by decide +kernel
theorem d_M_handOut_57 : decode b_M_handOut 57 = .ok (.putfield 227, 3) := by decide +kernel
theorem d_M_handOut_60 : decode b_M_handOut 60 = .ok (.aload_n 2, 1) := by decide +kernel
theorem d_M_handOut_61 : decode b_M_handOut 61 = .ok (.invokevirtual 131, 3) := by decide +kernel
theorem d_M_handOut_64 : decode b_M_handOut 64 = .ok (.ifCond .le 17, 3) := by decide +kernel
theorem d_M_handOut_67 : decode b_M_handOut 67 = .ok (.aload_n 2, 1) := by decide +kernel
theorem d_M_handOut_68 : decode b_M_handOut 68 = .ok (.invokevirtual 230, 3) := by decide +kernel
theorem d_M_handOut_71 : decode b_M_handOut 71 = .ok (.aload_n 0, 1) := by decide +kernel
theorem d_M_handOut_72 : decode b_M_handOut 72 = .ok (.dup, 1) := by decide +kernel
theorem d_M_handOut_73 : decode b_M_handOut 73 = .ok (.getfield 85, 3) := by decide +kernel
theorem d_M_handOut_76 : decode b_M_handOut 76 = .ok (.iconst 1, 1) := by decide +kernel
theorem d_M_handOut_77 : decode b_M_handOut 77 = .ok (.iadd, 1) := by decide +kernel
theorem d_M_handOut_78 : decode b_M_handOut 78 = .ok (.putfield 85, 3) := by decide +kernel
theorem d_M_handOut_81 : decode b_M_handOut 81 = .ok (.iload_n 3, 1) := by decide +kernel
theorem d_M_handOut_82 : decode b_M_handOut 82 = .ok (.iconst (-1), 1) := by decide +kernel
theorem d_M_handOut_83 : decode b_M_handOut 83 = .ok (.if_icmp .ne 24, 3) := by decide +kernel
theorem d_M_handOut_86 : decode b_M_handOut 86 = .ok (.aload_n 0, 1) := by decide +kernel
theorem d_M_handOut_87 : decode b_M_handOut 87 = .ok (.getfield 41, 3) := by decide +kernel
theorem d_M_handOut_90 : decode b_M_handOut 90 = .ok (.iconst 0, 1) := by decide +kernel
theorem d_M_handOut_91 : decode b_M_handOut 91 = .ok (.putfield 91, 3) := by decide +kernel
theorem d_M_handOut_94 : decode b_M_handOut 94 = .ok (.aload_n 0, 1) := by decide +kernel
theorem d_M_handOut_95 : decode b_M_handOut 95 = .ok (.dup, 1) := by decide +kernel
theorem d_M_handOut_96 : decode b_M_handOut 96 = .ok (.getfield 88, 3) := by decide +kernel
theorem d_M_handOut_99 : decode b_M_handOut 99 = .ok (.iconst 1, 1) := by decide +kernel
theorem d_M_handOut_100 : decode b_M_handOut 100 = .ok (.iadd, 1) := by decide +kernel
theorem d_M_handOut_101 : decode b_M_handOut 101 = .ok (.putfield 88, 3) := by decide +kernel
theorem d_M_handOut_104 : decode b_M_handOut 104 = .ok (.goto 58, 3) := by decide +kernel
theorem d_M_handOut_107 : decode b_M_handOut 107 = .ok (.aload_n 1, 1) := by decide +kernel
theorem d_M_handOut_108 : decode b_M_handOut 108 = .ok (.getfield 186, 3) := by decide +kernel
theorem d_M_handOut_111 : decode b_M_handOut 111 = .ok (.bipush 20, 2) := by decide +kernel
theorem d_M_handOut_113 : decode b_M_handOut 113 = .ok (.if_icmp .ne 36, 3) := by decide +kernel
theorem d_M_handOut_116 : decode b_M_handOut 116 = .ok (.iload_n 3, 1) := by decide +kernel
theorem d_M_handOut_117 : decode b_M_handOut 117 = .ok (.ifCond .le 32, 3) := by decide +kernel
theorem d_M_handOut_120 : decode b_M_handOut 120 = .ok (.aload_n 0, 1) := by decide +kernel
theorem d_M_handOut_121 : decode b_M_handOut 121 = .ok (.getfield 41, 3) := by decide +kernel
theorem d_M_handOut_124 : decode b_M_handOut 124 = .ok (.iload_n 3, 1) := by decide +kernel
theorem d_M_handOut_125 : decode b_M_handOut 125 = .ok (.putfield 123, 3) := by decide +kernel
theorem d_M_handOut_128 : decode b_M_handOut 128 = .ok (.aload_n 0, 1) := by decide +kernel
theorem d_M_handOut_129 : decode b_M_handOut 129 = .ok (.getfield 41, 3) := by decide +kernel
theorem d_M_handOut_132 : decode b_M_handOut 132 = .ok (.iconst 0, 1) := by decide +kernel
theorem d_M_handOut_133 : decode b_M_handOut 133 = .ok (.putfield 91, 3) := by decide +kernel
theorem d_M_handOut_136 : decode b_M_handOut 136 = .ok (.aload_n 0, 1) := by decide +kernel
theorem d_M_handOut_137 : decode b_M_handOut 137 = .ok (.dup, 1) := by decide +kernel
theorem d_M_handOut_138 : decode b_M_handOut 138 = .ok (.getfield 88, 3) := by decide +kernel
theorem d_M_handOut_141 : decode b_M_handOut 141 = .ok (.iconst 1, 1) := by decide +kernel
theorem d_M_handOut_142 : decode b_M_handOut 142 = .ok (.iadd, 1) := by decide +kernel
theorem d_M_handOut_143 : decode b_M_handOut 143 = .ok (.putfield 88, 3) := by decide +kernel
theorem d_M_handOut_146 : decode b_M_handOut 146 = .ok (.goto 16, 3) := by decide +kernel
theorem d_M_handOut_149 : decode b_M_handOut 149 = .ok (.aload_n 0, 1) := by decide +kernel
theorem d_M_handOut_150 : decode b_M_handOut 150 = .ok (.getfield 41, 3) := by decide +kernel
theorem d_M_handOut_153 : decode b_M_handOut 153 = .ok (.iload_n 3, 1) := by decide +kernel
theorem d_M_handOut_154 : decode b_M_handOut 154 = .ok (.putfield 91, 3) := by decide +kernel
theorem d_M_handOut_157 : decode b_M_handOut 157 = .ok (.aload_n 0, 1) := by decide +kernel
theorem d_M_handOut_158 : decode b_M_handOut 158 = .ok (.iconst 2, 1) := by decide +kernel
theorem d_M_handOut_159 : decode b_M_handOut 159 = .ok (.putfield 63, 3) := by decide +kernel
theorem d_M_handOut_162 : decode b_M_handOut 162 = .ok (.return_, 1) := by decide +kernel
theorem d_M_doScalar_0 : decode b_M_doScalar 0 = .ok (.aload_n 0, 1) := by decide +kernel
theorem d_M_doScalar_1 : decode b_M_doScalar 1 = .ok (.getfield 88, 3) := by decide +kernel
theorem d_M_doScalar_4 : decode b_M_doScalar 4 = .ok (.iconst 1, 1) := by decide +kernel
theorem d_M_doScalar_5 : decode b_M_doScalar 5 = .ok (.iadd, 1) := by decide +kernel
theorem d_M_doScalar_6 : decode b_M_doScalar 6 = .ok (.istore_n 2, 1) := by decide +kernel
theorem d_M_doScalar_7 : decode b_M_doScalar 7 = .ok (.aload_n 1, 1) := by decide +kernel
theorem d_M_doScalar_8 : decode b_M_doScalar 8 = .ok (.getfield 186, 3) := by decide +kernel
theorem d_M_doScalar_11 : decode b_M_doScalar 11 = .ok (.tableswitch 237 0 7 #[45, 60, 88, 112, 237, 143, 168, 205], 45) := by decide +kernel
theorem d_M_doScalar_56 : decode b_M_doScalar 56 = .ok (.aload_n 0, 1) := by decide +kernel
theorem d_M_doScalar_57 : decode b_M_doScalar 57 = .ok (.aload_n 1, 1) := by decide +kernel
theorem d_M_doScalar_58 : decode b_M_doScalar 58 = .ok (.getfield 189, 3) := by decide +kernel
theorem d_M_doScalar_61 : decode b_M_doScalar 61 = .ok (.aload_n 1, 1) := by decide +kernel
theorem d_M_doScalar_62 : decode b_M_doScalar 62 = .ok (.getfield 192, 3) := by decide +kernel
theorem d_M_doScalar_65 : decode b_M_doScalar 65 = .ok (.invokevirtual 195, 3) := by decide +kernel
theorem d_M_doScalar_68 : decode b_M_doScalar 68 = .ok (.goto 190, 3) := by decide +kernel
theorem d_M_doScalar_71 : decode b_M_doScalar 71 = .ok (.aload_n 0, 1) := by decide +kernel
theorem d_M_doScalar_72 : decode b_M_doScalar 72 = .ok (.aload_n 1, 1) := by decide +kernel
theorem d_M_doScalar_73 : decode b_M_doScalar 73 = .ok (.getfield 189, 3) := by decide +kernel
theorem d_M_doScalar_76 : decode b_M_doScalar 76 = .ok (.aload_n 0, 1) := by decide +kernel
theorem d_M_doScalar_77 : decode b_M_doScalar 77 = .ok (.aload_n 1, 1) := by decide +kernel
theorem d_M_doScalar_78 : decode b_M_doScalar 78 = .ok (.getfield 199, 3) := by decide +kernel
theorem d_M_doScalar_81 : decode b_M_doScalar 81 = .ok (.invokevirtual 202, 3) := by decide +kernel
theorem d_M_doScalar_84 : decode b_M_doScalar 84 = .ok (.aload_n 0, 1) := by decide +kernel
theorem d_M_doScalar_85 : decode b_M_doScalar 85 = .ok (.aload_n 1, 1) := by decide +kernel
theorem d_M_doScalar_86 : decode b_M_doScalar 86 = .ok (.getfield 206, 3) := by decide +kernel
theorem d_M_doScalar_89 : decode b_M_doScalar 89 = .ok (.invokevirtual 202, 3) := by decide +kernel
theorem d_M_doScalar_92 : decode b_M_doScalar 92 = .ok (.iadd, 1) := by decide +kernel
theorem d_M_doScalar_93 : decode b_M_doScalar 93 = .ok (.invokevirtual 195, 3) := by decide +kernel
theorem d_M_doScalar_96 : decode b_M_doScalar 96 = .ok (.goto 162, 3) := by decide +kernel
theorem d_M_doScalar_99 : decode b_M_doScalar 99 = .ok (.aload_n 0, 1) := by decide +kernel
theorem d_M_doScalar_100 : decode b_M_doScalar 100 = .ok (.aload_n 1, 1) := by decide +kernel
theorem d_M_doScalar_101 : decode b_M_doScalar 101 = .ok (.getfield 189, 3) := by decide +kernel
theorem d_M_doScalar_104 : decode b_M_doScalar 104 = .ok (.aload_n 0, 1) := by decide +kernel
theorem d_M_doScalar_105 : decode b_M_doScalar 105 = .ok (.aload_n 1, 1) := by decide +kernel
theorem d_M_doScalar_106 : decode b_M_doScalar 106 = .ok (.getfield 199, 3) := by decide +kernel
theorem d_M_doScalar_109 : decode b_M_doScalar 109 = .ok (.invokevirtual 202, 3) := by decide +kernel
theorem d_M_doScalar_112 : decode b_M_doScalar 112 = .ok (.aload_n 1, 1) := by decide +kernel
theorem d_M_doScalar_113 : decode b_M_doScalar 113 = .ok (.getfield 192, 3) := by decide +kernel
theorem d_M_doScalar_116 : decode b_M_doScalar 116 = .ok (.iadd, 1) := by decide +kernel
theorem d_M_doScalar_117 : decode b_M_doScalar 117 = .ok (.invokevirtual 195, 3) := by decide +kernel
theorem d_M_doScalar_120 : decode b_M_doScalar 120 = .ok (.goto 138, 3) := by decide +kernel
theorem d_M_doScalar_123 : decode b_M_doScalar 123 = .ok (.aload_n 0, 1) := by decide +kernel
theorem d_M_doScalar_124 : decode b_M_doScalar 124 = .ok (.aload_n 1, 1) := by decide +kernel
theorem d_M_doScalar_125 : decode b_M_doScalar 125 = .ok (.getfield 199, 3) := by decide +kernel
theorem d_M_doScalar_128 : decode b_M_doScalar 128 = .ok (.invokevirtual 202, 3) := by decide +kernel
theorem d_M_doScalar_131 : decode b_M_doScalar 131 = .ok (.aload_n 0, 1) := by decide +kernel
theorem d_M_doScalar_132 : decode b_M_doScalar 132 = .ok (.aload_n 1, 1) := by decide +kernel
theorem d_M_doScalar_133 : decode b_M_doScalar 133 = .ok (.getfield 206, 3) := by decide +kernel
theorem d_M_doScalar_136 : decode b_M_doScalar 136 = .ok (.invokevirtual 202, 3) := by decide +kernel
theorem d_M_doScalar_139 : decode b_M_doScalar 139 = .ok (.if_icmp .eq 10, 3) := by decide +kernel
theorem d_M_doScalar_142 : decode b_M_doScalar 142 = .ok (.aload_n 1, 1) := by decide +kernel
theorem d_M_doScalar_143 : decode b_M_doScalar 143 = .ok (.getfield 192, 3) := by decide +kernel
theorem d_M_doScalar_146 : decode b_M_doScalar 146 = .ok (.goto 4, 3) := by decide +kernel
theorem d_M_doScalar_149 : decode b_M_doScalar 149 = .ok (.iload_n 2, 1) := by decide +kernel
theorem d_M_doScalar_150 : decode b_M_doScalar 150 = .ok (.istore_n 2, 1) := by decide +kernel
theorem d_M_doScalar_151 : decode b_M_doScalar 151 = .ok (.goto 107, 3) := by decide +kernel
theorem d_M_doScalar_154 : decode b_M_doScalar 154 = .ok (.aload_n 0, 1) := by decide +kernel
theorem d_M_doScalar_155 : decode b_M_doScalar 155 = .ok (.iconst 0, 1) := by decide +kernel
theorem d_M_doScalar_156 : decode b_M_doScalar 156 = .ok (.sipush 128, 3) := by decide +kernel
theorem d_M_doScalar_159 : decode b_M_doScalar 159 = .ok (.aload_n 0, 1) := by decide +kernel
theorem d_M_doScalar_160 : decode b_M_doScalar 160 = .ok (.aload_n 1, 1) := by decide +kernel
theorem d_M_doScalar_161 : decode b_M_doScalar 161 = .ok (.getfield 199, 3) := by decide +kernel
theorem d_M_doScalar_164 : decode b_M_doScalar 164 = .ok (.invokevirtual 202, 3) := by decide +kernel
theorem d_M_doScalar_167 : decode b_M_doScalar 167 = .ok (.invokestatic 9, 3) := by decide +kernel
theorem d_M_doScalar_170 : decode b_M_doScalar 170 = .ok (.invokestatic 15, 3) := by decide +kernel
theorem d_M_doScalar_173 : decode b_M_doScalar 173 = .ok (.putfield 66, 3) := by decide +kernel
theorem d_M_doScalar_176 : decode b_M_doScalar 176 = .ok (.goto 82, 3) := by decide +kernel
theorem d_M_doScalar_179 : decode b_M_doScalar 179 = .ok (.aload_n 0, 1) := by decide +kernel
theorem d_M_doScalar_180 : decode b_M_doScalar 180 = .ok (.getfield 41, 3) := by decide +kernel
theorem d_M_doScalar_183 : decode b_M_doScalar 183 = .ok (.aload_n 1, 1) := by decide +kernel
theorem d_M_doScalar_184 : decode b_M_doScalar 184 = .ok (.getfield 192, 3) := by decide +kernel
theorem d_M_doScalar_187 : decode b_M_doScalar 187 = .ok (.aload_n 0, 1) := by decide +kernel
theorem d_M_doScalar_188 : decode b_M_doScalar 188 = .ok (.aload_n 1, 1) := by decide +kernel
theorem d_M_doScalar_189 : decode b_M_doScalar 189 = .ok (.getfield 199, 3) := by decide +kernel
theorem d_M_doScalar_192 : decode b_M_doScalar 192 = .ok (.invokevirtual 202, 3) := by decide +kernel
theorem d_M_doScalar_195 : decode b_M_doScalar 195 = .ok (.invokevirtual 209, 3) := by decide +kernel
theorem d_M_doScalar_198 : decode b_M_doScalar 198 = .ok (.aload_n 0, 1) := by decide +kernel
theorem d_M_doScalar_199 : decode b_M_doScalar 199 = .ok (.aload_n 1, 1) := by decide +kernel
theorem d_M_doScalar_200 : decode b_M_doScalar 200 = .ok (.getfield 189, 3) := by decide +kernel
theorem d_M_doScalar_203 : decode b_M_doScalar 203 = .ok (.aload_n 0, 1) := by decide +kernel
theorem d_M_doScalar_204 : decode b_M_doScalar 204 = .ok (.getfield 41, 3) := by decide +kernel
theorem d_M_doScalar_207 : decode b_M_doScalar 207 = .ok (.getfield 123, 3) := by decide +kernel
theorem d_M_doScalar_210 : decode b_M_doScalar 210 = .ok (.invokevirtual 195, 3) := by decide +kernel
theorem d_M_doScalar_213 : decode b_M_doScalar 213 = .ok (.goto 45, 3) := by decide +kernel
theorem d_M_doScalar_216 : decode b_M_doScalar 216 = .ok (.aload_n 0, 1) := by decide +kernel
theorem d_M_doScalar_217 : decode b_M_doScalar 217 = .ok (.aload_n 1, 1) := by decide +kernel
theorem d_M_doScalar_218 : decode b_M_doScalar 218 = .ok (.getfield 189, 3) := by decide +kernel
theorem d_M_doScalar_221 : decode b_M_doScalar 221 = .ok (.aload_n 0, 1) := by decide +kernel
theorem d_M_doScalar_222 : decode b_M_doScalar 222 = .ok (.getfield 31, 3) := by decide +kernel
theorem d_M_doScalar_225 : decode b_M_doScalar 225 = .ok (.bipush 8, 2) := by decide +kernel
theorem d_M_doScalar_227 : decode b_M_doScalar 227 = .ok (.aload_n 1, 1) := by decide +kernel
theorem d_M_doScalar_228 : decode b_M_doScalar 228 = .ok (.getfield 199, 3) := by decide +kernel
theorem d_M_doScalar_231 : decode b_M_doScalar 231 = .ok (.imul, 1) := by decide +kernel
theorem d_M_doScalar_232 : decode b_M_doScalar 232 = .ok (.aload_n 0, 1) := by decide +kernel
theorem d_M_doScalar_233 : decode b_M_doScalar 233 = .ok (.getfield 41, 3) := by decide +kernel
theorem d_M_doScalar_236 : decode b_M_doScalar 236 = .ok (.invokevirtual 116, 3) := by decide +kernel
theorem d_M_doScalar_239 : decode b_M_doScalar 239 = .ok (.invokevirtual 113, 3) := by decide +kernel
theorem d_M_doScalar_242 : decode b_M_doScalar 242 = .ok (.invokevirtual 195, 3) := by decide +kernel
theorem d_M_doScalar_245 : decode b_M_doScalar 245 = .ok (.goto 13, 3) := by decide +kernel
theorem d_M_doScalar_248 : decode b_M_doScalar 248 = .ok (.aload_n 0, 1) := by decide +kernel
theorem d_M_doScalar_249 : decode b_M_doScalar 249 = .ok (.iconst 1, 1) := by decide +kernel
theorem d_M_doScalar_250 : decode b_M_doScalar 250 = .ok (.putfield 63, 3) := by decide +kernel
theorem d_M_doScalar_253 : decode b_M_doScalar 253 = .ok (.aload_n 0, 1) := by decide +kernel
theorem d_M_doScalar_254 : decode b_M_doScalar 254 = .ok (.getfield 88, 3) := by decide +kernel
theorem d_M_doScalar_257 : decode b_M_doScalar 257 = .ok (.istore_n 2, 1) := by decide +kernel
theorem d_M_doScalar_258 : decode b_M_doScalar 258 = .ok (.aload_n 0, 1) := by decide +kernel
theorem d_M_doScalar_259 : decode b_M_doScalar 259 = .ok (.iload_n 2, 1) := by decide +kernel
theorem d_M_doScalar_260 : decode b_M_doScalar 260 = .ok (.putfield 88, 3) := by decide +kernel
theorem d_M_doScalar_263 : decode b_M_doScalar 263 = .ok (.return_, 1) := by decide +kernel
theorem d_M_setScalar_0 : decode b_M_setScalar 0 = .ok (.iload_n 1, 1) := by decide +kernel
theorem d_M_setScalar_1 : decode b_M_setScalar 1 = .ok (.ifCond .le 16, 3) := by decide +kernel
theorem d_M_setScalar_4 : decode b_M_setScalar 4 = .ok (.iload_n 1, 1) := by decide +kernel
theorem d_M_setScalar_5 : decode b_M_setScalar 5 = .ok (.bipush 8, 2) := by decide +kernel
theorem d_M_setScalar_7 : decode b_M_setScalar 7 = .ok (.if_icmp .ge 10, 3) := by decide +kernel
theorem d_M_setScalar_10 : decode b_M_setScalar 10 = .ok (.aload_n 0, 1) := by decide +kernel
theorem d_M_setScalar_11 : decode b_M_setScalar 11 = .ok (.getfield 22, 3) := by decide +kernel
theorem d_M_setScalar_14 : decode b_M_setScalar 14 = .ok (.iload_n 1, 1) := by decide +kernel
theorem d_M_setScalar_15 : decode b_M_setScalar 15 = .ok (.iload_n 2, 1) := by decide +kernel
theorem d_M_setScalar_16 : decode b_M_setScalar 16 = .ok (.iastore, 1) := by decide +kernel
theorem d_M_setScalar_17 : decode b_M_setScalar 17 = .ok (.return_, 1) := by decide +kernel
theorem d_M_poke_0 : decode b_M_poke 0 = .ok (.iload_n 1, 1) := by decide +kernel
theorem d_M_poke_1 : decode b_M_poke 1 = .ok (.ifCond .lt 23, 3) := by decide +kernel
theorem d_M_poke_4 : decode b_M_poke 4 = .ok (.iload_n 1, 1) := by decide +kernel
theorem d_M_poke_5 : decode b_M_poke 5 = .ok (.sipush 128, 3) := by decide +kernel
theorem d_M_poke_8 : decode b_M_poke 8 = .ok (.if_icmp .ge 16, 3) := by decide +kernel
theorem d_M_poke_11 : decode b_M_poke 11 = .ok (.iload_n 2, 1) := by decide +kernel
theorem d_M_poke_12 : decode b_M_poke 12 = .ok (.bipush (-128), 2) := by decide +kernel
theorem d_M_poke_14 : decode b_M_poke 14 = .ok (.if_icmp .lt 10, 3) := by decide +kernel
theorem d_M_poke_17 : decode b_M_poke 17 = .ok (.iload_n 2, 1) := by decide +kernel
theorem d_M_poke_18 : decode b_M_poke 18 = .ok (.sipush 255, 3) := by decide +kernel
theorem d_M_poke_21 : decode b_M_poke 21 = .ok (.if_icmp .le 11, 3) := by decide +kernel
theorem d_M_poke_24 : decode b_M_poke 24 = .ok (.new 73, 3) := by decide +kernel
theorem d_M_poke_27 : decode b_M_poke 27 = .ok (.dup, 1) := by decide +kernel
theorem d_M_poke_28 : decode b_M_poke 28 = .ok (.invokespecial 75, 3) := by decide +kernel
theorem d_M_poke_31 : decode b_M_poke 31 = .ok (.athrow, 1) := by decide +kernel
theorem d_M_poke_32 : decode b_M_poke 32 = .ok (.aload_n 0, 1) := by decide +kernel
theorem d_M_poke_33 : decode b_M_poke 33 = .ok (.getfield 35, 3) := by decide +kernel
theorem d_M_poke_36 : decode b_M_poke 36 = .ok (.iload_n 1, 1) := by decide +kernel
theorem d_M_poke_37 : decode b_M_poke 37 = .ok (.iconst 1, 1) := by decide +kernel
theorem d_M_poke_38 : decode b_M_poke 38 = .ok (.iload_n 2, 1) := by decide +kernel
theorem d_M_poke_39 : decode b_M_poke 39 = .ok (.invokevirtual 109, 3) := by decide +kernel
theorem d_M_poke_42 : decode b_M_poke 42 = .ok (.iconst 1, 1) := by decide +kernel
theorem d_M_poke_43 : decode b_M_poke 43 = .ok (.ireturn, 1) := by decide +kernel
theorem d_M_limit_0 : decode b_M_limit 0 = .ok (.iload_n 1, 1) := by decide +kernel
theorem d_M_limit_1 : decode b_M_limit 1 = .ok (.ifCond .lt 10, 3) := by decide +kernel
theorem d_M_limit_4 : decode b_M_limit 4 = .ok (.iload_n 1, 1) := by decide +kernel
theorem d_M_limit_5 : decode b_M_limit 5 = .ok (.sipush 128, 3) := by decide +kernel
theorem d_M_limit_8 : decode b_M_limit 8 = .ok (.if_icmp .le 11, 3) := by decide +kernel
theorem d_M_limit_11 : decode b_M_limit 11 = .ok (.new 73, 3) := by decide +kernel
theorem d_M_limit_14 : decode b_M_limit 14 = .ok (.dup, 1) := by decide +kernel
theorem d_M_limit_15 : decode b_M_limit 15 = .ok (.invokespecial 75, 3) := by decide +kernel
theorem d_M_limit_18 : decode b_M_limit 18 = .ok (.athrow, 1) := by decide +kernel
theorem d_M_limit_19 : decode b_M_limit 19 = .ok (.aload_n 0, 1) := by decide +kernel
theorem d_M_limit_20 : decode b_M_limit 20 = .ok (.getfield 63, 3) := by decide +kernel
theorem d_M_limit_23 : decode b_M_limit 23 = .ok (.ifCond .eq 10, 3) := by decide +kernel
theorem d_M_limit_26 : decode b_M_limit 26 = .ok (.aload_n 0, 1) := by decide +kernel
theorem d_M_limit_27 : decode b_M_limit 27 = .ok (.getfield 85, 3) := by decide +kernel
theorem d_M_limit_30 : decode b_M_limit 30 = .ok (.ifCond .le 11, 3) := by decide +kernel
theorem d_M_limit_33 : decode b_M_limit 33 = .ok (.new 82, 3) := by decide +kernel
theorem d_M_limit_36 : decode b_M_limit 36 = .ok (.dup, 1) := by decide +kernel
theorem d_M_limit_37 : decode b_M_limit 37 = .ok (.invokespecial 84, 3) := by decide +kernel
theorem d_M_limit_40 : decode b_M_limit 40 = .ok (.athrow, 1) := by decide +kernel
theorem d_M_limit_41 : decode b_M_limit 41 = .ok (.aload_n 0, 1) := by decide +kernel
theorem d_M_limit_42 : decode b_M_limit 42 = .ok (.iload_n 1, 1) := by decide +kernel
theorem d_M_limit_43 : decode b_M_limit 43 = .ok (.putfield 66, 3) := by decide +kernel
theorem d_M_limit_46 : decode b_M_limit 46 = .ok (.iconst 1, 1) := by decide +kernel
theorem d_M_limit_47 : decode b_M_limit 47 = .ok (.ireturn, 1) := by decide +kernel
